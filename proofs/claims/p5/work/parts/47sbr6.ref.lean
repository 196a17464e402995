/-! RULES OF THE REFERENCE (wip/p3/xsf.py). -/
-- rL96
def xr_586 : qRu := (5, [[(1, 1)], [(8, 0), (-1, 1)], [(-9, 0), (-1, 1), (1, 2)], [(9, 0), (1, 1), (-1, 2)], [(1, 1), (-1, 4)], [(-1, 1), (1, 4)]], [(96, 1002, [(1, 3)]), (4, 350, []), (4, 100, []), (4, 303, [(1, 0)]), (4, 301, []), (4, 333, [(1, 4)])], [(96, [(1, 1)], [(1, 3)])], [(4, 333, [(1, 0), (1, 4)])], [])
theorem xo_586 : qRok xr_586 := by
  intro ρ M h0 hf hm hI
  have f0 := hf [(1, 1)] (by decide)
  have f1 := hf [(8, 0), (-1, 1)] (by decide)
  have f2 := hf [(-9, 0), (-1, 1), (1, 2)] (by decide)
  have f3 := hf [(9, 0), (1, 1), (-1, 2)] (by decide)
  have f4 := hf [(1, 1), (-1, 4)] (by decide)
  have f5 := hf [(-1, 1), (1, 4)] (by decide)
  simp only [qD, h0] at f0 f1 f2 f3 f4 f5
  have m0 : M 96 (zIx ρ (1000 + 2)) = 1 * ρ 3 + 0 := hm (96, 1002, [(1, 3)]) (by decide)
  rw [zix_p] at m0
  have m1 : M 4 350 = 0 := hm (4, 350, []) (by decide)
  have m2 : M 4 100 = 0 := hm (4, 100, []) (by decide)
  have m3 : M 4 303 = 1 * ρ 0 + 0 := hm (4, 303, [(1, 0)]) (by decide)
  have m4 : M 4 301 = 0 := hm (4, 301, []) (by decide)
  have m5 : M 4 333 = 1 * ρ 4 + 0 := hm (4, 333, [(1, 4)]) (by decide)
  simp only [h0] at m3
  have hv : (0 : Int) ≤ M 96 (ρ 2).toNat ∧ M 96 (ρ 2).toNat ≤ 1 := hI.1 96 (ρ 2).toNat (0, 1) (xs_96 (by omega))
  refine ⟨ρ, fun _ _ => rfl, fun f h => ?_, ?_⟩
  · exact nomatch h
  · show sI (sU (sU M 96 (1 * ρ 1 + 0 : Int).toNat (1 * ρ 3 + 0)) 4 333 (1 * ρ 0 + (1 * ρ 4 + 0)))
    obtain ⟨W, hW⟩ : ∃ W, W = (sU (sU M 96 (1 * ρ 1 + 0).toNat (1 * ρ 3 + 0)) 4 333 (1 * ρ 0 + (1 * ρ 4 + 0))) := ⟨_, rfl⟩
    rw [← hW]
    have base : sI0 W := by
      rw [hW]
      exact (si_u0 (si_u0 hI.1 (fun r hr => by rw [xt_96 hr]; exact ⟨by show (0 : Int) ≤ _; omega, by show _ ≤ (1 : Int); omega⟩)) (fun r hr => by cases hr))
    have k2 : XI2 W := by
      rw [hW]
      exact (xi2_u rfl (xi2_u (sinc_ok rfl _) hI.2.1))
    have k3 : XI3 W := by
      rw [hW]
      exact (xi3_u rfl (xi3_u (sinc_ok rfl _) hI.2.2.1))
    have kXA : XA W := by
      rw [hW]
      exact (uXA rfl (uXA (sinc_ok rfl _) hI.2.2.2.1))
    have k_xN1 : xN1 W := by
      rw [hW]
      exact (uxN1 rfl (uxN1 (sinc_ok rfl _) hI.2.2.2.2.1))
    have k_xN2 : xN2 W := by
      rw [hW]
      exact (uxN2 rfl (uxN2 (sinc_ok rfl _) hI.2.2.2.2.2.1))
    have k_xN3 : xN3 W := by
      rw [hW]
      exact (uxN3 rfl (uxN3 (sinc_ok rfl _) hI.2.2.2.2.2.2.1))
    have k_xN4 : xN4 W := by
      rw [hW]
      exact (uxN4 rfl (uxN4 (sinc_ok rfl _) hI.2.2.2.2.2.2.2.1))
    have k_xN5 : xN5 W := by
      rw [hW]
      exact (uxN5 rfl (uxN5 (sinc_ok rfl _) hI.2.2.2.2.2.2.2.2.1))
    have k_xN6 : xN6 W := by
      rw [hW]
      exact (uxN6 rfl (uxN6 (sinc_ok rfl _) hI.2.2.2.2.2.2.2.2.2.1))
    have k_xH1 : xH1 W := by
      rw [hW]
      exact (uxH1 rfl (uxH1 (sinc_ok rfl _) hI.2.2.2.2.2.2.2.2.2.2.1))
    have k_xK1 : xK1 W := by
      rw [hW]
      exact (uxK1 rfl (uxK1 (sinc_ok rfl _) hI.2.2.2.2.2.2.2.2.2.2.2.1))
    have k_xC1 : xC1 W := by
      rw [hW]
      exact (uxC1 rfl (uxC1 (sinc_ok rfl _) hI.2.2.2.2.2.2.2.2.2.2.2.2.1))
    have k_xRW : xRW W := by
      rw [hW]
      exact (uxRW rfl (uxRW (sinc_ok rfl _) hI.2.2.2.2.2.2.2.2.2.2.2.2.2.1))
    have k_xWT : xWT W := by
      rw [hW]
      exact (uxWT rfl (uxWT (sinc_ok rfl _) hI.2.2.2.2.2.2.2.2.2.2.2.2.2.2.1))
    have k_xCU : xCU W := by
      rw [hW]
      exact (uxCU rfl (uxCU (sinc_ok rfl _) hI.2.2.2.2.2.2.2.2.2.2.2.2.2.2.2.1))
    have k_xG2 : xG2 W := by
      rw [hW]
      exact (uxG2 rfl (uxG2 (sinc_ok rfl _) hI.2.2.2.2.2.2.2.2.2.2.2.2.2.2.2.2.1))
    have k_xG3 : xG3 W := by
      rw [hW]
      exact (uxG3 rfl (uxG3 (sinc_ok rfl _) hI.2.2.2.2.2.2.2.2.2.2.2.2.2.2.2.2.2.1))
    have k_xG4 : xG4 W := by
      rw [hW]
      exact (uxG4 rfl (uxG4 (sinc_ok rfl _) hI.2.2.2.2.2.2.2.2.2.2.2.2.2.2.2.2.2.2.1))
    have k_xG5 : xG5 W := by
      rw [hW]
      exact (uxG5 rfl (uxG5 (sinc_ok rfl _) hI.2.2.2.2.2.2.2.2.2.2.2.2.2.2.2.2.2.2.2.1))
    have k_xG6 : xG6 W := by
      rw [hW]
      exact (uxG6 rfl (uxG6 (sinc_ok rfl _) hI.2.2.2.2.2.2.2.2.2.2.2.2.2.2.2.2.2.2.2.2.1))
    have k_xS1 : xS1 W := by
      rw [hW]
      exact (uxS1 rfl (uxS1 (sinc_ok rfl _) hI.2.2.2.2.2.2.2.2.2.2.2.2.2.2.2.2.2.2.2.2.2.1))
    have k_xS2 : xS2 W := by
      rw [hW]
      exact (uxS2 rfl (uxS2 (sinc_ok rfl _) hI.2.2.2.2.2.2.2.2.2.2.2.2.2.2.2.2.2.2.2.2.2.2.1))
    have k_xS3 : xS3 W := by
      rw [hW]
      exact (uxS3 rfl (uxS3 (sinc_ok rfl _) hI.2.2.2.2.2.2.2.2.2.2.2.2.2.2.2.2.2.2.2.2.2.2.2.1))
    have k_xS4 : xS4 W := by
      rw [hW]
      exact (uxS4 rfl (uxS4 (sinc_ok rfl _) hI.2.2.2.2.2.2.2.2.2.2.2.2.2.2.2.2.2.2.2.2.2.2.2.2.1))
    have k_xS5 : xS5 W := by
      rw [hW]
      exact (uxS5 rfl (uxS5 (sinc_ok rfl _) hI.2.2.2.2.2.2.2.2.2.2.2.2.2.2.2.2.2.2.2.2.2.2.2.2.2.1))
    have k_xS6 : xS6 W := by
      rw [hW]
      exact (uxS6 rfl (uxS6 (sinc_ok rfl _) hI.2.2.2.2.2.2.2.2.2.2.2.2.2.2.2.2.2.2.2.2.2.2.2.2.2.2.1))
    have k_xS7 : xS7 W := by
      rw [hW]
      exact (uxS7 rfl (uxS7 (sinc_ok rfl _) hI.2.2.2.2.2.2.2.2.2.2.2.2.2.2.2.2.2.2.2.2.2.2.2.2.2.2.2.1))
    have k_xS8 : xS8 W := by
      rw [hW]
      exact (uxS8 rfl (uxS8 (sinc_ok rfl _) hI.2.2.2.2.2.2.2.2.2.2.2.2.2.2.2.2.2.2.2.2.2.2.2.2.2.2.2.2.1))
    have k_xS9 : xS9 W := by
      rw [hW]
      exact (uxS9 rfl (uxS9 (sinc_ok rfl _) hI.2.2.2.2.2.2.2.2.2.2.2.2.2.2.2.2.2.2.2.2.2.2.2.2.2.2.2.2.2.1))
    have k_xSA : xSA W := by
      rw [hW]
      exact (uxSA rfl (uxSA (sinc_ok rfl _) hI.2.2.2.2.2.2.2.2.2.2.2.2.2.2.2.2.2.2.2.2.2.2.2.2.2.2.2.2.2.2.1))
    have k_xSG : xSG W := by
      rw [hW]
      exact (uxSG rfl (uxSG (sinc_ok rfl _) hI.2.2.2.2.2.2.2.2.2.2.2.2.2.2.2.2.2.2.2.2.2.2.2.2.2.2.2.2.2.2.2.1))
    have k_xSF : xSF W := by
      rw [hW]
      exact (uxSF rfl (uxSF (sinc_ok rfl _) hI.2.2.2.2.2.2.2.2.2.2.2.2.2.2.2.2.2.2.2.2.2.2.2.2.2.2.2.2.2.2.2.2.1))
    have k_xSB : xSB W := by
      rw [hW]
      exact (uxSB rfl (uxSB (sinc_ok rfl _) hI.2.2.2.2.2.2.2.2.2.2.2.2.2.2.2.2.2.2.2.2.2.2.2.2.2.2.2.2.2.2.2.2.2.1))
    have k_xSC : xSC W := by
      rw [hW]
      exact (uxSC rfl (uxSC (sinc_ok rfl _) hI.2.2.2.2.2.2.2.2.2.2.2.2.2.2.2.2.2.2.2.2.2.2.2.2.2.2.2.2.2.2.2.2.2.2.1))
    have k_xSD : xSD W := by
      rw [hW]
      exact (uxSD rfl (uxSD (sinc_ok rfl _) hI.2.2.2.2.2.2.2.2.2.2.2.2.2.2.2.2.2.2.2.2.2.2.2.2.2.2.2.2.2.2.2.2.2.2.2.1))
    have k_xSE : xSE W := by
      rw [hW]
      exact (uxSE rfl (uxSE (sinc_ok rfl _) hI.2.2.2.2.2.2.2.2.2.2.2.2.2.2.2.2.2.2.2.2.2.2.2.2.2.2.2.2.2.2.2.2.2.2.2.2.1))
    have k_xSW : xSW W := by
      rw [hW]
      exact (uxSW rfl (uxSW (sinc_ok rfl _) hI.2.2.2.2.2.2.2.2.2.2.2.2.2.2.2.2.2.2.2.2.2.2.2.2.2.2.2.2.2.2.2.2.2.2.2.2.2.1))
    have k_xST : xST W := by
      rw [hW]
      exact (uxST rfl (uxST (sinc_ok rfl _) hI.2.2.2.2.2.2.2.2.2.2.2.2.2.2.2.2.2.2.2.2.2.2.2.2.2.2.2.2.2.2.2.2.2.2.2.2.2.2.1))
    have k_xSP : xSP W := by
      rw [hW]
      exact (uxSP rfl (uxSP (sinc_ok rfl _) hI.2.2.2.2.2.2.2.2.2.2.2.2.2.2.2.2.2.2.2.2.2.2.2.2.2.2.2.2.2.2.2.2.2.2.2.2.2.2.2.1))
    have k_xSL : xSL W := by
      rw [hW]
      exact (uxSL rfl (uxSL (sinc_ok rfl _) hI.2.2.2.2.2.2.2.2.2.2.2.2.2.2.2.2.2.2.2.2.2.2.2.2.2.2.2.2.2.2.2.2.2.2.2.2.2.2.2.2.1))
    have k_xSM : xSM W := by
      rw [hW]
      exact (uxSM rfl (uxSM (sinc_ok rfl _) hI.2.2.2.2.2.2.2.2.2.2.2.2.2.2.2.2.2.2.2.2.2.2.2.2.2.2.2.2.2.2.2.2.2.2.2.2.2.2.2.2.2.1))
    have k_xSI : xSI W := by
      rw [hW]
      exact (uxSI rfl (uxSI (sinc_ok rfl _) hI.2.2.2.2.2.2.2.2.2.2.2.2.2.2.2.2.2.2.2.2.2.2.2.2.2.2.2.2.2.2.2.2.2.2.2.2.2.2.2.2.2.2.1))
    have k_xD3 : xD3 W := by
      have r : W 4 100 = 0 := by
        have e := m2
        rw [hW, sU_ne (fun z => by omega), sU_ne (fun z => by omega)]
        omega
      intro h
      rw [r] at h
      exact absurd rfl h
    have k_xDV : xDV W := by
      rw [hW]
      exact (uxDV rfl (uxDV (sinc_ok rfl _) hI.2.2.2.2.2.2.2.2.2.2.2.2.2.2.2.2.2.2.2.2.2.2.2.2.2.2.2.2.2.2.2.2.2.2.2.2.2.2.2.2.2.2.2.2.1))
    have k_xDP : xDP W := by
      have r4_100 : W 4 100 = M 4 100 := by rw [hW, sU_ne (fun z => by omega), sU_ne (fun z => by omega)]
      have r4_303 : W 4 303 = M 4 303 := by rw [hW, sU_ne (fun z => by omega), sU_ne (fun z => by omega)]
      have r4_204 : W 4 204 = M 4 204 := by rw [hW, sU_ne (fun z => by omega), sU_ne (fun z => by omega)]
      have r4_205 : W 4 205 = M 4 205 := by rw [hW, sU_ne (fun z => by omega), sU_ne (fun z => by omega)]
      have r4_206 : W 4 206 = M 4 206 := by rw [hW, sU_ne (fun z => by omega), sU_ne (fun z => by omega)]
      have r4_302 : W 4 302 = M 4 302 := by rw [hW, sU_ne (fun z => by omega), sU_ne (fun z => by omega)]
      have r4_330 : W 4 330 = M 4 330 := by rw [hW, sU_ne (fun z => by omega), sU_ne (fun z => by omega)]
      have r4_331 : W 4 331 = M 4 331 := by rw [hW, sU_ne (fun z => by omega), sU_ne (fun z => by omega)]
      have r4_332 : W 4 332 = M 4 332 := by rw [hW, sU_ne (fun z => by omega), sU_ne (fun z => by omega)]
      have r4_333 : W 4 333 = 1 * ρ 0 + (1 * ρ 4 + 0) := by rw [hW, sU_at]
      have r4_334 : W 4 334 = M 4 334 := by rw [hW, sU_ne (fun z => by omega), sU_ne (fun z => by omega)]
      have r4_335 : W 4 335 = M 4 335 := by rw [hW, sU_ne (fun z => by omega), sU_ne (fun z => by omega)]
      have r4_336 : W 4 336 = M 4 336 := by rw [hW, sU_ne (fun z => by omega), sU_ne (fun z => by omega)]
      have r4_337 : W 4 337 = M 4 337 := by rw [hW, sU_ne (fun z => by omega), sU_ne (fun z => by omega)]
      have r4_338 : W 4 338 = M 4 338 := by rw [hW, sU_ne (fun z => by omega), sU_ne (fun z => by omega)]
      have r4_339 : W 4 339 = M 4 339 := by rw [hW, sU_ne (fun z => by omega), sU_ne (fun z => by omega)]
      have r4_340 : W 4 340 = M 4 340 := by rw [hW, sU_ne (fun z => by omega), sU_ne (fun z => by omega)]
      have r4_341 : W 4 341 = M 4 341 := by rw [hW, sU_ne (fun z => by omega), sU_ne (fun z => by omega)]
      have r4_342 : W 4 342 = M 4 342 := by rw [hW, sU_ne (fun z => by omega), sU_ne (fun z => by omega)]
      have r4_343 : W 4 343 = M 4 343 := by rw [hW, sU_ne (fun z => by omega), sU_ne (fun z => by omega)]
      have r4_344 : W 4 344 = M 4 344 := by rw [hW, sU_ne (fun z => by omega), sU_ne (fun z => by omega)]
      have r13_0 : W 13 0 = M 13 0 := by rw [hW, sU_ne (fun z => by omega), sU_ne (fun z => by omega)]
      have r14_0 : W 14 0 = M 14 0 := by rw [hW, sU_ne (fun z => by omega), sU_ne (fun z => by omega)]
      have r15_0 : W 15 0 = M 15 0 := by rw [hW, sU_ne (fun z => by omega), sU_ne (fun z => by omega)]
      have r16_0 : W 16 0 = M 16 0 := by rw [hW, sU_ne (fun z => by omega), sU_ne (fun z => by omega)]
      have r17_0 : W 17 0 = M 17 0 := by rw [hW, sU_ne (fun z => by omega), sU_ne (fun z => by omega)]
      have r18_0 : W 18 0 = M 18 0 := by rw [hW, sU_ne (fun z => by omega), sU_ne (fun z => by omega)]
      have r19_0 : W 19 0 = M 19 0 := by rw [hW, sU_ne (fun z => by omega), sU_ne (fun z => by omega)]
      have r20_0 : W 20 0 = M 20 0 := by rw [hW, sU_ne (fun z => by omega), sU_ne (fun z => by omega)]
      have r21_0 : W 21 0 = M 21 0 := by rw [hW, sU_ne (fun z => by omega), sU_ne (fun z => by omega)]
      have r22_0 : W 22 0 = M 22 0 := by rw [hW, sU_ne (fun z => by omega), sU_ne (fun z => by omega)]
      have r23_0 : W 23 0 = M 23 0 := by rw [hW, sU_ne (fun z => by omega), sU_ne (fun z => by omega)]
      have r24_0 : W 24 0 = M 24 0 := by rw [hW, sU_ne (fun z => by omega), sU_ne (fun z => by omega)]
      have r25_0 : W 25 0 = M 25 0 := by rw [hW, sU_ne (fun z => by omega), sU_ne (fun z => by omega)]
      have r26_0 : W 26 0 = M 26 0 := by rw [hW, sU_ne (fun z => by omega), sU_ne (fun z => by omega)]
      have r27_0 : W 27 0 = M 27 0 := by rw [hW, sU_ne (fun z => by omega), sU_ne (fun z => by omega)]
      have r13_1 : W 13 1 = M 13 1 := by rw [hW, sU_ne (fun z => by omega), sU_ne (fun z => by omega)]
      have r14_1 : W 14 1 = M 14 1 := by rw [hW, sU_ne (fun z => by omega), sU_ne (fun z => by omega)]
      have r15_1 : W 15 1 = M 15 1 := by rw [hW, sU_ne (fun z => by omega), sU_ne (fun z => by omega)]
      have r16_1 : W 16 1 = M 16 1 := by rw [hW, sU_ne (fun z => by omega), sU_ne (fun z => by omega)]
      have r17_1 : W 17 1 = M 17 1 := by rw [hW, sU_ne (fun z => by omega), sU_ne (fun z => by omega)]
      have r18_1 : W 18 1 = M 18 1 := by rw [hW, sU_ne (fun z => by omega), sU_ne (fun z => by omega)]
      have r19_1 : W 19 1 = M 19 1 := by rw [hW, sU_ne (fun z => by omega), sU_ne (fun z => by omega)]
      have r20_1 : W 20 1 = M 20 1 := by rw [hW, sU_ne (fun z => by omega), sU_ne (fun z => by omega)]
      have r21_1 : W 21 1 = M 21 1 := by rw [hW, sU_ne (fun z => by omega), sU_ne (fun z => by omega)]
      have r22_1 : W 22 1 = M 22 1 := by rw [hW, sU_ne (fun z => by omega), sU_ne (fun z => by omega)]
      have r23_1 : W 23 1 = M 23 1 := by rw [hW, sU_ne (fun z => by omega), sU_ne (fun z => by omega)]
      have r24_1 : W 24 1 = M 24 1 := by rw [hW, sU_ne (fun z => by omega), sU_ne (fun z => by omega)]
      have r25_1 : W 25 1 = M 25 1 := by rw [hW, sU_ne (fun z => by omega), sU_ne (fun z => by omega)]
      have r26_1 : W 26 1 = M 26 1 := by rw [hW, sU_ne (fun z => by omega), sU_ne (fun z => by omega)]
      have r27_1 : W 27 1 = M 27 1 := by rw [hW, sU_ne (fun z => by omega), sU_ne (fun z => by omega)]
      have r13_2 : W 13 2 = M 13 2 := by rw [hW, sU_ne (fun z => by omega), sU_ne (fun z => by omega)]
      have r14_2 : W 14 2 = M 14 2 := by rw [hW, sU_ne (fun z => by omega), sU_ne (fun z => by omega)]
      have r15_2 : W 15 2 = M 15 2 := by rw [hW, sU_ne (fun z => by omega), sU_ne (fun z => by omega)]
      have r16_2 : W 16 2 = M 16 2 := by rw [hW, sU_ne (fun z => by omega), sU_ne (fun z => by omega)]
      have r17_2 : W 17 2 = M 17 2 := by rw [hW, sU_ne (fun z => by omega), sU_ne (fun z => by omega)]
      have r18_2 : W 18 2 = M 18 2 := by rw [hW, sU_ne (fun z => by omega), sU_ne (fun z => by omega)]
      have r19_2 : W 19 2 = M 19 2 := by rw [hW, sU_ne (fun z => by omega), sU_ne (fun z => by omega)]
      have r20_2 : W 20 2 = M 20 2 := by rw [hW, sU_ne (fun z => by omega), sU_ne (fun z => by omega)]
      have r21_2 : W 21 2 = M 21 2 := by rw [hW, sU_ne (fun z => by omega), sU_ne (fun z => by omega)]
      have r22_2 : W 22 2 = M 22 2 := by rw [hW, sU_ne (fun z => by omega), sU_ne (fun z => by omega)]
      have r23_2 : W 23 2 = M 23 2 := by rw [hW, sU_ne (fun z => by omega), sU_ne (fun z => by omega)]
      have r24_2 : W 24 2 = M 24 2 := by rw [hW, sU_ne (fun z => by omega), sU_ne (fun z => by omega)]
      have r25_2 : W 25 2 = M 25 2 := by rw [hW, sU_ne (fun z => by omega), sU_ne (fun z => by omega)]
      have r26_2 : W 26 2 = M 26 2 := by rw [hW, sU_ne (fun z => by omega), sU_ne (fun z => by omega)]
      have r27_2 : W 27 2 = M 27 2 := by rw [hW, sU_ne (fun z => by omega), sU_ne (fun z => by omega)]
      have r13_3 : W 13 3 = M 13 3 := by rw [hW, sU_ne (fun z => by omega), sU_ne (fun z => by omega)]
      have r14_3 : W 14 3 = M 14 3 := by rw [hW, sU_ne (fun z => by omega), sU_ne (fun z => by omega)]
      have r15_3 : W 15 3 = M 15 3 := by rw [hW, sU_ne (fun z => by omega), sU_ne (fun z => by omega)]
      have r16_3 : W 16 3 = M 16 3 := by rw [hW, sU_ne (fun z => by omega), sU_ne (fun z => by omega)]
      have r17_3 : W 17 3 = M 17 3 := by rw [hW, sU_ne (fun z => by omega), sU_ne (fun z => by omega)]
      have r18_3 : W 18 3 = M 18 3 := by rw [hW, sU_ne (fun z => by omega), sU_ne (fun z => by omega)]
      have r19_3 : W 19 3 = M 19 3 := by rw [hW, sU_ne (fun z => by omega), sU_ne (fun z => by omega)]
      have r20_3 : W 20 3 = M 20 3 := by rw [hW, sU_ne (fun z => by omega), sU_ne (fun z => by omega)]
      have r21_3 : W 21 3 = M 21 3 := by rw [hW, sU_ne (fun z => by omega), sU_ne (fun z => by omega)]
      have r22_3 : W 22 3 = M 22 3 := by rw [hW, sU_ne (fun z => by omega), sU_ne (fun z => by omega)]
      have r23_3 : W 23 3 = M 23 3 := by rw [hW, sU_ne (fun z => by omega), sU_ne (fun z => by omega)]
      have r24_3 : W 24 3 = M 24 3 := by rw [hW, sU_ne (fun z => by omega), sU_ne (fun z => by omega)]
      have r25_3 : W 25 3 = M 25 3 := by rw [hW, sU_ne (fun z => by omega), sU_ne (fun z => by omega)]
      have r26_3 : W 26 3 = M 26 3 := by rw [hW, sU_ne (fun z => by omega), sU_ne (fun z => by omega)]
      have r27_3 : W 27 3 = M 27 3 := by rw [hW, sU_ne (fun z => by omega), sU_ne (fun z => by omega)]
      have r13_4 : W 13 4 = M 13 4 := by rw [hW, sU_ne (fun z => by omega), sU_ne (fun z => by omega)]
      have r14_4 : W 14 4 = M 14 4 := by rw [hW, sU_ne (fun z => by omega), sU_ne (fun z => by omega)]
      have r15_4 : W 15 4 = M 15 4 := by rw [hW, sU_ne (fun z => by omega), sU_ne (fun z => by omega)]
      have r16_4 : W 16 4 = M 16 4 := by rw [hW, sU_ne (fun z => by omega), sU_ne (fun z => by omega)]
      have r17_4 : W 17 4 = M 17 4 := by rw [hW, sU_ne (fun z => by omega), sU_ne (fun z => by omega)]
      have r18_4 : W 18 4 = M 18 4 := by rw [hW, sU_ne (fun z => by omega), sU_ne (fun z => by omega)]
      have r19_4 : W 19 4 = M 19 4 := by rw [hW, sU_ne (fun z => by omega), sU_ne (fun z => by omega)]
      have r20_4 : W 20 4 = M 20 4 := by rw [hW, sU_ne (fun z => by omega), sU_ne (fun z => by omega)]
      have r21_4 : W 21 4 = M 21 4 := by rw [hW, sU_ne (fun z => by omega), sU_ne (fun z => by omega)]
      have r13_5 : W 13 5 = M 13 5 := by rw [hW, sU_ne (fun z => by omega), sU_ne (fun z => by omega)]
      have r14_5 : W 14 5 = M 14 5 := by rw [hW, sU_ne (fun z => by omega), sU_ne (fun z => by omega)]
      have r15_5 : W 15 5 = M 15 5 := by rw [hW, sU_ne (fun z => by omega), sU_ne (fun z => by omega)]
      have r16_5 : W 16 5 = M 16 5 := by rw [hW, sU_ne (fun z => by omega), sU_ne (fun z => by omega)]
      have r17_5 : W 17 5 = M 17 5 := by rw [hW, sU_ne (fun z => by omega), sU_ne (fun z => by omega)]
      have r18_5 : W 18 5 = M 18 5 := by rw [hW, sU_ne (fun z => by omega), sU_ne (fun z => by omega)]
      have r19_5 : W 19 5 = M 19 5 := by rw [hW, sU_ne (fun z => by omega), sU_ne (fun z => by omega)]
      have r20_5 : W 20 5 = M 20 5 := by rw [hW, sU_ne (fun z => by omega), sU_ne (fun z => by omega)]
      have r21_5 : W 21 5 = M 21 5 := by rw [hW, sU_ne (fun z => by omega), sU_ne (fun z => by omega)]
      have r2_11 : W 2 11 = M 2 11 := by rw [hW, sU_ne (fun z => by omega), sU_ne (fun z => by omega)]
      have r2_12 : W 2 12 = M 2 12 := by rw [hW, sU_ne (fun z => by omega), sU_ne (fun z => by omega)]
      have r2_13 : W 2 13 = M 2 13 := by rw [hW, sU_ne (fun z => by omega), sU_ne (fun z => by omega)]
      have r2_14 : W 2 14 = M 2 14 := by rw [hW, sU_ne (fun z => by omega), sU_ne (fun z => by omega)]
      have r2_15 : W 2 15 = M 2 15 := by rw [hW, sU_ne (fun z => by omega), sU_ne (fun z => by omega)]
      have r39_0 : W 39 0 = M 39 0 := by rw [hW, sU_ne (fun z => by omega), sU_ne (fun z => by omega)]
      have r40_0 : W 40 0 = M 40 0 := by rw [hW, sU_ne (fun z => by omega), sU_ne (fun z => by omega)]
      have r41_0 : W 41 0 = M 41 0 := by rw [hW, sU_ne (fun z => by omega), sU_ne (fun z => by omega)]
      have r42_0 : W 42 0 = M 42 0 := by rw [hW, sU_ne (fun z => by omega), sU_ne (fun z => by omega)]
      have r43_0 : W 43 0 = M 43 0 := by rw [hW, sU_ne (fun z => by omega), sU_ne (fun z => by omega)]
      have r44_0 : W 44 0 = M 44 0 := by rw [hW, sU_ne (fun z => by omega), sU_ne (fun z => by omega)]
      have r45_0 : W 45 0 = M 45 0 := by rw [hW, sU_ne (fun z => by omega), sU_ne (fun z => by omega)]
      have r46_0 : W 46 0 = M 46 0 := by rw [hW, sU_ne (fun z => by omega), sU_ne (fun z => by omega)]
      have r47_0 : W 47 0 = M 47 0 := by rw [hW, sU_ne (fun z => by omega), sU_ne (fun z => by omega)]
      have r48_0 : W 48 0 = M 48 0 := by rw [hW, sU_ne (fun z => by omega), sU_ne (fun z => by omega)]
      have r49_0 : W 49 0 = M 49 0 := by rw [hW, sU_ne (fun z => by omega), sU_ne (fun z => by omega)]
      have r50_0 : W 50 0 = M 50 0 := by rw [hW, sU_ne (fun z => by omega), sU_ne (fun z => by omega)]
      have r51_0 : W 51 0 = M 51 0 := by rw [hW, sU_ne (fun z => by omega), sU_ne (fun z => by omega)]
      have r52_0 : W 52 0 = M 52 0 := by rw [hW, sU_ne (fun z => by omega), sU_ne (fun z => by omega)]
      have r53_0 : W 53 0 = M 53 0 := by rw [hW, sU_ne (fun z => by omega), sU_ne (fun z => by omega)]
      have r39_1 : W 39 1 = M 39 1 := by rw [hW, sU_ne (fun z => by omega), sU_ne (fun z => by omega)]
      have r40_1 : W 40 1 = M 40 1 := by rw [hW, sU_ne (fun z => by omega), sU_ne (fun z => by omega)]
      have r41_1 : W 41 1 = M 41 1 := by rw [hW, sU_ne (fun z => by omega), sU_ne (fun z => by omega)]
      have r42_1 : W 42 1 = M 42 1 := by rw [hW, sU_ne (fun z => by omega), sU_ne (fun z => by omega)]
      have r43_1 : W 43 1 = M 43 1 := by rw [hW, sU_ne (fun z => by omega), sU_ne (fun z => by omega)]
      have r44_1 : W 44 1 = M 44 1 := by rw [hW, sU_ne (fun z => by omega), sU_ne (fun z => by omega)]
      have r45_1 : W 45 1 = M 45 1 := by rw [hW, sU_ne (fun z => by omega), sU_ne (fun z => by omega)]
      have r46_1 : W 46 1 = M 46 1 := by rw [hW, sU_ne (fun z => by omega), sU_ne (fun z => by omega)]
      have r47_1 : W 47 1 = M 47 1 := by rw [hW, sU_ne (fun z => by omega), sU_ne (fun z => by omega)]
      have r48_1 : W 48 1 = M 48 1 := by rw [hW, sU_ne (fun z => by omega), sU_ne (fun z => by omega)]
      have r49_1 : W 49 1 = M 49 1 := by rw [hW, sU_ne (fun z => by omega), sU_ne (fun z => by omega)]
      have r50_1 : W 50 1 = M 50 1 := by rw [hW, sU_ne (fun z => by omega), sU_ne (fun z => by omega)]
      have r51_1 : W 51 1 = M 51 1 := by rw [hW, sU_ne (fun z => by omega), sU_ne (fun z => by omega)]
      have r52_1 : W 52 1 = M 52 1 := by rw [hW, sU_ne (fun z => by omega), sU_ne (fun z => by omega)]
      have r53_1 : W 53 1 = M 53 1 := by rw [hW, sU_ne (fun z => by omega), sU_ne (fun z => by omega)]
      have r39_2 : W 39 2 = M 39 2 := by rw [hW, sU_ne (fun z => by omega), sU_ne (fun z => by omega)]
      have r40_2 : W 40 2 = M 40 2 := by rw [hW, sU_ne (fun z => by omega), sU_ne (fun z => by omega)]
      have r41_2 : W 41 2 = M 41 2 := by rw [hW, sU_ne (fun z => by omega), sU_ne (fun z => by omega)]
      have r42_2 : W 42 2 = M 42 2 := by rw [hW, sU_ne (fun z => by omega), sU_ne (fun z => by omega)]
      have r43_2 : W 43 2 = M 43 2 := by rw [hW, sU_ne (fun z => by omega), sU_ne (fun z => by omega)]
      have r44_2 : W 44 2 = M 44 2 := by rw [hW, sU_ne (fun z => by omega), sU_ne (fun z => by omega)]
      have r45_2 : W 45 2 = M 45 2 := by rw [hW, sU_ne (fun z => by omega), sU_ne (fun z => by omega)]
      have r46_2 : W 46 2 = M 46 2 := by rw [hW, sU_ne (fun z => by omega), sU_ne (fun z => by omega)]
      have r47_2 : W 47 2 = M 47 2 := by rw [hW, sU_ne (fun z => by omega), sU_ne (fun z => by omega)]
      have r48_2 : W 48 2 = M 48 2 := by rw [hW, sU_ne (fun z => by omega), sU_ne (fun z => by omega)]
      have r49_2 : W 49 2 = M 49 2 := by rw [hW, sU_ne (fun z => by omega), sU_ne (fun z => by omega)]
      have r50_2 : W 50 2 = M 50 2 := by rw [hW, sU_ne (fun z => by omega), sU_ne (fun z => by omega)]
      have r51_2 : W 51 2 = M 51 2 := by rw [hW, sU_ne (fun z => by omega), sU_ne (fun z => by omega)]
      have r52_2 : W 52 2 = M 52 2 := by rw [hW, sU_ne (fun z => by omega), sU_ne (fun z => by omega)]
      have r53_2 : W 53 2 = M 53 2 := by rw [hW, sU_ne (fun z => by omega), sU_ne (fun z => by omega)]
      have r39_3 : W 39 3 = M 39 3 := by rw [hW, sU_ne (fun z => by omega), sU_ne (fun z => by omega)]
      have r40_3 : W 40 3 = M 40 3 := by rw [hW, sU_ne (fun z => by omega), sU_ne (fun z => by omega)]
      have r41_3 : W 41 3 = M 41 3 := by rw [hW, sU_ne (fun z => by omega), sU_ne (fun z => by omega)]
      have r42_3 : W 42 3 = M 42 3 := by rw [hW, sU_ne (fun z => by omega), sU_ne (fun z => by omega)]
      have r43_3 : W 43 3 = M 43 3 := by rw [hW, sU_ne (fun z => by omega), sU_ne (fun z => by omega)]
      have r44_3 : W 44 3 = M 44 3 := by rw [hW, sU_ne (fun z => by omega), sU_ne (fun z => by omega)]
      have r45_3 : W 45 3 = M 45 3 := by rw [hW, sU_ne (fun z => by omega), sU_ne (fun z => by omega)]
      have r46_3 : W 46 3 = M 46 3 := by rw [hW, sU_ne (fun z => by omega), sU_ne (fun z => by omega)]
      have r47_3 : W 47 3 = M 47 3 := by rw [hW, sU_ne (fun z => by omega), sU_ne (fun z => by omega)]
      have r48_3 : W 48 3 = M 48 3 := by rw [hW, sU_ne (fun z => by omega), sU_ne (fun z => by omega)]
      have r49_3 : W 49 3 = M 49 3 := by rw [hW, sU_ne (fun z => by omega), sU_ne (fun z => by omega)]
      have r50_3 : W 50 3 = M 50 3 := by rw [hW, sU_ne (fun z => by omega), sU_ne (fun z => by omega)]
      have r51_3 : W 51 3 = M 51 3 := by rw [hW, sU_ne (fun z => by omega), sU_ne (fun z => by omega)]
      have r52_3 : W 52 3 = M 52 3 := by rw [hW, sU_ne (fun z => by omega), sU_ne (fun z => by omega)]
      have r53_3 : W 53 3 = M 53 3 := by rw [hW, sU_ne (fun z => by omega), sU_ne (fun z => by omega)]
      have r39_4 : W 39 4 = M 39 4 := by rw [hW, sU_ne (fun z => by omega), sU_ne (fun z => by omega)]
      have r40_4 : W 40 4 = M 40 4 := by rw [hW, sU_ne (fun z => by omega), sU_ne (fun z => by omega)]
      have r41_4 : W 41 4 = M 41 4 := by rw [hW, sU_ne (fun z => by omega), sU_ne (fun z => by omega)]
      have r42_4 : W 42 4 = M 42 4 := by rw [hW, sU_ne (fun z => by omega), sU_ne (fun z => by omega)]
      have r43_4 : W 43 4 = M 43 4 := by rw [hW, sU_ne (fun z => by omega), sU_ne (fun z => by omega)]
      have r44_4 : W 44 4 = M 44 4 := by rw [hW, sU_ne (fun z => by omega), sU_ne (fun z => by omega)]
      have r45_4 : W 45 4 = M 45 4 := by rw [hW, sU_ne (fun z => by omega), sU_ne (fun z => by omega)]
      have r46_4 : W 46 4 = M 46 4 := by rw [hW, sU_ne (fun z => by omega), sU_ne (fun z => by omega)]
      have r47_4 : W 47 4 = M 47 4 := by rw [hW, sU_ne (fun z => by omega), sU_ne (fun z => by omega)]
      have r39_5 : W 39 5 = M 39 5 := by rw [hW, sU_ne (fun z => by omega), sU_ne (fun z => by omega)]
      have r40_5 : W 40 5 = M 40 5 := by rw [hW, sU_ne (fun z => by omega), sU_ne (fun z => by omega)]
      have r41_5 : W 41 5 = M 41 5 := by rw [hW, sU_ne (fun z => by omega), sU_ne (fun z => by omega)]
      have r42_5 : W 42 5 = M 42 5 := by rw [hW, sU_ne (fun z => by omega), sU_ne (fun z => by omega)]
      have r43_5 : W 43 5 = M 43 5 := by rw [hW, sU_ne (fun z => by omega), sU_ne (fun z => by omega)]
      have r44_5 : W 44 5 = M 44 5 := by rw [hW, sU_ne (fun z => by omega), sU_ne (fun z => by omega)]
      have r45_5 : W 45 5 = M 45 5 := by rw [hW, sU_ne (fun z => by omega), sU_ne (fun z => by omega)]
      have r46_5 : W 46 5 = M 46 5 := by rw [hW, sU_ne (fun z => by omega), sU_ne (fun z => by omega)]
      have r47_5 : W 47 5 = M 47 5 := by rw [hW, sU_ne (fun z => by omega), sU_ne (fun z => by omega)]
      have r28_11 : W 28 11 = M 28 11 := by rw [hW, sU_ne (fun z => by omega), sU_ne (fun z => by omega)]
      have r28_12 : W 28 12 = M 28 12 := by rw [hW, sU_ne (fun z => by omega), sU_ne (fun z => by omega)]
      have r28_13 : W 28 13 = M 28 13 := by rw [hW, sU_ne (fun z => by omega), sU_ne (fun z => by omega)]
      have r28_14 : W 28 14 = M 28 14 := by rw [hW, sU_ne (fun z => by omega), sU_ne (fun z => by omega)]
      have r28_15 : W 28 15 = M 28 15 := by rw [hW, sU_ne (fun z => by omega), sU_ne (fun z => by omega)]
      have c5 : ∀ k, W 5 k = M 5 k := fun k => by rw [hW, sU_ne (fun z => by omega), sU_ne (fun z => by omega)]
      have e5 : W 5 = M 5 := funext c5
      have c6 : ∀ k, W 6 k = M 6 k := fun k => by rw [hW, sU_ne (fun z => by omega), sU_ne (fun z => by omega)]
      have e6 : W 6 = M 6 := funext c6
      have c7 : ∀ k, W 7 k = M 7 k := fun k => by rw [hW, sU_ne (fun z => by omega), sU_ne (fun z => by omega)]
      have e7 : W 7 = M 7 := funext c7
      have c8 : ∀ k, W 8 k = M 8 k := fun k => by rw [hW, sU_ne (fun z => by omega), sU_ne (fun z => by omega)]
      have e8 : W 8 = M 8 := funext c8
      have c31 : ∀ k, W 31 k = M 31 k := fun k => by rw [hW, sU_ne (fun z => by omega), sU_ne (fun z => by omega)]
      have e31 : W 31 = M 31 := funext c31
      have c32 : ∀ k, W 32 k = M 32 k := fun k => by rw [hW, sU_ne (fun z => by omega), sU_ne (fun z => by omega)]
      have e32 : W 32 = M 32 := funext c32
      have c33 : ∀ k, W 33 k = M 33 k := fun k => by rw [hW, sU_ne (fun z => by omega), sU_ne (fun z => by omega)]
      have e33 : W 33 = M 33 := funext c33
      have c34 : ∀ k, W 34 k = M 34 k := fun k => by rw [hW, sU_ne (fun z => by omega), sU_ne (fun z => by omega)]
      have e34 : W 34 = M 34 := funext c34
      have c93 : ∀ k, W 93 k = M 93 k := fun k => by rw [hW, sU_ne (fun z => by omega), sU_ne (fun z => by omega)]
      have e93 : W 93 = M 93 := funext c93
      have c94 : ∀ k, W 94 k = M 94 k := fun k => by rw [hW, sU_ne (fun z => by omega), sU_ne (fun z => by omega)]
      have e94 : W 94 = M 94 := funext c94
      have c95 : ∀ k, W 95 k = M 95 k := fun k => by rw [hW, sU_ne (fun z => by omega), sU_ne (fun z => by omega)]
      have e95 : W 95 = M 95 := funext c95
      have c96 : ∀ k : Nat, k ≠ (1 * ρ 1 + 0).toNat → W 96 k = M 96 k := fun k hk => by rw [hW, sU_ne (fun z => by omega), sU_ne (fun z => by omega)]
      have a96 : W 96 (1 * ρ 1 + 0).toNat = 1 * ρ 3 + 0 := by rw [hW, sU_ne (fun z => by omega), sU_at]
      have c97 : ∀ k, W 97 k = M 97 k := fun k => by rw [hW, sU_ne (fun z => by omega), sU_ne (fun z => by omega)]
      have e97 : W 97 = M 97 := funext c97
      have c98 : ∀ k, W 98 k = M 98 k := fun k => by rw [hW, sU_ne (fun z => by omega), sU_ne (fun z => by omega)]
      have e98 : W 98 = M 98 := funext c98
      have c99 : ∀ k, W 99 k = M 99 k := fun k => by rw [hW, sU_ne (fun z => by omega), sU_ne (fun z => by omega)]
      have e99 : W 99 = M 99 := funext c99
      have c100 : ∀ k, W 100 k = M 100 k := fun k => by rw [hW, sU_ne (fun z => by omega), sU_ne (fun z => by omega)]
      have e100 : W 100 = M 100 := funext c100
      have c101 : ∀ k, W 101 k = M 101 k := fun k => by rw [hW, sU_ne (fun z => by omega), sU_ne (fun z => by omega)]
      have e101 : W 101 = M 101 := funext c101
      have c102 : ∀ k, W 102 k = M 102 k := fun k => by rw [hW, sU_ne (fun z => by omega), sU_ne (fun z => by omega)]
      have e102 : W 102 = M 102 := funext c102
      have c103 : ∀ k, W 103 k = M 103 k := fun k => by rw [hW, sU_ne (fun z => by omega), sU_ne (fun z => by omega)]
      have e103 : W 103 = M 103 := funext c103
      have c104 : ∀ k, W 104 k = M 104 k := fun k => by rw [hW, sU_ne (fun z => by omega), sU_ne (fun z => by omega)]
      have e104 : W 104 = M 104 := funext c104
      have c105 : ∀ k, W 105 k = M 105 k := fun k => by rw [hW, sU_ne (fun z => by omega), sU_ne (fun z => by omega)]
      have e105 : W 105 = M 105 := funext c105
      have c106 : ∀ k, W 106 k = M 106 k := fun k => by rw [hW, sU_ne (fun z => by omega), sU_ne (fun z => by omega)]
      have e106 : W 106 = M 106 := funext c106
      have c107 : ∀ k, W 107 k = M 107 k := fun k => by rw [hW, sU_ne (fun z => by omega), sU_ne (fun z => by omega)]
      have e107 : W 107 = M 107 := funext c107
      have hw : ∀ o k, 93 ≤ o → o ≤ 107 → ¬ (o = 96 ∧ k = (1 * ρ 1 + 0).toNat) → W o k = M o k := fun o k h1 h2 h3 => by rw [hW, sU_ne (fun z => by omega), sU_ne h3]
      have hx : ∀ o k, o ≠ 4 → o ≠ 91 → ¬ (o = 96 ∧ k = (1 * ρ 1 + 0).toNat) → W o k = M o k := fun o k h1 h2 h3 => by rw [hW, sU_ne (fun z => by omega), sU_ne h3]
      have e4 : ∀ k, (204 ≤ k ∧ k ≤ 206) ∨ k = 302 → W 4 k = M 4 k := fun k hk => by rw [hW, sU_ne (fun z => by omega), sU_ne (fun z => by omega)]
      have e5 : ∀ b, b < 15 → b ≠ 3 → W 4 (330 + b) = M 4 (330 + b) := fun b hb hn => by rw [hW, sU_ne (fun z => by omega), sU_ne (fun z => by omega)]
      have hv : W 96 (1 * ρ 1 + 0).toNat = M 96 (9 + (1 * ρ 1 + 0).toNat) := by rw [a96]; rw [show 9 + (1 * ρ 1 + 0).toNat = (ρ 2).toNat by omega]; omega
      exact dp_cp (a := 3) (x := (1 * ρ 1 + 0).toNat) (by decide) (by show (1 * ρ 1 + 0).toNat < 9; omega) (gx_xDP hI) (by omega) (by omega) e4 (fun o k h1 h2 h3 => hx o k h1 h2 (fun z => h3 ⟨by omega, z.2⟩)) hv (by show W 4 333 = _; rw [r4_333]; (try rw [h0]); omega) (by show M 4 333 = _; omega) e5
    have k_xDE : xDE W := by
      have r : W 4 301 = 0 := by
        have e := m4
        rw [hW, sU_ne (fun z => by omega), sU_ne (fun z => by omega)]
        omega
      intro h
      rw [r] at h
      omega
    have k_xQ5 : xQ5 W := by
      rw [hW]
      exact (uxQ5 rfl (uxQ5 (sinc_ok rfl _) hI.2.2.2.2.2.2.2.2.2.2.2.2.2.2.2.2.2.2.2.2.2.2.2.2.2.2.2.2.2.2.2.2.2.2.2.2.2.2.2.2.2.2.2.2.2.2.2.1))
    have k_xQL : xQL W := by
      rw [hW]
      exact (uxQL rfl (uxQL (sinc_ok rfl _) hI.2.2.2.2.2.2.2.2.2.2.2.2.2.2.2.2.2.2.2.2.2.2.2.2.2.2.2.2.2.2.2.2.2.2.2.2.2.2.2.2.2.2.2.2.2.2.2.2.1))
    have k_xQW : xQW W := by
      have r : W 4 350 = 0 := by
        have e := m1
        rw [hW, sU_ne (fun z => by omega), sU_ne (fun z => by omega)]
        omega
      intro h
      rw [r] at h
      omega
    have k_xQM : xQM W := by
      rw [hW]
      exact (uxQM rfl (uxQM (sinc_ok rfl _) hI.2.2.2.2.2.2.2.2.2.2.2.2.2.2.2.2.2.2.2.2.2.2.2.2.2.2.2.2.2.2.2.2.2.2.2.2.2.2.2.2.2.2.2.2.2.2.2.2.2.2.1))
    have k_xQH : xQH W := by
      rw [hW]
      exact (uxQH rfl (uxQH (sinc_ok rfl _) hI.2.2.2.2.2.2.2.2.2.2.2.2.2.2.2.2.2.2.2.2.2.2.2.2.2.2.2.2.2.2.2.2.2.2.2.2.2.2.2.2.2.2.2.2.2.2.2.2.2.2.2))
    have k_XC : XC W := ⟨k_xS1, k_xS2, k_xS3, k_xS4, k_xS5, k_xS6, k_xS7, k_xS8, k_xS9, k_xSA, k_xSG, k_xSF, k_xSB, k_xSC, k_xSD, k_xSE, k_xSW, k_xST, k_xSP, k_xSL, k_xSM, k_xSI, k_xD3, k_xDV, k_xDP, k_xDE, k_xQ5, k_xQL, k_xQW, k_xQM, k_xQH⟩
    have kXB : XB W := ⟨k_xN1, k_xN2, k_xN3, k_xN4, k_xN5, k_xN6, k_xH1, k_xK1, k_xC1, k_xRW, k_xWT, k_xCU, k_xG2, k_xG3, k_xG4, k_xG5, k_xG6, k_XC⟩
    exact ⟨base, k2, k3, kXA, kXB⟩
-- rU97
def xr_587 : qRu := (4, [[(-9, 0), (1, 1), (-1, 3)], [(17, 0), (-1, 1)], [(1, 3)]], [(4, 350, []), (4, 100, [(2, 0)]), (4, 314, [(1, 3)])], [(97, [(1, 1)], [(1, 2)])], [], [])
theorem xo_587 : qRok xr_587 := by
  intro ρ M h0 hf hm hI
  have f0 := hf [(-9, 0), (1, 1), (-1, 3)] (by decide)
  have f1 := hf [(17, 0), (-1, 1)] (by decide)
  have f2 := hf [(1, 3)] (by decide)
  simp only [qD, h0] at f0 f1 f2
  have m0 : M 4 350 = 0 := hm (4, 350, []) (by decide)
  have m1 : M 4 100 = 2 * ρ 0 + 0 := hm (4, 100, [(2, 0)]) (by decide)
  have m2 : M 4 314 = 1 * ρ 3 + 0 := hm (4, 314, [(1, 3)]) (by decide)
  simp only [h0] at m1
  refine ⟨ρ, fun _ _ => rfl, fun f h => ?_, ?_⟩
  · exact nomatch h
  · show sI (sU M 97 (1 * ρ 1 + 0 : Int).toNat (1 * ρ 2 + 0))
    obtain ⟨W, hW⟩ : ∃ W, W = (sU M 97 (1 * ρ 1 + 0).toNat (1 * ρ 2 + 0)) := ⟨_, rfl⟩
    rw [← hW]
    have base : sI0 W := by
      rw [hW]
      exact (si_u0 hI.1 (fun r hr => by cases hr))
    have k2 : XI2 W := by
      rw [hW]
      exact (xi2_u (sinc_ok rfl _) hI.2.1)
    have k3 : XI3 W := by
      rw [hW]
      exact (xi3_u (sinc_ok rfl _) hI.2.2.1)
    have kXA : XA W := by
      rw [hW]
      exact (uXA (sinc_ok rfl _) hI.2.2.2.1)
    have k_xN1 : xN1 W := by
      rw [hW]
      exact (uxN1 (sinc_ok rfl _) hI.2.2.2.2.1)
    have k_xN2 : xN2 W := by
      rw [hW]
      exact (uxN2 (sinc_ok rfl _) hI.2.2.2.2.2.1)
    have k_xN3 : xN3 W := by
      rw [hW]
      exact (uxN3 (sinc_ok rfl _) hI.2.2.2.2.2.2.1)
    have k_xN4 : xN4 W := by
      rw [hW]
      exact (uxN4 (sinc_ok rfl _) hI.2.2.2.2.2.2.2.1)
    have k_xN5 : xN5 W := by
      rw [hW]
      exact (uxN5 (sinc_ok rfl _) hI.2.2.2.2.2.2.2.2.1)
    have k_xN6 : xN6 W := by
      rw [hW]
      exact (uxN6 (sinc_ok rfl _) hI.2.2.2.2.2.2.2.2.2.1)
    have k_xH1 : xH1 W := by
      rw [hW]
      exact (uxH1 (sinc_ok rfl _) hI.2.2.2.2.2.2.2.2.2.2.1)
    have k_xK1 : xK1 W := by
      rw [hW]
      exact (uxK1 (sinc_ok rfl _) hI.2.2.2.2.2.2.2.2.2.2.2.1)
    have k_xC1 : xC1 W := by
      rw [hW]
      exact (uxC1 (sinc_ok rfl _) hI.2.2.2.2.2.2.2.2.2.2.2.2.1)
    have k_xRW : xRW W := by
      rw [hW]
      exact (uxRW (sinc_ok rfl _) hI.2.2.2.2.2.2.2.2.2.2.2.2.2.1)
    have k_xWT : xWT W := by
      rw [hW]
      exact (uxWT (sinc_ok rfl _) hI.2.2.2.2.2.2.2.2.2.2.2.2.2.2.1)
    have k_xCU : xCU W := by
      rw [hW]
      exact (uxCU (sinc_ok rfl _) hI.2.2.2.2.2.2.2.2.2.2.2.2.2.2.2.1)
    have k_xG2 : xG2 W := by
      rw [hW]
      exact (uxG2 (sinc_ok rfl _) hI.2.2.2.2.2.2.2.2.2.2.2.2.2.2.2.2.1)
    have k_xG3 : xG3 W := by
      rw [hW]
      exact (uxG3 (sinc_ok rfl _) hI.2.2.2.2.2.2.2.2.2.2.2.2.2.2.2.2.2.1)
    have k_xG4 : xG4 W := by
      rw [hW]
      exact (uxG4 (sinc_ok rfl _) hI.2.2.2.2.2.2.2.2.2.2.2.2.2.2.2.2.2.2.1)
    have k_xG5 : xG5 W := by
      rw [hW]
      exact (uxG5 (sinc_ok rfl _) hI.2.2.2.2.2.2.2.2.2.2.2.2.2.2.2.2.2.2.2.1)
    have k_xG6 : xG6 W := by
      rw [hW]
      exact (uxG6 (sinc_ok rfl _) hI.2.2.2.2.2.2.2.2.2.2.2.2.2.2.2.2.2.2.2.2.1)
    have k_xS1 : xS1 W := by
      rw [hW]
      exact (uxS1 (sinc_ok rfl _) hI.2.2.2.2.2.2.2.2.2.2.2.2.2.2.2.2.2.2.2.2.2.1)
    have k_xS2 : xS2 W := by
      rw [hW]
      exact (uxS2 (sinc_ok rfl _) hI.2.2.2.2.2.2.2.2.2.2.2.2.2.2.2.2.2.2.2.2.2.2.1)
    have k_xS3 : xS3 W := by
      rw [hW]
      exact (uxS3 (sinc_ok rfl _) hI.2.2.2.2.2.2.2.2.2.2.2.2.2.2.2.2.2.2.2.2.2.2.2.1)
    have k_xS4 : xS4 W := by
      rw [hW]
      exact (uxS4 (sinc_ok rfl _) hI.2.2.2.2.2.2.2.2.2.2.2.2.2.2.2.2.2.2.2.2.2.2.2.2.1)
    have k_xS5 : xS5 W := by
      rw [hW]
      exact (uxS5 (sinc_ok rfl _) hI.2.2.2.2.2.2.2.2.2.2.2.2.2.2.2.2.2.2.2.2.2.2.2.2.2.1)
    have k_xS6 : xS6 W := by
      rw [hW]
      exact (uxS6 (sinc_ok rfl _) hI.2.2.2.2.2.2.2.2.2.2.2.2.2.2.2.2.2.2.2.2.2.2.2.2.2.2.1)
    have k_xS7 : xS7 W := by
      rw [hW]
      exact (uxS7 (sinc_ok rfl _) hI.2.2.2.2.2.2.2.2.2.2.2.2.2.2.2.2.2.2.2.2.2.2.2.2.2.2.2.1)
    have k_xS8 : xS8 W := by
      rw [hW]
      exact (uxS8 (sinc_ok rfl _) hI.2.2.2.2.2.2.2.2.2.2.2.2.2.2.2.2.2.2.2.2.2.2.2.2.2.2.2.2.1)
    have k_xS9 : xS9 W := by
      rw [hW]
      exact (uxS9 (sinc_ok rfl _) hI.2.2.2.2.2.2.2.2.2.2.2.2.2.2.2.2.2.2.2.2.2.2.2.2.2.2.2.2.2.1)
    have k_xSA : xSA W := by
      rw [hW]
      exact (uxSA (sinc_ok rfl _) hI.2.2.2.2.2.2.2.2.2.2.2.2.2.2.2.2.2.2.2.2.2.2.2.2.2.2.2.2.2.2.1)
    have k_xSG : xSG W := by
      rw [hW]
      exact (uxSG (sinc_ok rfl _) hI.2.2.2.2.2.2.2.2.2.2.2.2.2.2.2.2.2.2.2.2.2.2.2.2.2.2.2.2.2.2.2.1)
    have k_xSF : xSF W := by
      rw [hW]
      exact (uxSF (sinc_ok rfl _) hI.2.2.2.2.2.2.2.2.2.2.2.2.2.2.2.2.2.2.2.2.2.2.2.2.2.2.2.2.2.2.2.2.1)
    have k_xSB : xSB W := by
      rw [hW]
      exact (uxSB (sinc_ok rfl _) hI.2.2.2.2.2.2.2.2.2.2.2.2.2.2.2.2.2.2.2.2.2.2.2.2.2.2.2.2.2.2.2.2.2.1)
    have k_xSC : xSC W := by
      rw [hW]
      exact (uxSC (sinc_ok rfl _) hI.2.2.2.2.2.2.2.2.2.2.2.2.2.2.2.2.2.2.2.2.2.2.2.2.2.2.2.2.2.2.2.2.2.2.1)
    have k_xSD : xSD W := by
      rw [hW]
      exact (uxSD (sinc_ok rfl _) hI.2.2.2.2.2.2.2.2.2.2.2.2.2.2.2.2.2.2.2.2.2.2.2.2.2.2.2.2.2.2.2.2.2.2.2.1)
    have k_xSE : xSE W := by
      rw [hW]
      exact (uxSE (sinc_ok rfl _) hI.2.2.2.2.2.2.2.2.2.2.2.2.2.2.2.2.2.2.2.2.2.2.2.2.2.2.2.2.2.2.2.2.2.2.2.2.1)
    have k_xSW : xSW W := by
      rw [hW]
      exact (uxSW (sinc_ok rfl _) hI.2.2.2.2.2.2.2.2.2.2.2.2.2.2.2.2.2.2.2.2.2.2.2.2.2.2.2.2.2.2.2.2.2.2.2.2.2.1)
    have k_xST : xST W := by
      rw [hW]
      exact (uxST (sinc_ok rfl _) hI.2.2.2.2.2.2.2.2.2.2.2.2.2.2.2.2.2.2.2.2.2.2.2.2.2.2.2.2.2.2.2.2.2.2.2.2.2.2.1)
    have k_xSP : xSP W := by
      rw [hW]
      exact (uxSP (sinc_ok rfl _) hI.2.2.2.2.2.2.2.2.2.2.2.2.2.2.2.2.2.2.2.2.2.2.2.2.2.2.2.2.2.2.2.2.2.2.2.2.2.2.2.1)
    have k_xSL : xSL W := by
      rw [hW]
      exact (uxSL (sinc_ok rfl _) hI.2.2.2.2.2.2.2.2.2.2.2.2.2.2.2.2.2.2.2.2.2.2.2.2.2.2.2.2.2.2.2.2.2.2.2.2.2.2.2.2.1)
    have k_xSM : xSM W := by
      rw [hW]
      exact (uxSM (sinc_ok rfl _) hI.2.2.2.2.2.2.2.2.2.2.2.2.2.2.2.2.2.2.2.2.2.2.2.2.2.2.2.2.2.2.2.2.2.2.2.2.2.2.2.2.2.1)
    have k_xSI : xSI W := by
      rw [hW]
      exact (uxSI (sinc_ok rfl _) hI.2.2.2.2.2.2.2.2.2.2.2.2.2.2.2.2.2.2.2.2.2.2.2.2.2.2.2.2.2.2.2.2.2.2.2.2.2.2.2.2.2.2.1)
    have k_xD3 : xD3 W := by
      have r4_100 : W 4 100 = M 4 100 := by rw [hW, sU_ne (fun z => by omega)]
      have r4_101 : W 4 101 = M 4 101 := by rw [hW, sU_ne (fun z => by omega)]
      have r4_103 : W 4 103 = M 4 103 := by rw [hW, sU_ne (fun z => by omega)]
      have r4_104 : W 4 104 = M 4 104 := by rw [hW, sU_ne (fun z => by omega)]
      have r4_105 : W 4 105 = M 4 105 := by rw [hW, sU_ne (fun z => by omega)]
      have r4_106 : W 4 106 = M 4 106 := by rw [hW, sU_ne (fun z => by omega)]
      have r4_207 : W 4 207 = M 4 207 := by rw [hW, sU_ne (fun z => by omega)]
      have r4_208 : W 4 208 = M 4 208 := by rw [hW, sU_ne (fun z => by omega)]
      have r4_311 : W 4 311 = M 4 311 := by rw [hW, sU_ne (fun z => by omega)]
      have r4_313 : W 4 313 = M 4 313 := by rw [hW, sU_ne (fun z => by omega)]
      have r4_314 : W 4 314 = M 4 314 := by rw [hW, sU_ne (fun z => by omega)]
      have r13_0 : W 13 0 = M 13 0 := by rw [hW, sU_ne (fun z => by omega)]
      have r14_0 : W 14 0 = M 14 0 := by rw [hW, sU_ne (fun z => by omega)]
      have r15_0 : W 15 0 = M 15 0 := by rw [hW, sU_ne (fun z => by omega)]
      have r16_0 : W 16 0 = M 16 0 := by rw [hW, sU_ne (fun z => by omega)]
      have r17_0 : W 17 0 = M 17 0 := by rw [hW, sU_ne (fun z => by omega)]
      have r18_0 : W 18 0 = M 18 0 := by rw [hW, sU_ne (fun z => by omega)]
      have r19_0 : W 19 0 = M 19 0 := by rw [hW, sU_ne (fun z => by omega)]
      have r20_0 : W 20 0 = M 20 0 := by rw [hW, sU_ne (fun z => by omega)]
      have r21_0 : W 21 0 = M 21 0 := by rw [hW, sU_ne (fun z => by omega)]
      have r22_0 : W 22 0 = M 22 0 := by rw [hW, sU_ne (fun z => by omega)]
      have r23_0 : W 23 0 = M 23 0 := by rw [hW, sU_ne (fun z => by omega)]
      have r24_0 : W 24 0 = M 24 0 := by rw [hW, sU_ne (fun z => by omega)]
      have r25_0 : W 25 0 = M 25 0 := by rw [hW, sU_ne (fun z => by omega)]
      have r26_0 : W 26 0 = M 26 0 := by rw [hW, sU_ne (fun z => by omega)]
      have r27_0 : W 27 0 = M 27 0 := by rw [hW, sU_ne (fun z => by omega)]
      have r13_1 : W 13 1 = M 13 1 := by rw [hW, sU_ne (fun z => by omega)]
      have r14_1 : W 14 1 = M 14 1 := by rw [hW, sU_ne (fun z => by omega)]
      have r15_1 : W 15 1 = M 15 1 := by rw [hW, sU_ne (fun z => by omega)]
      have r16_1 : W 16 1 = M 16 1 := by rw [hW, sU_ne (fun z => by omega)]
      have r17_1 : W 17 1 = M 17 1 := by rw [hW, sU_ne (fun z => by omega)]
      have r18_1 : W 18 1 = M 18 1 := by rw [hW, sU_ne (fun z => by omega)]
      have r19_1 : W 19 1 = M 19 1 := by rw [hW, sU_ne (fun z => by omega)]
      have r20_1 : W 20 1 = M 20 1 := by rw [hW, sU_ne (fun z => by omega)]
      have r21_1 : W 21 1 = M 21 1 := by rw [hW, sU_ne (fun z => by omega)]
      have r22_1 : W 22 1 = M 22 1 := by rw [hW, sU_ne (fun z => by omega)]
      have r23_1 : W 23 1 = M 23 1 := by rw [hW, sU_ne (fun z => by omega)]
      have r24_1 : W 24 1 = M 24 1 := by rw [hW, sU_ne (fun z => by omega)]
      have r25_1 : W 25 1 = M 25 1 := by rw [hW, sU_ne (fun z => by omega)]
      have r26_1 : W 26 1 = M 26 1 := by rw [hW, sU_ne (fun z => by omega)]
      have r27_1 : W 27 1 = M 27 1 := by rw [hW, sU_ne (fun z => by omega)]
      have r13_2 : W 13 2 = M 13 2 := by rw [hW, sU_ne (fun z => by omega)]
      have r14_2 : W 14 2 = M 14 2 := by rw [hW, sU_ne (fun z => by omega)]
      have r15_2 : W 15 2 = M 15 2 := by rw [hW, sU_ne (fun z => by omega)]
      have r16_2 : W 16 2 = M 16 2 := by rw [hW, sU_ne (fun z => by omega)]
      have r17_2 : W 17 2 = M 17 2 := by rw [hW, sU_ne (fun z => by omega)]
      have r18_2 : W 18 2 = M 18 2 := by rw [hW, sU_ne (fun z => by omega)]
      have r19_2 : W 19 2 = M 19 2 := by rw [hW, sU_ne (fun z => by omega)]
      have r20_2 : W 20 2 = M 20 2 := by rw [hW, sU_ne (fun z => by omega)]
      have r21_2 : W 21 2 = M 21 2 := by rw [hW, sU_ne (fun z => by omega)]
      have r22_2 : W 22 2 = M 22 2 := by rw [hW, sU_ne (fun z => by omega)]
      have r23_2 : W 23 2 = M 23 2 := by rw [hW, sU_ne (fun z => by omega)]
      have r24_2 : W 24 2 = M 24 2 := by rw [hW, sU_ne (fun z => by omega)]
      have r25_2 : W 25 2 = M 25 2 := by rw [hW, sU_ne (fun z => by omega)]
      have r26_2 : W 26 2 = M 26 2 := by rw [hW, sU_ne (fun z => by omega)]
      have r27_2 : W 27 2 = M 27 2 := by rw [hW, sU_ne (fun z => by omega)]
      have r13_3 : W 13 3 = M 13 3 := by rw [hW, sU_ne (fun z => by omega)]
      have r14_3 : W 14 3 = M 14 3 := by rw [hW, sU_ne (fun z => by omega)]
      have r15_3 : W 15 3 = M 15 3 := by rw [hW, sU_ne (fun z => by omega)]
      have r16_3 : W 16 3 = M 16 3 := by rw [hW, sU_ne (fun z => by omega)]
      have r17_3 : W 17 3 = M 17 3 := by rw [hW, sU_ne (fun z => by omega)]
      have r18_3 : W 18 3 = M 18 3 := by rw [hW, sU_ne (fun z => by omega)]
      have r19_3 : W 19 3 = M 19 3 := by rw [hW, sU_ne (fun z => by omega)]
      have r20_3 : W 20 3 = M 20 3 := by rw [hW, sU_ne (fun z => by omega)]
      have r21_3 : W 21 3 = M 21 3 := by rw [hW, sU_ne (fun z => by omega)]
      have r22_3 : W 22 3 = M 22 3 := by rw [hW, sU_ne (fun z => by omega)]
      have r23_3 : W 23 3 = M 23 3 := by rw [hW, sU_ne (fun z => by omega)]
      have r24_3 : W 24 3 = M 24 3 := by rw [hW, sU_ne (fun z => by omega)]
      have r25_3 : W 25 3 = M 25 3 := by rw [hW, sU_ne (fun z => by omega)]
      have r26_3 : W 26 3 = M 26 3 := by rw [hW, sU_ne (fun z => by omega)]
      have r27_3 : W 27 3 = M 27 3 := by rw [hW, sU_ne (fun z => by omega)]
      have r13_4 : W 13 4 = M 13 4 := by rw [hW, sU_ne (fun z => by omega)]
      have r14_4 : W 14 4 = M 14 4 := by rw [hW, sU_ne (fun z => by omega)]
      have r15_4 : W 15 4 = M 15 4 := by rw [hW, sU_ne (fun z => by omega)]
      have r16_4 : W 16 4 = M 16 4 := by rw [hW, sU_ne (fun z => by omega)]
      have r17_4 : W 17 4 = M 17 4 := by rw [hW, sU_ne (fun z => by omega)]
      have r18_4 : W 18 4 = M 18 4 := by rw [hW, sU_ne (fun z => by omega)]
      have r19_4 : W 19 4 = M 19 4 := by rw [hW, sU_ne (fun z => by omega)]
      have r20_4 : W 20 4 = M 20 4 := by rw [hW, sU_ne (fun z => by omega)]
      have r21_4 : W 21 4 = M 21 4 := by rw [hW, sU_ne (fun z => by omega)]
      have r13_5 : W 13 5 = M 13 5 := by rw [hW, sU_ne (fun z => by omega)]
      have r14_5 : W 14 5 = M 14 5 := by rw [hW, sU_ne (fun z => by omega)]
      have r15_5 : W 15 5 = M 15 5 := by rw [hW, sU_ne (fun z => by omega)]
      have r16_5 : W 16 5 = M 16 5 := by rw [hW, sU_ne (fun z => by omega)]
      have r17_5 : W 17 5 = M 17 5 := by rw [hW, sU_ne (fun z => by omega)]
      have r18_5 : W 18 5 = M 18 5 := by rw [hW, sU_ne (fun z => by omega)]
      have r19_5 : W 19 5 = M 19 5 := by rw [hW, sU_ne (fun z => by omega)]
      have r20_5 : W 20 5 = M 20 5 := by rw [hW, sU_ne (fun z => by omega)]
      have r21_5 : W 21 5 = M 21 5 := by rw [hW, sU_ne (fun z => by omega)]
      have r2_11 : W 2 11 = M 2 11 := by rw [hW, sU_ne (fun z => by omega)]
      have r2_12 : W 2 12 = M 2 12 := by rw [hW, sU_ne (fun z => by omega)]
      have r2_13 : W 2 13 = M 2 13 := by rw [hW, sU_ne (fun z => by omega)]
      have r2_14 : W 2 14 = M 2 14 := by rw [hW, sU_ne (fun z => by omega)]
      have r2_15 : W 2 15 = M 2 15 := by rw [hW, sU_ne (fun z => by omega)]
      have r39_0 : W 39 0 = M 39 0 := by rw [hW, sU_ne (fun z => by omega)]
      have r40_0 : W 40 0 = M 40 0 := by rw [hW, sU_ne (fun z => by omega)]
      have r41_0 : W 41 0 = M 41 0 := by rw [hW, sU_ne (fun z => by omega)]
      have r42_0 : W 42 0 = M 42 0 := by rw [hW, sU_ne (fun z => by omega)]
      have r43_0 : W 43 0 = M 43 0 := by rw [hW, sU_ne (fun z => by omega)]
      have r44_0 : W 44 0 = M 44 0 := by rw [hW, sU_ne (fun z => by omega)]
      have r45_0 : W 45 0 = M 45 0 := by rw [hW, sU_ne (fun z => by omega)]
      have r46_0 : W 46 0 = M 46 0 := by rw [hW, sU_ne (fun z => by omega)]
      have r47_0 : W 47 0 = M 47 0 := by rw [hW, sU_ne (fun z => by omega)]
      have r48_0 : W 48 0 = M 48 0 := by rw [hW, sU_ne (fun z => by omega)]
      have r49_0 : W 49 0 = M 49 0 := by rw [hW, sU_ne (fun z => by omega)]
      have r50_0 : W 50 0 = M 50 0 := by rw [hW, sU_ne (fun z => by omega)]
      have r51_0 : W 51 0 = M 51 0 := by rw [hW, sU_ne (fun z => by omega)]
      have r52_0 : W 52 0 = M 52 0 := by rw [hW, sU_ne (fun z => by omega)]
      have r53_0 : W 53 0 = M 53 0 := by rw [hW, sU_ne (fun z => by omega)]
      have r39_1 : W 39 1 = M 39 1 := by rw [hW, sU_ne (fun z => by omega)]
      have r40_1 : W 40 1 = M 40 1 := by rw [hW, sU_ne (fun z => by omega)]
      have r41_1 : W 41 1 = M 41 1 := by rw [hW, sU_ne (fun z => by omega)]
      have r42_1 : W 42 1 = M 42 1 := by rw [hW, sU_ne (fun z => by omega)]
      have r43_1 : W 43 1 = M 43 1 := by rw [hW, sU_ne (fun z => by omega)]
      have r44_1 : W 44 1 = M 44 1 := by rw [hW, sU_ne (fun z => by omega)]
      have r45_1 : W 45 1 = M 45 1 := by rw [hW, sU_ne (fun z => by omega)]
      have r46_1 : W 46 1 = M 46 1 := by rw [hW, sU_ne (fun z => by omega)]
      have r47_1 : W 47 1 = M 47 1 := by rw [hW, sU_ne (fun z => by omega)]
      have r48_1 : W 48 1 = M 48 1 := by rw [hW, sU_ne (fun z => by omega)]
      have r49_1 : W 49 1 = M 49 1 := by rw [hW, sU_ne (fun z => by omega)]
      have r50_1 : W 50 1 = M 50 1 := by rw [hW, sU_ne (fun z => by omega)]
      have r51_1 : W 51 1 = M 51 1 := by rw [hW, sU_ne (fun z => by omega)]
      have r52_1 : W 52 1 = M 52 1 := by rw [hW, sU_ne (fun z => by omega)]
      have r53_1 : W 53 1 = M 53 1 := by rw [hW, sU_ne (fun z => by omega)]
      have r39_2 : W 39 2 = M 39 2 := by rw [hW, sU_ne (fun z => by omega)]
      have r40_2 : W 40 2 = M 40 2 := by rw [hW, sU_ne (fun z => by omega)]
      have r41_2 : W 41 2 = M 41 2 := by rw [hW, sU_ne (fun z => by omega)]
      have r42_2 : W 42 2 = M 42 2 := by rw [hW, sU_ne (fun z => by omega)]
      have r43_2 : W 43 2 = M 43 2 := by rw [hW, sU_ne (fun z => by omega)]
      have r44_2 : W 44 2 = M 44 2 := by rw [hW, sU_ne (fun z => by omega)]
      have r45_2 : W 45 2 = M 45 2 := by rw [hW, sU_ne (fun z => by omega)]
      have r46_2 : W 46 2 = M 46 2 := by rw [hW, sU_ne (fun z => by omega)]
      have r47_2 : W 47 2 = M 47 2 := by rw [hW, sU_ne (fun z => by omega)]
      have r48_2 : W 48 2 = M 48 2 := by rw [hW, sU_ne (fun z => by omega)]
      have r49_2 : W 49 2 = M 49 2 := by rw [hW, sU_ne (fun z => by omega)]
      have r50_2 : W 50 2 = M 50 2 := by rw [hW, sU_ne (fun z => by omega)]
      have r51_2 : W 51 2 = M 51 2 := by rw [hW, sU_ne (fun z => by omega)]
      have r52_2 : W 52 2 = M 52 2 := by rw [hW, sU_ne (fun z => by omega)]
      have r53_2 : W 53 2 = M 53 2 := by rw [hW, sU_ne (fun z => by omega)]
      have r39_3 : W 39 3 = M 39 3 := by rw [hW, sU_ne (fun z => by omega)]
      have r40_3 : W 40 3 = M 40 3 := by rw [hW, sU_ne (fun z => by omega)]
      have r41_3 : W 41 3 = M 41 3 := by rw [hW, sU_ne (fun z => by omega)]
      have r42_3 : W 42 3 = M 42 3 := by rw [hW, sU_ne (fun z => by omega)]
      have r43_3 : W 43 3 = M 43 3 := by rw [hW, sU_ne (fun z => by omega)]
      have r44_3 : W 44 3 = M 44 3 := by rw [hW, sU_ne (fun z => by omega)]
      have r45_3 : W 45 3 = M 45 3 := by rw [hW, sU_ne (fun z => by omega)]
      have r46_3 : W 46 3 = M 46 3 := by rw [hW, sU_ne (fun z => by omega)]
      have r47_3 : W 47 3 = M 47 3 := by rw [hW, sU_ne (fun z => by omega)]
      have r48_3 : W 48 3 = M 48 3 := by rw [hW, sU_ne (fun z => by omega)]
      have r49_3 : W 49 3 = M 49 3 := by rw [hW, sU_ne (fun z => by omega)]
      have r50_3 : W 50 3 = M 50 3 := by rw [hW, sU_ne (fun z => by omega)]
      have r51_3 : W 51 3 = M 51 3 := by rw [hW, sU_ne (fun z => by omega)]
      have r52_3 : W 52 3 = M 52 3 := by rw [hW, sU_ne (fun z => by omega)]
      have r53_3 : W 53 3 = M 53 3 := by rw [hW, sU_ne (fun z => by omega)]
      have r39_4 : W 39 4 = M 39 4 := by rw [hW, sU_ne (fun z => by omega)]
      have r40_4 : W 40 4 = M 40 4 := by rw [hW, sU_ne (fun z => by omega)]
      have r41_4 : W 41 4 = M 41 4 := by rw [hW, sU_ne (fun z => by omega)]
      have r42_4 : W 42 4 = M 42 4 := by rw [hW, sU_ne (fun z => by omega)]
      have r43_4 : W 43 4 = M 43 4 := by rw [hW, sU_ne (fun z => by omega)]
      have r44_4 : W 44 4 = M 44 4 := by rw [hW, sU_ne (fun z => by omega)]
      have r45_4 : W 45 4 = M 45 4 := by rw [hW, sU_ne (fun z => by omega)]
      have r46_4 : W 46 4 = M 46 4 := by rw [hW, sU_ne (fun z => by omega)]
      have r47_4 : W 47 4 = M 47 4 := by rw [hW, sU_ne (fun z => by omega)]
      have r39_5 : W 39 5 = M 39 5 := by rw [hW, sU_ne (fun z => by omega)]
      have r40_5 : W 40 5 = M 40 5 := by rw [hW, sU_ne (fun z => by omega)]
      have r41_5 : W 41 5 = M 41 5 := by rw [hW, sU_ne (fun z => by omega)]
      have r42_5 : W 42 5 = M 42 5 := by rw [hW, sU_ne (fun z => by omega)]
      have r43_5 : W 43 5 = M 43 5 := by rw [hW, sU_ne (fun z => by omega)]
      have r44_5 : W 44 5 = M 44 5 := by rw [hW, sU_ne (fun z => by omega)]
      have r45_5 : W 45 5 = M 45 5 := by rw [hW, sU_ne (fun z => by omega)]
      have r46_5 : W 46 5 = M 46 5 := by rw [hW, sU_ne (fun z => by omega)]
      have r47_5 : W 47 5 = M 47 5 := by rw [hW, sU_ne (fun z => by omega)]
      have r28_11 : W 28 11 = M 28 11 := by rw [hW, sU_ne (fun z => by omega)]
      have r28_12 : W 28 12 = M 28 12 := by rw [hW, sU_ne (fun z => by omega)]
      have r28_13 : W 28 13 = M 28 13 := by rw [hW, sU_ne (fun z => by omega)]
      have r28_14 : W 28 14 = M 28 14 := by rw [hW, sU_ne (fun z => by omega)]
      have r28_15 : W 28 15 = M 28 15 := by rw [hW, sU_ne (fun z => by omega)]
      have r93_12 : W 93 12 = M 93 12 := by rw [hW, sU_ne (fun z => by omega)]
      have r93_13 : W 93 13 = M 93 13 := by rw [hW, sU_ne (fun z => by omega)]
      have r93_14 : W 93 14 = M 93 14 := by rw [hW, sU_ne (fun z => by omega)]
      have r93_15 : W 93 15 = M 93 15 := by rw [hW, sU_ne (fun z => by omega)]
      have r93_16 : W 93 16 = M 93 16 := by rw [hW, sU_ne (fun z => by omega)]
      have c3 : ∀ k, W 3 k = M 3 k := fun k => by rw [hW, sU_ne (fun z => by omega)]
      have e3 : W 3 = M 3 := funext c3
      have c92 : ∀ k, W 92 k = M 92 k := fun k => by rw [hW, sU_ne (fun z => by omega)]
      have e92 : W 92 = M 92 := funext c92
      have c5 : ∀ k, W 5 k = M 5 k := fun k => by rw [hW, sU_ne (fun z => by omega)]
      have e5 : W 5 = M 5 := funext c5
      have c6 : ∀ k, W 6 k = M 6 k := fun k => by rw [hW, sU_ne (fun z => by omega)]
      have e6 : W 6 = M 6 := funext c6
      have c7 : ∀ k, W 7 k = M 7 k := fun k => by rw [hW, sU_ne (fun z => by omega)]
      have e7 : W 7 = M 7 := funext c7
      have c8 : ∀ k, W 8 k = M 8 k := fun k => by rw [hW, sU_ne (fun z => by omega)]
      have e8 : W 8 = M 8 := funext c8
      have c31 : ∀ k, W 31 k = M 31 k := fun k => by rw [hW, sU_ne (fun z => by omega)]
      have e31 : W 31 = M 31 := funext c31
      have c32 : ∀ k, W 32 k = M 32 k := fun k => by rw [hW, sU_ne (fun z => by omega)]
      have e32 : W 32 = M 32 := funext c32
      have c33 : ∀ k, W 33 k = M 33 k := fun k => by rw [hW, sU_ne (fun z => by omega)]
      have e33 : W 33 = M 33 := funext c33
      have c34 : ∀ k, W 34 k = M 34 k := fun k => by rw [hW, sU_ne (fun z => by omega)]
      have e34 : W 34 = M 34 := funext c34
      have c94 : ∀ k, W 94 k = M 94 k := fun k => by rw [hW, sU_ne (fun z => by omega)]
      have e94 : W 94 = M 94 := funext c94
      have c95 : ∀ k, W 95 k = M 95 k := fun k => by rw [hW, sU_ne (fun z => by omega)]
      have e95 : W 95 = M 95 := funext c95
      have c96 : ∀ k, W 96 k = M 96 k := fun k => by rw [hW, sU_ne (fun z => by omega)]
      have e96 : W 96 = M 96 := funext c96
      have c97 : ∀ k : Nat, k ≠ (1 * ρ 1 + 0).toNat → W 97 k = M 97 k := fun k hk => by rw [hW, sU_ne (fun z => by omega)]
      have a97 : W 97 (1 * ρ 1 + 0).toNat = 1 * ρ 2 + 0 := by rw [hW, sU_at]
      have c98 : ∀ k, W 98 k = M 98 k := fun k => by rw [hW, sU_ne (fun z => by omega)]
      have e98 : W 98 = M 98 := funext c98
      have c99 : ∀ k, W 99 k = M 99 k := fun k => by rw [hW, sU_ne (fun z => by omega)]
      have e99 : W 99 = M 99 := funext c99
      have c100 : ∀ k, W 100 k = M 100 k := fun k => by rw [hW, sU_ne (fun z => by omega)]
      have e100 : W 100 = M 100 := funext c100
      have c101 : ∀ k, W 101 k = M 101 k := fun k => by rw [hW, sU_ne (fun z => by omega)]
      have e101 : W 101 = M 101 := funext c101
      have c102 : ∀ k, W 102 k = M 102 k := fun k => by rw [hW, sU_ne (fun z => by omega)]
      have e102 : W 102 = M 102 := funext c102
      have c103 : ∀ k, W 103 k = M 103 k := fun k => by rw [hW, sU_ne (fun z => by omega)]
      have e103 : W 103 = M 103 := funext c103
      have c104 : ∀ k, W 104 k = M 104 k := fun k => by rw [hW, sU_ne (fun z => by omega)]
      have e104 : W 104 = M 104 := funext c104
      have c105 : ∀ k, W 105 k = M 105 k := fun k => by rw [hW, sU_ne (fun z => by omega)]
      have e105 : W 105 = M 105 := funext c105
      have c106 : ∀ k, W 106 k = M 106 k := fun k => by rw [hW, sU_ne (fun z => by omega)]
      have e106 : W 106 = M 106 := funext c106
      have c107 : ∀ k, W 107 k = M 107 k := fun k => by rw [hW, sU_ne (fun z => by omega)]
      have e107 : W 107 = M 107 := funext c107
      have hw : ∀ o k, 93 ≤ o → o ≤ 107 → ¬ (o = 97 ∧ k = (1 * ρ 1 + 0).toNat) → W o k = M o k := fun o k h1 h2 h3 => by rw [hW, sU_ne h3]
      have hx : ∀ o k, o ≠ 4 → o ≠ 91 → ¬ (o = 97 ∧ k = (1 * ρ 1 + 0).toNat) → W o k = M o k := fun o k h1 h2 h3 => by rw [hW, sU_ne h3]
      have e4 : ∀ k, (100 ≤ k ∧ k ≤ 208) ∨ k = 313 ∨ k = 314 → W 4 k = M 4 k := fun k hk => by rw [hW, sU_ne (fun z => by omega)]
      refine d3_ru (c := 97) (x := (1 * ρ 1 + 0).toNat) (gx_xD3 hI) (funext fun k => hx 3 k (by omega) (by omega) (by omega)) (funext fun k => hx 92 k (by omega) (by omega) (by omega)) e4 hw (by omega) (fun i hi ht hh => ?_)
      rw [r4_311] at hh
      exact ⟨hh, (fun z => by have z1 : i = 3 + 6 * ((1 * ρ 1 + 0).toNat - 9) := z.1; have z2 : 9 ≤ (1 * ρ 1 + 0).toNat := z.2; have t := ht.1 (by omega); rw [if_neg (by omega)] at t; omega)⟩
    have k_xDV : xDV W := by
      rw [hW]
      exact (uxDV (sinc_ok rfl _) hI.2.2.2.2.2.2.2.2.2.2.2.2.2.2.2.2.2.2.2.2.2.2.2.2.2.2.2.2.2.2.2.2.2.2.2.2.2.2.2.2.2.2.2.2.1)
    have k_xDP : xDP W := by
      have r : W 4 100 = 2 := by
        have e := m1
        rw [hW, sU_ne (fun z => by omega)]
        omega
      intro h
      rw [r] at h
      omega
    have k_xDE : xDE W := by
      have r4_301 : W 4 301 = M 4 301 := by rw [hW, sU_ne (fun z => by omega)]
      have r4_300 : W 4 300 = M 4 300 := by rw [hW, sU_ne (fun z => by omega)]
      have r93_0 : W 93 0 = M 93 0 := by rw [hW, sU_ne (fun z => by omega)]
      have r93_1 : W 93 1 = M 93 1 := by rw [hW, sU_ne (fun z => by omega)]
      have r93_2 : W 93 2 = M 93 2 := by rw [hW, sU_ne (fun z => by omega)]
      have r13_0 : W 13 0 = M 13 0 := by rw [hW, sU_ne (fun z => by omega)]
      have r14_0 : W 14 0 = M 14 0 := by rw [hW, sU_ne (fun z => by omega)]
      have r15_0 : W 15 0 = M 15 0 := by rw [hW, sU_ne (fun z => by omega)]
      have r16_0 : W 16 0 = M 16 0 := by rw [hW, sU_ne (fun z => by omega)]
      have r17_0 : W 17 0 = M 17 0 := by rw [hW, sU_ne (fun z => by omega)]
      have r18_0 : W 18 0 = M 18 0 := by rw [hW, sU_ne (fun z => by omega)]
      have r19_0 : W 19 0 = M 19 0 := by rw [hW, sU_ne (fun z => by omega)]
      have r20_0 : W 20 0 = M 20 0 := by rw [hW, sU_ne (fun z => by omega)]
      have r21_0 : W 21 0 = M 21 0 := by rw [hW, sU_ne (fun z => by omega)]
      have r22_0 : W 22 0 = M 22 0 := by rw [hW, sU_ne (fun z => by omega)]
      have r23_0 : W 23 0 = M 23 0 := by rw [hW, sU_ne (fun z => by omega)]
      have r24_0 : W 24 0 = M 24 0 := by rw [hW, sU_ne (fun z => by omega)]
      have r25_0 : W 25 0 = M 25 0 := by rw [hW, sU_ne (fun z => by omega)]
      have r26_0 : W 26 0 = M 26 0 := by rw [hW, sU_ne (fun z => by omega)]
      have r27_0 : W 27 0 = M 27 0 := by rw [hW, sU_ne (fun z => by omega)]
      have r13_1 : W 13 1 = M 13 1 := by rw [hW, sU_ne (fun z => by omega)]
      have r14_1 : W 14 1 = M 14 1 := by rw [hW, sU_ne (fun z => by omega)]
      have r15_1 : W 15 1 = M 15 1 := by rw [hW, sU_ne (fun z => by omega)]
      have r16_1 : W 16 1 = M 16 1 := by rw [hW, sU_ne (fun z => by omega)]
      have r17_1 : W 17 1 = M 17 1 := by rw [hW, sU_ne (fun z => by omega)]
      have r18_1 : W 18 1 = M 18 1 := by rw [hW, sU_ne (fun z => by omega)]
      have r19_1 : W 19 1 = M 19 1 := by rw [hW, sU_ne (fun z => by omega)]
      have r20_1 : W 20 1 = M 20 1 := by rw [hW, sU_ne (fun z => by omega)]
      have r21_1 : W 21 1 = M 21 1 := by rw [hW, sU_ne (fun z => by omega)]
      have r22_1 : W 22 1 = M 22 1 := by rw [hW, sU_ne (fun z => by omega)]
      have r23_1 : W 23 1 = M 23 1 := by rw [hW, sU_ne (fun z => by omega)]
      have r24_1 : W 24 1 = M 24 1 := by rw [hW, sU_ne (fun z => by omega)]
      have r25_1 : W 25 1 = M 25 1 := by rw [hW, sU_ne (fun z => by omega)]
      have r26_1 : W 26 1 = M 26 1 := by rw [hW, sU_ne (fun z => by omega)]
      have r27_1 : W 27 1 = M 27 1 := by rw [hW, sU_ne (fun z => by omega)]
      have r13_2 : W 13 2 = M 13 2 := by rw [hW, sU_ne (fun z => by omega)]
      have r14_2 : W 14 2 = M 14 2 := by rw [hW, sU_ne (fun z => by omega)]
      have r15_2 : W 15 2 = M 15 2 := by rw [hW, sU_ne (fun z => by omega)]
      have r16_2 : W 16 2 = M 16 2 := by rw [hW, sU_ne (fun z => by omega)]
      have r17_2 : W 17 2 = M 17 2 := by rw [hW, sU_ne (fun z => by omega)]
      have r18_2 : W 18 2 = M 18 2 := by rw [hW, sU_ne (fun z => by omega)]
      have r19_2 : W 19 2 = M 19 2 := by rw [hW, sU_ne (fun z => by omega)]
      have r20_2 : W 20 2 = M 20 2 := by rw [hW, sU_ne (fun z => by omega)]
      have r21_2 : W 21 2 = M 21 2 := by rw [hW, sU_ne (fun z => by omega)]
      have r22_2 : W 22 2 = M 22 2 := by rw [hW, sU_ne (fun z => by omega)]
      have r23_2 : W 23 2 = M 23 2 := by rw [hW, sU_ne (fun z => by omega)]
      have r24_2 : W 24 2 = M 24 2 := by rw [hW, sU_ne (fun z => by omega)]
      have r25_2 : W 25 2 = M 25 2 := by rw [hW, sU_ne (fun z => by omega)]
      have r26_2 : W 26 2 = M 26 2 := by rw [hW, sU_ne (fun z => by omega)]
      have r27_2 : W 27 2 = M 27 2 := by rw [hW, sU_ne (fun z => by omega)]
      have r13_3 : W 13 3 = M 13 3 := by rw [hW, sU_ne (fun z => by omega)]
      have r14_3 : W 14 3 = M 14 3 := by rw [hW, sU_ne (fun z => by omega)]
      have r15_3 : W 15 3 = M 15 3 := by rw [hW, sU_ne (fun z => by omega)]
      have r16_3 : W 16 3 = M 16 3 := by rw [hW, sU_ne (fun z => by omega)]
      have r17_3 : W 17 3 = M 17 3 := by rw [hW, sU_ne (fun z => by omega)]
      have r18_3 : W 18 3 = M 18 3 := by rw [hW, sU_ne (fun z => by omega)]
      have r19_3 : W 19 3 = M 19 3 := by rw [hW, sU_ne (fun z => by omega)]
      have r20_3 : W 20 3 = M 20 3 := by rw [hW, sU_ne (fun z => by omega)]
      have r21_3 : W 21 3 = M 21 3 := by rw [hW, sU_ne (fun z => by omega)]
      have r22_3 : W 22 3 = M 22 3 := by rw [hW, sU_ne (fun z => by omega)]
      have r23_3 : W 23 3 = M 23 3 := by rw [hW, sU_ne (fun z => by omega)]
      have r24_3 : W 24 3 = M 24 3 := by rw [hW, sU_ne (fun z => by omega)]
      have r25_3 : W 25 3 = M 25 3 := by rw [hW, sU_ne (fun z => by omega)]
      have r26_3 : W 26 3 = M 26 3 := by rw [hW, sU_ne (fun z => by omega)]
      have r27_3 : W 27 3 = M 27 3 := by rw [hW, sU_ne (fun z => by omega)]
      have r13_4 : W 13 4 = M 13 4 := by rw [hW, sU_ne (fun z => by omega)]
      have r14_4 : W 14 4 = M 14 4 := by rw [hW, sU_ne (fun z => by omega)]
      have r15_4 : W 15 4 = M 15 4 := by rw [hW, sU_ne (fun z => by omega)]
      have r16_4 : W 16 4 = M 16 4 := by rw [hW, sU_ne (fun z => by omega)]
      have r17_4 : W 17 4 = M 17 4 := by rw [hW, sU_ne (fun z => by omega)]
      have r18_4 : W 18 4 = M 18 4 := by rw [hW, sU_ne (fun z => by omega)]
      have r19_4 : W 19 4 = M 19 4 := by rw [hW, sU_ne (fun z => by omega)]
      have r20_4 : W 20 4 = M 20 4 := by rw [hW, sU_ne (fun z => by omega)]
      have r21_4 : W 21 4 = M 21 4 := by rw [hW, sU_ne (fun z => by omega)]
      have r13_5 : W 13 5 = M 13 5 := by rw [hW, sU_ne (fun z => by omega)]
      have r14_5 : W 14 5 = M 14 5 := by rw [hW, sU_ne (fun z => by omega)]
      have r15_5 : W 15 5 = M 15 5 := by rw [hW, sU_ne (fun z => by omega)]
      have r16_5 : W 16 5 = M 16 5 := by rw [hW, sU_ne (fun z => by omega)]
      have r17_5 : W 17 5 = M 17 5 := by rw [hW, sU_ne (fun z => by omega)]
      have r18_5 : W 18 5 = M 18 5 := by rw [hW, sU_ne (fun z => by omega)]
      have r19_5 : W 19 5 = M 19 5 := by rw [hW, sU_ne (fun z => by omega)]
      have r20_5 : W 20 5 = M 20 5 := by rw [hW, sU_ne (fun z => by omega)]
      have r21_5 : W 21 5 = M 21 5 := by rw [hW, sU_ne (fun z => by omega)]
      have r2_11 : W 2 11 = M 2 11 := by rw [hW, sU_ne (fun z => by omega)]
      have r2_12 : W 2 12 = M 2 12 := by rw [hW, sU_ne (fun z => by omega)]
      have r2_13 : W 2 13 = M 2 13 := by rw [hW, sU_ne (fun z => by omega)]
      have r2_14 : W 2 14 = M 2 14 := by rw [hW, sU_ne (fun z => by omega)]
      have r2_15 : W 2 15 = M 2 15 := by rw [hW, sU_ne (fun z => by omega)]
      have r39_0 : W 39 0 = M 39 0 := by rw [hW, sU_ne (fun z => by omega)]
      have r40_0 : W 40 0 = M 40 0 := by rw [hW, sU_ne (fun z => by omega)]
      have r41_0 : W 41 0 = M 41 0 := by rw [hW, sU_ne (fun z => by omega)]
      have r42_0 : W 42 0 = M 42 0 := by rw [hW, sU_ne (fun z => by omega)]
      have r43_0 : W 43 0 = M 43 0 := by rw [hW, sU_ne (fun z => by omega)]
      have r44_0 : W 44 0 = M 44 0 := by rw [hW, sU_ne (fun z => by omega)]
      have r45_0 : W 45 0 = M 45 0 := by rw [hW, sU_ne (fun z => by omega)]
      have r46_0 : W 46 0 = M 46 0 := by rw [hW, sU_ne (fun z => by omega)]
      have r47_0 : W 47 0 = M 47 0 := by rw [hW, sU_ne (fun z => by omega)]
      have r48_0 : W 48 0 = M 48 0 := by rw [hW, sU_ne (fun z => by omega)]
      have r49_0 : W 49 0 = M 49 0 := by rw [hW, sU_ne (fun z => by omega)]
      have r50_0 : W 50 0 = M 50 0 := by rw [hW, sU_ne (fun z => by omega)]
      have r51_0 : W 51 0 = M 51 0 := by rw [hW, sU_ne (fun z => by omega)]
      have r52_0 : W 52 0 = M 52 0 := by rw [hW, sU_ne (fun z => by omega)]
      have r53_0 : W 53 0 = M 53 0 := by rw [hW, sU_ne (fun z => by omega)]
      have r39_1 : W 39 1 = M 39 1 := by rw [hW, sU_ne (fun z => by omega)]
      have r40_1 : W 40 1 = M 40 1 := by rw [hW, sU_ne (fun z => by omega)]
      have r41_1 : W 41 1 = M 41 1 := by rw [hW, sU_ne (fun z => by omega)]
      have r42_1 : W 42 1 = M 42 1 := by rw [hW, sU_ne (fun z => by omega)]
      have r43_1 : W 43 1 = M 43 1 := by rw [hW, sU_ne (fun z => by omega)]
      have r44_1 : W 44 1 = M 44 1 := by rw [hW, sU_ne (fun z => by omega)]
      have r45_1 : W 45 1 = M 45 1 := by rw [hW, sU_ne (fun z => by omega)]
      have r46_1 : W 46 1 = M 46 1 := by rw [hW, sU_ne (fun z => by omega)]
      have r47_1 : W 47 1 = M 47 1 := by rw [hW, sU_ne (fun z => by omega)]
      have r48_1 : W 48 1 = M 48 1 := by rw [hW, sU_ne (fun z => by omega)]
      have r49_1 : W 49 1 = M 49 1 := by rw [hW, sU_ne (fun z => by omega)]
      have r50_1 : W 50 1 = M 50 1 := by rw [hW, sU_ne (fun z => by omega)]
      have r51_1 : W 51 1 = M 51 1 := by rw [hW, sU_ne (fun z => by omega)]
      have r52_1 : W 52 1 = M 52 1 := by rw [hW, sU_ne (fun z => by omega)]
      have r53_1 : W 53 1 = M 53 1 := by rw [hW, sU_ne (fun z => by omega)]
      have r39_2 : W 39 2 = M 39 2 := by rw [hW, sU_ne (fun z => by omega)]
      have r40_2 : W 40 2 = M 40 2 := by rw [hW, sU_ne (fun z => by omega)]
      have r41_2 : W 41 2 = M 41 2 := by rw [hW, sU_ne (fun z => by omega)]
      have r42_2 : W 42 2 = M 42 2 := by rw [hW, sU_ne (fun z => by omega)]
      have r43_2 : W 43 2 = M 43 2 := by rw [hW, sU_ne (fun z => by omega)]
      have r44_2 : W 44 2 = M 44 2 := by rw [hW, sU_ne (fun z => by omega)]
      have r45_2 : W 45 2 = M 45 2 := by rw [hW, sU_ne (fun z => by omega)]
      have r46_2 : W 46 2 = M 46 2 := by rw [hW, sU_ne (fun z => by omega)]
      have r47_2 : W 47 2 = M 47 2 := by rw [hW, sU_ne (fun z => by omega)]
      have r48_2 : W 48 2 = M 48 2 := by rw [hW, sU_ne (fun z => by omega)]
      have r49_2 : W 49 2 = M 49 2 := by rw [hW, sU_ne (fun z => by omega)]
      have r50_2 : W 50 2 = M 50 2 := by rw [hW, sU_ne (fun z => by omega)]
      have r51_2 : W 51 2 = M 51 2 := by rw [hW, sU_ne (fun z => by omega)]
      have r52_2 : W 52 2 = M 52 2 := by rw [hW, sU_ne (fun z => by omega)]
      have r53_2 : W 53 2 = M 53 2 := by rw [hW, sU_ne (fun z => by omega)]
      have r39_3 : W 39 3 = M 39 3 := by rw [hW, sU_ne (fun z => by omega)]
      have r40_3 : W 40 3 = M 40 3 := by rw [hW, sU_ne (fun z => by omega)]
      have r41_3 : W 41 3 = M 41 3 := by rw [hW, sU_ne (fun z => by omega)]
      have r42_3 : W 42 3 = M 42 3 := by rw [hW, sU_ne (fun z => by omega)]
      have r43_3 : W 43 3 = M 43 3 := by rw [hW, sU_ne (fun z => by omega)]
      have r44_3 : W 44 3 = M 44 3 := by rw [hW, sU_ne (fun z => by omega)]
      have r45_3 : W 45 3 = M 45 3 := by rw [hW, sU_ne (fun z => by omega)]
      have r46_3 : W 46 3 = M 46 3 := by rw [hW, sU_ne (fun z => by omega)]
      have r47_3 : W 47 3 = M 47 3 := by rw [hW, sU_ne (fun z => by omega)]
      have r48_3 : W 48 3 = M 48 3 := by rw [hW, sU_ne (fun z => by omega)]
      have r49_3 : W 49 3 = M 49 3 := by rw [hW, sU_ne (fun z => by omega)]
      have r50_3 : W 50 3 = M 50 3 := by rw [hW, sU_ne (fun z => by omega)]
      have r51_3 : W 51 3 = M 51 3 := by rw [hW, sU_ne (fun z => by omega)]
      have r52_3 : W 52 3 = M 52 3 := by rw [hW, sU_ne (fun z => by omega)]
      have r53_3 : W 53 3 = M 53 3 := by rw [hW, sU_ne (fun z => by omega)]
      have r39_4 : W 39 4 = M 39 4 := by rw [hW, sU_ne (fun z => by omega)]
      have r40_4 : W 40 4 = M 40 4 := by rw [hW, sU_ne (fun z => by omega)]
      have r41_4 : W 41 4 = M 41 4 := by rw [hW, sU_ne (fun z => by omega)]
      have r42_4 : W 42 4 = M 42 4 := by rw [hW, sU_ne (fun z => by omega)]
      have r43_4 : W 43 4 = M 43 4 := by rw [hW, sU_ne (fun z => by omega)]
      have r44_4 : W 44 4 = M 44 4 := by rw [hW, sU_ne (fun z => by omega)]
      have r45_4 : W 45 4 = M 45 4 := by rw [hW, sU_ne (fun z => by omega)]
      have r46_4 : W 46 4 = M 46 4 := by rw [hW, sU_ne (fun z => by omega)]
      have r47_4 : W 47 4 = M 47 4 := by rw [hW, sU_ne (fun z => by omega)]
      have r39_5 : W 39 5 = M 39 5 := by rw [hW, sU_ne (fun z => by omega)]
      have r40_5 : W 40 5 = M 40 5 := by rw [hW, sU_ne (fun z => by omega)]
      have r41_5 : W 41 5 = M 41 5 := by rw [hW, sU_ne (fun z => by omega)]
      have r42_5 : W 42 5 = M 42 5 := by rw [hW, sU_ne (fun z => by omega)]
      have r43_5 : W 43 5 = M 43 5 := by rw [hW, sU_ne (fun z => by omega)]
      have r44_5 : W 44 5 = M 44 5 := by rw [hW, sU_ne (fun z => by omega)]
      have r45_5 : W 45 5 = M 45 5 := by rw [hW, sU_ne (fun z => by omega)]
      have r46_5 : W 46 5 = M 46 5 := by rw [hW, sU_ne (fun z => by omega)]
      have r47_5 : W 47 5 = M 47 5 := by rw [hW, sU_ne (fun z => by omega)]
      have r28_11 : W 28 11 = M 28 11 := by rw [hW, sU_ne (fun z => by omega)]
      have r28_12 : W 28 12 = M 28 12 := by rw [hW, sU_ne (fun z => by omega)]
      have r28_13 : W 28 13 = M 28 13 := by rw [hW, sU_ne (fun z => by omega)]
      have r28_14 : W 28 14 = M 28 14 := by rw [hW, sU_ne (fun z => by omega)]
      have r28_15 : W 28 15 = M 28 15 := by rw [hW, sU_ne (fun z => by omega)]
      have r93_3 : W 93 3 = M 93 3 := by rw [hW, sU_ne (fun z => by omega)]
      have r93_4 : W 93 4 = M 93 4 := by rw [hW, sU_ne (fun z => by omega)]
      have r93_5 : W 93 5 = M 93 5 := by rw [hW, sU_ne (fun z => by omega)]
      have r93_6 : W 93 6 = M 93 6 := by rw [hW, sU_ne (fun z => by omega)]
      have r93_7 : W 93 7 = M 93 7 := by rw [hW, sU_ne (fun z => by omega)]
      have c5 : ∀ k, W 5 k = M 5 k := fun k => by rw [hW, sU_ne (fun z => by omega)]
      have e5 : W 5 = M 5 := funext c5
      have c6 : ∀ k, W 6 k = M 6 k := fun k => by rw [hW, sU_ne (fun z => by omega)]
      have e6 : W 6 = M 6 := funext c6
      have c7 : ∀ k, W 7 k = M 7 k := fun k => by rw [hW, sU_ne (fun z => by omega)]
      have e7 : W 7 = M 7 := funext c7
      have c8 : ∀ k, W 8 k = M 8 k := fun k => by rw [hW, sU_ne (fun z => by omega)]
      have e8 : W 8 = M 8 := funext c8
      have c31 : ∀ k, W 31 k = M 31 k := fun k => by rw [hW, sU_ne (fun z => by omega)]
      have e31 : W 31 = M 31 := funext c31
      have c32 : ∀ k, W 32 k = M 32 k := fun k => by rw [hW, sU_ne (fun z => by omega)]
      have e32 : W 32 = M 32 := funext c32
      have c33 : ∀ k, W 33 k = M 33 k := fun k => by rw [hW, sU_ne (fun z => by omega)]
      have e33 : W 33 = M 33 := funext c33
      have c34 : ∀ k, W 34 k = M 34 k := fun k => by rw [hW, sU_ne (fun z => by omega)]
      have e34 : W 34 = M 34 := funext c34
      have c94 : ∀ k, W 94 k = M 94 k := fun k => by rw [hW, sU_ne (fun z => by omega)]
      have e94 : W 94 = M 94 := funext c94
      have c95 : ∀ k, W 95 k = M 95 k := fun k => by rw [hW, sU_ne (fun z => by omega)]
      have e95 : W 95 = M 95 := funext c95
      have c96 : ∀ k, W 96 k = M 96 k := fun k => by rw [hW, sU_ne (fun z => by omega)]
      have e96 : W 96 = M 96 := funext c96
      have c97 : ∀ k : Nat, k ≠ (1 * ρ 1 + 0).toNat → W 97 k = M 97 k := fun k hk => by rw [hW, sU_ne (fun z => by omega)]
      have a97 : W 97 (1 * ρ 1 + 0).toNat = 1 * ρ 2 + 0 := by rw [hW, sU_at]
      have c98 : ∀ k, W 98 k = M 98 k := fun k => by rw [hW, sU_ne (fun z => by omega)]
      have e98 : W 98 = M 98 := funext c98
      have c99 : ∀ k, W 99 k = M 99 k := fun k => by rw [hW, sU_ne (fun z => by omega)]
      have e99 : W 99 = M 99 := funext c99
      have c100 : ∀ k, W 100 k = M 100 k := fun k => by rw [hW, sU_ne (fun z => by omega)]
      have e100 : W 100 = M 100 := funext c100
      have c101 : ∀ k, W 101 k = M 101 k := fun k => by rw [hW, sU_ne (fun z => by omega)]
      have e101 : W 101 = M 101 := funext c101
      have c102 : ∀ k, W 102 k = M 102 k := fun k => by rw [hW, sU_ne (fun z => by omega)]
      have e102 : W 102 = M 102 := funext c102
      have c103 : ∀ k, W 103 k = M 103 k := fun k => by rw [hW, sU_ne (fun z => by omega)]
      have e103 : W 103 = M 103 := funext c103
      have c104 : ∀ k, W 104 k = M 104 k := fun k => by rw [hW, sU_ne (fun z => by omega)]
      have e104 : W 104 = M 104 := funext c104
      have c105 : ∀ k, W 105 k = M 105 k := fun k => by rw [hW, sU_ne (fun z => by omega)]
      have e105 : W 105 = M 105 := funext c105
      have c106 : ∀ k, W 106 k = M 106 k := fun k => by rw [hW, sU_ne (fun z => by omega)]
      have e106 : W 106 = M 106 := funext c106
      have c107 : ∀ k, W 107 k = M 107 k := fun k => by rw [hW, sU_ne (fun z => by omega)]
      have e107 : W 107 = M 107 := funext c107
      have hw : ∀ o k, 93 ≤ o → o ≤ 107 → ¬ (o = 97 ∧ k = (1 * ρ 1 + 0).toNat) → W o k = M o k := fun o k h1 h2 h3 => by rw [hW, sU_ne h3]
      have hx : ∀ o k, o ≠ 4 → o ≠ 91 → ¬ (o = 97 ∧ k = (1 * ρ 1 + 0).toNat) → W o k = M o k := fun o k h1 h2 h3 => by rw [hW, sU_ne h3]
      intro h i hi ht
      rw [r4_301] at h
      rw [r93_0, r93_1, r93_2] at ht
      rw [r4_300, drl_up hw (by show 9 ≤ (1 * ρ 1 + 0).toNat; omega) hi, dcl_hi (fun o k h1 h2 => hx o k h2 (by omega) (by omega))]
      exact gx_xDE hI h i hi ht
    have k_xQ5 : xQ5 W := by
      rw [hW]
      exact (uxQ5 (sinc_ok rfl _) hI.2.2.2.2.2.2.2.2.2.2.2.2.2.2.2.2.2.2.2.2.2.2.2.2.2.2.2.2.2.2.2.2.2.2.2.2.2.2.2.2.2.2.2.2.2.2.2.1)
    have k_xQL : xQL W := by
      have r : W 4 350 = 0 := by
        have e := m0
        rw [hW, sU_ne (fun z => by omega)]
        omega
      intro h
      rw [r] at h
      omega
    have k_xQW : xQW W := by
      rw [hW]
      exact (uxQW (sinc_ok rfl _) hI.2.2.2.2.2.2.2.2.2.2.2.2.2.2.2.2.2.2.2.2.2.2.2.2.2.2.2.2.2.2.2.2.2.2.2.2.2.2.2.2.2.2.2.2.2.2.2.2.2.1)
    have k_xQM : xQM W := by
      rw [hW]
      exact (uxQM (sinc_ok rfl _) hI.2.2.2.2.2.2.2.2.2.2.2.2.2.2.2.2.2.2.2.2.2.2.2.2.2.2.2.2.2.2.2.2.2.2.2.2.2.2.2.2.2.2.2.2.2.2.2.2.2.2.1)
    have k_xQH : xQH W := by
      rw [hW]
      exact (uxQH (sinc_ok rfl _) hI.2.2.2.2.2.2.2.2.2.2.2.2.2.2.2.2.2.2.2.2.2.2.2.2.2.2.2.2.2.2.2.2.2.2.2.2.2.2.2.2.2.2.2.2.2.2.2.2.2.2.2)
    have k_XC : XC W := ⟨k_xS1, k_xS2, k_xS3, k_xS4, k_xS5, k_xS6, k_xS7, k_xS8, k_xS9, k_xSA, k_xSG, k_xSF, k_xSB, k_xSC, k_xSD, k_xSE, k_xSW, k_xST, k_xSP, k_xSL, k_xSM, k_xSI, k_xD3, k_xDV, k_xDP, k_xDE, k_xQ5, k_xQL, k_xQW, k_xQM, k_xQH⟩
    have kXB : XB W := ⟨k_xN1, k_xN2, k_xN3, k_xN4, k_xN5, k_xN6, k_xH1, k_xK1, k_xC1, k_xRW, k_xWT, k_xCU, k_xG2, k_xG3, k_xG4, k_xG5, k_xG6, k_XC⟩
    exact ⟨base, k2, k3, kXA, kXB⟩
-- rH97
def xr_588 : qRu := (3, [[(-9, 0), (1, 1)], [(17, 0), (-1, 1)]], [(4, 350, []), (4, 100, [(2, 0)]), (4, 311, [(999, 0)])], [(97, [(1, 1)], [(1, 2)])], [(4, 311, [(-51, 0), (6, 1)])], [])
theorem xo_588 : qRok xr_588 := by
  intro ρ M h0 hf hm hI
  have f0 := hf [(-9, 0), (1, 1)] (by decide)
  have f1 := hf [(17, 0), (-1, 1)] (by decide)
  simp only [qD, h0] at f0 f1
  have m0 : M 4 350 = 0 := hm (4, 350, []) (by decide)
  have m1 : M 4 100 = 2 * ρ 0 + 0 := hm (4, 100, [(2, 0)]) (by decide)
  have m2 : M 4 311 = 999 * ρ 0 + 0 := hm (4, 311, [(999, 0)]) (by decide)
  simp only [h0] at m1 m2
  refine ⟨ρ, fun _ _ => rfl, fun f h => ?_, ?_⟩
  · exact nomatch h
  · show sI (sU (sU M 97 (1 * ρ 1 + 0 : Int).toNat (1 * ρ 2 + 0)) 4 311 (-51 * ρ 0 + (6 * ρ 1 + 0)))
    obtain ⟨W, hW⟩ : ∃ W, W = (sU (sU M 97 (1 * ρ 1 + 0).toNat (1 * ρ 2 + 0)) 4 311 (-51 * ρ 0 + (6 * ρ 1 + 0))) := ⟨_, rfl⟩
    rw [← hW]
    have base : sI0 W := by
      rw [hW]
      exact (si_u0 (si_u0 hI.1 (fun r hr => by cases hr)) (fun r hr => by cases hr))
    have k2 : XI2 W := by
      rw [hW]
      exact (xi2_u rfl (xi2_u (sinc_ok rfl _) hI.2.1))
    have k3 : XI3 W := by
      rw [hW]
      exact (xi3_u rfl (xi3_u (sinc_ok rfl _) hI.2.2.1))
    have kXA : XA W := by
      rw [hW]
      exact (uXA rfl (uXA (sinc_ok rfl _) hI.2.2.2.1))
    have k_xN1 : xN1 W := by
      rw [hW]
      exact (uxN1 rfl (uxN1 (sinc_ok rfl _) hI.2.2.2.2.1))
    have k_xN2 : xN2 W := by
      rw [hW]
      exact (uxN2 rfl (uxN2 (sinc_ok rfl _) hI.2.2.2.2.2.1))
    have k_xN3 : xN3 W := by
      rw [hW]
      exact (uxN3 rfl (uxN3 (sinc_ok rfl _) hI.2.2.2.2.2.2.1))
    have k_xN4 : xN4 W := by
      rw [hW]
      exact (uxN4 rfl (uxN4 (sinc_ok rfl _) hI.2.2.2.2.2.2.2.1))
    have k_xN5 : xN5 W := by
      rw [hW]
      exact (uxN5 rfl (uxN5 (sinc_ok rfl _) hI.2.2.2.2.2.2.2.2.1))
    have k_xN6 : xN6 W := by
      rw [hW]
      exact (uxN6 rfl (uxN6 (sinc_ok rfl _) hI.2.2.2.2.2.2.2.2.2.1))
    have k_xH1 : xH1 W := by
      rw [hW]
      exact (uxH1 rfl (uxH1 (sinc_ok rfl _) hI.2.2.2.2.2.2.2.2.2.2.1))
    have k_xK1 : xK1 W := by
      rw [hW]
      exact (uxK1 rfl (uxK1 (sinc_ok rfl _) hI.2.2.2.2.2.2.2.2.2.2.2.1))
    have k_xC1 : xC1 W := by
      rw [hW]
      exact (uxC1 rfl (uxC1 (sinc_ok rfl _) hI.2.2.2.2.2.2.2.2.2.2.2.2.1))
    have k_xRW : xRW W := by
      rw [hW]
      exact (uxRW rfl (uxRW (sinc_ok rfl _) hI.2.2.2.2.2.2.2.2.2.2.2.2.2.1))
    have k_xWT : xWT W := by
      rw [hW]
      exact (uxWT rfl (uxWT (sinc_ok rfl _) hI.2.2.2.2.2.2.2.2.2.2.2.2.2.2.1))
    have k_xCU : xCU W := by
      rw [hW]
      exact (uxCU rfl (uxCU (sinc_ok rfl _) hI.2.2.2.2.2.2.2.2.2.2.2.2.2.2.2.1))
    have k_xG2 : xG2 W := by
      rw [hW]
      exact (uxG2 rfl (uxG2 (sinc_ok rfl _) hI.2.2.2.2.2.2.2.2.2.2.2.2.2.2.2.2.1))
    have k_xG3 : xG3 W := by
      rw [hW]
      exact (uxG3 rfl (uxG3 (sinc_ok rfl _) hI.2.2.2.2.2.2.2.2.2.2.2.2.2.2.2.2.2.1))
    have k_xG4 : xG4 W := by
      rw [hW]
      exact (uxG4 rfl (uxG4 (sinc_ok rfl _) hI.2.2.2.2.2.2.2.2.2.2.2.2.2.2.2.2.2.2.1))
    have k_xG5 : xG5 W := by
      rw [hW]
      exact (uxG5 rfl (uxG5 (sinc_ok rfl _) hI.2.2.2.2.2.2.2.2.2.2.2.2.2.2.2.2.2.2.2.1))
    have k_xG6 : xG6 W := by
      rw [hW]
      exact (uxG6 rfl (uxG6 (sinc_ok rfl _) hI.2.2.2.2.2.2.2.2.2.2.2.2.2.2.2.2.2.2.2.2.1))
    have k_xS1 : xS1 W := by
      rw [hW]
      exact (uxS1 rfl (uxS1 (sinc_ok rfl _) hI.2.2.2.2.2.2.2.2.2.2.2.2.2.2.2.2.2.2.2.2.2.1))
    have k_xS2 : xS2 W := by
      rw [hW]
      exact (uxS2 rfl (uxS2 (sinc_ok rfl _) hI.2.2.2.2.2.2.2.2.2.2.2.2.2.2.2.2.2.2.2.2.2.2.1))
    have k_xS3 : xS3 W := by
      rw [hW]
      exact (uxS3 rfl (uxS3 (sinc_ok rfl _) hI.2.2.2.2.2.2.2.2.2.2.2.2.2.2.2.2.2.2.2.2.2.2.2.1))
    have k_xS4 : xS4 W := by
      rw [hW]
      exact (uxS4 rfl (uxS4 (sinc_ok rfl _) hI.2.2.2.2.2.2.2.2.2.2.2.2.2.2.2.2.2.2.2.2.2.2.2.2.1))
    have k_xS5 : xS5 W := by
      rw [hW]
      exact (uxS5 rfl (uxS5 (sinc_ok rfl _) hI.2.2.2.2.2.2.2.2.2.2.2.2.2.2.2.2.2.2.2.2.2.2.2.2.2.1))
    have k_xS6 : xS6 W := by
      rw [hW]
      exact (uxS6 rfl (uxS6 (sinc_ok rfl _) hI.2.2.2.2.2.2.2.2.2.2.2.2.2.2.2.2.2.2.2.2.2.2.2.2.2.2.1))
    have k_xS7 : xS7 W := by
      rw [hW]
      exact (uxS7 rfl (uxS7 (sinc_ok rfl _) hI.2.2.2.2.2.2.2.2.2.2.2.2.2.2.2.2.2.2.2.2.2.2.2.2.2.2.2.1))
    have k_xS8 : xS8 W := by
      rw [hW]
      exact (uxS8 rfl (uxS8 (sinc_ok rfl _) hI.2.2.2.2.2.2.2.2.2.2.2.2.2.2.2.2.2.2.2.2.2.2.2.2.2.2.2.2.1))
    have k_xS9 : xS9 W := by
      rw [hW]
      exact (uxS9 rfl (uxS9 (sinc_ok rfl _) hI.2.2.2.2.2.2.2.2.2.2.2.2.2.2.2.2.2.2.2.2.2.2.2.2.2.2.2.2.2.1))
    have k_xSA : xSA W := by
      rw [hW]
      exact (uxSA rfl (uxSA (sinc_ok rfl _) hI.2.2.2.2.2.2.2.2.2.2.2.2.2.2.2.2.2.2.2.2.2.2.2.2.2.2.2.2.2.2.1))
    have k_xSG : xSG W := by
      rw [hW]
      exact (uxSG rfl (uxSG (sinc_ok rfl _) hI.2.2.2.2.2.2.2.2.2.2.2.2.2.2.2.2.2.2.2.2.2.2.2.2.2.2.2.2.2.2.2.1))
    have k_xSF : xSF W := by
      rw [hW]
      exact (uxSF rfl (uxSF (sinc_ok rfl _) hI.2.2.2.2.2.2.2.2.2.2.2.2.2.2.2.2.2.2.2.2.2.2.2.2.2.2.2.2.2.2.2.2.1))
    have k_xSB : xSB W := by
      rw [hW]
      exact (uxSB rfl (uxSB (sinc_ok rfl _) hI.2.2.2.2.2.2.2.2.2.2.2.2.2.2.2.2.2.2.2.2.2.2.2.2.2.2.2.2.2.2.2.2.2.1))
    have k_xSC : xSC W := by
      rw [hW]
      exact (uxSC rfl (uxSC (sinc_ok rfl _) hI.2.2.2.2.2.2.2.2.2.2.2.2.2.2.2.2.2.2.2.2.2.2.2.2.2.2.2.2.2.2.2.2.2.2.1))
    have k_xSD : xSD W := by
      rw [hW]
      exact (uxSD rfl (uxSD (sinc_ok rfl _) hI.2.2.2.2.2.2.2.2.2.2.2.2.2.2.2.2.2.2.2.2.2.2.2.2.2.2.2.2.2.2.2.2.2.2.2.1))
    have k_xSE : xSE W := by
      rw [hW]
      exact (uxSE rfl (uxSE (sinc_ok rfl _) hI.2.2.2.2.2.2.2.2.2.2.2.2.2.2.2.2.2.2.2.2.2.2.2.2.2.2.2.2.2.2.2.2.2.2.2.2.1))
    have k_xSW : xSW W := by
      rw [hW]
      exact (uxSW rfl (uxSW (sinc_ok rfl _) hI.2.2.2.2.2.2.2.2.2.2.2.2.2.2.2.2.2.2.2.2.2.2.2.2.2.2.2.2.2.2.2.2.2.2.2.2.2.1))
    have k_xST : xST W := by
      rw [hW]
      exact (uxST rfl (uxST (sinc_ok rfl _) hI.2.2.2.2.2.2.2.2.2.2.2.2.2.2.2.2.2.2.2.2.2.2.2.2.2.2.2.2.2.2.2.2.2.2.2.2.2.2.1))
    have k_xSP : xSP W := by
      rw [hW]
      exact (uxSP rfl (uxSP (sinc_ok rfl _) hI.2.2.2.2.2.2.2.2.2.2.2.2.2.2.2.2.2.2.2.2.2.2.2.2.2.2.2.2.2.2.2.2.2.2.2.2.2.2.2.1))
    have k_xSL : xSL W := by
      rw [hW]
      exact (uxSL rfl (uxSL (sinc_ok rfl _) hI.2.2.2.2.2.2.2.2.2.2.2.2.2.2.2.2.2.2.2.2.2.2.2.2.2.2.2.2.2.2.2.2.2.2.2.2.2.2.2.2.1))
    have k_xSM : xSM W := by
      rw [hW]
      exact (uxSM rfl (uxSM (sinc_ok rfl _) hI.2.2.2.2.2.2.2.2.2.2.2.2.2.2.2.2.2.2.2.2.2.2.2.2.2.2.2.2.2.2.2.2.2.2.2.2.2.2.2.2.2.1))
    have k_xSI : xSI W := by
      rw [hW]
      exact (uxSI rfl (uxSI (sinc_ok rfl _) hI.2.2.2.2.2.2.2.2.2.2.2.2.2.2.2.2.2.2.2.2.2.2.2.2.2.2.2.2.2.2.2.2.2.2.2.2.2.2.2.2.2.2.1))
    have k_xD3 : xD3 W := by
      have r4_100 : W 4 100 = M 4 100 := by rw [hW, sU_ne (fun z => by omega), sU_ne (fun z => by omega)]
      have r4_101 : W 4 101 = M 4 101 := by rw [hW, sU_ne (fun z => by omega), sU_ne (fun z => by omega)]
      have r4_103 : W 4 103 = M 4 103 := by rw [hW, sU_ne (fun z => by omega), sU_ne (fun z => by omega)]
      have r4_104 : W 4 104 = M 4 104 := by rw [hW, sU_ne (fun z => by omega), sU_ne (fun z => by omega)]
      have r4_105 : W 4 105 = M 4 105 := by rw [hW, sU_ne (fun z => by omega), sU_ne (fun z => by omega)]
      have r4_106 : W 4 106 = M 4 106 := by rw [hW, sU_ne (fun z => by omega), sU_ne (fun z => by omega)]
      have r4_207 : W 4 207 = M 4 207 := by rw [hW, sU_ne (fun z => by omega), sU_ne (fun z => by omega)]
      have r4_208 : W 4 208 = M 4 208 := by rw [hW, sU_ne (fun z => by omega), sU_ne (fun z => by omega)]
      have r4_311 : W 4 311 = -51 * ρ 0 + (6 * ρ 1 + 0) := by rw [hW, sU_at]
      have r4_313 : W 4 313 = M 4 313 := by rw [hW, sU_ne (fun z => by omega), sU_ne (fun z => by omega)]
      have r4_314 : W 4 314 = M 4 314 := by rw [hW, sU_ne (fun z => by omega), sU_ne (fun z => by omega)]
      have r13_0 : W 13 0 = M 13 0 := by rw [hW, sU_ne (fun z => by omega), sU_ne (fun z => by omega)]
      have r14_0 : W 14 0 = M 14 0 := by rw [hW, sU_ne (fun z => by omega), sU_ne (fun z => by omega)]
      have r15_0 : W 15 0 = M 15 0 := by rw [hW, sU_ne (fun z => by omega), sU_ne (fun z => by omega)]
      have r16_0 : W 16 0 = M 16 0 := by rw [hW, sU_ne (fun z => by omega), sU_ne (fun z => by omega)]
      have r17_0 : W 17 0 = M 17 0 := by rw [hW, sU_ne (fun z => by omega), sU_ne (fun z => by omega)]
      have r18_0 : W 18 0 = M 18 0 := by rw [hW, sU_ne (fun z => by omega), sU_ne (fun z => by omega)]
      have r19_0 : W 19 0 = M 19 0 := by rw [hW, sU_ne (fun z => by omega), sU_ne (fun z => by omega)]
      have r20_0 : W 20 0 = M 20 0 := by rw [hW, sU_ne (fun z => by omega), sU_ne (fun z => by omega)]
      have r21_0 : W 21 0 = M 21 0 := by rw [hW, sU_ne (fun z => by omega), sU_ne (fun z => by omega)]
      have r22_0 : W 22 0 = M 22 0 := by rw [hW, sU_ne (fun z => by omega), sU_ne (fun z => by omega)]
      have r23_0 : W 23 0 = M 23 0 := by rw [hW, sU_ne (fun z => by omega), sU_ne (fun z => by omega)]
      have r24_0 : W 24 0 = M 24 0 := by rw [hW, sU_ne (fun z => by omega), sU_ne (fun z => by omega)]
      have r25_0 : W 25 0 = M 25 0 := by rw [hW, sU_ne (fun z => by omega), sU_ne (fun z => by omega)]
      have r26_0 : W 26 0 = M 26 0 := by rw [hW, sU_ne (fun z => by omega), sU_ne (fun z => by omega)]
      have r27_0 : W 27 0 = M 27 0 := by rw [hW, sU_ne (fun z => by omega), sU_ne (fun z => by omega)]
      have r13_1 : W 13 1 = M 13 1 := by rw [hW, sU_ne (fun z => by omega), sU_ne (fun z => by omega)]
      have r14_1 : W 14 1 = M 14 1 := by rw [hW, sU_ne (fun z => by omega), sU_ne (fun z => by omega)]
      have r15_1 : W 15 1 = M 15 1 := by rw [hW, sU_ne (fun z => by omega), sU_ne (fun z => by omega)]
      have r16_1 : W 16 1 = M 16 1 := by rw [hW, sU_ne (fun z => by omega), sU_ne (fun z => by omega)]
      have r17_1 : W 17 1 = M 17 1 := by rw [hW, sU_ne (fun z => by omega), sU_ne (fun z => by omega)]
      have r18_1 : W 18 1 = M 18 1 := by rw [hW, sU_ne (fun z => by omega), sU_ne (fun z => by omega)]
      have r19_1 : W 19 1 = M 19 1 := by rw [hW, sU_ne (fun z => by omega), sU_ne (fun z => by omega)]
      have r20_1 : W 20 1 = M 20 1 := by rw [hW, sU_ne (fun z => by omega), sU_ne (fun z => by omega)]
      have r21_1 : W 21 1 = M 21 1 := by rw [hW, sU_ne (fun z => by omega), sU_ne (fun z => by omega)]
      have r22_1 : W 22 1 = M 22 1 := by rw [hW, sU_ne (fun z => by omega), sU_ne (fun z => by omega)]
      have r23_1 : W 23 1 = M 23 1 := by rw [hW, sU_ne (fun z => by omega), sU_ne (fun z => by omega)]
      have r24_1 : W 24 1 = M 24 1 := by rw [hW, sU_ne (fun z => by omega), sU_ne (fun z => by omega)]
      have r25_1 : W 25 1 = M 25 1 := by rw [hW, sU_ne (fun z => by omega), sU_ne (fun z => by omega)]
      have r26_1 : W 26 1 = M 26 1 := by rw [hW, sU_ne (fun z => by omega), sU_ne (fun z => by omega)]
      have r27_1 : W 27 1 = M 27 1 := by rw [hW, sU_ne (fun z => by omega), sU_ne (fun z => by omega)]
      have r13_2 : W 13 2 = M 13 2 := by rw [hW, sU_ne (fun z => by omega), sU_ne (fun z => by omega)]
      have r14_2 : W 14 2 = M 14 2 := by rw [hW, sU_ne (fun z => by omega), sU_ne (fun z => by omega)]
      have r15_2 : W 15 2 = M 15 2 := by rw [hW, sU_ne (fun z => by omega), sU_ne (fun z => by omega)]
      have r16_2 : W 16 2 = M 16 2 := by rw [hW, sU_ne (fun z => by omega), sU_ne (fun z => by omega)]
      have r17_2 : W 17 2 = M 17 2 := by rw [hW, sU_ne (fun z => by omega), sU_ne (fun z => by omega)]
      have r18_2 : W 18 2 = M 18 2 := by rw [hW, sU_ne (fun z => by omega), sU_ne (fun z => by omega)]
      have r19_2 : W 19 2 = M 19 2 := by rw [hW, sU_ne (fun z => by omega), sU_ne (fun z => by omega)]
      have r20_2 : W 20 2 = M 20 2 := by rw [hW, sU_ne (fun z => by omega), sU_ne (fun z => by omega)]
      have r21_2 : W 21 2 = M 21 2 := by rw [hW, sU_ne (fun z => by omega), sU_ne (fun z => by omega)]
      have r22_2 : W 22 2 = M 22 2 := by rw [hW, sU_ne (fun z => by omega), sU_ne (fun z => by omega)]
      have r23_2 : W 23 2 = M 23 2 := by rw [hW, sU_ne (fun z => by omega), sU_ne (fun z => by omega)]
      have r24_2 : W 24 2 = M 24 2 := by rw [hW, sU_ne (fun z => by omega), sU_ne (fun z => by omega)]
      have r25_2 : W 25 2 = M 25 2 := by rw [hW, sU_ne (fun z => by omega), sU_ne (fun z => by omega)]
      have r26_2 : W 26 2 = M 26 2 := by rw [hW, sU_ne (fun z => by omega), sU_ne (fun z => by omega)]
      have r27_2 : W 27 2 = M 27 2 := by rw [hW, sU_ne (fun z => by omega), sU_ne (fun z => by omega)]
      have r13_3 : W 13 3 = M 13 3 := by rw [hW, sU_ne (fun z => by omega), sU_ne (fun z => by omega)]
      have r14_3 : W 14 3 = M 14 3 := by rw [hW, sU_ne (fun z => by omega), sU_ne (fun z => by omega)]
      have r15_3 : W 15 3 = M 15 3 := by rw [hW, sU_ne (fun z => by omega), sU_ne (fun z => by omega)]
      have r16_3 : W 16 3 = M 16 3 := by rw [hW, sU_ne (fun z => by omega), sU_ne (fun z => by omega)]
      have r17_3 : W 17 3 = M 17 3 := by rw [hW, sU_ne (fun z => by omega), sU_ne (fun z => by omega)]
      have r18_3 : W 18 3 = M 18 3 := by rw [hW, sU_ne (fun z => by omega), sU_ne (fun z => by omega)]
      have r19_3 : W 19 3 = M 19 3 := by rw [hW, sU_ne (fun z => by omega), sU_ne (fun z => by omega)]
      have r20_3 : W 20 3 = M 20 3 := by rw [hW, sU_ne (fun z => by omega), sU_ne (fun z => by omega)]
      have r21_3 : W 21 3 = M 21 3 := by rw [hW, sU_ne (fun z => by omega), sU_ne (fun z => by omega)]
      have r22_3 : W 22 3 = M 22 3 := by rw [hW, sU_ne (fun z => by omega), sU_ne (fun z => by omega)]
      have r23_3 : W 23 3 = M 23 3 := by rw [hW, sU_ne (fun z => by omega), sU_ne (fun z => by omega)]
      have r24_3 : W 24 3 = M 24 3 := by rw [hW, sU_ne (fun z => by omega), sU_ne (fun z => by omega)]
      have r25_3 : W 25 3 = M 25 3 := by rw [hW, sU_ne (fun z => by omega), sU_ne (fun z => by omega)]
      have r26_3 : W 26 3 = M 26 3 := by rw [hW, sU_ne (fun z => by omega), sU_ne (fun z => by omega)]
      have r27_3 : W 27 3 = M 27 3 := by rw [hW, sU_ne (fun z => by omega), sU_ne (fun z => by omega)]
      have r13_4 : W 13 4 = M 13 4 := by rw [hW, sU_ne (fun z => by omega), sU_ne (fun z => by omega)]
      have r14_4 : W 14 4 = M 14 4 := by rw [hW, sU_ne (fun z => by omega), sU_ne (fun z => by omega)]
      have r15_4 : W 15 4 = M 15 4 := by rw [hW, sU_ne (fun z => by omega), sU_ne (fun z => by omega)]
      have r16_4 : W 16 4 = M 16 4 := by rw [hW, sU_ne (fun z => by omega), sU_ne (fun z => by omega)]
      have r17_4 : W 17 4 = M 17 4 := by rw [hW, sU_ne (fun z => by omega), sU_ne (fun z => by omega)]
      have r18_4 : W 18 4 = M 18 4 := by rw [hW, sU_ne (fun z => by omega), sU_ne (fun z => by omega)]
      have r19_4 : W 19 4 = M 19 4 := by rw [hW, sU_ne (fun z => by omega), sU_ne (fun z => by omega)]
      have r20_4 : W 20 4 = M 20 4 := by rw [hW, sU_ne (fun z => by omega), sU_ne (fun z => by omega)]
      have r21_4 : W 21 4 = M 21 4 := by rw [hW, sU_ne (fun z => by omega), sU_ne (fun z => by omega)]
      have r13_5 : W 13 5 = M 13 5 := by rw [hW, sU_ne (fun z => by omega), sU_ne (fun z => by omega)]
      have r14_5 : W 14 5 = M 14 5 := by rw [hW, sU_ne (fun z => by omega), sU_ne (fun z => by omega)]
      have r15_5 : W 15 5 = M 15 5 := by rw [hW, sU_ne (fun z => by omega), sU_ne (fun z => by omega)]
      have r16_5 : W 16 5 = M 16 5 := by rw [hW, sU_ne (fun z => by omega), sU_ne (fun z => by omega)]
      have r17_5 : W 17 5 = M 17 5 := by rw [hW, sU_ne (fun z => by omega), sU_ne (fun z => by omega)]
      have r18_5 : W 18 5 = M 18 5 := by rw [hW, sU_ne (fun z => by omega), sU_ne (fun z => by omega)]
      have r19_5 : W 19 5 = M 19 5 := by rw [hW, sU_ne (fun z => by omega), sU_ne (fun z => by omega)]
      have r20_5 : W 20 5 = M 20 5 := by rw [hW, sU_ne (fun z => by omega), sU_ne (fun z => by omega)]
      have r21_5 : W 21 5 = M 21 5 := by rw [hW, sU_ne (fun z => by omega), sU_ne (fun z => by omega)]
      have r2_11 : W 2 11 = M 2 11 := by rw [hW, sU_ne (fun z => by omega), sU_ne (fun z => by omega)]
      have r2_12 : W 2 12 = M 2 12 := by rw [hW, sU_ne (fun z => by omega), sU_ne (fun z => by omega)]
      have r2_13 : W 2 13 = M 2 13 := by rw [hW, sU_ne (fun z => by omega), sU_ne (fun z => by omega)]
      have r2_14 : W 2 14 = M 2 14 := by rw [hW, sU_ne (fun z => by omega), sU_ne (fun z => by omega)]
      have r2_15 : W 2 15 = M 2 15 := by rw [hW, sU_ne (fun z => by omega), sU_ne (fun z => by omega)]
      have r39_0 : W 39 0 = M 39 0 := by rw [hW, sU_ne (fun z => by omega), sU_ne (fun z => by omega)]
      have r40_0 : W 40 0 = M 40 0 := by rw [hW, sU_ne (fun z => by omega), sU_ne (fun z => by omega)]
      have r41_0 : W 41 0 = M 41 0 := by rw [hW, sU_ne (fun z => by omega), sU_ne (fun z => by omega)]
      have r42_0 : W 42 0 = M 42 0 := by rw [hW, sU_ne (fun z => by omega), sU_ne (fun z => by omega)]
      have r43_0 : W 43 0 = M 43 0 := by rw [hW, sU_ne (fun z => by omega), sU_ne (fun z => by omega)]
      have r44_0 : W 44 0 = M 44 0 := by rw [hW, sU_ne (fun z => by omega), sU_ne (fun z => by omega)]
      have r45_0 : W 45 0 = M 45 0 := by rw [hW, sU_ne (fun z => by omega), sU_ne (fun z => by omega)]
      have r46_0 : W 46 0 = M 46 0 := by rw [hW, sU_ne (fun z => by omega), sU_ne (fun z => by omega)]
      have r47_0 : W 47 0 = M 47 0 := by rw [hW, sU_ne (fun z => by omega), sU_ne (fun z => by omega)]
      have r48_0 : W 48 0 = M 48 0 := by rw [hW, sU_ne (fun z => by omega), sU_ne (fun z => by omega)]
      have r49_0 : W 49 0 = M 49 0 := by rw [hW, sU_ne (fun z => by omega), sU_ne (fun z => by omega)]
      have r50_0 : W 50 0 = M 50 0 := by rw [hW, sU_ne (fun z => by omega), sU_ne (fun z => by omega)]
      have r51_0 : W 51 0 = M 51 0 := by rw [hW, sU_ne (fun z => by omega), sU_ne (fun z => by omega)]
      have r52_0 : W 52 0 = M 52 0 := by rw [hW, sU_ne (fun z => by omega), sU_ne (fun z => by omega)]
      have r53_0 : W 53 0 = M 53 0 := by rw [hW, sU_ne (fun z => by omega), sU_ne (fun z => by omega)]
      have r39_1 : W 39 1 = M 39 1 := by rw [hW, sU_ne (fun z => by omega), sU_ne (fun z => by omega)]
      have r40_1 : W 40 1 = M 40 1 := by rw [hW, sU_ne (fun z => by omega), sU_ne (fun z => by omega)]
      have r41_1 : W 41 1 = M 41 1 := by rw [hW, sU_ne (fun z => by omega), sU_ne (fun z => by omega)]
      have r42_1 : W 42 1 = M 42 1 := by rw [hW, sU_ne (fun z => by omega), sU_ne (fun z => by omega)]
      have r43_1 : W 43 1 = M 43 1 := by rw [hW, sU_ne (fun z => by omega), sU_ne (fun z => by omega)]
      have r44_1 : W 44 1 = M 44 1 := by rw [hW, sU_ne (fun z => by omega), sU_ne (fun z => by omega)]
      have r45_1 : W 45 1 = M 45 1 := by rw [hW, sU_ne (fun z => by omega), sU_ne (fun z => by omega)]
      have r46_1 : W 46 1 = M 46 1 := by rw [hW, sU_ne (fun z => by omega), sU_ne (fun z => by omega)]
      have r47_1 : W 47 1 = M 47 1 := by rw [hW, sU_ne (fun z => by omega), sU_ne (fun z => by omega)]
      have r48_1 : W 48 1 = M 48 1 := by rw [hW, sU_ne (fun z => by omega), sU_ne (fun z => by omega)]
      have r49_1 : W 49 1 = M 49 1 := by rw [hW, sU_ne (fun z => by omega), sU_ne (fun z => by omega)]
      have r50_1 : W 50 1 = M 50 1 := by rw [hW, sU_ne (fun z => by omega), sU_ne (fun z => by omega)]
      have r51_1 : W 51 1 = M 51 1 := by rw [hW, sU_ne (fun z => by omega), sU_ne (fun z => by omega)]
      have r52_1 : W 52 1 = M 52 1 := by rw [hW, sU_ne (fun z => by omega), sU_ne (fun z => by omega)]
      have r53_1 : W 53 1 = M 53 1 := by rw [hW, sU_ne (fun z => by omega), sU_ne (fun z => by omega)]
      have r39_2 : W 39 2 = M 39 2 := by rw [hW, sU_ne (fun z => by omega), sU_ne (fun z => by omega)]
      have r40_2 : W 40 2 = M 40 2 := by rw [hW, sU_ne (fun z => by omega), sU_ne (fun z => by omega)]
      have r41_2 : W 41 2 = M 41 2 := by rw [hW, sU_ne (fun z => by omega), sU_ne (fun z => by omega)]
      have r42_2 : W 42 2 = M 42 2 := by rw [hW, sU_ne (fun z => by omega), sU_ne (fun z => by omega)]
      have r43_2 : W 43 2 = M 43 2 := by rw [hW, sU_ne (fun z => by omega), sU_ne (fun z => by omega)]
      have r44_2 : W 44 2 = M 44 2 := by rw [hW, sU_ne (fun z => by omega), sU_ne (fun z => by omega)]
      have r45_2 : W 45 2 = M 45 2 := by rw [hW, sU_ne (fun z => by omega), sU_ne (fun z => by omega)]
      have r46_2 : W 46 2 = M 46 2 := by rw [hW, sU_ne (fun z => by omega), sU_ne (fun z => by omega)]
      have r47_2 : W 47 2 = M 47 2 := by rw [hW, sU_ne (fun z => by omega), sU_ne (fun z => by omega)]
      have r48_2 : W 48 2 = M 48 2 := by rw [hW, sU_ne (fun z => by omega), sU_ne (fun z => by omega)]
      have r49_2 : W 49 2 = M 49 2 := by rw [hW, sU_ne (fun z => by omega), sU_ne (fun z => by omega)]
      have r50_2 : W 50 2 = M 50 2 := by rw [hW, sU_ne (fun z => by omega), sU_ne (fun z => by omega)]
      have r51_2 : W 51 2 = M 51 2 := by rw [hW, sU_ne (fun z => by omega), sU_ne (fun z => by omega)]
      have r52_2 : W 52 2 = M 52 2 := by rw [hW, sU_ne (fun z => by omega), sU_ne (fun z => by omega)]
      have r53_2 : W 53 2 = M 53 2 := by rw [hW, sU_ne (fun z => by omega), sU_ne (fun z => by omega)]
      have r39_3 : W 39 3 = M 39 3 := by rw [hW, sU_ne (fun z => by omega), sU_ne (fun z => by omega)]
      have r40_3 : W 40 3 = M 40 3 := by rw [hW, sU_ne (fun z => by omega), sU_ne (fun z => by omega)]
      have r41_3 : W 41 3 = M 41 3 := by rw [hW, sU_ne (fun z => by omega), sU_ne (fun z => by omega)]
      have r42_3 : W 42 3 = M 42 3 := by rw [hW, sU_ne (fun z => by omega), sU_ne (fun z => by omega)]
      have r43_3 : W 43 3 = M 43 3 := by rw [hW, sU_ne (fun z => by omega), sU_ne (fun z => by omega)]
      have r44_3 : W 44 3 = M 44 3 := by rw [hW, sU_ne (fun z => by omega), sU_ne (fun z => by omega)]
      have r45_3 : W 45 3 = M 45 3 := by rw [hW, sU_ne (fun z => by omega), sU_ne (fun z => by omega)]
      have r46_3 : W 46 3 = M 46 3 := by rw [hW, sU_ne (fun z => by omega), sU_ne (fun z => by omega)]
      have r47_3 : W 47 3 = M 47 3 := by rw [hW, sU_ne (fun z => by omega), sU_ne (fun z => by omega)]
      have r48_3 : W 48 3 = M 48 3 := by rw [hW, sU_ne (fun z => by omega), sU_ne (fun z => by omega)]
      have r49_3 : W 49 3 = M 49 3 := by rw [hW, sU_ne (fun z => by omega), sU_ne (fun z => by omega)]
      have r50_3 : W 50 3 = M 50 3 := by rw [hW, sU_ne (fun z => by omega), sU_ne (fun z => by omega)]
      have r51_3 : W 51 3 = M 51 3 := by rw [hW, sU_ne (fun z => by omega), sU_ne (fun z => by omega)]
      have r52_3 : W 52 3 = M 52 3 := by rw [hW, sU_ne (fun z => by omega), sU_ne (fun z => by omega)]
      have r53_3 : W 53 3 = M 53 3 := by rw [hW, sU_ne (fun z => by omega), sU_ne (fun z => by omega)]
      have r39_4 : W 39 4 = M 39 4 := by rw [hW, sU_ne (fun z => by omega), sU_ne (fun z => by omega)]
      have r40_4 : W 40 4 = M 40 4 := by rw [hW, sU_ne (fun z => by omega), sU_ne (fun z => by omega)]
      have r41_4 : W 41 4 = M 41 4 := by rw [hW, sU_ne (fun z => by omega), sU_ne (fun z => by omega)]
      have r42_4 : W 42 4 = M 42 4 := by rw [hW, sU_ne (fun z => by omega), sU_ne (fun z => by omega)]
      have r43_4 : W 43 4 = M 43 4 := by rw [hW, sU_ne (fun z => by omega), sU_ne (fun z => by omega)]
      have r44_4 : W 44 4 = M 44 4 := by rw [hW, sU_ne (fun z => by omega), sU_ne (fun z => by omega)]
      have r45_4 : W 45 4 = M 45 4 := by rw [hW, sU_ne (fun z => by omega), sU_ne (fun z => by omega)]
      have r46_4 : W 46 4 = M 46 4 := by rw [hW, sU_ne (fun z => by omega), sU_ne (fun z => by omega)]
      have r47_4 : W 47 4 = M 47 4 := by rw [hW, sU_ne (fun z => by omega), sU_ne (fun z => by omega)]
      have r39_5 : W 39 5 = M 39 5 := by rw [hW, sU_ne (fun z => by omega), sU_ne (fun z => by omega)]
      have r40_5 : W 40 5 = M 40 5 := by rw [hW, sU_ne (fun z => by omega), sU_ne (fun z => by omega)]
      have r41_5 : W 41 5 = M 41 5 := by rw [hW, sU_ne (fun z => by omega), sU_ne (fun z => by omega)]
      have r42_5 : W 42 5 = M 42 5 := by rw [hW, sU_ne (fun z => by omega), sU_ne (fun z => by omega)]
      have r43_5 : W 43 5 = M 43 5 := by rw [hW, sU_ne (fun z => by omega), sU_ne (fun z => by omega)]
      have r44_5 : W 44 5 = M 44 5 := by rw [hW, sU_ne (fun z => by omega), sU_ne (fun z => by omega)]
      have r45_5 : W 45 5 = M 45 5 := by rw [hW, sU_ne (fun z => by omega), sU_ne (fun z => by omega)]
      have r46_5 : W 46 5 = M 46 5 := by rw [hW, sU_ne (fun z => by omega), sU_ne (fun z => by omega)]
      have r47_5 : W 47 5 = M 47 5 := by rw [hW, sU_ne (fun z => by omega), sU_ne (fun z => by omega)]
      have r28_11 : W 28 11 = M 28 11 := by rw [hW, sU_ne (fun z => by omega), sU_ne (fun z => by omega)]
      have r28_12 : W 28 12 = M 28 12 := by rw [hW, sU_ne (fun z => by omega), sU_ne (fun z => by omega)]
      have r28_13 : W 28 13 = M 28 13 := by rw [hW, sU_ne (fun z => by omega), sU_ne (fun z => by omega)]
      have r28_14 : W 28 14 = M 28 14 := by rw [hW, sU_ne (fun z => by omega), sU_ne (fun z => by omega)]
      have r28_15 : W 28 15 = M 28 15 := by rw [hW, sU_ne (fun z => by omega), sU_ne (fun z => by omega)]
      have r93_12 : W 93 12 = M 93 12 := by rw [hW, sU_ne (fun z => by omega), sU_ne (fun z => by omega)]
      have r93_13 : W 93 13 = M 93 13 := by rw [hW, sU_ne (fun z => by omega), sU_ne (fun z => by omega)]
      have r93_14 : W 93 14 = M 93 14 := by rw [hW, sU_ne (fun z => by omega), sU_ne (fun z => by omega)]
      have r93_15 : W 93 15 = M 93 15 := by rw [hW, sU_ne (fun z => by omega), sU_ne (fun z => by omega)]
      have r93_16 : W 93 16 = M 93 16 := by rw [hW, sU_ne (fun z => by omega), sU_ne (fun z => by omega)]
      have c3 : ∀ k, W 3 k = M 3 k := fun k => by rw [hW, sU_ne (fun z => by omega), sU_ne (fun z => by omega)]
      have e3 : W 3 = M 3 := funext c3
      have c92 : ∀ k, W 92 k = M 92 k := fun k => by rw [hW, sU_ne (fun z => by omega), sU_ne (fun z => by omega)]
      have e92 : W 92 = M 92 := funext c92
      have c5 : ∀ k, W 5 k = M 5 k := fun k => by rw [hW, sU_ne (fun z => by omega), sU_ne (fun z => by omega)]
      have e5 : W 5 = M 5 := funext c5
      have c6 : ∀ k, W 6 k = M 6 k := fun k => by rw [hW, sU_ne (fun z => by omega), sU_ne (fun z => by omega)]
      have e6 : W 6 = M 6 := funext c6
      have c7 : ∀ k, W 7 k = M 7 k := fun k => by rw [hW, sU_ne (fun z => by omega), sU_ne (fun z => by omega)]
      have e7 : W 7 = M 7 := funext c7
      have c8 : ∀ k, W 8 k = M 8 k := fun k => by rw [hW, sU_ne (fun z => by omega), sU_ne (fun z => by omega)]
      have e8 : W 8 = M 8 := funext c8
      have c31 : ∀ k, W 31 k = M 31 k := fun k => by rw [hW, sU_ne (fun z => by omega), sU_ne (fun z => by omega)]
      have e31 : W 31 = M 31 := funext c31
      have c32 : ∀ k, W 32 k = M 32 k := fun k => by rw [hW, sU_ne (fun z => by omega), sU_ne (fun z => by omega)]
      have e32 : W 32 = M 32 := funext c32
      have c33 : ∀ k, W 33 k = M 33 k := fun k => by rw [hW, sU_ne (fun z => by omega), sU_ne (fun z => by omega)]
      have e33 : W 33 = M 33 := funext c33
      have c34 : ∀ k, W 34 k = M 34 k := fun k => by rw [hW, sU_ne (fun z => by omega), sU_ne (fun z => by omega)]
      have e34 : W 34 = M 34 := funext c34
      have c94 : ∀ k, W 94 k = M 94 k := fun k => by rw [hW, sU_ne (fun z => by omega), sU_ne (fun z => by omega)]
      have e94 : W 94 = M 94 := funext c94
      have c95 : ∀ k, W 95 k = M 95 k := fun k => by rw [hW, sU_ne (fun z => by omega), sU_ne (fun z => by omega)]
      have e95 : W 95 = M 95 := funext c95
      have c96 : ∀ k, W 96 k = M 96 k := fun k => by rw [hW, sU_ne (fun z => by omega), sU_ne (fun z => by omega)]
      have e96 : W 96 = M 96 := funext c96
      have c97 : ∀ k : Nat, k ≠ (1 * ρ 1 + 0).toNat → W 97 k = M 97 k := fun k hk => by rw [hW, sU_ne (fun z => by omega), sU_ne (fun z => by omega)]
      have a97 : W 97 (1 * ρ 1 + 0).toNat = 1 * ρ 2 + 0 := by rw [hW, sU_ne (fun z => by omega), sU_at]
      have c98 : ∀ k, W 98 k = M 98 k := fun k => by rw [hW, sU_ne (fun z => by omega), sU_ne (fun z => by omega)]
      have e98 : W 98 = M 98 := funext c98
      have c99 : ∀ k, W 99 k = M 99 k := fun k => by rw [hW, sU_ne (fun z => by omega), sU_ne (fun z => by omega)]
      have e99 : W 99 = M 99 := funext c99
      have c100 : ∀ k, W 100 k = M 100 k := fun k => by rw [hW, sU_ne (fun z => by omega), sU_ne (fun z => by omega)]
      have e100 : W 100 = M 100 := funext c100
      have c101 : ∀ k, W 101 k = M 101 k := fun k => by rw [hW, sU_ne (fun z => by omega), sU_ne (fun z => by omega)]
      have e101 : W 101 = M 101 := funext c101
      have c102 : ∀ k, W 102 k = M 102 k := fun k => by rw [hW, sU_ne (fun z => by omega), sU_ne (fun z => by omega)]
      have e102 : W 102 = M 102 := funext c102
      have c103 : ∀ k, W 103 k = M 103 k := fun k => by rw [hW, sU_ne (fun z => by omega), sU_ne (fun z => by omega)]
      have e103 : W 103 = M 103 := funext c103
      have c104 : ∀ k, W 104 k = M 104 k := fun k => by rw [hW, sU_ne (fun z => by omega), sU_ne (fun z => by omega)]
      have e104 : W 104 = M 104 := funext c104
      have c105 : ∀ k, W 105 k = M 105 k := fun k => by rw [hW, sU_ne (fun z => by omega), sU_ne (fun z => by omega)]
      have e105 : W 105 = M 105 := funext c105
      have c106 : ∀ k, W 106 k = M 106 k := fun k => by rw [hW, sU_ne (fun z => by omega), sU_ne (fun z => by omega)]
      have e106 : W 106 = M 106 := funext c106
      have c107 : ∀ k, W 107 k = M 107 k := fun k => by rw [hW, sU_ne (fun z => by omega), sU_ne (fun z => by omega)]
      have e107 : W 107 = M 107 := funext c107
      have hw : ∀ o k, 93 ≤ o → o ≤ 107 → ¬ (o = 97 ∧ k = (1 * ρ 1 + 0).toNat) → W o k = M o k := fun o k h1 h2 h3 => by rw [hW, sU_ne (fun z => by omega), sU_ne h3]
      have hx : ∀ o k, o ≠ 4 → o ≠ 91 → ¬ (o = 97 ∧ k = (1 * ρ 1 + 0).toNat) → W o k = M o k := fun o k h1 h2 h3 => by rw [hW, sU_ne (fun z => by omega), sU_ne h3]
      have e4 : ∀ k, (100 ≤ k ∧ k ≤ 208) ∨ k = 313 ∨ k = 314 → W 4 k = M 4 k := fun k hk => by rw [hW, sU_ne (fun z => by omega), sU_ne (fun z => by omega)]
      refine d3_ru (c := 97) (x := (1 * ρ 1 + 0).toNat) (gx_xD3 hI) (funext fun k => hx 3 k (by omega) (by omega) (by omega)) (funext fun k => hx 92 k (by omega) (by omega) (by omega)) e4 hw (by omega) (fun i hi ht hh => ?_)
      rw [r4_311] at hh
      exact ⟨by omega, (fun z => by have z1 : i = 3 + 6 * ((1 * ρ 1 + 0).toNat - 9) := z.1; have z2 : 9 ≤ (1 * ρ 1 + 0).toNat := z.2; omega)⟩
    have k_xDV : xDV W := by
      rw [hW]
      exact (uxDV rfl (uxDV (sinc_ok rfl _) hI.2.2.2.2.2.2.2.2.2.2.2.2.2.2.2.2.2.2.2.2.2.2.2.2.2.2.2.2.2.2.2.2.2.2.2.2.2.2.2.2.2.2.2.2.1))
    have k_xDP : xDP W := by
      have r : W 4 100 = 2 := by
        have e := m1
        rw [hW, sU_ne (fun z => by omega), sU_ne (fun z => by omega)]
        omega
      intro h
      rw [r] at h
      omega
    have k_xDE : xDE W := by
      have r4_301 : W 4 301 = M 4 301 := by rw [hW, sU_ne (fun z => by omega), sU_ne (fun z => by omega)]
      have r4_300 : W 4 300 = M 4 300 := by rw [hW, sU_ne (fun z => by omega), sU_ne (fun z => by omega)]
      have r93_0 : W 93 0 = M 93 0 := by rw [hW, sU_ne (fun z => by omega), sU_ne (fun z => by omega)]
      have r93_1 : W 93 1 = M 93 1 := by rw [hW, sU_ne (fun z => by omega), sU_ne (fun z => by omega)]
      have r93_2 : W 93 2 = M 93 2 := by rw [hW, sU_ne (fun z => by omega), sU_ne (fun z => by omega)]
      have r13_0 : W 13 0 = M 13 0 := by rw [hW, sU_ne (fun z => by omega), sU_ne (fun z => by omega)]
      have r14_0 : W 14 0 = M 14 0 := by rw [hW, sU_ne (fun z => by omega), sU_ne (fun z => by omega)]
      have r15_0 : W 15 0 = M 15 0 := by rw [hW, sU_ne (fun z => by omega), sU_ne (fun z => by omega)]
      have r16_0 : W 16 0 = M 16 0 := by rw [hW, sU_ne (fun z => by omega), sU_ne (fun z => by omega)]
      have r17_0 : W 17 0 = M 17 0 := by rw [hW, sU_ne (fun z => by omega), sU_ne (fun z => by omega)]
      have r18_0 : W 18 0 = M 18 0 := by rw [hW, sU_ne (fun z => by omega), sU_ne (fun z => by omega)]
      have r19_0 : W 19 0 = M 19 0 := by rw [hW, sU_ne (fun z => by omega), sU_ne (fun z => by omega)]
      have r20_0 : W 20 0 = M 20 0 := by rw [hW, sU_ne (fun z => by omega), sU_ne (fun z => by omega)]
      have r21_0 : W 21 0 = M 21 0 := by rw [hW, sU_ne (fun z => by omega), sU_ne (fun z => by omega)]
      have r22_0 : W 22 0 = M 22 0 := by rw [hW, sU_ne (fun z => by omega), sU_ne (fun z => by omega)]
      have r23_0 : W 23 0 = M 23 0 := by rw [hW, sU_ne (fun z => by omega), sU_ne (fun z => by omega)]
      have r24_0 : W 24 0 = M 24 0 := by rw [hW, sU_ne (fun z => by omega), sU_ne (fun z => by omega)]
      have r25_0 : W 25 0 = M 25 0 := by rw [hW, sU_ne (fun z => by omega), sU_ne (fun z => by omega)]
      have r26_0 : W 26 0 = M 26 0 := by rw [hW, sU_ne (fun z => by omega), sU_ne (fun z => by omega)]
      have r27_0 : W 27 0 = M 27 0 := by rw [hW, sU_ne (fun z => by omega), sU_ne (fun z => by omega)]
      have r13_1 : W 13 1 = M 13 1 := by rw [hW, sU_ne (fun z => by omega), sU_ne (fun z => by omega)]
      have r14_1 : W 14 1 = M 14 1 := by rw [hW, sU_ne (fun z => by omega), sU_ne (fun z => by omega)]
      have r15_1 : W 15 1 = M 15 1 := by rw [hW, sU_ne (fun z => by omega), sU_ne (fun z => by omega)]
      have r16_1 : W 16 1 = M 16 1 := by rw [hW, sU_ne (fun z => by omega), sU_ne (fun z => by omega)]
      have r17_1 : W 17 1 = M 17 1 := by rw [hW, sU_ne (fun z => by omega), sU_ne (fun z => by omega)]
      have r18_1 : W 18 1 = M 18 1 := by rw [hW, sU_ne (fun z => by omega), sU_ne (fun z => by omega)]
      have r19_1 : W 19 1 = M 19 1 := by rw [hW, sU_ne (fun z => by omega), sU_ne (fun z => by omega)]
      have r20_1 : W 20 1 = M 20 1 := by rw [hW, sU_ne (fun z => by omega), sU_ne (fun z => by omega)]
      have r21_1 : W 21 1 = M 21 1 := by rw [hW, sU_ne (fun z => by omega), sU_ne (fun z => by omega)]
      have r22_1 : W 22 1 = M 22 1 := by rw [hW, sU_ne (fun z => by omega), sU_ne (fun z => by omega)]
      have r23_1 : W 23 1 = M 23 1 := by rw [hW, sU_ne (fun z => by omega), sU_ne (fun z => by omega)]
      have r24_1 : W 24 1 = M 24 1 := by rw [hW, sU_ne (fun z => by omega), sU_ne (fun z => by omega)]
      have r25_1 : W 25 1 = M 25 1 := by rw [hW, sU_ne (fun z => by omega), sU_ne (fun z => by omega)]
      have r26_1 : W 26 1 = M 26 1 := by rw [hW, sU_ne (fun z => by omega), sU_ne (fun z => by omega)]
      have r27_1 : W 27 1 = M 27 1 := by rw [hW, sU_ne (fun z => by omega), sU_ne (fun z => by omega)]
      have r13_2 : W 13 2 = M 13 2 := by rw [hW, sU_ne (fun z => by omega), sU_ne (fun z => by omega)]
      have r14_2 : W 14 2 = M 14 2 := by rw [hW, sU_ne (fun z => by omega), sU_ne (fun z => by omega)]
      have r15_2 : W 15 2 = M 15 2 := by rw [hW, sU_ne (fun z => by omega), sU_ne (fun z => by omega)]
      have r16_2 : W 16 2 = M 16 2 := by rw [hW, sU_ne (fun z => by omega), sU_ne (fun z => by omega)]
      have r17_2 : W 17 2 = M 17 2 := by rw [hW, sU_ne (fun z => by omega), sU_ne (fun z => by omega)]
      have r18_2 : W 18 2 = M 18 2 := by rw [hW, sU_ne (fun z => by omega), sU_ne (fun z => by omega)]
      have r19_2 : W 19 2 = M 19 2 := by rw [hW, sU_ne (fun z => by omega), sU_ne (fun z => by omega)]
      have r20_2 : W 20 2 = M 20 2 := by rw [hW, sU_ne (fun z => by omega), sU_ne (fun z => by omega)]
      have r21_2 : W 21 2 = M 21 2 := by rw [hW, sU_ne (fun z => by omega), sU_ne (fun z => by omega)]
      have r22_2 : W 22 2 = M 22 2 := by rw [hW, sU_ne (fun z => by omega), sU_ne (fun z => by omega)]
      have r23_2 : W 23 2 = M 23 2 := by rw [hW, sU_ne (fun z => by omega), sU_ne (fun z => by omega)]
      have r24_2 : W 24 2 = M 24 2 := by rw [hW, sU_ne (fun z => by omega), sU_ne (fun z => by omega)]
      have r25_2 : W 25 2 = M 25 2 := by rw [hW, sU_ne (fun z => by omega), sU_ne (fun z => by omega)]
      have r26_2 : W 26 2 = M 26 2 := by rw [hW, sU_ne (fun z => by omega), sU_ne (fun z => by omega)]
      have r27_2 : W 27 2 = M 27 2 := by rw [hW, sU_ne (fun z => by omega), sU_ne (fun z => by omega)]
      have r13_3 : W 13 3 = M 13 3 := by rw [hW, sU_ne (fun z => by omega), sU_ne (fun z => by omega)]
      have r14_3 : W 14 3 = M 14 3 := by rw [hW, sU_ne (fun z => by omega), sU_ne (fun z => by omega)]
      have r15_3 : W 15 3 = M 15 3 := by rw [hW, sU_ne (fun z => by omega), sU_ne (fun z => by omega)]
      have r16_3 : W 16 3 = M 16 3 := by rw [hW, sU_ne (fun z => by omega), sU_ne (fun z => by omega)]
      have r17_3 : W 17 3 = M 17 3 := by rw [hW, sU_ne (fun z => by omega), sU_ne (fun z => by omega)]
      have r18_3 : W 18 3 = M 18 3 := by rw [hW, sU_ne (fun z => by omega), sU_ne (fun z => by omega)]
      have r19_3 : W 19 3 = M 19 3 := by rw [hW, sU_ne (fun z => by omega), sU_ne (fun z => by omega)]
      have r20_3 : W 20 3 = M 20 3 := by rw [hW, sU_ne (fun z => by omega), sU_ne (fun z => by omega)]
      have r21_3 : W 21 3 = M 21 3 := by rw [hW, sU_ne (fun z => by omega), sU_ne (fun z => by omega)]
      have r22_3 : W 22 3 = M 22 3 := by rw [hW, sU_ne (fun z => by omega), sU_ne (fun z => by omega)]
      have r23_3 : W 23 3 = M 23 3 := by rw [hW, sU_ne (fun z => by omega), sU_ne (fun z => by omega)]
      have r24_3 : W 24 3 = M 24 3 := by rw [hW, sU_ne (fun z => by omega), sU_ne (fun z => by omega)]
      have r25_3 : W 25 3 = M 25 3 := by rw [hW, sU_ne (fun z => by omega), sU_ne (fun z => by omega)]
      have r26_3 : W 26 3 = M 26 3 := by rw [hW, sU_ne (fun z => by omega), sU_ne (fun z => by omega)]
      have r27_3 : W 27 3 = M 27 3 := by rw [hW, sU_ne (fun z => by omega), sU_ne (fun z => by omega)]
      have r13_4 : W 13 4 = M 13 4 := by rw [hW, sU_ne (fun z => by omega), sU_ne (fun z => by omega)]
      have r14_4 : W 14 4 = M 14 4 := by rw [hW, sU_ne (fun z => by omega), sU_ne (fun z => by omega)]
      have r15_4 : W 15 4 = M 15 4 := by rw [hW, sU_ne (fun z => by omega), sU_ne (fun z => by omega)]
      have r16_4 : W 16 4 = M 16 4 := by rw [hW, sU_ne (fun z => by omega), sU_ne (fun z => by omega)]
      have r17_4 : W 17 4 = M 17 4 := by rw [hW, sU_ne (fun z => by omega), sU_ne (fun z => by omega)]
      have r18_4 : W 18 4 = M 18 4 := by rw [hW, sU_ne (fun z => by omega), sU_ne (fun z => by omega)]
      have r19_4 : W 19 4 = M 19 4 := by rw [hW, sU_ne (fun z => by omega), sU_ne (fun z => by omega)]
      have r20_4 : W 20 4 = M 20 4 := by rw [hW, sU_ne (fun z => by omega), sU_ne (fun z => by omega)]
      have r21_4 : W 21 4 = M 21 4 := by rw [hW, sU_ne (fun z => by omega), sU_ne (fun z => by omega)]
      have r13_5 : W 13 5 = M 13 5 := by rw [hW, sU_ne (fun z => by omega), sU_ne (fun z => by omega)]
      have r14_5 : W 14 5 = M 14 5 := by rw [hW, sU_ne (fun z => by omega), sU_ne (fun z => by omega)]
      have r15_5 : W 15 5 = M 15 5 := by rw [hW, sU_ne (fun z => by omega), sU_ne (fun z => by omega)]
      have r16_5 : W 16 5 = M 16 5 := by rw [hW, sU_ne (fun z => by omega), sU_ne (fun z => by omega)]
      have r17_5 : W 17 5 = M 17 5 := by rw [hW, sU_ne (fun z => by omega), sU_ne (fun z => by omega)]
      have r18_5 : W 18 5 = M 18 5 := by rw [hW, sU_ne (fun z => by omega), sU_ne (fun z => by omega)]
      have r19_5 : W 19 5 = M 19 5 := by rw [hW, sU_ne (fun z => by omega), sU_ne (fun z => by omega)]
      have r20_5 : W 20 5 = M 20 5 := by rw [hW, sU_ne (fun z => by omega), sU_ne (fun z => by omega)]
      have r21_5 : W 21 5 = M 21 5 := by rw [hW, sU_ne (fun z => by omega), sU_ne (fun z => by omega)]
      have r2_11 : W 2 11 = M 2 11 := by rw [hW, sU_ne (fun z => by omega), sU_ne (fun z => by omega)]
      have r2_12 : W 2 12 = M 2 12 := by rw [hW, sU_ne (fun z => by omega), sU_ne (fun z => by omega)]
      have r2_13 : W 2 13 = M 2 13 := by rw [hW, sU_ne (fun z => by omega), sU_ne (fun z => by omega)]
      have r2_14 : W 2 14 = M 2 14 := by rw [hW, sU_ne (fun z => by omega), sU_ne (fun z => by omega)]
      have r2_15 : W 2 15 = M 2 15 := by rw [hW, sU_ne (fun z => by omega), sU_ne (fun z => by omega)]
      have r39_0 : W 39 0 = M 39 0 := by rw [hW, sU_ne (fun z => by omega), sU_ne (fun z => by omega)]
      have r40_0 : W 40 0 = M 40 0 := by rw [hW, sU_ne (fun z => by omega), sU_ne (fun z => by omega)]
      have r41_0 : W 41 0 = M 41 0 := by rw [hW, sU_ne (fun z => by omega), sU_ne (fun z => by omega)]
      have r42_0 : W 42 0 = M 42 0 := by rw [hW, sU_ne (fun z => by omega), sU_ne (fun z => by omega)]
      have r43_0 : W 43 0 = M 43 0 := by rw [hW, sU_ne (fun z => by omega), sU_ne (fun z => by omega)]
      have r44_0 : W 44 0 = M 44 0 := by rw [hW, sU_ne (fun z => by omega), sU_ne (fun z => by omega)]
      have r45_0 : W 45 0 = M 45 0 := by rw [hW, sU_ne (fun z => by omega), sU_ne (fun z => by omega)]
      have r46_0 : W 46 0 = M 46 0 := by rw [hW, sU_ne (fun z => by omega), sU_ne (fun z => by omega)]
      have r47_0 : W 47 0 = M 47 0 := by rw [hW, sU_ne (fun z => by omega), sU_ne (fun z => by omega)]
      have r48_0 : W 48 0 = M 48 0 := by rw [hW, sU_ne (fun z => by omega), sU_ne (fun z => by omega)]
      have r49_0 : W 49 0 = M 49 0 := by rw [hW, sU_ne (fun z => by omega), sU_ne (fun z => by omega)]
      have r50_0 : W 50 0 = M 50 0 := by rw [hW, sU_ne (fun z => by omega), sU_ne (fun z => by omega)]
      have r51_0 : W 51 0 = M 51 0 := by rw [hW, sU_ne (fun z => by omega), sU_ne (fun z => by omega)]
      have r52_0 : W 52 0 = M 52 0 := by rw [hW, sU_ne (fun z => by omega), sU_ne (fun z => by omega)]
      have r53_0 : W 53 0 = M 53 0 := by rw [hW, sU_ne (fun z => by omega), sU_ne (fun z => by omega)]
      have r39_1 : W 39 1 = M 39 1 := by rw [hW, sU_ne (fun z => by omega), sU_ne (fun z => by omega)]
      have r40_1 : W 40 1 = M 40 1 := by rw [hW, sU_ne (fun z => by omega), sU_ne (fun z => by omega)]
      have r41_1 : W 41 1 = M 41 1 := by rw [hW, sU_ne (fun z => by omega), sU_ne (fun z => by omega)]
      have r42_1 : W 42 1 = M 42 1 := by rw [hW, sU_ne (fun z => by omega), sU_ne (fun z => by omega)]
      have r43_1 : W 43 1 = M 43 1 := by rw [hW, sU_ne (fun z => by omega), sU_ne (fun z => by omega)]
      have r44_1 : W 44 1 = M 44 1 := by rw [hW, sU_ne (fun z => by omega), sU_ne (fun z => by omega)]
      have r45_1 : W 45 1 = M 45 1 := by rw [hW, sU_ne (fun z => by omega), sU_ne (fun z => by omega)]
      have r46_1 : W 46 1 = M 46 1 := by rw [hW, sU_ne (fun z => by omega), sU_ne (fun z => by omega)]
      have r47_1 : W 47 1 = M 47 1 := by rw [hW, sU_ne (fun z => by omega), sU_ne (fun z => by omega)]
      have r48_1 : W 48 1 = M 48 1 := by rw [hW, sU_ne (fun z => by omega), sU_ne (fun z => by omega)]
      have r49_1 : W 49 1 = M 49 1 := by rw [hW, sU_ne (fun z => by omega), sU_ne (fun z => by omega)]
      have r50_1 : W 50 1 = M 50 1 := by rw [hW, sU_ne (fun z => by omega), sU_ne (fun z => by omega)]
      have r51_1 : W 51 1 = M 51 1 := by rw [hW, sU_ne (fun z => by omega), sU_ne (fun z => by omega)]
      have r52_1 : W 52 1 = M 52 1 := by rw [hW, sU_ne (fun z => by omega), sU_ne (fun z => by omega)]
      have r53_1 : W 53 1 = M 53 1 := by rw [hW, sU_ne (fun z => by omega), sU_ne (fun z => by omega)]
      have r39_2 : W 39 2 = M 39 2 := by rw [hW, sU_ne (fun z => by omega), sU_ne (fun z => by omega)]
      have r40_2 : W 40 2 = M 40 2 := by rw [hW, sU_ne (fun z => by omega), sU_ne (fun z => by omega)]
      have r41_2 : W 41 2 = M 41 2 := by rw [hW, sU_ne (fun z => by omega), sU_ne (fun z => by omega)]
      have r42_2 : W 42 2 = M 42 2 := by rw [hW, sU_ne (fun z => by omega), sU_ne (fun z => by omega)]
      have r43_2 : W 43 2 = M 43 2 := by rw [hW, sU_ne (fun z => by omega), sU_ne (fun z => by omega)]
      have r44_2 : W 44 2 = M 44 2 := by rw [hW, sU_ne (fun z => by omega), sU_ne (fun z => by omega)]
      have r45_2 : W 45 2 = M 45 2 := by rw [hW, sU_ne (fun z => by omega), sU_ne (fun z => by omega)]
      have r46_2 : W 46 2 = M 46 2 := by rw [hW, sU_ne (fun z => by omega), sU_ne (fun z => by omega)]
      have r47_2 : W 47 2 = M 47 2 := by rw [hW, sU_ne (fun z => by omega), sU_ne (fun z => by omega)]
      have r48_2 : W 48 2 = M 48 2 := by rw [hW, sU_ne (fun z => by omega), sU_ne (fun z => by omega)]
      have r49_2 : W 49 2 = M 49 2 := by rw [hW, sU_ne (fun z => by omega), sU_ne (fun z => by omega)]
      have r50_2 : W 50 2 = M 50 2 := by rw [hW, sU_ne (fun z => by omega), sU_ne (fun z => by omega)]
      have r51_2 : W 51 2 = M 51 2 := by rw [hW, sU_ne (fun z => by omega), sU_ne (fun z => by omega)]
      have r52_2 : W 52 2 = M 52 2 := by rw [hW, sU_ne (fun z => by omega), sU_ne (fun z => by omega)]
      have r53_2 : W 53 2 = M 53 2 := by rw [hW, sU_ne (fun z => by omega), sU_ne (fun z => by omega)]
      have r39_3 : W 39 3 = M 39 3 := by rw [hW, sU_ne (fun z => by omega), sU_ne (fun z => by omega)]
      have r40_3 : W 40 3 = M 40 3 := by rw [hW, sU_ne (fun z => by omega), sU_ne (fun z => by omega)]
      have r41_3 : W 41 3 = M 41 3 := by rw [hW, sU_ne (fun z => by omega), sU_ne (fun z => by omega)]
      have r42_3 : W 42 3 = M 42 3 := by rw [hW, sU_ne (fun z => by omega), sU_ne (fun z => by omega)]
      have r43_3 : W 43 3 = M 43 3 := by rw [hW, sU_ne (fun z => by omega), sU_ne (fun z => by omega)]
      have r44_3 : W 44 3 = M 44 3 := by rw [hW, sU_ne (fun z => by omega), sU_ne (fun z => by omega)]
      have r45_3 : W 45 3 = M 45 3 := by rw [hW, sU_ne (fun z => by omega), sU_ne (fun z => by omega)]
      have r46_3 : W 46 3 = M 46 3 := by rw [hW, sU_ne (fun z => by omega), sU_ne (fun z => by omega)]
      have r47_3 : W 47 3 = M 47 3 := by rw [hW, sU_ne (fun z => by omega), sU_ne (fun z => by omega)]
      have r48_3 : W 48 3 = M 48 3 := by rw [hW, sU_ne (fun z => by omega), sU_ne (fun z => by omega)]
      have r49_3 : W 49 3 = M 49 3 := by rw [hW, sU_ne (fun z => by omega), sU_ne (fun z => by omega)]
      have r50_3 : W 50 3 = M 50 3 := by rw [hW, sU_ne (fun z => by omega), sU_ne (fun z => by omega)]
      have r51_3 : W 51 3 = M 51 3 := by rw [hW, sU_ne (fun z => by omega), sU_ne (fun z => by omega)]
      have r52_3 : W 52 3 = M 52 3 := by rw [hW, sU_ne (fun z => by omega), sU_ne (fun z => by omega)]
      have r53_3 : W 53 3 = M 53 3 := by rw [hW, sU_ne (fun z => by omega), sU_ne (fun z => by omega)]
      have r39_4 : W 39 4 = M 39 4 := by rw [hW, sU_ne (fun z => by omega), sU_ne (fun z => by omega)]
      have r40_4 : W 40 4 = M 40 4 := by rw [hW, sU_ne (fun z => by omega), sU_ne (fun z => by omega)]
      have r41_4 : W 41 4 = M 41 4 := by rw [hW, sU_ne (fun z => by omega), sU_ne (fun z => by omega)]
      have r42_4 : W 42 4 = M 42 4 := by rw [hW, sU_ne (fun z => by omega), sU_ne (fun z => by omega)]
      have r43_4 : W 43 4 = M 43 4 := by rw [hW, sU_ne (fun z => by omega), sU_ne (fun z => by omega)]
      have r44_4 : W 44 4 = M 44 4 := by rw [hW, sU_ne (fun z => by omega), sU_ne (fun z => by omega)]
      have r45_4 : W 45 4 = M 45 4 := by rw [hW, sU_ne (fun z => by omega), sU_ne (fun z => by omega)]
      have r46_4 : W 46 4 = M 46 4 := by rw [hW, sU_ne (fun z => by omega), sU_ne (fun z => by omega)]
      have r47_4 : W 47 4 = M 47 4 := by rw [hW, sU_ne (fun z => by omega), sU_ne (fun z => by omega)]
      have r39_5 : W 39 5 = M 39 5 := by rw [hW, sU_ne (fun z => by omega), sU_ne (fun z => by omega)]
      have r40_5 : W 40 5 = M 40 5 := by rw [hW, sU_ne (fun z => by omega), sU_ne (fun z => by omega)]
      have r41_5 : W 41 5 = M 41 5 := by rw [hW, sU_ne (fun z => by omega), sU_ne (fun z => by omega)]
      have r42_5 : W 42 5 = M 42 5 := by rw [hW, sU_ne (fun z => by omega), sU_ne (fun z => by omega)]
      have r43_5 : W 43 5 = M 43 5 := by rw [hW, sU_ne (fun z => by omega), sU_ne (fun z => by omega)]
      have r44_5 : W 44 5 = M 44 5 := by rw [hW, sU_ne (fun z => by omega), sU_ne (fun z => by omega)]
      have r45_5 : W 45 5 = M 45 5 := by rw [hW, sU_ne (fun z => by omega), sU_ne (fun z => by omega)]
      have r46_5 : W 46 5 = M 46 5 := by rw [hW, sU_ne (fun z => by omega), sU_ne (fun z => by omega)]
      have r47_5 : W 47 5 = M 47 5 := by rw [hW, sU_ne (fun z => by omega), sU_ne (fun z => by omega)]
      have r28_11 : W 28 11 = M 28 11 := by rw [hW, sU_ne (fun z => by omega), sU_ne (fun z => by omega)]
      have r28_12 : W 28 12 = M 28 12 := by rw [hW, sU_ne (fun z => by omega), sU_ne (fun z => by omega)]
      have r28_13 : W 28 13 = M 28 13 := by rw [hW, sU_ne (fun z => by omega), sU_ne (fun z => by omega)]
      have r28_14 : W 28 14 = M 28 14 := by rw [hW, sU_ne (fun z => by omega), sU_ne (fun z => by omega)]
      have r28_15 : W 28 15 = M 28 15 := by rw [hW, sU_ne (fun z => by omega), sU_ne (fun z => by omega)]
      have r93_3 : W 93 3 = M 93 3 := by rw [hW, sU_ne (fun z => by omega), sU_ne (fun z => by omega)]
      have r93_4 : W 93 4 = M 93 4 := by rw [hW, sU_ne (fun z => by omega), sU_ne (fun z => by omega)]
      have r93_5 : W 93 5 = M 93 5 := by rw [hW, sU_ne (fun z => by omega), sU_ne (fun z => by omega)]
      have r93_6 : W 93 6 = M 93 6 := by rw [hW, sU_ne (fun z => by omega), sU_ne (fun z => by omega)]
      have r93_7 : W 93 7 = M 93 7 := by rw [hW, sU_ne (fun z => by omega), sU_ne (fun z => by omega)]
      have c5 : ∀ k, W 5 k = M 5 k := fun k => by rw [hW, sU_ne (fun z => by omega), sU_ne (fun z => by omega)]
      have e5 : W 5 = M 5 := funext c5
      have c6 : ∀ k, W 6 k = M 6 k := fun k => by rw [hW, sU_ne (fun z => by omega), sU_ne (fun z => by omega)]
      have e6 : W 6 = M 6 := funext c6
      have c7 : ∀ k, W 7 k = M 7 k := fun k => by rw [hW, sU_ne (fun z => by omega), sU_ne (fun z => by omega)]
      have e7 : W 7 = M 7 := funext c7
      have c8 : ∀ k, W 8 k = M 8 k := fun k => by rw [hW, sU_ne (fun z => by omega), sU_ne (fun z => by omega)]
      have e8 : W 8 = M 8 := funext c8
      have c31 : ∀ k, W 31 k = M 31 k := fun k => by rw [hW, sU_ne (fun z => by omega), sU_ne (fun z => by omega)]
      have e31 : W 31 = M 31 := funext c31
      have c32 : ∀ k, W 32 k = M 32 k := fun k => by rw [hW, sU_ne (fun z => by omega), sU_ne (fun z => by omega)]
      have e32 : W 32 = M 32 := funext c32
      have c33 : ∀ k, W 33 k = M 33 k := fun k => by rw [hW, sU_ne (fun z => by omega), sU_ne (fun z => by omega)]
      have e33 : W 33 = M 33 := funext c33
      have c34 : ∀ k, W 34 k = M 34 k := fun k => by rw [hW, sU_ne (fun z => by omega), sU_ne (fun z => by omega)]
      have e34 : W 34 = M 34 := funext c34
      have c94 : ∀ k, W 94 k = M 94 k := fun k => by rw [hW, sU_ne (fun z => by omega), sU_ne (fun z => by omega)]
      have e94 : W 94 = M 94 := funext c94
      have c95 : ∀ k, W 95 k = M 95 k := fun k => by rw [hW, sU_ne (fun z => by omega), sU_ne (fun z => by omega)]
      have e95 : W 95 = M 95 := funext c95
      have c96 : ∀ k, W 96 k = M 96 k := fun k => by rw [hW, sU_ne (fun z => by omega), sU_ne (fun z => by omega)]
      have e96 : W 96 = M 96 := funext c96
      have c97 : ∀ k : Nat, k ≠ (1 * ρ 1 + 0).toNat → W 97 k = M 97 k := fun k hk => by rw [hW, sU_ne (fun z => by omega), sU_ne (fun z => by omega)]
      have a97 : W 97 (1 * ρ 1 + 0).toNat = 1 * ρ 2 + 0 := by rw [hW, sU_ne (fun z => by omega), sU_at]
      have c98 : ∀ k, W 98 k = M 98 k := fun k => by rw [hW, sU_ne (fun z => by omega), sU_ne (fun z => by omega)]
      have e98 : W 98 = M 98 := funext c98
      have c99 : ∀ k, W 99 k = M 99 k := fun k => by rw [hW, sU_ne (fun z => by omega), sU_ne (fun z => by omega)]
      have e99 : W 99 = M 99 := funext c99
      have c100 : ∀ k, W 100 k = M 100 k := fun k => by rw [hW, sU_ne (fun z => by omega), sU_ne (fun z => by omega)]
      have e100 : W 100 = M 100 := funext c100
      have c101 : ∀ k, W 101 k = M 101 k := fun k => by rw [hW, sU_ne (fun z => by omega), sU_ne (fun z => by omega)]
      have e101 : W 101 = M 101 := funext c101
      have c102 : ∀ k, W 102 k = M 102 k := fun k => by rw [hW, sU_ne (fun z => by omega), sU_ne (fun z => by omega)]
      have e102 : W 102 = M 102 := funext c102
      have c103 : ∀ k, W 103 k = M 103 k := fun k => by rw [hW, sU_ne (fun z => by omega), sU_ne (fun z => by omega)]
      have e103 : W 103 = M 103 := funext c103
      have c104 : ∀ k, W 104 k = M 104 k := fun k => by rw [hW, sU_ne (fun z => by omega), sU_ne (fun z => by omega)]
      have e104 : W 104 = M 104 := funext c104
      have c105 : ∀ k, W 105 k = M 105 k := fun k => by rw [hW, sU_ne (fun z => by omega), sU_ne (fun z => by omega)]
      have e105 : W 105 = M 105 := funext c105
      have c106 : ∀ k, W 106 k = M 106 k := fun k => by rw [hW, sU_ne (fun z => by omega), sU_ne (fun z => by omega)]
      have e106 : W 106 = M 106 := funext c106
      have c107 : ∀ k, W 107 k = M 107 k := fun k => by rw [hW, sU_ne (fun z => by omega), sU_ne (fun z => by omega)]
      have e107 : W 107 = M 107 := funext c107
      have hw : ∀ o k, 93 ≤ o → o ≤ 107 → ¬ (o = 97 ∧ k = (1 * ρ 1 + 0).toNat) → W o k = M o k := fun o k h1 h2 h3 => by rw [hW, sU_ne (fun z => by omega), sU_ne h3]
      have hx : ∀ o k, o ≠ 4 → o ≠ 91 → ¬ (o = 97 ∧ k = (1 * ρ 1 + 0).toNat) → W o k = M o k := fun o k h1 h2 h3 => by rw [hW, sU_ne (fun z => by omega), sU_ne h3]
      intro h i hi ht
      rw [r4_301] at h
      rw [r93_0, r93_1, r93_2] at ht
      rw [r4_300, drl_up hw (by show 9 ≤ (1 * ρ 1 + 0).toNat; omega) hi, dcl_hi (fun o k h1 h2 => hx o k h2 (by omega) (by omega))]
      exact gx_xDE hI h i hi ht
    have k_xQ5 : xQ5 W := by
      rw [hW]
      exact (uxQ5 rfl (uxQ5 (sinc_ok rfl _) hI.2.2.2.2.2.2.2.2.2.2.2.2.2.2.2.2.2.2.2.2.2.2.2.2.2.2.2.2.2.2.2.2.2.2.2.2.2.2.2.2.2.2.2.2.2.2.2.1))
    have k_xQL : xQL W := by
      have r : W 4 350 = 0 := by
        have e := m0
        rw [hW, sU_ne (fun z => by omega), sU_ne (fun z => by omega)]
        omega
      intro h
      rw [r] at h
      omega
    have k_xQW : xQW W := by
      rw [hW]
      exact (uxQW rfl (uxQW (sinc_ok rfl _) hI.2.2.2.2.2.2.2.2.2.2.2.2.2.2.2.2.2.2.2.2.2.2.2.2.2.2.2.2.2.2.2.2.2.2.2.2.2.2.2.2.2.2.2.2.2.2.2.2.2.1))
    have k_xQM : xQM W := by
      rw [hW]
      exact (uxQM rfl (uxQM (sinc_ok rfl _) hI.2.2.2.2.2.2.2.2.2.2.2.2.2.2.2.2.2.2.2.2.2.2.2.2.2.2.2.2.2.2.2.2.2.2.2.2.2.2.2.2.2.2.2.2.2.2.2.2.2.2.1))
    have k_xQH : xQH W := by
      rw [hW]
      exact (uxQH rfl (uxQH (sinc_ok rfl _) hI.2.2.2.2.2.2.2.2.2.2.2.2.2.2.2.2.2.2.2.2.2.2.2.2.2.2.2.2.2.2.2.2.2.2.2.2.2.2.2.2.2.2.2.2.2.2.2.2.2.2.2))
    have k_XC : XC W := ⟨k_xS1, k_xS2, k_xS3, k_xS4, k_xS5, k_xS6, k_xS7, k_xS8, k_xS9, k_xSA, k_xSG, k_xSF, k_xSB, k_xSC, k_xSD, k_xSE, k_xSW, k_xST, k_xSP, k_xSL, k_xSM, k_xSI, k_xD3, k_xDV, k_xDP, k_xDE, k_xQ5, k_xQL, k_xQW, k_xQM, k_xQH⟩
    have kXB : XB W := ⟨k_xN1, k_xN2, k_xN3, k_xN4, k_xN5, k_xN6, k_xH1, k_xK1, k_xC1, k_xRW, k_xWT, k_xCU, k_xG2, k_xG3, k_xG4, k_xG5, k_xG6, k_XC⟩
    exact ⟨base, k2, k3, kXA, kXB⟩
-- rZ97
def xr_589 : qRu := (3, [[(-9, 0), (1, 1)], [(17, 0), (-1, 1)]], [(4, 350, []), (4, 100, []), (4, 303, [])], [(97, [(1, 1)], [(1, 2)])], [], [])
theorem xo_589 : qRok xr_589 := by
  intro ρ M h0 hf hm hI
  have f0 := hf [(-9, 0), (1, 1)] (by decide)
  have f1 := hf [(17, 0), (-1, 1)] (by decide)
  simp only [qD, h0] at f0 f1
  have m0 : M 4 350 = 0 := hm (4, 350, []) (by decide)
  have m1 : M 4 100 = 0 := hm (4, 100, []) (by decide)
  have m2 : M 4 303 = 0 := hm (4, 303, []) (by decide)
  refine ⟨ρ, fun _ _ => rfl, fun f h => ?_, ?_⟩
  · exact nomatch h
  · show sI (sU M 97 (1 * ρ 1 + 0 : Int).toNat (1 * ρ 2 + 0))
    obtain ⟨W, hW⟩ : ∃ W, W = (sU M 97 (1 * ρ 1 + 0).toNat (1 * ρ 2 + 0)) := ⟨_, rfl⟩
    rw [← hW]
    have base : sI0 W := by
      rw [hW]
      exact (si_u0 hI.1 (fun r hr => by cases hr))
    have k2 : XI2 W := by
      rw [hW]
      exact (xi2_u (sinc_ok rfl _) hI.2.1)
    have k3 : XI3 W := by
      rw [hW]
      exact (xi3_u (sinc_ok rfl _) hI.2.2.1)
    have kXA : XA W := by
      rw [hW]
      exact (uXA (sinc_ok rfl _) hI.2.2.2.1)
    have k_xN1 : xN1 W := by
      rw [hW]
      exact (uxN1 (sinc_ok rfl _) hI.2.2.2.2.1)
    have k_xN2 : xN2 W := by
      rw [hW]
      exact (uxN2 (sinc_ok rfl _) hI.2.2.2.2.2.1)
    have k_xN3 : xN3 W := by
      rw [hW]
      exact (uxN3 (sinc_ok rfl _) hI.2.2.2.2.2.2.1)
    have k_xN4 : xN4 W := by
      rw [hW]
      exact (uxN4 (sinc_ok rfl _) hI.2.2.2.2.2.2.2.1)
    have k_xN5 : xN5 W := by
      rw [hW]
      exact (uxN5 (sinc_ok rfl _) hI.2.2.2.2.2.2.2.2.1)
    have k_xN6 : xN6 W := by
      rw [hW]
      exact (uxN6 (sinc_ok rfl _) hI.2.2.2.2.2.2.2.2.2.1)
    have k_xH1 : xH1 W := by
      rw [hW]
      exact (uxH1 (sinc_ok rfl _) hI.2.2.2.2.2.2.2.2.2.2.1)
    have k_xK1 : xK1 W := by
      rw [hW]
      exact (uxK1 (sinc_ok rfl _) hI.2.2.2.2.2.2.2.2.2.2.2.1)
    have k_xC1 : xC1 W := by
      rw [hW]
      exact (uxC1 (sinc_ok rfl _) hI.2.2.2.2.2.2.2.2.2.2.2.2.1)
    have k_xRW : xRW W := by
      rw [hW]
      exact (uxRW (sinc_ok rfl _) hI.2.2.2.2.2.2.2.2.2.2.2.2.2.1)
    have k_xWT : xWT W := by
      rw [hW]
      exact (uxWT (sinc_ok rfl _) hI.2.2.2.2.2.2.2.2.2.2.2.2.2.2.1)
    have k_xCU : xCU W := by
      rw [hW]
      exact (uxCU (sinc_ok rfl _) hI.2.2.2.2.2.2.2.2.2.2.2.2.2.2.2.1)
    have k_xG2 : xG2 W := by
      rw [hW]
      exact (uxG2 (sinc_ok rfl _) hI.2.2.2.2.2.2.2.2.2.2.2.2.2.2.2.2.1)
    have k_xG3 : xG3 W := by
      rw [hW]
      exact (uxG3 (sinc_ok rfl _) hI.2.2.2.2.2.2.2.2.2.2.2.2.2.2.2.2.2.1)
    have k_xG4 : xG4 W := by
      rw [hW]
      exact (uxG4 (sinc_ok rfl _) hI.2.2.2.2.2.2.2.2.2.2.2.2.2.2.2.2.2.2.1)
    have k_xG5 : xG5 W := by
      rw [hW]
      exact (uxG5 (sinc_ok rfl _) hI.2.2.2.2.2.2.2.2.2.2.2.2.2.2.2.2.2.2.2.1)
    have k_xG6 : xG6 W := by
      rw [hW]
      exact (uxG6 (sinc_ok rfl _) hI.2.2.2.2.2.2.2.2.2.2.2.2.2.2.2.2.2.2.2.2.1)
    have k_xS1 : xS1 W := by
      rw [hW]
      exact (uxS1 (sinc_ok rfl _) hI.2.2.2.2.2.2.2.2.2.2.2.2.2.2.2.2.2.2.2.2.2.1)
    have k_xS2 : xS2 W := by
      rw [hW]
      exact (uxS2 (sinc_ok rfl _) hI.2.2.2.2.2.2.2.2.2.2.2.2.2.2.2.2.2.2.2.2.2.2.1)
    have k_xS3 : xS3 W := by
      rw [hW]
      exact (uxS3 (sinc_ok rfl _) hI.2.2.2.2.2.2.2.2.2.2.2.2.2.2.2.2.2.2.2.2.2.2.2.1)
    have k_xS4 : xS4 W := by
      rw [hW]
      exact (uxS4 (sinc_ok rfl _) hI.2.2.2.2.2.2.2.2.2.2.2.2.2.2.2.2.2.2.2.2.2.2.2.2.1)
    have k_xS5 : xS5 W := by
      rw [hW]
      exact (uxS5 (sinc_ok rfl _) hI.2.2.2.2.2.2.2.2.2.2.2.2.2.2.2.2.2.2.2.2.2.2.2.2.2.1)
    have k_xS6 : xS6 W := by
      rw [hW]
      exact (uxS6 (sinc_ok rfl _) hI.2.2.2.2.2.2.2.2.2.2.2.2.2.2.2.2.2.2.2.2.2.2.2.2.2.2.1)
    have k_xS7 : xS7 W := by
      rw [hW]
      exact (uxS7 (sinc_ok rfl _) hI.2.2.2.2.2.2.2.2.2.2.2.2.2.2.2.2.2.2.2.2.2.2.2.2.2.2.2.1)
    have k_xS8 : xS8 W := by
      rw [hW]
      exact (uxS8 (sinc_ok rfl _) hI.2.2.2.2.2.2.2.2.2.2.2.2.2.2.2.2.2.2.2.2.2.2.2.2.2.2.2.2.1)
    have k_xS9 : xS9 W := by
      rw [hW]
      exact (uxS9 (sinc_ok rfl _) hI.2.2.2.2.2.2.2.2.2.2.2.2.2.2.2.2.2.2.2.2.2.2.2.2.2.2.2.2.2.1)
    have k_xSA : xSA W := by
      rw [hW]
      exact (uxSA (sinc_ok rfl _) hI.2.2.2.2.2.2.2.2.2.2.2.2.2.2.2.2.2.2.2.2.2.2.2.2.2.2.2.2.2.2.1)
    have k_xSG : xSG W := by
      rw [hW]
      exact (uxSG (sinc_ok rfl _) hI.2.2.2.2.2.2.2.2.2.2.2.2.2.2.2.2.2.2.2.2.2.2.2.2.2.2.2.2.2.2.2.1)
    have k_xSF : xSF W := by
      rw [hW]
      exact (uxSF (sinc_ok rfl _) hI.2.2.2.2.2.2.2.2.2.2.2.2.2.2.2.2.2.2.2.2.2.2.2.2.2.2.2.2.2.2.2.2.1)
    have k_xSB : xSB W := by
      rw [hW]
      exact (uxSB (sinc_ok rfl _) hI.2.2.2.2.2.2.2.2.2.2.2.2.2.2.2.2.2.2.2.2.2.2.2.2.2.2.2.2.2.2.2.2.2.1)
    have k_xSC : xSC W := by
      rw [hW]
      exact (uxSC (sinc_ok rfl _) hI.2.2.2.2.2.2.2.2.2.2.2.2.2.2.2.2.2.2.2.2.2.2.2.2.2.2.2.2.2.2.2.2.2.2.1)
    have k_xSD : xSD W := by
      rw [hW]
      exact (uxSD (sinc_ok rfl _) hI.2.2.2.2.2.2.2.2.2.2.2.2.2.2.2.2.2.2.2.2.2.2.2.2.2.2.2.2.2.2.2.2.2.2.2.1)
    have k_xSE : xSE W := by
      rw [hW]
      exact (uxSE (sinc_ok rfl _) hI.2.2.2.2.2.2.2.2.2.2.2.2.2.2.2.2.2.2.2.2.2.2.2.2.2.2.2.2.2.2.2.2.2.2.2.2.1)
    have k_xSW : xSW W := by
      rw [hW]
      exact (uxSW (sinc_ok rfl _) hI.2.2.2.2.2.2.2.2.2.2.2.2.2.2.2.2.2.2.2.2.2.2.2.2.2.2.2.2.2.2.2.2.2.2.2.2.2.1)
    have k_xST : xST W := by
      rw [hW]
      exact (uxST (sinc_ok rfl _) hI.2.2.2.2.2.2.2.2.2.2.2.2.2.2.2.2.2.2.2.2.2.2.2.2.2.2.2.2.2.2.2.2.2.2.2.2.2.2.1)
    have k_xSP : xSP W := by
      rw [hW]
      exact (uxSP (sinc_ok rfl _) hI.2.2.2.2.2.2.2.2.2.2.2.2.2.2.2.2.2.2.2.2.2.2.2.2.2.2.2.2.2.2.2.2.2.2.2.2.2.2.2.1)
    have k_xSL : xSL W := by
      rw [hW]
      exact (uxSL (sinc_ok rfl _) hI.2.2.2.2.2.2.2.2.2.2.2.2.2.2.2.2.2.2.2.2.2.2.2.2.2.2.2.2.2.2.2.2.2.2.2.2.2.2.2.2.1)
    have k_xSM : xSM W := by
      rw [hW]
      exact (uxSM (sinc_ok rfl _) hI.2.2.2.2.2.2.2.2.2.2.2.2.2.2.2.2.2.2.2.2.2.2.2.2.2.2.2.2.2.2.2.2.2.2.2.2.2.2.2.2.2.1)
    have k_xSI : xSI W := by
      rw [hW]
      exact (uxSI (sinc_ok rfl _) hI.2.2.2.2.2.2.2.2.2.2.2.2.2.2.2.2.2.2.2.2.2.2.2.2.2.2.2.2.2.2.2.2.2.2.2.2.2.2.2.2.2.2.1)
    have k_xD3 : xD3 W := by
      have r : W 4 100 = 0 := by
        have e := m1
        rw [hW, sU_ne (fun z => by omega)]
        omega
      intro h
      rw [r] at h
      exact absurd rfl h
    have k_xDV : xDV W := by
      rw [hW]
      exact (uxDV (sinc_ok rfl _) hI.2.2.2.2.2.2.2.2.2.2.2.2.2.2.2.2.2.2.2.2.2.2.2.2.2.2.2.2.2.2.2.2.2.2.2.2.2.2.2.2.2.2.2.2.1)
    have k_xDP : xDP W := by
      have r : W 4 303 = 0 := by
        have e := m2
        rw [hW, sU_ne (fun z => by omega)]
        omega
      intro _ h
      rw [r] at h
      omega
    have k_xDE : xDE W := by
      have r4_301 : W 4 301 = M 4 301 := by rw [hW, sU_ne (fun z => by omega)]
      have r4_300 : W 4 300 = M 4 300 := by rw [hW, sU_ne (fun z => by omega)]
      have r93_0 : W 93 0 = M 93 0 := by rw [hW, sU_ne (fun z => by omega)]
      have r93_1 : W 93 1 = M 93 1 := by rw [hW, sU_ne (fun z => by omega)]
      have r93_2 : W 93 2 = M 93 2 := by rw [hW, sU_ne (fun z => by omega)]
      have r13_0 : W 13 0 = M 13 0 := by rw [hW, sU_ne (fun z => by omega)]
      have r14_0 : W 14 0 = M 14 0 := by rw [hW, sU_ne (fun z => by omega)]
      have r15_0 : W 15 0 = M 15 0 := by rw [hW, sU_ne (fun z => by omega)]
      have r16_0 : W 16 0 = M 16 0 := by rw [hW, sU_ne (fun z => by omega)]
      have r17_0 : W 17 0 = M 17 0 := by rw [hW, sU_ne (fun z => by omega)]
      have r18_0 : W 18 0 = M 18 0 := by rw [hW, sU_ne (fun z => by omega)]
      have r19_0 : W 19 0 = M 19 0 := by rw [hW, sU_ne (fun z => by omega)]
      have r20_0 : W 20 0 = M 20 0 := by rw [hW, sU_ne (fun z => by omega)]
      have r21_0 : W 21 0 = M 21 0 := by rw [hW, sU_ne (fun z => by omega)]
      have r22_0 : W 22 0 = M 22 0 := by rw [hW, sU_ne (fun z => by omega)]
      have r23_0 : W 23 0 = M 23 0 := by rw [hW, sU_ne (fun z => by omega)]
      have r24_0 : W 24 0 = M 24 0 := by rw [hW, sU_ne (fun z => by omega)]
      have r25_0 : W 25 0 = M 25 0 := by rw [hW, sU_ne (fun z => by omega)]
      have r26_0 : W 26 0 = M 26 0 := by rw [hW, sU_ne (fun z => by omega)]
      have r27_0 : W 27 0 = M 27 0 := by rw [hW, sU_ne (fun z => by omega)]
      have r13_1 : W 13 1 = M 13 1 := by rw [hW, sU_ne (fun z => by omega)]
      have r14_1 : W 14 1 = M 14 1 := by rw [hW, sU_ne (fun z => by omega)]
      have r15_1 : W 15 1 = M 15 1 := by rw [hW, sU_ne (fun z => by omega)]
      have r16_1 : W 16 1 = M 16 1 := by rw [hW, sU_ne (fun z => by omega)]
      have r17_1 : W 17 1 = M 17 1 := by rw [hW, sU_ne (fun z => by omega)]
      have r18_1 : W 18 1 = M 18 1 := by rw [hW, sU_ne (fun z => by omega)]
      have r19_1 : W 19 1 = M 19 1 := by rw [hW, sU_ne (fun z => by omega)]
      have r20_1 : W 20 1 = M 20 1 := by rw [hW, sU_ne (fun z => by omega)]
      have r21_1 : W 21 1 = M 21 1 := by rw [hW, sU_ne (fun z => by omega)]
      have r22_1 : W 22 1 = M 22 1 := by rw [hW, sU_ne (fun z => by omega)]
      have r23_1 : W 23 1 = M 23 1 := by rw [hW, sU_ne (fun z => by omega)]
      have r24_1 : W 24 1 = M 24 1 := by rw [hW, sU_ne (fun z => by omega)]
      have r25_1 : W 25 1 = M 25 1 := by rw [hW, sU_ne (fun z => by omega)]
      have r26_1 : W 26 1 = M 26 1 := by rw [hW, sU_ne (fun z => by omega)]
      have r27_1 : W 27 1 = M 27 1 := by rw [hW, sU_ne (fun z => by omega)]
      have r13_2 : W 13 2 = M 13 2 := by rw [hW, sU_ne (fun z => by omega)]
      have r14_2 : W 14 2 = M 14 2 := by rw [hW, sU_ne (fun z => by omega)]
      have r15_2 : W 15 2 = M 15 2 := by rw [hW, sU_ne (fun z => by omega)]
      have r16_2 : W 16 2 = M 16 2 := by rw [hW, sU_ne (fun z => by omega)]
      have r17_2 : W 17 2 = M 17 2 := by rw [hW, sU_ne (fun z => by omega)]
      have r18_2 : W 18 2 = M 18 2 := by rw [hW, sU_ne (fun z => by omega)]
      have r19_2 : W 19 2 = M 19 2 := by rw [hW, sU_ne (fun z => by omega)]
      have r20_2 : W 20 2 = M 20 2 := by rw [hW, sU_ne (fun z => by omega)]
      have r21_2 : W 21 2 = M 21 2 := by rw [hW, sU_ne (fun z => by omega)]
      have r22_2 : W 22 2 = M 22 2 := by rw [hW, sU_ne (fun z => by omega)]
      have r23_2 : W 23 2 = M 23 2 := by rw [hW, sU_ne (fun z => by omega)]
      have r24_2 : W 24 2 = M 24 2 := by rw [hW, sU_ne (fun z => by omega)]
      have r25_2 : W 25 2 = M 25 2 := by rw [hW, sU_ne (fun z => by omega)]
      have r26_2 : W 26 2 = M 26 2 := by rw [hW, sU_ne (fun z => by omega)]
      have r27_2 : W 27 2 = M 27 2 := by rw [hW, sU_ne (fun z => by omega)]
      have r13_3 : W 13 3 = M 13 3 := by rw [hW, sU_ne (fun z => by omega)]
      have r14_3 : W 14 3 = M 14 3 := by rw [hW, sU_ne (fun z => by omega)]
      have r15_3 : W 15 3 = M 15 3 := by rw [hW, sU_ne (fun z => by omega)]
      have r16_3 : W 16 3 = M 16 3 := by rw [hW, sU_ne (fun z => by omega)]
      have r17_3 : W 17 3 = M 17 3 := by rw [hW, sU_ne (fun z => by omega)]
      have r18_3 : W 18 3 = M 18 3 := by rw [hW, sU_ne (fun z => by omega)]
      have r19_3 : W 19 3 = M 19 3 := by rw [hW, sU_ne (fun z => by omega)]
      have r20_3 : W 20 3 = M 20 3 := by rw [hW, sU_ne (fun z => by omega)]
      have r21_3 : W 21 3 = M 21 3 := by rw [hW, sU_ne (fun z => by omega)]
      have r22_3 : W 22 3 = M 22 3 := by rw [hW, sU_ne (fun z => by omega)]
      have r23_3 : W 23 3 = M 23 3 := by rw [hW, sU_ne (fun z => by omega)]
      have r24_3 : W 24 3 = M 24 3 := by rw [hW, sU_ne (fun z => by omega)]
      have r25_3 : W 25 3 = M 25 3 := by rw [hW, sU_ne (fun z => by omega)]
      have r26_3 : W 26 3 = M 26 3 := by rw [hW, sU_ne (fun z => by omega)]
      have r27_3 : W 27 3 = M 27 3 := by rw [hW, sU_ne (fun z => by omega)]
      have r13_4 : W 13 4 = M 13 4 := by rw [hW, sU_ne (fun z => by omega)]
      have r14_4 : W 14 4 = M 14 4 := by rw [hW, sU_ne (fun z => by omega)]
      have r15_4 : W 15 4 = M 15 4 := by rw [hW, sU_ne (fun z => by omega)]
      have r16_4 : W 16 4 = M 16 4 := by rw [hW, sU_ne (fun z => by omega)]
      have r17_4 : W 17 4 = M 17 4 := by rw [hW, sU_ne (fun z => by omega)]
      have r18_4 : W 18 4 = M 18 4 := by rw [hW, sU_ne (fun z => by omega)]
      have r19_4 : W 19 4 = M 19 4 := by rw [hW, sU_ne (fun z => by omega)]
      have r20_4 : W 20 4 = M 20 4 := by rw [hW, sU_ne (fun z => by omega)]
      have r21_4 : W 21 4 = M 21 4 := by rw [hW, sU_ne (fun z => by omega)]
      have r13_5 : W 13 5 = M 13 5 := by rw [hW, sU_ne (fun z => by omega)]
      have r14_5 : W 14 5 = M 14 5 := by rw [hW, sU_ne (fun z => by omega)]
      have r15_5 : W 15 5 = M 15 5 := by rw [hW, sU_ne (fun z => by omega)]
      have r16_5 : W 16 5 = M 16 5 := by rw [hW, sU_ne (fun z => by omega)]
      have r17_5 : W 17 5 = M 17 5 := by rw [hW, sU_ne (fun z => by omega)]
      have r18_5 : W 18 5 = M 18 5 := by rw [hW, sU_ne (fun z => by omega)]
      have r19_5 : W 19 5 = M 19 5 := by rw [hW, sU_ne (fun z => by omega)]
      have r20_5 : W 20 5 = M 20 5 := by rw [hW, sU_ne (fun z => by omega)]
      have r21_5 : W 21 5 = M 21 5 := by rw [hW, sU_ne (fun z => by omega)]
      have r2_11 : W 2 11 = M 2 11 := by rw [hW, sU_ne (fun z => by omega)]
      have r2_12 : W 2 12 = M 2 12 := by rw [hW, sU_ne (fun z => by omega)]
      have r2_13 : W 2 13 = M 2 13 := by rw [hW, sU_ne (fun z => by omega)]
      have r2_14 : W 2 14 = M 2 14 := by rw [hW, sU_ne (fun z => by omega)]
      have r2_15 : W 2 15 = M 2 15 := by rw [hW, sU_ne (fun z => by omega)]
      have r39_0 : W 39 0 = M 39 0 := by rw [hW, sU_ne (fun z => by omega)]
      have r40_0 : W 40 0 = M 40 0 := by rw [hW, sU_ne (fun z => by omega)]
      have r41_0 : W 41 0 = M 41 0 := by rw [hW, sU_ne (fun z => by omega)]
      have r42_0 : W 42 0 = M 42 0 := by rw [hW, sU_ne (fun z => by omega)]
      have r43_0 : W 43 0 = M 43 0 := by rw [hW, sU_ne (fun z => by omega)]
      have r44_0 : W 44 0 = M 44 0 := by rw [hW, sU_ne (fun z => by omega)]
      have r45_0 : W 45 0 = M 45 0 := by rw [hW, sU_ne (fun z => by omega)]
      have r46_0 : W 46 0 = M 46 0 := by rw [hW, sU_ne (fun z => by omega)]
      have r47_0 : W 47 0 = M 47 0 := by rw [hW, sU_ne (fun z => by omega)]
      have r48_0 : W 48 0 = M 48 0 := by rw [hW, sU_ne (fun z => by omega)]
      have r49_0 : W 49 0 = M 49 0 := by rw [hW, sU_ne (fun z => by omega)]
      have r50_0 : W 50 0 = M 50 0 := by rw [hW, sU_ne (fun z => by omega)]
      have r51_0 : W 51 0 = M 51 0 := by rw [hW, sU_ne (fun z => by omega)]
      have r52_0 : W 52 0 = M 52 0 := by rw [hW, sU_ne (fun z => by omega)]
      have r53_0 : W 53 0 = M 53 0 := by rw [hW, sU_ne (fun z => by omega)]
      have r39_1 : W 39 1 = M 39 1 := by rw [hW, sU_ne (fun z => by omega)]
      have r40_1 : W 40 1 = M 40 1 := by rw [hW, sU_ne (fun z => by omega)]
      have r41_1 : W 41 1 = M 41 1 := by rw [hW, sU_ne (fun z => by omega)]
      have r42_1 : W 42 1 = M 42 1 := by rw [hW, sU_ne (fun z => by omega)]
      have r43_1 : W 43 1 = M 43 1 := by rw [hW, sU_ne (fun z => by omega)]
      have r44_1 : W 44 1 = M 44 1 := by rw [hW, sU_ne (fun z => by omega)]
      have r45_1 : W 45 1 = M 45 1 := by rw [hW, sU_ne (fun z => by omega)]
      have r46_1 : W 46 1 = M 46 1 := by rw [hW, sU_ne (fun z => by omega)]
      have r47_1 : W 47 1 = M 47 1 := by rw [hW, sU_ne (fun z => by omega)]
      have r48_1 : W 48 1 = M 48 1 := by rw [hW, sU_ne (fun z => by omega)]
      have r49_1 : W 49 1 = M 49 1 := by rw [hW, sU_ne (fun z => by omega)]
      have r50_1 : W 50 1 = M 50 1 := by rw [hW, sU_ne (fun z => by omega)]
      have r51_1 : W 51 1 = M 51 1 := by rw [hW, sU_ne (fun z => by omega)]
      have r52_1 : W 52 1 = M 52 1 := by rw [hW, sU_ne (fun z => by omega)]
      have r53_1 : W 53 1 = M 53 1 := by rw [hW, sU_ne (fun z => by omega)]
      have r39_2 : W 39 2 = M 39 2 := by rw [hW, sU_ne (fun z => by omega)]
      have r40_2 : W 40 2 = M 40 2 := by rw [hW, sU_ne (fun z => by omega)]
      have r41_2 : W 41 2 = M 41 2 := by rw [hW, sU_ne (fun z => by omega)]
      have r42_2 : W 42 2 = M 42 2 := by rw [hW, sU_ne (fun z => by omega)]
      have r43_2 : W 43 2 = M 43 2 := by rw [hW, sU_ne (fun z => by omega)]
      have r44_2 : W 44 2 = M 44 2 := by rw [hW, sU_ne (fun z => by omega)]
      have r45_2 : W 45 2 = M 45 2 := by rw [hW, sU_ne (fun z => by omega)]
      have r46_2 : W 46 2 = M 46 2 := by rw [hW, sU_ne (fun z => by omega)]
      have r47_2 : W 47 2 = M 47 2 := by rw [hW, sU_ne (fun z => by omega)]
      have r48_2 : W 48 2 = M 48 2 := by rw [hW, sU_ne (fun z => by omega)]
      have r49_2 : W 49 2 = M 49 2 := by rw [hW, sU_ne (fun z => by omega)]
      have r50_2 : W 50 2 = M 50 2 := by rw [hW, sU_ne (fun z => by omega)]
      have r51_2 : W 51 2 = M 51 2 := by rw [hW, sU_ne (fun z => by omega)]
      have r52_2 : W 52 2 = M 52 2 := by rw [hW, sU_ne (fun z => by omega)]
      have r53_2 : W 53 2 = M 53 2 := by rw [hW, sU_ne (fun z => by omega)]
      have r39_3 : W 39 3 = M 39 3 := by rw [hW, sU_ne (fun z => by omega)]
      have r40_3 : W 40 3 = M 40 3 := by rw [hW, sU_ne (fun z => by omega)]
      have r41_3 : W 41 3 = M 41 3 := by rw [hW, sU_ne (fun z => by omega)]
      have r42_3 : W 42 3 = M 42 3 := by rw [hW, sU_ne (fun z => by omega)]
      have r43_3 : W 43 3 = M 43 3 := by rw [hW, sU_ne (fun z => by omega)]
      have r44_3 : W 44 3 = M 44 3 := by rw [hW, sU_ne (fun z => by omega)]
      have r45_3 : W 45 3 = M 45 3 := by rw [hW, sU_ne (fun z => by omega)]
      have r46_3 : W 46 3 = M 46 3 := by rw [hW, sU_ne (fun z => by omega)]
      have r47_3 : W 47 3 = M 47 3 := by rw [hW, sU_ne (fun z => by omega)]
      have r48_3 : W 48 3 = M 48 3 := by rw [hW, sU_ne (fun z => by omega)]
      have r49_3 : W 49 3 = M 49 3 := by rw [hW, sU_ne (fun z => by omega)]
      have r50_3 : W 50 3 = M 50 3 := by rw [hW, sU_ne (fun z => by omega)]
      have r51_3 : W 51 3 = M 51 3 := by rw [hW, sU_ne (fun z => by omega)]
      have r52_3 : W 52 3 = M 52 3 := by rw [hW, sU_ne (fun z => by omega)]
      have r53_3 : W 53 3 = M 53 3 := by rw [hW, sU_ne (fun z => by omega)]
      have r39_4 : W 39 4 = M 39 4 := by rw [hW, sU_ne (fun z => by omega)]
      have r40_4 : W 40 4 = M 40 4 := by rw [hW, sU_ne (fun z => by omega)]
      have r41_4 : W 41 4 = M 41 4 := by rw [hW, sU_ne (fun z => by omega)]
      have r42_4 : W 42 4 = M 42 4 := by rw [hW, sU_ne (fun z => by omega)]
      have r43_4 : W 43 4 = M 43 4 := by rw [hW, sU_ne (fun z => by omega)]
      have r44_4 : W 44 4 = M 44 4 := by rw [hW, sU_ne (fun z => by omega)]
      have r45_4 : W 45 4 = M 45 4 := by rw [hW, sU_ne (fun z => by omega)]
      have r46_4 : W 46 4 = M 46 4 := by rw [hW, sU_ne (fun z => by omega)]
      have r47_4 : W 47 4 = M 47 4 := by rw [hW, sU_ne (fun z => by omega)]
      have r39_5 : W 39 5 = M 39 5 := by rw [hW, sU_ne (fun z => by omega)]
      have r40_5 : W 40 5 = M 40 5 := by rw [hW, sU_ne (fun z => by omega)]
      have r41_5 : W 41 5 = M 41 5 := by rw [hW, sU_ne (fun z => by omega)]
      have r42_5 : W 42 5 = M 42 5 := by rw [hW, sU_ne (fun z => by omega)]
      have r43_5 : W 43 5 = M 43 5 := by rw [hW, sU_ne (fun z => by omega)]
      have r44_5 : W 44 5 = M 44 5 := by rw [hW, sU_ne (fun z => by omega)]
      have r45_5 : W 45 5 = M 45 5 := by rw [hW, sU_ne (fun z => by omega)]
      have r46_5 : W 46 5 = M 46 5 := by rw [hW, sU_ne (fun z => by omega)]
      have r47_5 : W 47 5 = M 47 5 := by rw [hW, sU_ne (fun z => by omega)]
      have r28_11 : W 28 11 = M 28 11 := by rw [hW, sU_ne (fun z => by omega)]
      have r28_12 : W 28 12 = M 28 12 := by rw [hW, sU_ne (fun z => by omega)]
      have r28_13 : W 28 13 = M 28 13 := by rw [hW, sU_ne (fun z => by omega)]
      have r28_14 : W 28 14 = M 28 14 := by rw [hW, sU_ne (fun z => by omega)]
      have r28_15 : W 28 15 = M 28 15 := by rw [hW, sU_ne (fun z => by omega)]
      have r93_3 : W 93 3 = M 93 3 := by rw [hW, sU_ne (fun z => by omega)]
      have r93_4 : W 93 4 = M 93 4 := by rw [hW, sU_ne (fun z => by omega)]
      have r93_5 : W 93 5 = M 93 5 := by rw [hW, sU_ne (fun z => by omega)]
      have r93_6 : W 93 6 = M 93 6 := by rw [hW, sU_ne (fun z => by omega)]
      have r93_7 : W 93 7 = M 93 7 := by rw [hW, sU_ne (fun z => by omega)]
      have c5 : ∀ k, W 5 k = M 5 k := fun k => by rw [hW, sU_ne (fun z => by omega)]
      have e5 : W 5 = M 5 := funext c5
      have c6 : ∀ k, W 6 k = M 6 k := fun k => by rw [hW, sU_ne (fun z => by omega)]
      have e6 : W 6 = M 6 := funext c6
      have c7 : ∀ k, W 7 k = M 7 k := fun k => by rw [hW, sU_ne (fun z => by omega)]
      have e7 : W 7 = M 7 := funext c7
      have c8 : ∀ k, W 8 k = M 8 k := fun k => by rw [hW, sU_ne (fun z => by omega)]
      have e8 : W 8 = M 8 := funext c8
      have c31 : ∀ k, W 31 k = M 31 k := fun k => by rw [hW, sU_ne (fun z => by omega)]
      have e31 : W 31 = M 31 := funext c31
      have c32 : ∀ k, W 32 k = M 32 k := fun k => by rw [hW, sU_ne (fun z => by omega)]
      have e32 : W 32 = M 32 := funext c32
      have c33 : ∀ k, W 33 k = M 33 k := fun k => by rw [hW, sU_ne (fun z => by omega)]
      have e33 : W 33 = M 33 := funext c33
      have c34 : ∀ k, W 34 k = M 34 k := fun k => by rw [hW, sU_ne (fun z => by omega)]
      have e34 : W 34 = M 34 := funext c34
      have c94 : ∀ k, W 94 k = M 94 k := fun k => by rw [hW, sU_ne (fun z => by omega)]
      have e94 : W 94 = M 94 := funext c94
      have c95 : ∀ k, W 95 k = M 95 k := fun k => by rw [hW, sU_ne (fun z => by omega)]
      have e95 : W 95 = M 95 := funext c95
      have c96 : ∀ k, W 96 k = M 96 k := fun k => by rw [hW, sU_ne (fun z => by omega)]
      have e96 : W 96 = M 96 := funext c96
      have c97 : ∀ k : Nat, k ≠ (1 * ρ 1 + 0).toNat → W 97 k = M 97 k := fun k hk => by rw [hW, sU_ne (fun z => by omega)]
      have a97 : W 97 (1 * ρ 1 + 0).toNat = 1 * ρ 2 + 0 := by rw [hW, sU_at]
      have c98 : ∀ k, W 98 k = M 98 k := fun k => by rw [hW, sU_ne (fun z => by omega)]
      have e98 : W 98 = M 98 := funext c98
      have c99 : ∀ k, W 99 k = M 99 k := fun k => by rw [hW, sU_ne (fun z => by omega)]
      have e99 : W 99 = M 99 := funext c99
      have c100 : ∀ k, W 100 k = M 100 k := fun k => by rw [hW, sU_ne (fun z => by omega)]
      have e100 : W 100 = M 100 := funext c100
      have c101 : ∀ k, W 101 k = M 101 k := fun k => by rw [hW, sU_ne (fun z => by omega)]
      have e101 : W 101 = M 101 := funext c101
      have c102 : ∀ k, W 102 k = M 102 k := fun k => by rw [hW, sU_ne (fun z => by omega)]
      have e102 : W 102 = M 102 := funext c102
      have c103 : ∀ k, W 103 k = M 103 k := fun k => by rw [hW, sU_ne (fun z => by omega)]
      have e103 : W 103 = M 103 := funext c103
      have c104 : ∀ k, W 104 k = M 104 k := fun k => by rw [hW, sU_ne (fun z => by omega)]
      have e104 : W 104 = M 104 := funext c104
      have c105 : ∀ k, W 105 k = M 105 k := fun k => by rw [hW, sU_ne (fun z => by omega)]
      have e105 : W 105 = M 105 := funext c105
      have c106 : ∀ k, W 106 k = M 106 k := fun k => by rw [hW, sU_ne (fun z => by omega)]
      have e106 : W 106 = M 106 := funext c106
      have c107 : ∀ k, W 107 k = M 107 k := fun k => by rw [hW, sU_ne (fun z => by omega)]
      have e107 : W 107 = M 107 := funext c107
      have hw : ∀ o k, 93 ≤ o → o ≤ 107 → ¬ (o = 97 ∧ k = (1 * ρ 1 + 0).toNat) → W o k = M o k := fun o k h1 h2 h3 => by rw [hW, sU_ne h3]
      have hx : ∀ o k, o ≠ 4 → o ≠ 91 → ¬ (o = 97 ∧ k = (1 * ρ 1 + 0).toNat) → W o k = M o k := fun o k h1 h2 h3 => by rw [hW, sU_ne h3]
      intro h i hi ht
      rw [r4_301] at h
      rw [r93_0, r93_1, r93_2] at ht
      rw [r4_300, drl_up hw (by show 9 ≤ (1 * ρ 1 + 0).toNat; omega) hi, dcl_hi (fun o k h1 h2 => hx o k h2 (by omega) (by omega))]
      exact gx_xDE hI h i hi ht
    have k_xQ5 : xQ5 W := by
      rw [hW]
      exact (uxQ5 (sinc_ok rfl _) hI.2.2.2.2.2.2.2.2.2.2.2.2.2.2.2.2.2.2.2.2.2.2.2.2.2.2.2.2.2.2.2.2.2.2.2.2.2.2.2.2.2.2.2.2.2.2.2.1)
    have k_xQL : xQL W := by
      have r : W 4 350 = 0 := by
        have e := m0
        rw [hW, sU_ne (fun z => by omega)]
        omega
      intro h
      rw [r] at h
      omega
    have k_xQW : xQW W := by
      rw [hW]
      exact (uxQW (sinc_ok rfl _) hI.2.2.2.2.2.2.2.2.2.2.2.2.2.2.2.2.2.2.2.2.2.2.2.2.2.2.2.2.2.2.2.2.2.2.2.2.2.2.2.2.2.2.2.2.2.2.2.2.2.1)
    have k_xQM : xQM W := by
      rw [hW]
      exact (uxQM (sinc_ok rfl _) hI.2.2.2.2.2.2.2.2.2.2.2.2.2.2.2.2.2.2.2.2.2.2.2.2.2.2.2.2.2.2.2.2.2.2.2.2.2.2.2.2.2.2.2.2.2.2.2.2.2.2.1)
    have k_xQH : xQH W := by
      rw [hW]
      exact (uxQH (sinc_ok rfl _) hI.2.2.2.2.2.2.2.2.2.2.2.2.2.2.2.2.2.2.2.2.2.2.2.2.2.2.2.2.2.2.2.2.2.2.2.2.2.2.2.2.2.2.2.2.2.2.2.2.2.2.2)
    have k_XC : XC W := ⟨k_xS1, k_xS2, k_xS3, k_xS4, k_xS5, k_xS6, k_xS7, k_xS8, k_xS9, k_xSA, k_xSG, k_xSF, k_xSB, k_xSC, k_xSD, k_xSE, k_xSW, k_xST, k_xSP, k_xSL, k_xSM, k_xSI, k_xD3, k_xDV, k_xDP, k_xDE, k_xQ5, k_xQL, k_xQW, k_xQM, k_xQH⟩
    have kXB : XB W := ⟨k_xN1, k_xN2, k_xN3, k_xN4, k_xN5, k_xN6, k_xH1, k_xK1, k_xC1, k_xRW, k_xWT, k_xCU, k_xG2, k_xG3, k_xG4, k_xG5, k_xG6, k_XC⟩
    exact ⟨base, k2, k3, kXA, kXB⟩
-- rL97
def xr_590 : qRu := (5, [[(1, 1)], [(8, 0), (-1, 1)], [(-9, 0), (-1, 1), (1, 2)], [(9, 0), (1, 1), (-1, 2)], [(1, 1), (-1, 4)], [(-1, 1), (1, 4)]], [(97, 1002, [(1, 3)]), (4, 350, []), (4, 100, []), (4, 303, [(1, 0)]), (4, 301, []), (4, 334, [(1, 4)])], [(97, [(1, 1)], [(1, 3)])], [(4, 334, [(1, 0), (1, 4)])], [])
theorem xo_590 : qRok xr_590 := by
  intro ρ M h0 hf hm hI
  have f0 := hf [(1, 1)] (by decide)
  have f1 := hf [(8, 0), (-1, 1)] (by decide)
  have f2 := hf [(-9, 0), (-1, 1), (1, 2)] (by decide)
  have f3 := hf [(9, 0), (1, 1), (-1, 2)] (by decide)
  have f4 := hf [(1, 1), (-1, 4)] (by decide)
  have f5 := hf [(-1, 1), (1, 4)] (by decide)
  simp only [qD, h0] at f0 f1 f2 f3 f4 f5
  have m0 : M 97 (zIx ρ (1000 + 2)) = 1 * ρ 3 + 0 := hm (97, 1002, [(1, 3)]) (by decide)
  rw [zix_p] at m0
  have m1 : M 4 350 = 0 := hm (4, 350, []) (by decide)
  have m2 : M 4 100 = 0 := hm (4, 100, []) (by decide)
  have m3 : M 4 303 = 1 * ρ 0 + 0 := hm (4, 303, [(1, 0)]) (by decide)
  have m4 : M 4 301 = 0 := hm (4, 301, []) (by decide)
  have m5 : M 4 334 = 1 * ρ 4 + 0 := hm (4, 334, [(1, 4)]) (by decide)
  simp only [h0] at m3
  refine ⟨ρ, fun _ _ => rfl, fun f h => ?_, ?_⟩
  · exact nomatch h
  · show sI (sU (sU M 97 (1 * ρ 1 + 0 : Int).toNat (1 * ρ 3 + 0)) 4 334 (1 * ρ 0 + (1 * ρ 4 + 0)))
    obtain ⟨W, hW⟩ : ∃ W, W = (sU (sU M 97 (1 * ρ 1 + 0).toNat (1 * ρ 3 + 0)) 4 334 (1 * ρ 0 + (1 * ρ 4 + 0))) := ⟨_, rfl⟩
    rw [← hW]
    have base : sI0 W := by
      rw [hW]
      exact (si_u0 (si_u0 hI.1 (fun r hr => by cases hr)) (fun r hr => by cases hr))
    have k2 : XI2 W := by
      rw [hW]
      exact (xi2_u rfl (xi2_u (sinc_ok rfl _) hI.2.1))
    have k3 : XI3 W := by
      rw [hW]
      exact (xi3_u rfl (xi3_u (sinc_ok rfl _) hI.2.2.1))
    have kXA : XA W := by
      rw [hW]
      exact (uXA rfl (uXA (sinc_ok rfl _) hI.2.2.2.1))
    have k_xN1 : xN1 W := by
      rw [hW]
      exact (uxN1 rfl (uxN1 (sinc_ok rfl _) hI.2.2.2.2.1))
    have k_xN2 : xN2 W := by
      rw [hW]
      exact (uxN2 rfl (uxN2 (sinc_ok rfl _) hI.2.2.2.2.2.1))
    have k_xN3 : xN3 W := by
      rw [hW]
      exact (uxN3 rfl (uxN3 (sinc_ok rfl _) hI.2.2.2.2.2.2.1))
    have k_xN4 : xN4 W := by
      rw [hW]
      exact (uxN4 rfl (uxN4 (sinc_ok rfl _) hI.2.2.2.2.2.2.2.1))
    have k_xN5 : xN5 W := by
      rw [hW]
      exact (uxN5 rfl (uxN5 (sinc_ok rfl _) hI.2.2.2.2.2.2.2.2.1))
    have k_xN6 : xN6 W := by
      rw [hW]
      exact (uxN6 rfl (uxN6 (sinc_ok rfl _) hI.2.2.2.2.2.2.2.2.2.1))
    have k_xH1 : xH1 W := by
      rw [hW]
      exact (uxH1 rfl (uxH1 (sinc_ok rfl _) hI.2.2.2.2.2.2.2.2.2.2.1))
    have k_xK1 : xK1 W := by
      rw [hW]
      exact (uxK1 rfl (uxK1 (sinc_ok rfl _) hI.2.2.2.2.2.2.2.2.2.2.2.1))
    have k_xC1 : xC1 W := by
      rw [hW]
      exact (uxC1 rfl (uxC1 (sinc_ok rfl _) hI.2.2.2.2.2.2.2.2.2.2.2.2.1))
    have k_xRW : xRW W := by
      rw [hW]
      exact (uxRW rfl (uxRW (sinc_ok rfl _) hI.2.2.2.2.2.2.2.2.2.2.2.2.2.1))
    have k_xWT : xWT W := by
      rw [hW]
      exact (uxWT rfl (uxWT (sinc_ok rfl _) hI.2.2.2.2.2.2.2.2.2.2.2.2.2.2.1))
    have k_xCU : xCU W := by
      rw [hW]
      exact (uxCU rfl (uxCU (sinc_ok rfl _) hI.2.2.2.2.2.2.2.2.2.2.2.2.2.2.2.1))
    have k_xG2 : xG2 W := by
      rw [hW]
      exact (uxG2 rfl (uxG2 (sinc_ok rfl _) hI.2.2.2.2.2.2.2.2.2.2.2.2.2.2.2.2.1))
    have k_xG3 : xG3 W := by
      rw [hW]
      exact (uxG3 rfl (uxG3 (sinc_ok rfl _) hI.2.2.2.2.2.2.2.2.2.2.2.2.2.2.2.2.2.1))
    have k_xG4 : xG4 W := by
      rw [hW]
      exact (uxG4 rfl (uxG4 (sinc_ok rfl _) hI.2.2.2.2.2.2.2.2.2.2.2.2.2.2.2.2.2.2.1))
    have k_xG5 : xG5 W := by
      rw [hW]
      exact (uxG5 rfl (uxG5 (sinc_ok rfl _) hI.2.2.2.2.2.2.2.2.2.2.2.2.2.2.2.2.2.2.2.1))
    have k_xG6 : xG6 W := by
      rw [hW]
      exact (uxG6 rfl (uxG6 (sinc_ok rfl _) hI.2.2.2.2.2.2.2.2.2.2.2.2.2.2.2.2.2.2.2.2.1))
    have k_xS1 : xS1 W := by
      rw [hW]
      exact (uxS1 rfl (uxS1 (sinc_ok rfl _) hI.2.2.2.2.2.2.2.2.2.2.2.2.2.2.2.2.2.2.2.2.2.1))
    have k_xS2 : xS2 W := by
      rw [hW]
      exact (uxS2 rfl (uxS2 (sinc_ok rfl _) hI.2.2.2.2.2.2.2.2.2.2.2.2.2.2.2.2.2.2.2.2.2.2.1))
    have k_xS3 : xS3 W := by
      rw [hW]
      exact (uxS3 rfl (uxS3 (sinc_ok rfl _) hI.2.2.2.2.2.2.2.2.2.2.2.2.2.2.2.2.2.2.2.2.2.2.2.1))
    have k_xS4 : xS4 W := by
      rw [hW]
      exact (uxS4 rfl (uxS4 (sinc_ok rfl _) hI.2.2.2.2.2.2.2.2.2.2.2.2.2.2.2.2.2.2.2.2.2.2.2.2.1))
    have k_xS5 : xS5 W := by
      rw [hW]
      exact (uxS5 rfl (uxS5 (sinc_ok rfl _) hI.2.2.2.2.2.2.2.2.2.2.2.2.2.2.2.2.2.2.2.2.2.2.2.2.2.1))
    have k_xS6 : xS6 W := by
      rw [hW]
      exact (uxS6 rfl (uxS6 (sinc_ok rfl _) hI.2.2.2.2.2.2.2.2.2.2.2.2.2.2.2.2.2.2.2.2.2.2.2.2.2.2.1))
    have k_xS7 : xS7 W := by
      rw [hW]
      exact (uxS7 rfl (uxS7 (sinc_ok rfl _) hI.2.2.2.2.2.2.2.2.2.2.2.2.2.2.2.2.2.2.2.2.2.2.2.2.2.2.2.1))
    have k_xS8 : xS8 W := by
      rw [hW]
      exact (uxS8 rfl (uxS8 (sinc_ok rfl _) hI.2.2.2.2.2.2.2.2.2.2.2.2.2.2.2.2.2.2.2.2.2.2.2.2.2.2.2.2.1))
    have k_xS9 : xS9 W := by
      rw [hW]
      exact (uxS9 rfl (uxS9 (sinc_ok rfl _) hI.2.2.2.2.2.2.2.2.2.2.2.2.2.2.2.2.2.2.2.2.2.2.2.2.2.2.2.2.2.1))
    have k_xSA : xSA W := by
      rw [hW]
      exact (uxSA rfl (uxSA (sinc_ok rfl _) hI.2.2.2.2.2.2.2.2.2.2.2.2.2.2.2.2.2.2.2.2.2.2.2.2.2.2.2.2.2.2.1))
    have k_xSG : xSG W := by
      rw [hW]
      exact (uxSG rfl (uxSG (sinc_ok rfl _) hI.2.2.2.2.2.2.2.2.2.2.2.2.2.2.2.2.2.2.2.2.2.2.2.2.2.2.2.2.2.2.2.1))
    have k_xSF : xSF W := by
      rw [hW]
      exact (uxSF rfl (uxSF (sinc_ok rfl _) hI.2.2.2.2.2.2.2.2.2.2.2.2.2.2.2.2.2.2.2.2.2.2.2.2.2.2.2.2.2.2.2.2.1))
    have k_xSB : xSB W := by
      rw [hW]
      exact (uxSB rfl (uxSB (sinc_ok rfl _) hI.2.2.2.2.2.2.2.2.2.2.2.2.2.2.2.2.2.2.2.2.2.2.2.2.2.2.2.2.2.2.2.2.2.1))
    have k_xSC : xSC W := by
      rw [hW]
      exact (uxSC rfl (uxSC (sinc_ok rfl _) hI.2.2.2.2.2.2.2.2.2.2.2.2.2.2.2.2.2.2.2.2.2.2.2.2.2.2.2.2.2.2.2.2.2.2.1))
    have k_xSD : xSD W := by
      rw [hW]
      exact (uxSD rfl (uxSD (sinc_ok rfl _) hI.2.2.2.2.2.2.2.2.2.2.2.2.2.2.2.2.2.2.2.2.2.2.2.2.2.2.2.2.2.2.2.2.2.2.2.1))
    have k_xSE : xSE W := by
      rw [hW]
      exact (uxSE rfl (uxSE (sinc_ok rfl _) hI.2.2.2.2.2.2.2.2.2.2.2.2.2.2.2.2.2.2.2.2.2.2.2.2.2.2.2.2.2.2.2.2.2.2.2.2.1))
    have k_xSW : xSW W := by
      rw [hW]
      exact (uxSW rfl (uxSW (sinc_ok rfl _) hI.2.2.2.2.2.2.2.2.2.2.2.2.2.2.2.2.2.2.2.2.2.2.2.2.2.2.2.2.2.2.2.2.2.2.2.2.2.1))
    have k_xST : xST W := by
      rw [hW]
      exact (uxST rfl (uxST (sinc_ok rfl _) hI.2.2.2.2.2.2.2.2.2.2.2.2.2.2.2.2.2.2.2.2.2.2.2.2.2.2.2.2.2.2.2.2.2.2.2.2.2.2.1))
    have k_xSP : xSP W := by
      rw [hW]
      exact (uxSP rfl (uxSP (sinc_ok rfl _) hI.2.2.2.2.2.2.2.2.2.2.2.2.2.2.2.2.2.2.2.2.2.2.2.2.2.2.2.2.2.2.2.2.2.2.2.2.2.2.2.1))
    have k_xSL : xSL W := by
      rw [hW]
      exact (uxSL rfl (uxSL (sinc_ok rfl _) hI.2.2.2.2.2.2.2.2.2.2.2.2.2.2.2.2.2.2.2.2.2.2.2.2.2.2.2.2.2.2.2.2.2.2.2.2.2.2.2.2.1))
    have k_xSM : xSM W := by
      rw [hW]
      exact (uxSM rfl (uxSM (sinc_ok rfl _) hI.2.2.2.2.2.2.2.2.2.2.2.2.2.2.2.2.2.2.2.2.2.2.2.2.2.2.2.2.2.2.2.2.2.2.2.2.2.2.2.2.2.1))
    have k_xSI : xSI W := by
      rw [hW]
      exact (uxSI rfl (uxSI (sinc_ok rfl _) hI.2.2.2.2.2.2.2.2.2.2.2.2.2.2.2.2.2.2.2.2.2.2.2.2.2.2.2.2.2.2.2.2.2.2.2.2.2.2.2.2.2.2.1))
    have k_xD3 : xD3 W := by
      have r : W 4 100 = 0 := by
        have e := m2
        rw [hW, sU_ne (fun z => by omega), sU_ne (fun z => by omega)]
        omega
      intro h
      rw [r] at h
      exact absurd rfl h
    have k_xDV : xDV W := by
      rw [hW]
      exact (uxDV rfl (uxDV (sinc_ok rfl _) hI.2.2.2.2.2.2.2.2.2.2.2.2.2.2.2.2.2.2.2.2.2.2.2.2.2.2.2.2.2.2.2.2.2.2.2.2.2.2.2.2.2.2.2.2.1))
    have k_xDP : xDP W := by
      have r4_100 : W 4 100 = M 4 100 := by rw [hW, sU_ne (fun z => by omega), sU_ne (fun z => by omega)]
      have r4_303 : W 4 303 = M 4 303 := by rw [hW, sU_ne (fun z => by omega), sU_ne (fun z => by omega)]
      have r4_204 : W 4 204 = M 4 204 := by rw [hW, sU_ne (fun z => by omega), sU_ne (fun z => by omega)]
      have r4_205 : W 4 205 = M 4 205 := by rw [hW, sU_ne (fun z => by omega), sU_ne (fun z => by omega)]
      have r4_206 : W 4 206 = M 4 206 := by rw [hW, sU_ne (fun z => by omega), sU_ne (fun z => by omega)]
      have r4_302 : W 4 302 = M 4 302 := by rw [hW, sU_ne (fun z => by omega), sU_ne (fun z => by omega)]
      have r4_330 : W 4 330 = M 4 330 := by rw [hW, sU_ne (fun z => by omega), sU_ne (fun z => by omega)]
      have r4_331 : W 4 331 = M 4 331 := by rw [hW, sU_ne (fun z => by omega), sU_ne (fun z => by omega)]
      have r4_332 : W 4 332 = M 4 332 := by rw [hW, sU_ne (fun z => by omega), sU_ne (fun z => by omega)]
      have r4_333 : W 4 333 = M 4 333 := by rw [hW, sU_ne (fun z => by omega), sU_ne (fun z => by omega)]
      have r4_334 : W 4 334 = 1 * ρ 0 + (1 * ρ 4 + 0) := by rw [hW, sU_at]
      have r4_335 : W 4 335 = M 4 335 := by rw [hW, sU_ne (fun z => by omega), sU_ne (fun z => by omega)]
      have r4_336 : W 4 336 = M 4 336 := by rw [hW, sU_ne (fun z => by omega), sU_ne (fun z => by omega)]
      have r4_337 : W 4 337 = M 4 337 := by rw [hW, sU_ne (fun z => by omega), sU_ne (fun z => by omega)]
      have r4_338 : W 4 338 = M 4 338 := by rw [hW, sU_ne (fun z => by omega), sU_ne (fun z => by omega)]
      have r4_339 : W 4 339 = M 4 339 := by rw [hW, sU_ne (fun z => by omega), sU_ne (fun z => by omega)]
      have r4_340 : W 4 340 = M 4 340 := by rw [hW, sU_ne (fun z => by omega), sU_ne (fun z => by omega)]
      have r4_341 : W 4 341 = M 4 341 := by rw [hW, sU_ne (fun z => by omega), sU_ne (fun z => by omega)]
      have r4_342 : W 4 342 = M 4 342 := by rw [hW, sU_ne (fun z => by omega), sU_ne (fun z => by omega)]
      have r4_343 : W 4 343 = M 4 343 := by rw [hW, sU_ne (fun z => by omega), sU_ne (fun z => by omega)]
      have r4_344 : W 4 344 = M 4 344 := by rw [hW, sU_ne (fun z => by omega), sU_ne (fun z => by omega)]
      have r13_0 : W 13 0 = M 13 0 := by rw [hW, sU_ne (fun z => by omega), sU_ne (fun z => by omega)]
      have r14_0 : W 14 0 = M 14 0 := by rw [hW, sU_ne (fun z => by omega), sU_ne (fun z => by omega)]
      have r15_0 : W 15 0 = M 15 0 := by rw [hW, sU_ne (fun z => by omega), sU_ne (fun z => by omega)]
      have r16_0 : W 16 0 = M 16 0 := by rw [hW, sU_ne (fun z => by omega), sU_ne (fun z => by omega)]
      have r17_0 : W 17 0 = M 17 0 := by rw [hW, sU_ne (fun z => by omega), sU_ne (fun z => by omega)]
      have r18_0 : W 18 0 = M 18 0 := by rw [hW, sU_ne (fun z => by omega), sU_ne (fun z => by omega)]
      have r19_0 : W 19 0 = M 19 0 := by rw [hW, sU_ne (fun z => by omega), sU_ne (fun z => by omega)]
      have r20_0 : W 20 0 = M 20 0 := by rw [hW, sU_ne (fun z => by omega), sU_ne (fun z => by omega)]
      have r21_0 : W 21 0 = M 21 0 := by rw [hW, sU_ne (fun z => by omega), sU_ne (fun z => by omega)]
      have r22_0 : W 22 0 = M 22 0 := by rw [hW, sU_ne (fun z => by omega), sU_ne (fun z => by omega)]
      have r23_0 : W 23 0 = M 23 0 := by rw [hW, sU_ne (fun z => by omega), sU_ne (fun z => by omega)]
      have r24_0 : W 24 0 = M 24 0 := by rw [hW, sU_ne (fun z => by omega), sU_ne (fun z => by omega)]
      have r25_0 : W 25 0 = M 25 0 := by rw [hW, sU_ne (fun z => by omega), sU_ne (fun z => by omega)]
      have r26_0 : W 26 0 = M 26 0 := by rw [hW, sU_ne (fun z => by omega), sU_ne (fun z => by omega)]
      have r27_0 : W 27 0 = M 27 0 := by rw [hW, sU_ne (fun z => by omega), sU_ne (fun z => by omega)]
      have r13_1 : W 13 1 = M 13 1 := by rw [hW, sU_ne (fun z => by omega), sU_ne (fun z => by omega)]
      have r14_1 : W 14 1 = M 14 1 := by rw [hW, sU_ne (fun z => by omega), sU_ne (fun z => by omega)]
      have r15_1 : W 15 1 = M 15 1 := by rw [hW, sU_ne (fun z => by omega), sU_ne (fun z => by omega)]
      have r16_1 : W 16 1 = M 16 1 := by rw [hW, sU_ne (fun z => by omega), sU_ne (fun z => by omega)]
      have r17_1 : W 17 1 = M 17 1 := by rw [hW, sU_ne (fun z => by omega), sU_ne (fun z => by omega)]
      have r18_1 : W 18 1 = M 18 1 := by rw [hW, sU_ne (fun z => by omega), sU_ne (fun z => by omega)]
      have r19_1 : W 19 1 = M 19 1 := by rw [hW, sU_ne (fun z => by omega), sU_ne (fun z => by omega)]
      have r20_1 : W 20 1 = M 20 1 := by rw [hW, sU_ne (fun z => by omega), sU_ne (fun z => by omega)]
      have r21_1 : W 21 1 = M 21 1 := by rw [hW, sU_ne (fun z => by omega), sU_ne (fun z => by omega)]
      have r22_1 : W 22 1 = M 22 1 := by rw [hW, sU_ne (fun z => by omega), sU_ne (fun z => by omega)]
      have r23_1 : W 23 1 = M 23 1 := by rw [hW, sU_ne (fun z => by omega), sU_ne (fun z => by omega)]
      have r24_1 : W 24 1 = M 24 1 := by rw [hW, sU_ne (fun z => by omega), sU_ne (fun z => by omega)]
      have r25_1 : W 25 1 = M 25 1 := by rw [hW, sU_ne (fun z => by omega), sU_ne (fun z => by omega)]
      have r26_1 : W 26 1 = M 26 1 := by rw [hW, sU_ne (fun z => by omega), sU_ne (fun z => by omega)]
      have r27_1 : W 27 1 = M 27 1 := by rw [hW, sU_ne (fun z => by omega), sU_ne (fun z => by omega)]
      have r13_2 : W 13 2 = M 13 2 := by rw [hW, sU_ne (fun z => by omega), sU_ne (fun z => by omega)]
      have r14_2 : W 14 2 = M 14 2 := by rw [hW, sU_ne (fun z => by omega), sU_ne (fun z => by omega)]
      have r15_2 : W 15 2 = M 15 2 := by rw [hW, sU_ne (fun z => by omega), sU_ne (fun z => by omega)]
      have r16_2 : W 16 2 = M 16 2 := by rw [hW, sU_ne (fun z => by omega), sU_ne (fun z => by omega)]
      have r17_2 : W 17 2 = M 17 2 := by rw [hW, sU_ne (fun z => by omega), sU_ne (fun z => by omega)]
      have r18_2 : W 18 2 = M 18 2 := by rw [hW, sU_ne (fun z => by omega), sU_ne (fun z => by omega)]
      have r19_2 : W 19 2 = M 19 2 := by rw [hW, sU_ne (fun z => by omega), sU_ne (fun z => by omega)]
      have r20_2 : W 20 2 = M 20 2 := by rw [hW, sU_ne (fun z => by omega), sU_ne (fun z => by omega)]
      have r21_2 : W 21 2 = M 21 2 := by rw [hW, sU_ne (fun z => by omega), sU_ne (fun z => by omega)]
      have r22_2 : W 22 2 = M 22 2 := by rw [hW, sU_ne (fun z => by omega), sU_ne (fun z => by omega)]
      have r23_2 : W 23 2 = M 23 2 := by rw [hW, sU_ne (fun z => by omega), sU_ne (fun z => by omega)]
      have r24_2 : W 24 2 = M 24 2 := by rw [hW, sU_ne (fun z => by omega), sU_ne (fun z => by omega)]
      have r25_2 : W 25 2 = M 25 2 := by rw [hW, sU_ne (fun z => by omega), sU_ne (fun z => by omega)]
      have r26_2 : W 26 2 = M 26 2 := by rw [hW, sU_ne (fun z => by omega), sU_ne (fun z => by omega)]
      have r27_2 : W 27 2 = M 27 2 := by rw [hW, sU_ne (fun z => by omega), sU_ne (fun z => by omega)]
      have r13_3 : W 13 3 = M 13 3 := by rw [hW, sU_ne (fun z => by omega), sU_ne (fun z => by omega)]
      have r14_3 : W 14 3 = M 14 3 := by rw [hW, sU_ne (fun z => by omega), sU_ne (fun z => by omega)]
      have r15_3 : W 15 3 = M 15 3 := by rw [hW, sU_ne (fun z => by omega), sU_ne (fun z => by omega)]
      have r16_3 : W 16 3 = M 16 3 := by rw [hW, sU_ne (fun z => by omega), sU_ne (fun z => by omega)]
      have r17_3 : W 17 3 = M 17 3 := by rw [hW, sU_ne (fun z => by omega), sU_ne (fun z => by omega)]
      have r18_3 : W 18 3 = M 18 3 := by rw [hW, sU_ne (fun z => by omega), sU_ne (fun z => by omega)]
      have r19_3 : W 19 3 = M 19 3 := by rw [hW, sU_ne (fun z => by omega), sU_ne (fun z => by omega)]
      have r20_3 : W 20 3 = M 20 3 := by rw [hW, sU_ne (fun z => by omega), sU_ne (fun z => by omega)]
      have r21_3 : W 21 3 = M 21 3 := by rw [hW, sU_ne (fun z => by omega), sU_ne (fun z => by omega)]
      have r22_3 : W 22 3 = M 22 3 := by rw [hW, sU_ne (fun z => by omega), sU_ne (fun z => by omega)]
      have r23_3 : W 23 3 = M 23 3 := by rw [hW, sU_ne (fun z => by omega), sU_ne (fun z => by omega)]
      have r24_3 : W 24 3 = M 24 3 := by rw [hW, sU_ne (fun z => by omega), sU_ne (fun z => by omega)]
      have r25_3 : W 25 3 = M 25 3 := by rw [hW, sU_ne (fun z => by omega), sU_ne (fun z => by omega)]
      have r26_3 : W 26 3 = M 26 3 := by rw [hW, sU_ne (fun z => by omega), sU_ne (fun z => by omega)]
      have r27_3 : W 27 3 = M 27 3 := by rw [hW, sU_ne (fun z => by omega), sU_ne (fun z => by omega)]
      have r13_4 : W 13 4 = M 13 4 := by rw [hW, sU_ne (fun z => by omega), sU_ne (fun z => by omega)]
      have r14_4 : W 14 4 = M 14 4 := by rw [hW, sU_ne (fun z => by omega), sU_ne (fun z => by omega)]
      have r15_4 : W 15 4 = M 15 4 := by rw [hW, sU_ne (fun z => by omega), sU_ne (fun z => by omega)]
      have r16_4 : W 16 4 = M 16 4 := by rw [hW, sU_ne (fun z => by omega), sU_ne (fun z => by omega)]
      have r17_4 : W 17 4 = M 17 4 := by rw [hW, sU_ne (fun z => by omega), sU_ne (fun z => by omega)]
      have r18_4 : W 18 4 = M 18 4 := by rw [hW, sU_ne (fun z => by omega), sU_ne (fun z => by omega)]
      have r19_4 : W 19 4 = M 19 4 := by rw [hW, sU_ne (fun z => by omega), sU_ne (fun z => by omega)]
      have r20_4 : W 20 4 = M 20 4 := by rw [hW, sU_ne (fun z => by omega), sU_ne (fun z => by omega)]
      have r21_4 : W 21 4 = M 21 4 := by rw [hW, sU_ne (fun z => by omega), sU_ne (fun z => by omega)]
      have r13_5 : W 13 5 = M 13 5 := by rw [hW, sU_ne (fun z => by omega), sU_ne (fun z => by omega)]
      have r14_5 : W 14 5 = M 14 5 := by rw [hW, sU_ne (fun z => by omega), sU_ne (fun z => by omega)]
      have r15_5 : W 15 5 = M 15 5 := by rw [hW, sU_ne (fun z => by omega), sU_ne (fun z => by omega)]
      have r16_5 : W 16 5 = M 16 5 := by rw [hW, sU_ne (fun z => by omega), sU_ne (fun z => by omega)]
      have r17_5 : W 17 5 = M 17 5 := by rw [hW, sU_ne (fun z => by omega), sU_ne (fun z => by omega)]
      have r18_5 : W 18 5 = M 18 5 := by rw [hW, sU_ne (fun z => by omega), sU_ne (fun z => by omega)]
      have r19_5 : W 19 5 = M 19 5 := by rw [hW, sU_ne (fun z => by omega), sU_ne (fun z => by omega)]
      have r20_5 : W 20 5 = M 20 5 := by rw [hW, sU_ne (fun z => by omega), sU_ne (fun z => by omega)]
      have r21_5 : W 21 5 = M 21 5 := by rw [hW, sU_ne (fun z => by omega), sU_ne (fun z => by omega)]
      have r2_11 : W 2 11 = M 2 11 := by rw [hW, sU_ne (fun z => by omega), sU_ne (fun z => by omega)]
      have r2_12 : W 2 12 = M 2 12 := by rw [hW, sU_ne (fun z => by omega), sU_ne (fun z => by omega)]
      have r2_13 : W 2 13 = M 2 13 := by rw [hW, sU_ne (fun z => by omega), sU_ne (fun z => by omega)]
      have r2_14 : W 2 14 = M 2 14 := by rw [hW, sU_ne (fun z => by omega), sU_ne (fun z => by omega)]
      have r2_15 : W 2 15 = M 2 15 := by rw [hW, sU_ne (fun z => by omega), sU_ne (fun z => by omega)]
      have r39_0 : W 39 0 = M 39 0 := by rw [hW, sU_ne (fun z => by omega), sU_ne (fun z => by omega)]
      have r40_0 : W 40 0 = M 40 0 := by rw [hW, sU_ne (fun z => by omega), sU_ne (fun z => by omega)]
      have r41_0 : W 41 0 = M 41 0 := by rw [hW, sU_ne (fun z => by omega), sU_ne (fun z => by omega)]
      have r42_0 : W 42 0 = M 42 0 := by rw [hW, sU_ne (fun z => by omega), sU_ne (fun z => by omega)]
      have r43_0 : W 43 0 = M 43 0 := by rw [hW, sU_ne (fun z => by omega), sU_ne (fun z => by omega)]
      have r44_0 : W 44 0 = M 44 0 := by rw [hW, sU_ne (fun z => by omega), sU_ne (fun z => by omega)]
      have r45_0 : W 45 0 = M 45 0 := by rw [hW, sU_ne (fun z => by omega), sU_ne (fun z => by omega)]
      have r46_0 : W 46 0 = M 46 0 := by rw [hW, sU_ne (fun z => by omega), sU_ne (fun z => by omega)]
      have r47_0 : W 47 0 = M 47 0 := by rw [hW, sU_ne (fun z => by omega), sU_ne (fun z => by omega)]
      have r48_0 : W 48 0 = M 48 0 := by rw [hW, sU_ne (fun z => by omega), sU_ne (fun z => by omega)]
      have r49_0 : W 49 0 = M 49 0 := by rw [hW, sU_ne (fun z => by omega), sU_ne (fun z => by omega)]
      have r50_0 : W 50 0 = M 50 0 := by rw [hW, sU_ne (fun z => by omega), sU_ne (fun z => by omega)]
      have r51_0 : W 51 0 = M 51 0 := by rw [hW, sU_ne (fun z => by omega), sU_ne (fun z => by omega)]
      have r52_0 : W 52 0 = M 52 0 := by rw [hW, sU_ne (fun z => by omega), sU_ne (fun z => by omega)]
      have r53_0 : W 53 0 = M 53 0 := by rw [hW, sU_ne (fun z => by omega), sU_ne (fun z => by omega)]
      have r39_1 : W 39 1 = M 39 1 := by rw [hW, sU_ne (fun z => by omega), sU_ne (fun z => by omega)]
      have r40_1 : W 40 1 = M 40 1 := by rw [hW, sU_ne (fun z => by omega), sU_ne (fun z => by omega)]
      have r41_1 : W 41 1 = M 41 1 := by rw [hW, sU_ne (fun z => by omega), sU_ne (fun z => by omega)]
      have r42_1 : W 42 1 = M 42 1 := by rw [hW, sU_ne (fun z => by omega), sU_ne (fun z => by omega)]
      have r43_1 : W 43 1 = M 43 1 := by rw [hW, sU_ne (fun z => by omega), sU_ne (fun z => by omega)]
      have r44_1 : W 44 1 = M 44 1 := by rw [hW, sU_ne (fun z => by omega), sU_ne (fun z => by omega)]
      have r45_1 : W 45 1 = M 45 1 := by rw [hW, sU_ne (fun z => by omega), sU_ne (fun z => by omega)]
      have r46_1 : W 46 1 = M 46 1 := by rw [hW, sU_ne (fun z => by omega), sU_ne (fun z => by omega)]
      have r47_1 : W 47 1 = M 47 1 := by rw [hW, sU_ne (fun z => by omega), sU_ne (fun z => by omega)]
      have r48_1 : W 48 1 = M 48 1 := by rw [hW, sU_ne (fun z => by omega), sU_ne (fun z => by omega)]
      have r49_1 : W 49 1 = M 49 1 := by rw [hW, sU_ne (fun z => by omega), sU_ne (fun z => by omega)]
      have r50_1 : W 50 1 = M 50 1 := by rw [hW, sU_ne (fun z => by omega), sU_ne (fun z => by omega)]
      have r51_1 : W 51 1 = M 51 1 := by rw [hW, sU_ne (fun z => by omega), sU_ne (fun z => by omega)]
      have r52_1 : W 52 1 = M 52 1 := by rw [hW, sU_ne (fun z => by omega), sU_ne (fun z => by omega)]
      have r53_1 : W 53 1 = M 53 1 := by rw [hW, sU_ne (fun z => by omega), sU_ne (fun z => by omega)]
      have r39_2 : W 39 2 = M 39 2 := by rw [hW, sU_ne (fun z => by omega), sU_ne (fun z => by omega)]
      have r40_2 : W 40 2 = M 40 2 := by rw [hW, sU_ne (fun z => by omega), sU_ne (fun z => by omega)]
      have r41_2 : W 41 2 = M 41 2 := by rw [hW, sU_ne (fun z => by omega), sU_ne (fun z => by omega)]
      have r42_2 : W 42 2 = M 42 2 := by rw [hW, sU_ne (fun z => by omega), sU_ne (fun z => by omega)]
      have r43_2 : W 43 2 = M 43 2 := by rw [hW, sU_ne (fun z => by omega), sU_ne (fun z => by omega)]
      have r44_2 : W 44 2 = M 44 2 := by rw [hW, sU_ne (fun z => by omega), sU_ne (fun z => by omega)]
      have r45_2 : W 45 2 = M 45 2 := by rw [hW, sU_ne (fun z => by omega), sU_ne (fun z => by omega)]
      have r46_2 : W 46 2 = M 46 2 := by rw [hW, sU_ne (fun z => by omega), sU_ne (fun z => by omega)]
      have r47_2 : W 47 2 = M 47 2 := by rw [hW, sU_ne (fun z => by omega), sU_ne (fun z => by omega)]
      have r48_2 : W 48 2 = M 48 2 := by rw [hW, sU_ne (fun z => by omega), sU_ne (fun z => by omega)]
      have r49_2 : W 49 2 = M 49 2 := by rw [hW, sU_ne (fun z => by omega), sU_ne (fun z => by omega)]
      have r50_2 : W 50 2 = M 50 2 := by rw [hW, sU_ne (fun z => by omega), sU_ne (fun z => by omega)]
      have r51_2 : W 51 2 = M 51 2 := by rw [hW, sU_ne (fun z => by omega), sU_ne (fun z => by omega)]
      have r52_2 : W 52 2 = M 52 2 := by rw [hW, sU_ne (fun z => by omega), sU_ne (fun z => by omega)]
      have r53_2 : W 53 2 = M 53 2 := by rw [hW, sU_ne (fun z => by omega), sU_ne (fun z => by omega)]
      have r39_3 : W 39 3 = M 39 3 := by rw [hW, sU_ne (fun z => by omega), sU_ne (fun z => by omega)]
      have r40_3 : W 40 3 = M 40 3 := by rw [hW, sU_ne (fun z => by omega), sU_ne (fun z => by omega)]
      have r41_3 : W 41 3 = M 41 3 := by rw [hW, sU_ne (fun z => by omega), sU_ne (fun z => by omega)]
      have r42_3 : W 42 3 = M 42 3 := by rw [hW, sU_ne (fun z => by omega), sU_ne (fun z => by omega)]
      have r43_3 : W 43 3 = M 43 3 := by rw [hW, sU_ne (fun z => by omega), sU_ne (fun z => by omega)]
      have r44_3 : W 44 3 = M 44 3 := by rw [hW, sU_ne (fun z => by omega), sU_ne (fun z => by omega)]
      have r45_3 : W 45 3 = M 45 3 := by rw [hW, sU_ne (fun z => by omega), sU_ne (fun z => by omega)]
      have r46_3 : W 46 3 = M 46 3 := by rw [hW, sU_ne (fun z => by omega), sU_ne (fun z => by omega)]
      have r47_3 : W 47 3 = M 47 3 := by rw [hW, sU_ne (fun z => by omega), sU_ne (fun z => by omega)]
      have r48_3 : W 48 3 = M 48 3 := by rw [hW, sU_ne (fun z => by omega), sU_ne (fun z => by omega)]
      have r49_3 : W 49 3 = M 49 3 := by rw [hW, sU_ne (fun z => by omega), sU_ne (fun z => by omega)]
      have r50_3 : W 50 3 = M 50 3 := by rw [hW, sU_ne (fun z => by omega), sU_ne (fun z => by omega)]
      have r51_3 : W 51 3 = M 51 3 := by rw [hW, sU_ne (fun z => by omega), sU_ne (fun z => by omega)]
      have r52_3 : W 52 3 = M 52 3 := by rw [hW, sU_ne (fun z => by omega), sU_ne (fun z => by omega)]
      have r53_3 : W 53 3 = M 53 3 := by rw [hW, sU_ne (fun z => by omega), sU_ne (fun z => by omega)]
      have r39_4 : W 39 4 = M 39 4 := by rw [hW, sU_ne (fun z => by omega), sU_ne (fun z => by omega)]
      have r40_4 : W 40 4 = M 40 4 := by rw [hW, sU_ne (fun z => by omega), sU_ne (fun z => by omega)]
      have r41_4 : W 41 4 = M 41 4 := by rw [hW, sU_ne (fun z => by omega), sU_ne (fun z => by omega)]
      have r42_4 : W 42 4 = M 42 4 := by rw [hW, sU_ne (fun z => by omega), sU_ne (fun z => by omega)]
      have r43_4 : W 43 4 = M 43 4 := by rw [hW, sU_ne (fun z => by omega), sU_ne (fun z => by omega)]
      have r44_4 : W 44 4 = M 44 4 := by rw [hW, sU_ne (fun z => by omega), sU_ne (fun z => by omega)]
      have r45_4 : W 45 4 = M 45 4 := by rw [hW, sU_ne (fun z => by omega), sU_ne (fun z => by omega)]
      have r46_4 : W 46 4 = M 46 4 := by rw [hW, sU_ne (fun z => by omega), sU_ne (fun z => by omega)]
      have r47_4 : W 47 4 = M 47 4 := by rw [hW, sU_ne (fun z => by omega), sU_ne (fun z => by omega)]
      have r39_5 : W 39 5 = M 39 5 := by rw [hW, sU_ne (fun z => by omega), sU_ne (fun z => by omega)]
      have r40_5 : W 40 5 = M 40 5 := by rw [hW, sU_ne (fun z => by omega), sU_ne (fun z => by omega)]
      have r41_5 : W 41 5 = M 41 5 := by rw [hW, sU_ne (fun z => by omega), sU_ne (fun z => by omega)]
      have r42_5 : W 42 5 = M 42 5 := by rw [hW, sU_ne (fun z => by omega), sU_ne (fun z => by omega)]
      have r43_5 : W 43 5 = M 43 5 := by rw [hW, sU_ne (fun z => by omega), sU_ne (fun z => by omega)]
      have r44_5 : W 44 5 = M 44 5 := by rw [hW, sU_ne (fun z => by omega), sU_ne (fun z => by omega)]
      have r45_5 : W 45 5 = M 45 5 := by rw [hW, sU_ne (fun z => by omega), sU_ne (fun z => by omega)]
      have r46_5 : W 46 5 = M 46 5 := by rw [hW, sU_ne (fun z => by omega), sU_ne (fun z => by omega)]
      have r47_5 : W 47 5 = M 47 5 := by rw [hW, sU_ne (fun z => by omega), sU_ne (fun z => by omega)]
      have r28_11 : W 28 11 = M 28 11 := by rw [hW, sU_ne (fun z => by omega), sU_ne (fun z => by omega)]
      have r28_12 : W 28 12 = M 28 12 := by rw [hW, sU_ne (fun z => by omega), sU_ne (fun z => by omega)]
      have r28_13 : W 28 13 = M 28 13 := by rw [hW, sU_ne (fun z => by omega), sU_ne (fun z => by omega)]
      have r28_14 : W 28 14 = M 28 14 := by rw [hW, sU_ne (fun z => by omega), sU_ne (fun z => by omega)]
      have r28_15 : W 28 15 = M 28 15 := by rw [hW, sU_ne (fun z => by omega), sU_ne (fun z => by omega)]
      have c5 : ∀ k, W 5 k = M 5 k := fun k => by rw [hW, sU_ne (fun z => by omega), sU_ne (fun z => by omega)]
      have e5 : W 5 = M 5 := funext c5
      have c6 : ∀ k, W 6 k = M 6 k := fun k => by rw [hW, sU_ne (fun z => by omega), sU_ne (fun z => by omega)]
      have e6 : W 6 = M 6 := funext c6
      have c7 : ∀ k, W 7 k = M 7 k := fun k => by rw [hW, sU_ne (fun z => by omega), sU_ne (fun z => by omega)]
      have e7 : W 7 = M 7 := funext c7
      have c8 : ∀ k, W 8 k = M 8 k := fun k => by rw [hW, sU_ne (fun z => by omega), sU_ne (fun z => by omega)]
      have e8 : W 8 = M 8 := funext c8
      have c31 : ∀ k, W 31 k = M 31 k := fun k => by rw [hW, sU_ne (fun z => by omega), sU_ne (fun z => by omega)]
      have e31 : W 31 = M 31 := funext c31
      have c32 : ∀ k, W 32 k = M 32 k := fun k => by rw [hW, sU_ne (fun z => by omega), sU_ne (fun z => by omega)]
      have e32 : W 32 = M 32 := funext c32
      have c33 : ∀ k, W 33 k = M 33 k := fun k => by rw [hW, sU_ne (fun z => by omega), sU_ne (fun z => by omega)]
      have e33 : W 33 = M 33 := funext c33
      have c34 : ∀ k, W 34 k = M 34 k := fun k => by rw [hW, sU_ne (fun z => by omega), sU_ne (fun z => by omega)]
      have e34 : W 34 = M 34 := funext c34
      have c93 : ∀ k, W 93 k = M 93 k := fun k => by rw [hW, sU_ne (fun z => by omega), sU_ne (fun z => by omega)]
      have e93 : W 93 = M 93 := funext c93
      have c94 : ∀ k, W 94 k = M 94 k := fun k => by rw [hW, sU_ne (fun z => by omega), sU_ne (fun z => by omega)]
      have e94 : W 94 = M 94 := funext c94
      have c95 : ∀ k, W 95 k = M 95 k := fun k => by rw [hW, sU_ne (fun z => by omega), sU_ne (fun z => by omega)]
      have e95 : W 95 = M 95 := funext c95
      have c96 : ∀ k, W 96 k = M 96 k := fun k => by rw [hW, sU_ne (fun z => by omega), sU_ne (fun z => by omega)]
      have e96 : W 96 = M 96 := funext c96
      have c97 : ∀ k : Nat, k ≠ (1 * ρ 1 + 0).toNat → W 97 k = M 97 k := fun k hk => by rw [hW, sU_ne (fun z => by omega), sU_ne (fun z => by omega)]
      have a97 : W 97 (1 * ρ 1 + 0).toNat = 1 * ρ 3 + 0 := by rw [hW, sU_ne (fun z => by omega), sU_at]
      have c98 : ∀ k, W 98 k = M 98 k := fun k => by rw [hW, sU_ne (fun z => by omega), sU_ne (fun z => by omega)]
      have e98 : W 98 = M 98 := funext c98
      have c99 : ∀ k, W 99 k = M 99 k := fun k => by rw [hW, sU_ne (fun z => by omega), sU_ne (fun z => by omega)]
      have e99 : W 99 = M 99 := funext c99
      have c100 : ∀ k, W 100 k = M 100 k := fun k => by rw [hW, sU_ne (fun z => by omega), sU_ne (fun z => by omega)]
      have e100 : W 100 = M 100 := funext c100
      have c101 : ∀ k, W 101 k = M 101 k := fun k => by rw [hW, sU_ne (fun z => by omega), sU_ne (fun z => by omega)]
      have e101 : W 101 = M 101 := funext c101
      have c102 : ∀ k, W 102 k = M 102 k := fun k => by rw [hW, sU_ne (fun z => by omega), sU_ne (fun z => by omega)]
      have e102 : W 102 = M 102 := funext c102
      have c103 : ∀ k, W 103 k = M 103 k := fun k => by rw [hW, sU_ne (fun z => by omega), sU_ne (fun z => by omega)]
      have e103 : W 103 = M 103 := funext c103
      have c104 : ∀ k, W 104 k = M 104 k := fun k => by rw [hW, sU_ne (fun z => by omega), sU_ne (fun z => by omega)]
      have e104 : W 104 = M 104 := funext c104
      have c105 : ∀ k, W 105 k = M 105 k := fun k => by rw [hW, sU_ne (fun z => by omega), sU_ne (fun z => by omega)]
      have e105 : W 105 = M 105 := funext c105
      have c106 : ∀ k, W 106 k = M 106 k := fun k => by rw [hW, sU_ne (fun z => by omega), sU_ne (fun z => by omega)]
      have e106 : W 106 = M 106 := funext c106
      have c107 : ∀ k, W 107 k = M 107 k := fun k => by rw [hW, sU_ne (fun z => by omega), sU_ne (fun z => by omega)]
      have e107 : W 107 = M 107 := funext c107
      have hw : ∀ o k, 93 ≤ o → o ≤ 107 → ¬ (o = 97 ∧ k = (1 * ρ 1 + 0).toNat) → W o k = M o k := fun o k h1 h2 h3 => by rw [hW, sU_ne (fun z => by omega), sU_ne h3]
      have hx : ∀ o k, o ≠ 4 → o ≠ 91 → ¬ (o = 97 ∧ k = (1 * ρ 1 + 0).toNat) → W o k = M o k := fun o k h1 h2 h3 => by rw [hW, sU_ne (fun z => by omega), sU_ne h3]
      have e4 : ∀ k, (204 ≤ k ∧ k ≤ 206) ∨ k = 302 → W 4 k = M 4 k := fun k hk => by rw [hW, sU_ne (fun z => by omega), sU_ne (fun z => by omega)]
      have e5 : ∀ b, b < 15 → b ≠ 4 → W 4 (330 + b) = M 4 (330 + b) := fun b hb hn => by rw [hW, sU_ne (fun z => by omega), sU_ne (fun z => by omega)]
      have hv : W 97 (1 * ρ 1 + 0).toNat = M 97 (9 + (1 * ρ 1 + 0).toNat) := by rw [a97]; rw [show 9 + (1 * ρ 1 + 0).toNat = (ρ 2).toNat by omega]; omega
      exact dp_cp (a := 4) (x := (1 * ρ 1 + 0).toNat) (by decide) (by show (1 * ρ 1 + 0).toNat < 9; omega) (gx_xDP hI) (by omega) (by omega) e4 (fun o k h1 h2 h3 => hx o k h1 h2 (fun z => h3 ⟨by omega, z.2⟩)) hv (by show W 4 334 = _; rw [r4_334]; (try rw [h0]); omega) (by show M 4 334 = _; omega) e5
    have k_xDE : xDE W := by
      have r : W 4 301 = 0 := by
        have e := m4
        rw [hW, sU_ne (fun z => by omega), sU_ne (fun z => by omega)]
        omega
      intro h
      rw [r] at h
      omega
    have k_xQ5 : xQ5 W := by
      rw [hW]
      exact (uxQ5 rfl (uxQ5 (sinc_ok rfl _) hI.2.2.2.2.2.2.2.2.2.2.2.2.2.2.2.2.2.2.2.2.2.2.2.2.2.2.2.2.2.2.2.2.2.2.2.2.2.2.2.2.2.2.2.2.2.2.2.1))
    have k_xQL : xQL W := by
      have r : W 4 350 = 0 := by
        have e := m1
        rw [hW, sU_ne (fun z => by omega), sU_ne (fun z => by omega)]
        omega
      intro h
      rw [r] at h
      omega
    have k_xQW : xQW W := by
      rw [hW]
      exact (uxQW rfl (uxQW (sinc_ok rfl _) hI.2.2.2.2.2.2.2.2.2.2.2.2.2.2.2.2.2.2.2.2.2.2.2.2.2.2.2.2.2.2.2.2.2.2.2.2.2.2.2.2.2.2.2.2.2.2.2.2.2.1))
    have k_xQM : xQM W := by
      rw [hW]
      exact (uxQM rfl (uxQM (sinc_ok rfl _) hI.2.2.2.2.2.2.2.2.2.2.2.2.2.2.2.2.2.2.2.2.2.2.2.2.2.2.2.2.2.2.2.2.2.2.2.2.2.2.2.2.2.2.2.2.2.2.2.2.2.2.1))
    have k_xQH : xQH W := by
      rw [hW]
      exact (uxQH rfl (uxQH (sinc_ok rfl _) hI.2.2.2.2.2.2.2.2.2.2.2.2.2.2.2.2.2.2.2.2.2.2.2.2.2.2.2.2.2.2.2.2.2.2.2.2.2.2.2.2.2.2.2.2.2.2.2.2.2.2.2))
    have k_XC : XC W := ⟨k_xS1, k_xS2, k_xS3, k_xS4, k_xS5, k_xS6, k_xS7, k_xS8, k_xS9, k_xSA, k_xSG, k_xSF, k_xSB, k_xSC, k_xSD, k_xSE, k_xSW, k_xST, k_xSP, k_xSL, k_xSM, k_xSI, k_xD3, k_xDV, k_xDP, k_xDE, k_xQ5, k_xQL, k_xQW, k_xQM, k_xQH⟩
    have kXB : XB W := ⟨k_xN1, k_xN2, k_xN3, k_xN4, k_xN5, k_xN6, k_xH1, k_xK1, k_xC1, k_xRW, k_xWT, k_xCU, k_xG2, k_xG3, k_xG4, k_xG5, k_xG6, k_XC⟩
    exact ⟨base, k2, k3, kXA, kXB⟩
-- rU98
def xr_591 : qRu := (4, [[(-9, 0), (1, 1), (-1, 3)], [(17, 0), (-1, 1)], [(1, 3)]], [(4, 350, []), (4, 100, [(2, 0)]), (4, 314, [(1, 3)])], [(98, [(1, 1)], [(1, 2)])], [], [])
theorem xo_591 : qRok xr_591 := by
  intro ρ M h0 hf hm hI
  have f0 := hf [(-9, 0), (1, 1), (-1, 3)] (by decide)
  have f1 := hf [(17, 0), (-1, 1)] (by decide)
  have f2 := hf [(1, 3)] (by decide)
  simp only [qD, h0] at f0 f1 f2
  have m0 : M 4 350 = 0 := hm (4, 350, []) (by decide)
  have m1 : M 4 100 = 2 * ρ 0 + 0 := hm (4, 100, [(2, 0)]) (by decide)
  have m2 : M 4 314 = 1 * ρ 3 + 0 := hm (4, 314, [(1, 3)]) (by decide)
  simp only [h0] at m1
  refine ⟨ρ, fun _ _ => rfl, fun f h => ?_, ?_⟩
  · exact nomatch h
  · show sI (sU M 98 (1 * ρ 1 + 0 : Int).toNat (1 * ρ 2 + 0))
    obtain ⟨W, hW⟩ : ∃ W, W = (sU M 98 (1 * ρ 1 + 0).toNat (1 * ρ 2 + 0)) := ⟨_, rfl⟩
    rw [← hW]
    have base : sI0 W := by
      rw [hW]
      exact (si_u0 hI.1 (fun r hr => by cases hr))
    have k2 : XI2 W := by
      rw [hW]
      exact (xi2_u (sinc_ok rfl _) hI.2.1)
    have k3 : XI3 W := by
      rw [hW]
      exact (xi3_u (sinc_ok rfl _) hI.2.2.1)
    have kXA : XA W := by
      rw [hW]
      exact (uXA (sinc_ok rfl _) hI.2.2.2.1)
    have k_xN1 : xN1 W := by
      rw [hW]
      exact (uxN1 (sinc_ok rfl _) hI.2.2.2.2.1)
    have k_xN2 : xN2 W := by
      rw [hW]
      exact (uxN2 (sinc_ok rfl _) hI.2.2.2.2.2.1)
    have k_xN3 : xN3 W := by
      rw [hW]
      exact (uxN3 (sinc_ok rfl _) hI.2.2.2.2.2.2.1)
    have k_xN4 : xN4 W := by
      rw [hW]
      exact (uxN4 (sinc_ok rfl _) hI.2.2.2.2.2.2.2.1)
    have k_xN5 : xN5 W := by
      rw [hW]
      exact (uxN5 (sinc_ok rfl _) hI.2.2.2.2.2.2.2.2.1)
    have k_xN6 : xN6 W := by
      rw [hW]
      exact (uxN6 (sinc_ok rfl _) hI.2.2.2.2.2.2.2.2.2.1)
    have k_xH1 : xH1 W := by
      rw [hW]
      exact (uxH1 (sinc_ok rfl _) hI.2.2.2.2.2.2.2.2.2.2.1)
    have k_xK1 : xK1 W := by
      rw [hW]
      exact (uxK1 (sinc_ok rfl _) hI.2.2.2.2.2.2.2.2.2.2.2.1)
    have k_xC1 : xC1 W := by
      rw [hW]
      exact (uxC1 (sinc_ok rfl _) hI.2.2.2.2.2.2.2.2.2.2.2.2.1)
    have k_xRW : xRW W := by
      rw [hW]
      exact (uxRW (sinc_ok rfl _) hI.2.2.2.2.2.2.2.2.2.2.2.2.2.1)
    have k_xWT : xWT W := by
      rw [hW]
      exact (uxWT (sinc_ok rfl _) hI.2.2.2.2.2.2.2.2.2.2.2.2.2.2.1)
    have k_xCU : xCU W := by
      rw [hW]
      exact (uxCU (sinc_ok rfl _) hI.2.2.2.2.2.2.2.2.2.2.2.2.2.2.2.1)
    have k_xG2 : xG2 W := by
      rw [hW]
      exact (uxG2 (sinc_ok rfl _) hI.2.2.2.2.2.2.2.2.2.2.2.2.2.2.2.2.1)
    have k_xG3 : xG3 W := by
      rw [hW]
      exact (uxG3 (sinc_ok rfl _) hI.2.2.2.2.2.2.2.2.2.2.2.2.2.2.2.2.2.1)
    have k_xG4 : xG4 W := by
      rw [hW]
      exact (uxG4 (sinc_ok rfl _) hI.2.2.2.2.2.2.2.2.2.2.2.2.2.2.2.2.2.2.1)
    have k_xG5 : xG5 W := by
      rw [hW]
      exact (uxG5 (sinc_ok rfl _) hI.2.2.2.2.2.2.2.2.2.2.2.2.2.2.2.2.2.2.2.1)
    have k_xG6 : xG6 W := by
      rw [hW]
      exact (uxG6 (sinc_ok rfl _) hI.2.2.2.2.2.2.2.2.2.2.2.2.2.2.2.2.2.2.2.2.1)
    have k_xS1 : xS1 W := by
      rw [hW]
      exact (uxS1 (sinc_ok rfl _) hI.2.2.2.2.2.2.2.2.2.2.2.2.2.2.2.2.2.2.2.2.2.1)
    have k_xS2 : xS2 W := by
      rw [hW]
      exact (uxS2 (sinc_ok rfl _) hI.2.2.2.2.2.2.2.2.2.2.2.2.2.2.2.2.2.2.2.2.2.2.1)
    have k_xS3 : xS3 W := by
      rw [hW]
      exact (uxS3 (sinc_ok rfl _) hI.2.2.2.2.2.2.2.2.2.2.2.2.2.2.2.2.2.2.2.2.2.2.2.1)
    have k_xS4 : xS4 W := by
      rw [hW]
      exact (uxS4 (sinc_ok rfl _) hI.2.2.2.2.2.2.2.2.2.2.2.2.2.2.2.2.2.2.2.2.2.2.2.2.1)
    have k_xS5 : xS5 W := by
      rw [hW]
      exact (uxS5 (sinc_ok rfl _) hI.2.2.2.2.2.2.2.2.2.2.2.2.2.2.2.2.2.2.2.2.2.2.2.2.2.1)
    have k_xS6 : xS6 W := by
      rw [hW]
      exact (uxS6 (sinc_ok rfl _) hI.2.2.2.2.2.2.2.2.2.2.2.2.2.2.2.2.2.2.2.2.2.2.2.2.2.2.1)
    have k_xS7 : xS7 W := by
      rw [hW]
      exact (uxS7 (sinc_ok rfl _) hI.2.2.2.2.2.2.2.2.2.2.2.2.2.2.2.2.2.2.2.2.2.2.2.2.2.2.2.1)
    have k_xS8 : xS8 W := by
      rw [hW]
      exact (uxS8 (sinc_ok rfl _) hI.2.2.2.2.2.2.2.2.2.2.2.2.2.2.2.2.2.2.2.2.2.2.2.2.2.2.2.2.1)
    have k_xS9 : xS9 W := by
      rw [hW]
      exact (uxS9 (sinc_ok rfl _) hI.2.2.2.2.2.2.2.2.2.2.2.2.2.2.2.2.2.2.2.2.2.2.2.2.2.2.2.2.2.1)
    have k_xSA : xSA W := by
      rw [hW]
      exact (uxSA (sinc_ok rfl _) hI.2.2.2.2.2.2.2.2.2.2.2.2.2.2.2.2.2.2.2.2.2.2.2.2.2.2.2.2.2.2.1)
    have k_xSG : xSG W := by
      rw [hW]
      exact (uxSG (sinc_ok rfl _) hI.2.2.2.2.2.2.2.2.2.2.2.2.2.2.2.2.2.2.2.2.2.2.2.2.2.2.2.2.2.2.2.1)
    have k_xSF : xSF W := by
      rw [hW]
      exact (uxSF (sinc_ok rfl _) hI.2.2.2.2.2.2.2.2.2.2.2.2.2.2.2.2.2.2.2.2.2.2.2.2.2.2.2.2.2.2.2.2.1)
    have k_xSB : xSB W := by
      rw [hW]
      exact (uxSB (sinc_ok rfl _) hI.2.2.2.2.2.2.2.2.2.2.2.2.2.2.2.2.2.2.2.2.2.2.2.2.2.2.2.2.2.2.2.2.2.1)
    have k_xSC : xSC W := by
      rw [hW]
      exact (uxSC (sinc_ok rfl _) hI.2.2.2.2.2.2.2.2.2.2.2.2.2.2.2.2.2.2.2.2.2.2.2.2.2.2.2.2.2.2.2.2.2.2.1)
    have k_xSD : xSD W := by
      rw [hW]
      exact (uxSD (sinc_ok rfl _) hI.2.2.2.2.2.2.2.2.2.2.2.2.2.2.2.2.2.2.2.2.2.2.2.2.2.2.2.2.2.2.2.2.2.2.2.1)
    have k_xSE : xSE W := by
      rw [hW]
      exact (uxSE (sinc_ok rfl _) hI.2.2.2.2.2.2.2.2.2.2.2.2.2.2.2.2.2.2.2.2.2.2.2.2.2.2.2.2.2.2.2.2.2.2.2.2.1)
    have k_xSW : xSW W := by
      rw [hW]
      exact (uxSW (sinc_ok rfl _) hI.2.2.2.2.2.2.2.2.2.2.2.2.2.2.2.2.2.2.2.2.2.2.2.2.2.2.2.2.2.2.2.2.2.2.2.2.2.1)
    have k_xST : xST W := by
      rw [hW]
      exact (uxST (sinc_ok rfl _) hI.2.2.2.2.2.2.2.2.2.2.2.2.2.2.2.2.2.2.2.2.2.2.2.2.2.2.2.2.2.2.2.2.2.2.2.2.2.2.1)
    have k_xSP : xSP W := by
      rw [hW]
      exact (uxSP (sinc_ok rfl _) hI.2.2.2.2.2.2.2.2.2.2.2.2.2.2.2.2.2.2.2.2.2.2.2.2.2.2.2.2.2.2.2.2.2.2.2.2.2.2.2.1)
    have k_xSL : xSL W := by
      rw [hW]
      exact (uxSL (sinc_ok rfl _) hI.2.2.2.2.2.2.2.2.2.2.2.2.2.2.2.2.2.2.2.2.2.2.2.2.2.2.2.2.2.2.2.2.2.2.2.2.2.2.2.2.1)
    have k_xSM : xSM W := by
      rw [hW]
      exact (uxSM (sinc_ok rfl _) hI.2.2.2.2.2.2.2.2.2.2.2.2.2.2.2.2.2.2.2.2.2.2.2.2.2.2.2.2.2.2.2.2.2.2.2.2.2.2.2.2.2.1)
    have k_xSI : xSI W := by
      rw [hW]
      exact (uxSI (sinc_ok rfl _) hI.2.2.2.2.2.2.2.2.2.2.2.2.2.2.2.2.2.2.2.2.2.2.2.2.2.2.2.2.2.2.2.2.2.2.2.2.2.2.2.2.2.2.1)
    have k_xD3 : xD3 W := by
      have r4_100 : W 4 100 = M 4 100 := by rw [hW, sU_ne (fun z => by omega)]
      have r4_101 : W 4 101 = M 4 101 := by rw [hW, sU_ne (fun z => by omega)]
      have r4_103 : W 4 103 = M 4 103 := by rw [hW, sU_ne (fun z => by omega)]
      have r4_104 : W 4 104 = M 4 104 := by rw [hW, sU_ne (fun z => by omega)]
      have r4_105 : W 4 105 = M 4 105 := by rw [hW, sU_ne (fun z => by omega)]
      have r4_106 : W 4 106 = M 4 106 := by rw [hW, sU_ne (fun z => by omega)]
      have r4_207 : W 4 207 = M 4 207 := by rw [hW, sU_ne (fun z => by omega)]
      have r4_208 : W 4 208 = M 4 208 := by rw [hW, sU_ne (fun z => by omega)]
      have r4_311 : W 4 311 = M 4 311 := by rw [hW, sU_ne (fun z => by omega)]
      have r4_313 : W 4 313 = M 4 313 := by rw [hW, sU_ne (fun z => by omega)]
      have r4_314 : W 4 314 = M 4 314 := by rw [hW, sU_ne (fun z => by omega)]
      have r13_0 : W 13 0 = M 13 0 := by rw [hW, sU_ne (fun z => by omega)]
      have r14_0 : W 14 0 = M 14 0 := by rw [hW, sU_ne (fun z => by omega)]
      have r15_0 : W 15 0 = M 15 0 := by rw [hW, sU_ne (fun z => by omega)]
      have r16_0 : W 16 0 = M 16 0 := by rw [hW, sU_ne (fun z => by omega)]
      have r17_0 : W 17 0 = M 17 0 := by rw [hW, sU_ne (fun z => by omega)]
      have r18_0 : W 18 0 = M 18 0 := by rw [hW, sU_ne (fun z => by omega)]
      have r19_0 : W 19 0 = M 19 0 := by rw [hW, sU_ne (fun z => by omega)]
      have r20_0 : W 20 0 = M 20 0 := by rw [hW, sU_ne (fun z => by omega)]
      have r21_0 : W 21 0 = M 21 0 := by rw [hW, sU_ne (fun z => by omega)]
      have r22_0 : W 22 0 = M 22 0 := by rw [hW, sU_ne (fun z => by omega)]
      have r23_0 : W 23 0 = M 23 0 := by rw [hW, sU_ne (fun z => by omega)]
      have r24_0 : W 24 0 = M 24 0 := by rw [hW, sU_ne (fun z => by omega)]
      have r25_0 : W 25 0 = M 25 0 := by rw [hW, sU_ne (fun z => by omega)]
      have r26_0 : W 26 0 = M 26 0 := by rw [hW, sU_ne (fun z => by omega)]
      have r27_0 : W 27 0 = M 27 0 := by rw [hW, sU_ne (fun z => by omega)]
      have r13_1 : W 13 1 = M 13 1 := by rw [hW, sU_ne (fun z => by omega)]
      have r14_1 : W 14 1 = M 14 1 := by rw [hW, sU_ne (fun z => by omega)]
      have r15_1 : W 15 1 = M 15 1 := by rw [hW, sU_ne (fun z => by omega)]
      have r16_1 : W 16 1 = M 16 1 := by rw [hW, sU_ne (fun z => by omega)]
      have r17_1 : W 17 1 = M 17 1 := by rw [hW, sU_ne (fun z => by omega)]
      have r18_1 : W 18 1 = M 18 1 := by rw [hW, sU_ne (fun z => by omega)]
      have r19_1 : W 19 1 = M 19 1 := by rw [hW, sU_ne (fun z => by omega)]
      have r20_1 : W 20 1 = M 20 1 := by rw [hW, sU_ne (fun z => by omega)]
      have r21_1 : W 21 1 = M 21 1 := by rw [hW, sU_ne (fun z => by omega)]
      have r22_1 : W 22 1 = M 22 1 := by rw [hW, sU_ne (fun z => by omega)]
      have r23_1 : W 23 1 = M 23 1 := by rw [hW, sU_ne (fun z => by omega)]
      have r24_1 : W 24 1 = M 24 1 := by rw [hW, sU_ne (fun z => by omega)]
      have r25_1 : W 25 1 = M 25 1 := by rw [hW, sU_ne (fun z => by omega)]
      have r26_1 : W 26 1 = M 26 1 := by rw [hW, sU_ne (fun z => by omega)]
      have r27_1 : W 27 1 = M 27 1 := by rw [hW, sU_ne (fun z => by omega)]
      have r13_2 : W 13 2 = M 13 2 := by rw [hW, sU_ne (fun z => by omega)]
      have r14_2 : W 14 2 = M 14 2 := by rw [hW, sU_ne (fun z => by omega)]
      have r15_2 : W 15 2 = M 15 2 := by rw [hW, sU_ne (fun z => by omega)]
      have r16_2 : W 16 2 = M 16 2 := by rw [hW, sU_ne (fun z => by omega)]
      have r17_2 : W 17 2 = M 17 2 := by rw [hW, sU_ne (fun z => by omega)]
      have r18_2 : W 18 2 = M 18 2 := by rw [hW, sU_ne (fun z => by omega)]
      have r19_2 : W 19 2 = M 19 2 := by rw [hW, sU_ne (fun z => by omega)]
      have r20_2 : W 20 2 = M 20 2 := by rw [hW, sU_ne (fun z => by omega)]
      have r21_2 : W 21 2 = M 21 2 := by rw [hW, sU_ne (fun z => by omega)]
      have r22_2 : W 22 2 = M 22 2 := by rw [hW, sU_ne (fun z => by omega)]
      have r23_2 : W 23 2 = M 23 2 := by rw [hW, sU_ne (fun z => by omega)]
      have r24_2 : W 24 2 = M 24 2 := by rw [hW, sU_ne (fun z => by omega)]
      have r25_2 : W 25 2 = M 25 2 := by rw [hW, sU_ne (fun z => by omega)]
      have r26_2 : W 26 2 = M 26 2 := by rw [hW, sU_ne (fun z => by omega)]
      have r27_2 : W 27 2 = M 27 2 := by rw [hW, sU_ne (fun z => by omega)]
      have r13_3 : W 13 3 = M 13 3 := by rw [hW, sU_ne (fun z => by omega)]
      have r14_3 : W 14 3 = M 14 3 := by rw [hW, sU_ne (fun z => by omega)]
      have r15_3 : W 15 3 = M 15 3 := by rw [hW, sU_ne (fun z => by omega)]
      have r16_3 : W 16 3 = M 16 3 := by rw [hW, sU_ne (fun z => by omega)]
      have r17_3 : W 17 3 = M 17 3 := by rw [hW, sU_ne (fun z => by omega)]
      have r18_3 : W 18 3 = M 18 3 := by rw [hW, sU_ne (fun z => by omega)]
      have r19_3 : W 19 3 = M 19 3 := by rw [hW, sU_ne (fun z => by omega)]
      have r20_3 : W 20 3 = M 20 3 := by rw [hW, sU_ne (fun z => by omega)]
      have r21_3 : W 21 3 = M 21 3 := by rw [hW, sU_ne (fun z => by omega)]
      have r22_3 : W 22 3 = M 22 3 := by rw [hW, sU_ne (fun z => by omega)]
      have r23_3 : W 23 3 = M 23 3 := by rw [hW, sU_ne (fun z => by omega)]
      have r24_3 : W 24 3 = M 24 3 := by rw [hW, sU_ne (fun z => by omega)]
      have r25_3 : W 25 3 = M 25 3 := by rw [hW, sU_ne (fun z => by omega)]
      have r26_3 : W 26 3 = M 26 3 := by rw [hW, sU_ne (fun z => by omega)]
      have r27_3 : W 27 3 = M 27 3 := by rw [hW, sU_ne (fun z => by omega)]
      have r13_4 : W 13 4 = M 13 4 := by rw [hW, sU_ne (fun z => by omega)]
      have r14_4 : W 14 4 = M 14 4 := by rw [hW, sU_ne (fun z => by omega)]
      have r15_4 : W 15 4 = M 15 4 := by rw [hW, sU_ne (fun z => by omega)]
      have r16_4 : W 16 4 = M 16 4 := by rw [hW, sU_ne (fun z => by omega)]
      have r17_4 : W 17 4 = M 17 4 := by rw [hW, sU_ne (fun z => by omega)]
      have r18_4 : W 18 4 = M 18 4 := by rw [hW, sU_ne (fun z => by omega)]
      have r19_4 : W 19 4 = M 19 4 := by rw [hW, sU_ne (fun z => by omega)]
      have r20_4 : W 20 4 = M 20 4 := by rw [hW, sU_ne (fun z => by omega)]
      have r21_4 : W 21 4 = M 21 4 := by rw [hW, sU_ne (fun z => by omega)]
      have r13_5 : W 13 5 = M 13 5 := by rw [hW, sU_ne (fun z => by omega)]
      have r14_5 : W 14 5 = M 14 5 := by rw [hW, sU_ne (fun z => by omega)]
      have r15_5 : W 15 5 = M 15 5 := by rw [hW, sU_ne (fun z => by omega)]
      have r16_5 : W 16 5 = M 16 5 := by rw [hW, sU_ne (fun z => by omega)]
      have r17_5 : W 17 5 = M 17 5 := by rw [hW, sU_ne (fun z => by omega)]
      have r18_5 : W 18 5 = M 18 5 := by rw [hW, sU_ne (fun z => by omega)]
      have r19_5 : W 19 5 = M 19 5 := by rw [hW, sU_ne (fun z => by omega)]
      have r20_5 : W 20 5 = M 20 5 := by rw [hW, sU_ne (fun z => by omega)]
      have r21_5 : W 21 5 = M 21 5 := by rw [hW, sU_ne (fun z => by omega)]
      have r2_11 : W 2 11 = M 2 11 := by rw [hW, sU_ne (fun z => by omega)]
      have r2_12 : W 2 12 = M 2 12 := by rw [hW, sU_ne (fun z => by omega)]
      have r2_13 : W 2 13 = M 2 13 := by rw [hW, sU_ne (fun z => by omega)]
      have r2_14 : W 2 14 = M 2 14 := by rw [hW, sU_ne (fun z => by omega)]
      have r2_15 : W 2 15 = M 2 15 := by rw [hW, sU_ne (fun z => by omega)]
      have r39_0 : W 39 0 = M 39 0 := by rw [hW, sU_ne (fun z => by omega)]
      have r40_0 : W 40 0 = M 40 0 := by rw [hW, sU_ne (fun z => by omega)]
      have r41_0 : W 41 0 = M 41 0 := by rw [hW, sU_ne (fun z => by omega)]
      have r42_0 : W 42 0 = M 42 0 := by rw [hW, sU_ne (fun z => by omega)]
      have r43_0 : W 43 0 = M 43 0 := by rw [hW, sU_ne (fun z => by omega)]
      have r44_0 : W 44 0 = M 44 0 := by rw [hW, sU_ne (fun z => by omega)]
      have r45_0 : W 45 0 = M 45 0 := by rw [hW, sU_ne (fun z => by omega)]
      have r46_0 : W 46 0 = M 46 0 := by rw [hW, sU_ne (fun z => by omega)]
      have r47_0 : W 47 0 = M 47 0 := by rw [hW, sU_ne (fun z => by omega)]
      have r48_0 : W 48 0 = M 48 0 := by rw [hW, sU_ne (fun z => by omega)]
      have r49_0 : W 49 0 = M 49 0 := by rw [hW, sU_ne (fun z => by omega)]
      have r50_0 : W 50 0 = M 50 0 := by rw [hW, sU_ne (fun z => by omega)]
      have r51_0 : W 51 0 = M 51 0 := by rw [hW, sU_ne (fun z => by omega)]
      have r52_0 : W 52 0 = M 52 0 := by rw [hW, sU_ne (fun z => by omega)]
      have r53_0 : W 53 0 = M 53 0 := by rw [hW, sU_ne (fun z => by omega)]
      have r39_1 : W 39 1 = M 39 1 := by rw [hW, sU_ne (fun z => by omega)]
      have r40_1 : W 40 1 = M 40 1 := by rw [hW, sU_ne (fun z => by omega)]
      have r41_1 : W 41 1 = M 41 1 := by rw [hW, sU_ne (fun z => by omega)]
      have r42_1 : W 42 1 = M 42 1 := by rw [hW, sU_ne (fun z => by omega)]
      have r43_1 : W 43 1 = M 43 1 := by rw [hW, sU_ne (fun z => by omega)]
      have r44_1 : W 44 1 = M 44 1 := by rw [hW, sU_ne (fun z => by omega)]
      have r45_1 : W 45 1 = M 45 1 := by rw [hW, sU_ne (fun z => by omega)]
      have r46_1 : W 46 1 = M 46 1 := by rw [hW, sU_ne (fun z => by omega)]
      have r47_1 : W 47 1 = M 47 1 := by rw [hW, sU_ne (fun z => by omega)]
      have r48_1 : W 48 1 = M 48 1 := by rw [hW, sU_ne (fun z => by omega)]
      have r49_1 : W 49 1 = M 49 1 := by rw [hW, sU_ne (fun z => by omega)]
      have r50_1 : W 50 1 = M 50 1 := by rw [hW, sU_ne (fun z => by omega)]
      have r51_1 : W 51 1 = M 51 1 := by rw [hW, sU_ne (fun z => by omega)]
      have r52_1 : W 52 1 = M 52 1 := by rw [hW, sU_ne (fun z => by omega)]
      have r53_1 : W 53 1 = M 53 1 := by rw [hW, sU_ne (fun z => by omega)]
      have r39_2 : W 39 2 = M 39 2 := by rw [hW, sU_ne (fun z => by omega)]
      have r40_2 : W 40 2 = M 40 2 := by rw [hW, sU_ne (fun z => by omega)]
      have r41_2 : W 41 2 = M 41 2 := by rw [hW, sU_ne (fun z => by omega)]
      have r42_2 : W 42 2 = M 42 2 := by rw [hW, sU_ne (fun z => by omega)]
      have r43_2 : W 43 2 = M 43 2 := by rw [hW, sU_ne (fun z => by omega)]
      have r44_2 : W 44 2 = M 44 2 := by rw [hW, sU_ne (fun z => by omega)]
      have r45_2 : W 45 2 = M 45 2 := by rw [hW, sU_ne (fun z => by omega)]
      have r46_2 : W 46 2 = M 46 2 := by rw [hW, sU_ne (fun z => by omega)]
      have r47_2 : W 47 2 = M 47 2 := by rw [hW, sU_ne (fun z => by omega)]
      have r48_2 : W 48 2 = M 48 2 := by rw [hW, sU_ne (fun z => by omega)]
      have r49_2 : W 49 2 = M 49 2 := by rw [hW, sU_ne (fun z => by omega)]
      have r50_2 : W 50 2 = M 50 2 := by rw [hW, sU_ne (fun z => by omega)]
      have r51_2 : W 51 2 = M 51 2 := by rw [hW, sU_ne (fun z => by omega)]
      have r52_2 : W 52 2 = M 52 2 := by rw [hW, sU_ne (fun z => by omega)]
      have r53_2 : W 53 2 = M 53 2 := by rw [hW, sU_ne (fun z => by omega)]
      have r39_3 : W 39 3 = M 39 3 := by rw [hW, sU_ne (fun z => by omega)]
      have r40_3 : W 40 3 = M 40 3 := by rw [hW, sU_ne (fun z => by omega)]
      have r41_3 : W 41 3 = M 41 3 := by rw [hW, sU_ne (fun z => by omega)]
      have r42_3 : W 42 3 = M 42 3 := by rw [hW, sU_ne (fun z => by omega)]
      have r43_3 : W 43 3 = M 43 3 := by rw [hW, sU_ne (fun z => by omega)]
      have r44_3 : W 44 3 = M 44 3 := by rw [hW, sU_ne (fun z => by omega)]
      have r45_3 : W 45 3 = M 45 3 := by rw [hW, sU_ne (fun z => by omega)]
      have r46_3 : W 46 3 = M 46 3 := by rw [hW, sU_ne (fun z => by omega)]
      have r47_3 : W 47 3 = M 47 3 := by rw [hW, sU_ne (fun z => by omega)]
      have r48_3 : W 48 3 = M 48 3 := by rw [hW, sU_ne (fun z => by omega)]
      have r49_3 : W 49 3 = M 49 3 := by rw [hW, sU_ne (fun z => by omega)]
      have r50_3 : W 50 3 = M 50 3 := by rw [hW, sU_ne (fun z => by omega)]
      have r51_3 : W 51 3 = M 51 3 := by rw [hW, sU_ne (fun z => by omega)]
      have r52_3 : W 52 3 = M 52 3 := by rw [hW, sU_ne (fun z => by omega)]
      have r53_3 : W 53 3 = M 53 3 := by rw [hW, sU_ne (fun z => by omega)]
      have r39_4 : W 39 4 = M 39 4 := by rw [hW, sU_ne (fun z => by omega)]
      have r40_4 : W 40 4 = M 40 4 := by rw [hW, sU_ne (fun z => by omega)]
      have r41_4 : W 41 4 = M 41 4 := by rw [hW, sU_ne (fun z => by omega)]
      have r42_4 : W 42 4 = M 42 4 := by rw [hW, sU_ne (fun z => by omega)]
      have r43_4 : W 43 4 = M 43 4 := by rw [hW, sU_ne (fun z => by omega)]
      have r44_4 : W 44 4 = M 44 4 := by rw [hW, sU_ne (fun z => by omega)]
      have r45_4 : W 45 4 = M 45 4 := by rw [hW, sU_ne (fun z => by omega)]
      have r46_4 : W 46 4 = M 46 4 := by rw [hW, sU_ne (fun z => by omega)]
      have r47_4 : W 47 4 = M 47 4 := by rw [hW, sU_ne (fun z => by omega)]
      have r39_5 : W 39 5 = M 39 5 := by rw [hW, sU_ne (fun z => by omega)]
      have r40_5 : W 40 5 = M 40 5 := by rw [hW, sU_ne (fun z => by omega)]
      have r41_5 : W 41 5 = M 41 5 := by rw [hW, sU_ne (fun z => by omega)]
      have r42_5 : W 42 5 = M 42 5 := by rw [hW, sU_ne (fun z => by omega)]
      have r43_5 : W 43 5 = M 43 5 := by rw [hW, sU_ne (fun z => by omega)]
      have r44_5 : W 44 5 = M 44 5 := by rw [hW, sU_ne (fun z => by omega)]
      have r45_5 : W 45 5 = M 45 5 := by rw [hW, sU_ne (fun z => by omega)]
      have r46_5 : W 46 5 = M 46 5 := by rw [hW, sU_ne (fun z => by omega)]
      have r47_5 : W 47 5 = M 47 5 := by rw [hW, sU_ne (fun z => by omega)]
      have r28_11 : W 28 11 = M 28 11 := by rw [hW, sU_ne (fun z => by omega)]
      have r28_12 : W 28 12 = M 28 12 := by rw [hW, sU_ne (fun z => by omega)]
      have r28_13 : W 28 13 = M 28 13 := by rw [hW, sU_ne (fun z => by omega)]
      have r28_14 : W 28 14 = M 28 14 := by rw [hW, sU_ne (fun z => by omega)]
      have r28_15 : W 28 15 = M 28 15 := by rw [hW, sU_ne (fun z => by omega)]
      have r93_12 : W 93 12 = M 93 12 := by rw [hW, sU_ne (fun z => by omega)]
      have r93_13 : W 93 13 = M 93 13 := by rw [hW, sU_ne (fun z => by omega)]
      have r93_14 : W 93 14 = M 93 14 := by rw [hW, sU_ne (fun z => by omega)]
      have r93_15 : W 93 15 = M 93 15 := by rw [hW, sU_ne (fun z => by omega)]
      have r93_16 : W 93 16 = M 93 16 := by rw [hW, sU_ne (fun z => by omega)]
      have c3 : ∀ k, W 3 k = M 3 k := fun k => by rw [hW, sU_ne (fun z => by omega)]
      have e3 : W 3 = M 3 := funext c3
      have c92 : ∀ k, W 92 k = M 92 k := fun k => by rw [hW, sU_ne (fun z => by omega)]
      have e92 : W 92 = M 92 := funext c92
      have c5 : ∀ k, W 5 k = M 5 k := fun k => by rw [hW, sU_ne (fun z => by omega)]
      have e5 : W 5 = M 5 := funext c5
      have c6 : ∀ k, W 6 k = M 6 k := fun k => by rw [hW, sU_ne (fun z => by omega)]
      have e6 : W 6 = M 6 := funext c6
      have c7 : ∀ k, W 7 k = M 7 k := fun k => by rw [hW, sU_ne (fun z => by omega)]
      have e7 : W 7 = M 7 := funext c7
      have c8 : ∀ k, W 8 k = M 8 k := fun k => by rw [hW, sU_ne (fun z => by omega)]
      have e8 : W 8 = M 8 := funext c8
      have c31 : ∀ k, W 31 k = M 31 k := fun k => by rw [hW, sU_ne (fun z => by omega)]
      have e31 : W 31 = M 31 := funext c31
      have c32 : ∀ k, W 32 k = M 32 k := fun k => by rw [hW, sU_ne (fun z => by omega)]
      have e32 : W 32 = M 32 := funext c32
      have c33 : ∀ k, W 33 k = M 33 k := fun k => by rw [hW, sU_ne (fun z => by omega)]
      have e33 : W 33 = M 33 := funext c33
      have c34 : ∀ k, W 34 k = M 34 k := fun k => by rw [hW, sU_ne (fun z => by omega)]
      have e34 : W 34 = M 34 := funext c34
      have c94 : ∀ k, W 94 k = M 94 k := fun k => by rw [hW, sU_ne (fun z => by omega)]
      have e94 : W 94 = M 94 := funext c94
      have c95 : ∀ k, W 95 k = M 95 k := fun k => by rw [hW, sU_ne (fun z => by omega)]
      have e95 : W 95 = M 95 := funext c95
      have c96 : ∀ k, W 96 k = M 96 k := fun k => by rw [hW, sU_ne (fun z => by omega)]
      have e96 : W 96 = M 96 := funext c96
      have c97 : ∀ k, W 97 k = M 97 k := fun k => by rw [hW, sU_ne (fun z => by omega)]
      have e97 : W 97 = M 97 := funext c97
      have c98 : ∀ k : Nat, k ≠ (1 * ρ 1 + 0).toNat → W 98 k = M 98 k := fun k hk => by rw [hW, sU_ne (fun z => by omega)]
      have a98 : W 98 (1 * ρ 1 + 0).toNat = 1 * ρ 2 + 0 := by rw [hW, sU_at]
      have c99 : ∀ k, W 99 k = M 99 k := fun k => by rw [hW, sU_ne (fun z => by omega)]
      have e99 : W 99 = M 99 := funext c99
      have c100 : ∀ k, W 100 k = M 100 k := fun k => by rw [hW, sU_ne (fun z => by omega)]
      have e100 : W 100 = M 100 := funext c100
      have c101 : ∀ k, W 101 k = M 101 k := fun k => by rw [hW, sU_ne (fun z => by omega)]
      have e101 : W 101 = M 101 := funext c101
      have c102 : ∀ k, W 102 k = M 102 k := fun k => by rw [hW, sU_ne (fun z => by omega)]
      have e102 : W 102 = M 102 := funext c102
      have c103 : ∀ k, W 103 k = M 103 k := fun k => by rw [hW, sU_ne (fun z => by omega)]
      have e103 : W 103 = M 103 := funext c103
      have c104 : ∀ k, W 104 k = M 104 k := fun k => by rw [hW, sU_ne (fun z => by omega)]
      have e104 : W 104 = M 104 := funext c104
      have c105 : ∀ k, W 105 k = M 105 k := fun k => by rw [hW, sU_ne (fun z => by omega)]
      have e105 : W 105 = M 105 := funext c105
      have c106 : ∀ k, W 106 k = M 106 k := fun k => by rw [hW, sU_ne (fun z => by omega)]
      have e106 : W 106 = M 106 := funext c106
      have c107 : ∀ k, W 107 k = M 107 k := fun k => by rw [hW, sU_ne (fun z => by omega)]
      have e107 : W 107 = M 107 := funext c107
      have hw : ∀ o k, 93 ≤ o → o ≤ 107 → ¬ (o = 98 ∧ k = (1 * ρ 1 + 0).toNat) → W o k = M o k := fun o k h1 h2 h3 => by rw [hW, sU_ne h3]
      have hx : ∀ o k, o ≠ 4 → o ≠ 91 → ¬ (o = 98 ∧ k = (1 * ρ 1 + 0).toNat) → W o k = M o k := fun o k h1 h2 h3 => by rw [hW, sU_ne h3]
      have e4 : ∀ k, (100 ≤ k ∧ k ≤ 208) ∨ k = 313 ∨ k = 314 → W 4 k = M 4 k := fun k hk => by rw [hW, sU_ne (fun z => by omega)]
      refine d3_ru (c := 98) (x := (1 * ρ 1 + 0).toNat) (gx_xD3 hI) (funext fun k => hx 3 k (by omega) (by omega) (by omega)) (funext fun k => hx 92 k (by omega) (by omega) (by omega)) e4 hw (by omega) (fun i hi ht hh => ?_)
      rw [r4_311] at hh
      exact ⟨hh, (fun z => by have z1 : i = 4 + 6 * ((1 * ρ 1 + 0).toNat - 9) := z.1; have z2 : 9 ≤ (1 * ρ 1 + 0).toNat := z.2; have t := ht.1 (by omega); rw [if_neg (by omega)] at t; omega)⟩
    have k_xDV : xDV W := by
      rw [hW]
      exact (uxDV (sinc_ok rfl _) hI.2.2.2.2.2.2.2.2.2.2.2.2.2.2.2.2.2.2.2.2.2.2.2.2.2.2.2.2.2.2.2.2.2.2.2.2.2.2.2.2.2.2.2.2.1)
    have k_xDP : xDP W := by
      have r : W 4 100 = 2 := by
        have e := m1
        rw [hW, sU_ne (fun z => by omega)]
        omega
      intro h
      rw [r] at h
      omega
    have k_xDE : xDE W := by
      have r4_301 : W 4 301 = M 4 301 := by rw [hW, sU_ne (fun z => by omega)]
      have r4_300 : W 4 300 = M 4 300 := by rw [hW, sU_ne (fun z => by omega)]
      have r93_0 : W 93 0 = M 93 0 := by rw [hW, sU_ne (fun z => by omega)]
      have r93_1 : W 93 1 = M 93 1 := by rw [hW, sU_ne (fun z => by omega)]
      have r93_2 : W 93 2 = M 93 2 := by rw [hW, sU_ne (fun z => by omega)]
      have r13_0 : W 13 0 = M 13 0 := by rw [hW, sU_ne (fun z => by omega)]
      have r14_0 : W 14 0 = M 14 0 := by rw [hW, sU_ne (fun z => by omega)]
      have r15_0 : W 15 0 = M 15 0 := by rw [hW, sU_ne (fun z => by omega)]
      have r16_0 : W 16 0 = M 16 0 := by rw [hW, sU_ne (fun z => by omega)]
      have r17_0 : W 17 0 = M 17 0 := by rw [hW, sU_ne (fun z => by omega)]
      have r18_0 : W 18 0 = M 18 0 := by rw [hW, sU_ne (fun z => by omega)]
      have r19_0 : W 19 0 = M 19 0 := by rw [hW, sU_ne (fun z => by omega)]
      have r20_0 : W 20 0 = M 20 0 := by rw [hW, sU_ne (fun z => by omega)]
      have r21_0 : W 21 0 = M 21 0 := by rw [hW, sU_ne (fun z => by omega)]
      have r22_0 : W 22 0 = M 22 0 := by rw [hW, sU_ne (fun z => by omega)]
      have r23_0 : W 23 0 = M 23 0 := by rw [hW, sU_ne (fun z => by omega)]
      have r24_0 : W 24 0 = M 24 0 := by rw [hW, sU_ne (fun z => by omega)]
      have r25_0 : W 25 0 = M 25 0 := by rw [hW, sU_ne (fun z => by omega)]
      have r26_0 : W 26 0 = M 26 0 := by rw [hW, sU_ne (fun z => by omega)]
      have r27_0 : W 27 0 = M 27 0 := by rw [hW, sU_ne (fun z => by omega)]
      have r13_1 : W 13 1 = M 13 1 := by rw [hW, sU_ne (fun z => by omega)]
      have r14_1 : W 14 1 = M 14 1 := by rw [hW, sU_ne (fun z => by omega)]
      have r15_1 : W 15 1 = M 15 1 := by rw [hW, sU_ne (fun z => by omega)]
      have r16_1 : W 16 1 = M 16 1 := by rw [hW, sU_ne (fun z => by omega)]
      have r17_1 : W 17 1 = M 17 1 := by rw [hW, sU_ne (fun z => by omega)]
      have r18_1 : W 18 1 = M 18 1 := by rw [hW, sU_ne (fun z => by omega)]
      have r19_1 : W 19 1 = M 19 1 := by rw [hW, sU_ne (fun z => by omega)]
      have r20_1 : W 20 1 = M 20 1 := by rw [hW, sU_ne (fun z => by omega)]
      have r21_1 : W 21 1 = M 21 1 := by rw [hW, sU_ne (fun z => by omega)]
      have r22_1 : W 22 1 = M 22 1 := by rw [hW, sU_ne (fun z => by omega)]
      have r23_1 : W 23 1 = M 23 1 := by rw [hW, sU_ne (fun z => by omega)]
      have r24_1 : W 24 1 = M 24 1 := by rw [hW, sU_ne (fun z => by omega)]
      have r25_1 : W 25 1 = M 25 1 := by rw [hW, sU_ne (fun z => by omega)]
      have r26_1 : W 26 1 = M 26 1 := by rw [hW, sU_ne (fun z => by omega)]
      have r27_1 : W 27 1 = M 27 1 := by rw [hW, sU_ne (fun z => by omega)]
      have r13_2 : W 13 2 = M 13 2 := by rw [hW, sU_ne (fun z => by omega)]
      have r14_2 : W 14 2 = M 14 2 := by rw [hW, sU_ne (fun z => by omega)]
      have r15_2 : W 15 2 = M 15 2 := by rw [hW, sU_ne (fun z => by omega)]
      have r16_2 : W 16 2 = M 16 2 := by rw [hW, sU_ne (fun z => by omega)]
      have r17_2 : W 17 2 = M 17 2 := by rw [hW, sU_ne (fun z => by omega)]
      have r18_2 : W 18 2 = M 18 2 := by rw [hW, sU_ne (fun z => by omega)]
      have r19_2 : W 19 2 = M 19 2 := by rw [hW, sU_ne (fun z => by omega)]
      have r20_2 : W 20 2 = M 20 2 := by rw [hW, sU_ne (fun z => by omega)]
      have r21_2 : W 21 2 = M 21 2 := by rw [hW, sU_ne (fun z => by omega)]
      have r22_2 : W 22 2 = M 22 2 := by rw [hW, sU_ne (fun z => by omega)]
      have r23_2 : W 23 2 = M 23 2 := by rw [hW, sU_ne (fun z => by omega)]
      have r24_2 : W 24 2 = M 24 2 := by rw [hW, sU_ne (fun z => by omega)]
      have r25_2 : W 25 2 = M 25 2 := by rw [hW, sU_ne (fun z => by omega)]
      have r26_2 : W 26 2 = M 26 2 := by rw [hW, sU_ne (fun z => by omega)]
      have r27_2 : W 27 2 = M 27 2 := by rw [hW, sU_ne (fun z => by omega)]
      have r13_3 : W 13 3 = M 13 3 := by rw [hW, sU_ne (fun z => by omega)]
      have r14_3 : W 14 3 = M 14 3 := by rw [hW, sU_ne (fun z => by omega)]
      have r15_3 : W 15 3 = M 15 3 := by rw [hW, sU_ne (fun z => by omega)]
      have r16_3 : W 16 3 = M 16 3 := by rw [hW, sU_ne (fun z => by omega)]
      have r17_3 : W 17 3 = M 17 3 := by rw [hW, sU_ne (fun z => by omega)]
      have r18_3 : W 18 3 = M 18 3 := by rw [hW, sU_ne (fun z => by omega)]
      have r19_3 : W 19 3 = M 19 3 := by rw [hW, sU_ne (fun z => by omega)]
      have r20_3 : W 20 3 = M 20 3 := by rw [hW, sU_ne (fun z => by omega)]
      have r21_3 : W 21 3 = M 21 3 := by rw [hW, sU_ne (fun z => by omega)]
      have r22_3 : W 22 3 = M 22 3 := by rw [hW, sU_ne (fun z => by omega)]
      have r23_3 : W 23 3 = M 23 3 := by rw [hW, sU_ne (fun z => by omega)]
      have r24_3 : W 24 3 = M 24 3 := by rw [hW, sU_ne (fun z => by omega)]
      have r25_3 : W 25 3 = M 25 3 := by rw [hW, sU_ne (fun z => by omega)]
      have r26_3 : W 26 3 = M 26 3 := by rw [hW, sU_ne (fun z => by omega)]
      have r27_3 : W 27 3 = M 27 3 := by rw [hW, sU_ne (fun z => by omega)]
      have r13_4 : W 13 4 = M 13 4 := by rw [hW, sU_ne (fun z => by omega)]
      have r14_4 : W 14 4 = M 14 4 := by rw [hW, sU_ne (fun z => by omega)]
      have r15_4 : W 15 4 = M 15 4 := by rw [hW, sU_ne (fun z => by omega)]
      have r16_4 : W 16 4 = M 16 4 := by rw [hW, sU_ne (fun z => by omega)]
      have r17_4 : W 17 4 = M 17 4 := by rw [hW, sU_ne (fun z => by omega)]
      have r18_4 : W 18 4 = M 18 4 := by rw [hW, sU_ne (fun z => by omega)]
      have r19_4 : W 19 4 = M 19 4 := by rw [hW, sU_ne (fun z => by omega)]
      have r20_4 : W 20 4 = M 20 4 := by rw [hW, sU_ne (fun z => by omega)]
      have r21_4 : W 21 4 = M 21 4 := by rw [hW, sU_ne (fun z => by omega)]
      have r13_5 : W 13 5 = M 13 5 := by rw [hW, sU_ne (fun z => by omega)]
      have r14_5 : W 14 5 = M 14 5 := by rw [hW, sU_ne (fun z => by omega)]
      have r15_5 : W 15 5 = M 15 5 := by rw [hW, sU_ne (fun z => by omega)]
      have r16_5 : W 16 5 = M 16 5 := by rw [hW, sU_ne (fun z => by omega)]
      have r17_5 : W 17 5 = M 17 5 := by rw [hW, sU_ne (fun z => by omega)]
      have r18_5 : W 18 5 = M 18 5 := by rw [hW, sU_ne (fun z => by omega)]
      have r19_5 : W 19 5 = M 19 5 := by rw [hW, sU_ne (fun z => by omega)]
      have r20_5 : W 20 5 = M 20 5 := by rw [hW, sU_ne (fun z => by omega)]
      have r21_5 : W 21 5 = M 21 5 := by rw [hW, sU_ne (fun z => by omega)]
      have r2_11 : W 2 11 = M 2 11 := by rw [hW, sU_ne (fun z => by omega)]
      have r2_12 : W 2 12 = M 2 12 := by rw [hW, sU_ne (fun z => by omega)]
      have r2_13 : W 2 13 = M 2 13 := by rw [hW, sU_ne (fun z => by omega)]
      have r2_14 : W 2 14 = M 2 14 := by rw [hW, sU_ne (fun z => by omega)]
      have r2_15 : W 2 15 = M 2 15 := by rw [hW, sU_ne (fun z => by omega)]
      have r39_0 : W 39 0 = M 39 0 := by rw [hW, sU_ne (fun z => by omega)]
      have r40_0 : W 40 0 = M 40 0 := by rw [hW, sU_ne (fun z => by omega)]
      have r41_0 : W 41 0 = M 41 0 := by rw [hW, sU_ne (fun z => by omega)]
      have r42_0 : W 42 0 = M 42 0 := by rw [hW, sU_ne (fun z => by omega)]
      have r43_0 : W 43 0 = M 43 0 := by rw [hW, sU_ne (fun z => by omega)]
      have r44_0 : W 44 0 = M 44 0 := by rw [hW, sU_ne (fun z => by omega)]
      have r45_0 : W 45 0 = M 45 0 := by rw [hW, sU_ne (fun z => by omega)]
      have r46_0 : W 46 0 = M 46 0 := by rw [hW, sU_ne (fun z => by omega)]
      have r47_0 : W 47 0 = M 47 0 := by rw [hW, sU_ne (fun z => by omega)]
      have r48_0 : W 48 0 = M 48 0 := by rw [hW, sU_ne (fun z => by omega)]
      have r49_0 : W 49 0 = M 49 0 := by rw [hW, sU_ne (fun z => by omega)]
      have r50_0 : W 50 0 = M 50 0 := by rw [hW, sU_ne (fun z => by omega)]
      have r51_0 : W 51 0 = M 51 0 := by rw [hW, sU_ne (fun z => by omega)]
      have r52_0 : W 52 0 = M 52 0 := by rw [hW, sU_ne (fun z => by omega)]
      have r53_0 : W 53 0 = M 53 0 := by rw [hW, sU_ne (fun z => by omega)]
      have r39_1 : W 39 1 = M 39 1 := by rw [hW, sU_ne (fun z => by omega)]
      have r40_1 : W 40 1 = M 40 1 := by rw [hW, sU_ne (fun z => by omega)]
      have r41_1 : W 41 1 = M 41 1 := by rw [hW, sU_ne (fun z => by omega)]
      have r42_1 : W 42 1 = M 42 1 := by rw [hW, sU_ne (fun z => by omega)]
      have r43_1 : W 43 1 = M 43 1 := by rw [hW, sU_ne (fun z => by omega)]
      have r44_1 : W 44 1 = M 44 1 := by rw [hW, sU_ne (fun z => by omega)]
      have r45_1 : W 45 1 = M 45 1 := by rw [hW, sU_ne (fun z => by omega)]
      have r46_1 : W 46 1 = M 46 1 := by rw [hW, sU_ne (fun z => by omega)]
      have r47_1 : W 47 1 = M 47 1 := by rw [hW, sU_ne (fun z => by omega)]
      have r48_1 : W 48 1 = M 48 1 := by rw [hW, sU_ne (fun z => by omega)]
      have r49_1 : W 49 1 = M 49 1 := by rw [hW, sU_ne (fun z => by omega)]
      have r50_1 : W 50 1 = M 50 1 := by rw [hW, sU_ne (fun z => by omega)]
      have r51_1 : W 51 1 = M 51 1 := by rw [hW, sU_ne (fun z => by omega)]
      have r52_1 : W 52 1 = M 52 1 := by rw [hW, sU_ne (fun z => by omega)]
      have r53_1 : W 53 1 = M 53 1 := by rw [hW, sU_ne (fun z => by omega)]
      have r39_2 : W 39 2 = M 39 2 := by rw [hW, sU_ne (fun z => by omega)]
      have r40_2 : W 40 2 = M 40 2 := by rw [hW, sU_ne (fun z => by omega)]
      have r41_2 : W 41 2 = M 41 2 := by rw [hW, sU_ne (fun z => by omega)]
      have r42_2 : W 42 2 = M 42 2 := by rw [hW, sU_ne (fun z => by omega)]
      have r43_2 : W 43 2 = M 43 2 := by rw [hW, sU_ne (fun z => by omega)]
      have r44_2 : W 44 2 = M 44 2 := by rw [hW, sU_ne (fun z => by omega)]
      have r45_2 : W 45 2 = M 45 2 := by rw [hW, sU_ne (fun z => by omega)]
      have r46_2 : W 46 2 = M 46 2 := by rw [hW, sU_ne (fun z => by omega)]
      have r47_2 : W 47 2 = M 47 2 := by rw [hW, sU_ne (fun z => by omega)]
      have r48_2 : W 48 2 = M 48 2 := by rw [hW, sU_ne (fun z => by omega)]
      have r49_2 : W 49 2 = M 49 2 := by rw [hW, sU_ne (fun z => by omega)]
      have r50_2 : W 50 2 = M 50 2 := by rw [hW, sU_ne (fun z => by omega)]
      have r51_2 : W 51 2 = M 51 2 := by rw [hW, sU_ne (fun z => by omega)]
      have r52_2 : W 52 2 = M 52 2 := by rw [hW, sU_ne (fun z => by omega)]
      have r53_2 : W 53 2 = M 53 2 := by rw [hW, sU_ne (fun z => by omega)]
      have r39_3 : W 39 3 = M 39 3 := by rw [hW, sU_ne (fun z => by omega)]
      have r40_3 : W 40 3 = M 40 3 := by rw [hW, sU_ne (fun z => by omega)]
      have r41_3 : W 41 3 = M 41 3 := by rw [hW, sU_ne (fun z => by omega)]
      have r42_3 : W 42 3 = M 42 3 := by rw [hW, sU_ne (fun z => by omega)]
      have r43_3 : W 43 3 = M 43 3 := by rw [hW, sU_ne (fun z => by omega)]
      have r44_3 : W 44 3 = M 44 3 := by rw [hW, sU_ne (fun z => by omega)]
      have r45_3 : W 45 3 = M 45 3 := by rw [hW, sU_ne (fun z => by omega)]
      have r46_3 : W 46 3 = M 46 3 := by rw [hW, sU_ne (fun z => by omega)]
      have r47_3 : W 47 3 = M 47 3 := by rw [hW, sU_ne (fun z => by omega)]
      have r48_3 : W 48 3 = M 48 3 := by rw [hW, sU_ne (fun z => by omega)]
      have r49_3 : W 49 3 = M 49 3 := by rw [hW, sU_ne (fun z => by omega)]
      have r50_3 : W 50 3 = M 50 3 := by rw [hW, sU_ne (fun z => by omega)]
      have r51_3 : W 51 3 = M 51 3 := by rw [hW, sU_ne (fun z => by omega)]
      have r52_3 : W 52 3 = M 52 3 := by rw [hW, sU_ne (fun z => by omega)]
      have r53_3 : W 53 3 = M 53 3 := by rw [hW, sU_ne (fun z => by omega)]
      have r39_4 : W 39 4 = M 39 4 := by rw [hW, sU_ne (fun z => by omega)]
      have r40_4 : W 40 4 = M 40 4 := by rw [hW, sU_ne (fun z => by omega)]
      have r41_4 : W 41 4 = M 41 4 := by rw [hW, sU_ne (fun z => by omega)]
      have r42_4 : W 42 4 = M 42 4 := by rw [hW, sU_ne (fun z => by omega)]
      have r43_4 : W 43 4 = M 43 4 := by rw [hW, sU_ne (fun z => by omega)]
      have r44_4 : W 44 4 = M 44 4 := by rw [hW, sU_ne (fun z => by omega)]
      have r45_4 : W 45 4 = M 45 4 := by rw [hW, sU_ne (fun z => by omega)]
      have r46_4 : W 46 4 = M 46 4 := by rw [hW, sU_ne (fun z => by omega)]
      have r47_4 : W 47 4 = M 47 4 := by rw [hW, sU_ne (fun z => by omega)]
      have r39_5 : W 39 5 = M 39 5 := by rw [hW, sU_ne (fun z => by omega)]
      have r40_5 : W 40 5 = M 40 5 := by rw [hW, sU_ne (fun z => by omega)]
      have r41_5 : W 41 5 = M 41 5 := by rw [hW, sU_ne (fun z => by omega)]
      have r42_5 : W 42 5 = M 42 5 := by rw [hW, sU_ne (fun z => by omega)]
      have r43_5 : W 43 5 = M 43 5 := by rw [hW, sU_ne (fun z => by omega)]
      have r44_5 : W 44 5 = M 44 5 := by rw [hW, sU_ne (fun z => by omega)]
      have r45_5 : W 45 5 = M 45 5 := by rw [hW, sU_ne (fun z => by omega)]
      have r46_5 : W 46 5 = M 46 5 := by rw [hW, sU_ne (fun z => by omega)]
      have r47_5 : W 47 5 = M 47 5 := by rw [hW, sU_ne (fun z => by omega)]
      have r28_11 : W 28 11 = M 28 11 := by rw [hW, sU_ne (fun z => by omega)]
      have r28_12 : W 28 12 = M 28 12 := by rw [hW, sU_ne (fun z => by omega)]
      have r28_13 : W 28 13 = M 28 13 := by rw [hW, sU_ne (fun z => by omega)]
      have r28_14 : W 28 14 = M 28 14 := by rw [hW, sU_ne (fun z => by omega)]
      have r28_15 : W 28 15 = M 28 15 := by rw [hW, sU_ne (fun z => by omega)]
      have r93_3 : W 93 3 = M 93 3 := by rw [hW, sU_ne (fun z => by omega)]
      have r93_4 : W 93 4 = M 93 4 := by rw [hW, sU_ne (fun z => by omega)]
      have r93_5 : W 93 5 = M 93 5 := by rw [hW, sU_ne (fun z => by omega)]
      have r93_6 : W 93 6 = M 93 6 := by rw [hW, sU_ne (fun z => by omega)]
      have r93_7 : W 93 7 = M 93 7 := by rw [hW, sU_ne (fun z => by omega)]
      have c5 : ∀ k, W 5 k = M 5 k := fun k => by rw [hW, sU_ne (fun z => by omega)]
      have e5 : W 5 = M 5 := funext c5
      have c6 : ∀ k, W 6 k = M 6 k := fun k => by rw [hW, sU_ne (fun z => by omega)]
      have e6 : W 6 = M 6 := funext c6
      have c7 : ∀ k, W 7 k = M 7 k := fun k => by rw [hW, sU_ne (fun z => by omega)]
      have e7 : W 7 = M 7 := funext c7
      have c8 : ∀ k, W 8 k = M 8 k := fun k => by rw [hW, sU_ne (fun z => by omega)]
      have e8 : W 8 = M 8 := funext c8
      have c31 : ∀ k, W 31 k = M 31 k := fun k => by rw [hW, sU_ne (fun z => by omega)]
      have e31 : W 31 = M 31 := funext c31
      have c32 : ∀ k, W 32 k = M 32 k := fun k => by rw [hW, sU_ne (fun z => by omega)]
      have e32 : W 32 = M 32 := funext c32
      have c33 : ∀ k, W 33 k = M 33 k := fun k => by rw [hW, sU_ne (fun z => by omega)]
      have e33 : W 33 = M 33 := funext c33
      have c34 : ∀ k, W 34 k = M 34 k := fun k => by rw [hW, sU_ne (fun z => by omega)]
      have e34 : W 34 = M 34 := funext c34
      have c94 : ∀ k, W 94 k = M 94 k := fun k => by rw [hW, sU_ne (fun z => by omega)]
      have e94 : W 94 = M 94 := funext c94
      have c95 : ∀ k, W 95 k = M 95 k := fun k => by rw [hW, sU_ne (fun z => by omega)]
      have e95 : W 95 = M 95 := funext c95
      have c96 : ∀ k, W 96 k = M 96 k := fun k => by rw [hW, sU_ne (fun z => by omega)]
      have e96 : W 96 = M 96 := funext c96
      have c97 : ∀ k, W 97 k = M 97 k := fun k => by rw [hW, sU_ne (fun z => by omega)]
      have e97 : W 97 = M 97 := funext c97
      have c98 : ∀ k : Nat, k ≠ (1 * ρ 1 + 0).toNat → W 98 k = M 98 k := fun k hk => by rw [hW, sU_ne (fun z => by omega)]
      have a98 : W 98 (1 * ρ 1 + 0).toNat = 1 * ρ 2 + 0 := by rw [hW, sU_at]
      have c99 : ∀ k, W 99 k = M 99 k := fun k => by rw [hW, sU_ne (fun z => by omega)]
      have e99 : W 99 = M 99 := funext c99
      have c100 : ∀ k, W 100 k = M 100 k := fun k => by rw [hW, sU_ne (fun z => by omega)]
      have e100 : W 100 = M 100 := funext c100
      have c101 : ∀ k, W 101 k = M 101 k := fun k => by rw [hW, sU_ne (fun z => by omega)]
      have e101 : W 101 = M 101 := funext c101
      have c102 : ∀ k, W 102 k = M 102 k := fun k => by rw [hW, sU_ne (fun z => by omega)]
      have e102 : W 102 = M 102 := funext c102
      have c103 : ∀ k, W 103 k = M 103 k := fun k => by rw [hW, sU_ne (fun z => by omega)]
      have e103 : W 103 = M 103 := funext c103
      have c104 : ∀ k, W 104 k = M 104 k := fun k => by rw [hW, sU_ne (fun z => by omega)]
      have e104 : W 104 = M 104 := funext c104
      have c105 : ∀ k, W 105 k = M 105 k := fun k => by rw [hW, sU_ne (fun z => by omega)]
      have e105 : W 105 = M 105 := funext c105
      have c106 : ∀ k, W 106 k = M 106 k := fun k => by rw [hW, sU_ne (fun z => by omega)]
      have e106 : W 106 = M 106 := funext c106
      have c107 : ∀ k, W 107 k = M 107 k := fun k => by rw [hW, sU_ne (fun z => by omega)]
      have e107 : W 107 = M 107 := funext c107
      have hw : ∀ o k, 93 ≤ o → o ≤ 107 → ¬ (o = 98 ∧ k = (1 * ρ 1 + 0).toNat) → W o k = M o k := fun o k h1 h2 h3 => by rw [hW, sU_ne h3]
      have hx : ∀ o k, o ≠ 4 → o ≠ 91 → ¬ (o = 98 ∧ k = (1 * ρ 1 + 0).toNat) → W o k = M o k := fun o k h1 h2 h3 => by rw [hW, sU_ne h3]
      intro h i hi ht
      rw [r4_301] at h
      rw [r93_0, r93_1, r93_2] at ht
      rw [r4_300, drl_up hw (by show 9 ≤ (1 * ρ 1 + 0).toNat; omega) hi, dcl_hi (fun o k h1 h2 => hx o k h2 (by omega) (by omega))]
      exact gx_xDE hI h i hi ht
    have k_xQ5 : xQ5 W := by
      rw [hW]
      exact (uxQ5 (sinc_ok rfl _) hI.2.2.2.2.2.2.2.2.2.2.2.2.2.2.2.2.2.2.2.2.2.2.2.2.2.2.2.2.2.2.2.2.2.2.2.2.2.2.2.2.2.2.2.2.2.2.2.1)
    have k_xQL : xQL W := by
      rw [hW]
      exact (uxQL (sinc_ok rfl _) hI.2.2.2.2.2.2.2.2.2.2.2.2.2.2.2.2.2.2.2.2.2.2.2.2.2.2.2.2.2.2.2.2.2.2.2.2.2.2.2.2.2.2.2.2.2.2.2.2.1)
    have k_xQW : xQW W := by
      rw [hW]
      exact (uxQW (sinc_ok rfl _) hI.2.2.2.2.2.2.2.2.2.2.2.2.2.2.2.2.2.2.2.2.2.2.2.2.2.2.2.2.2.2.2.2.2.2.2.2.2.2.2.2.2.2.2.2.2.2.2.2.2.1)
    have k_xQM : xQM W := by
      rw [hW]
      exact (uxQM (sinc_ok rfl _) hI.2.2.2.2.2.2.2.2.2.2.2.2.2.2.2.2.2.2.2.2.2.2.2.2.2.2.2.2.2.2.2.2.2.2.2.2.2.2.2.2.2.2.2.2.2.2.2.2.2.2.1)
    have k_xQH : xQH W := by
      rw [hW]
      exact (uxQH (sinc_ok rfl _) hI.2.2.2.2.2.2.2.2.2.2.2.2.2.2.2.2.2.2.2.2.2.2.2.2.2.2.2.2.2.2.2.2.2.2.2.2.2.2.2.2.2.2.2.2.2.2.2.2.2.2.2)
    have k_XC : XC W := ⟨k_xS1, k_xS2, k_xS3, k_xS4, k_xS5, k_xS6, k_xS7, k_xS8, k_xS9, k_xSA, k_xSG, k_xSF, k_xSB, k_xSC, k_xSD, k_xSE, k_xSW, k_xST, k_xSP, k_xSL, k_xSM, k_xSI, k_xD3, k_xDV, k_xDP, k_xDE, k_xQ5, k_xQL, k_xQW, k_xQM, k_xQH⟩
    have kXB : XB W := ⟨k_xN1, k_xN2, k_xN3, k_xN4, k_xN5, k_xN6, k_xH1, k_xK1, k_xC1, k_xRW, k_xWT, k_xCU, k_xG2, k_xG3, k_xG4, k_xG5, k_xG6, k_XC⟩
    exact ⟨base, k2, k3, kXA, kXB⟩
-- rH98
def xr_592 : qRu := (3, [[(-9, 0), (1, 1)], [(17, 0), (-1, 1)]], [(4, 350, []), (4, 100, [(2, 0)]), (4, 311, [(999, 0)])], [(98, [(1, 1)], [(1, 2)])], [(4, 311, [(-50, 0), (6, 1)])], [])
theorem xo_592 : qRok xr_592 := by
  intro ρ M h0 hf hm hI
  have f0 := hf [(-9, 0), (1, 1)] (by decide)
  have f1 := hf [(17, 0), (-1, 1)] (by decide)
  simp only [qD, h0] at f0 f1
  have m0 : M 4 350 = 0 := hm (4, 350, []) (by decide)
  have m1 : M 4 100 = 2 * ρ 0 + 0 := hm (4, 100, [(2, 0)]) (by decide)
  have m2 : M 4 311 = 999 * ρ 0 + 0 := hm (4, 311, [(999, 0)]) (by decide)
  simp only [h0] at m1 m2
  refine ⟨ρ, fun _ _ => rfl, fun f h => ?_, ?_⟩
  · exact nomatch h
  · show sI (sU (sU M 98 (1 * ρ 1 + 0 : Int).toNat (1 * ρ 2 + 0)) 4 311 (-50 * ρ 0 + (6 * ρ 1 + 0)))
    obtain ⟨W, hW⟩ : ∃ W, W = (sU (sU M 98 (1 * ρ 1 + 0).toNat (1 * ρ 2 + 0)) 4 311 (-50 * ρ 0 + (6 * ρ 1 + 0))) := ⟨_, rfl⟩
    rw [← hW]
    have base : sI0 W := by
      rw [hW]
      exact (si_u0 (si_u0 hI.1 (fun r hr => by cases hr)) (fun r hr => by cases hr))
    have k2 : XI2 W := by
      rw [hW]
      exact (xi2_u rfl (xi2_u (sinc_ok rfl _) hI.2.1))
    have k3 : XI3 W := by
      rw [hW]
      exact (xi3_u rfl (xi3_u (sinc_ok rfl _) hI.2.2.1))
    have kXA : XA W := by
      rw [hW]
      exact (uXA rfl (uXA (sinc_ok rfl _) hI.2.2.2.1))
    have k_xN1 : xN1 W := by
      rw [hW]
      exact (uxN1 rfl (uxN1 (sinc_ok rfl _) hI.2.2.2.2.1))
    have k_xN2 : xN2 W := by
      rw [hW]
      exact (uxN2 rfl (uxN2 (sinc_ok rfl _) hI.2.2.2.2.2.1))
    have k_xN3 : xN3 W := by
      rw [hW]
      exact (uxN3 rfl (uxN3 (sinc_ok rfl _) hI.2.2.2.2.2.2.1))
    have k_xN4 : xN4 W := by
      rw [hW]
      exact (uxN4 rfl (uxN4 (sinc_ok rfl _) hI.2.2.2.2.2.2.2.1))
    have k_xN5 : xN5 W := by
      rw [hW]
      exact (uxN5 rfl (uxN5 (sinc_ok rfl _) hI.2.2.2.2.2.2.2.2.1))
    have k_xN6 : xN6 W := by
      rw [hW]
      exact (uxN6 rfl (uxN6 (sinc_ok rfl _) hI.2.2.2.2.2.2.2.2.2.1))
    have k_xH1 : xH1 W := by
      rw [hW]
      exact (uxH1 rfl (uxH1 (sinc_ok rfl _) hI.2.2.2.2.2.2.2.2.2.2.1))
    have k_xK1 : xK1 W := by
      rw [hW]
      exact (uxK1 rfl (uxK1 (sinc_ok rfl _) hI.2.2.2.2.2.2.2.2.2.2.2.1))
    have k_xC1 : xC1 W := by
      rw [hW]
      exact (uxC1 rfl (uxC1 (sinc_ok rfl _) hI.2.2.2.2.2.2.2.2.2.2.2.2.1))
    have k_xRW : xRW W := by
      rw [hW]
      exact (uxRW rfl (uxRW (sinc_ok rfl _) hI.2.2.2.2.2.2.2.2.2.2.2.2.2.1))
    have k_xWT : xWT W := by
      rw [hW]
      exact (uxWT rfl (uxWT (sinc_ok rfl _) hI.2.2.2.2.2.2.2.2.2.2.2.2.2.2.1))
    have k_xCU : xCU W := by
      rw [hW]
      exact (uxCU rfl (uxCU (sinc_ok rfl _) hI.2.2.2.2.2.2.2.2.2.2.2.2.2.2.2.1))
    have k_xG2 : xG2 W := by
      rw [hW]
      exact (uxG2 rfl (uxG2 (sinc_ok rfl _) hI.2.2.2.2.2.2.2.2.2.2.2.2.2.2.2.2.1))
    have k_xG3 : xG3 W := by
      rw [hW]
      exact (uxG3 rfl (uxG3 (sinc_ok rfl _) hI.2.2.2.2.2.2.2.2.2.2.2.2.2.2.2.2.2.1))
    have k_xG4 : xG4 W := by
      rw [hW]
      exact (uxG4 rfl (uxG4 (sinc_ok rfl _) hI.2.2.2.2.2.2.2.2.2.2.2.2.2.2.2.2.2.2.1))
    have k_xG5 : xG5 W := by
      rw [hW]
      exact (uxG5 rfl (uxG5 (sinc_ok rfl _) hI.2.2.2.2.2.2.2.2.2.2.2.2.2.2.2.2.2.2.2.1))
    have k_xG6 : xG6 W := by
      rw [hW]
      exact (uxG6 rfl (uxG6 (sinc_ok rfl _) hI.2.2.2.2.2.2.2.2.2.2.2.2.2.2.2.2.2.2.2.2.1))
    have k_xS1 : xS1 W := by
      rw [hW]
      exact (uxS1 rfl (uxS1 (sinc_ok rfl _) hI.2.2.2.2.2.2.2.2.2.2.2.2.2.2.2.2.2.2.2.2.2.1))
    have k_xS2 : xS2 W := by
      rw [hW]
      exact (uxS2 rfl (uxS2 (sinc_ok rfl _) hI.2.2.2.2.2.2.2.2.2.2.2.2.2.2.2.2.2.2.2.2.2.2.1))
    have k_xS3 : xS3 W := by
      rw [hW]
      exact (uxS3 rfl (uxS3 (sinc_ok rfl _) hI.2.2.2.2.2.2.2.2.2.2.2.2.2.2.2.2.2.2.2.2.2.2.2.1))
    have k_xS4 : xS4 W := by
      rw [hW]
      exact (uxS4 rfl (uxS4 (sinc_ok rfl _) hI.2.2.2.2.2.2.2.2.2.2.2.2.2.2.2.2.2.2.2.2.2.2.2.2.1))
    have k_xS5 : xS5 W := by
      rw [hW]
      exact (uxS5 rfl (uxS5 (sinc_ok rfl _) hI.2.2.2.2.2.2.2.2.2.2.2.2.2.2.2.2.2.2.2.2.2.2.2.2.2.1))
    have k_xS6 : xS6 W := by
      rw [hW]
      exact (uxS6 rfl (uxS6 (sinc_ok rfl _) hI.2.2.2.2.2.2.2.2.2.2.2.2.2.2.2.2.2.2.2.2.2.2.2.2.2.2.1))
    have k_xS7 : xS7 W := by
      rw [hW]
      exact (uxS7 rfl (uxS7 (sinc_ok rfl _) hI.2.2.2.2.2.2.2.2.2.2.2.2.2.2.2.2.2.2.2.2.2.2.2.2.2.2.2.1))
    have k_xS8 : xS8 W := by
      rw [hW]
      exact (uxS8 rfl (uxS8 (sinc_ok rfl _) hI.2.2.2.2.2.2.2.2.2.2.2.2.2.2.2.2.2.2.2.2.2.2.2.2.2.2.2.2.1))
    have k_xS9 : xS9 W := by
      rw [hW]
      exact (uxS9 rfl (uxS9 (sinc_ok rfl _) hI.2.2.2.2.2.2.2.2.2.2.2.2.2.2.2.2.2.2.2.2.2.2.2.2.2.2.2.2.2.1))
    have k_xSA : xSA W := by
      rw [hW]
      exact (uxSA rfl (uxSA (sinc_ok rfl _) hI.2.2.2.2.2.2.2.2.2.2.2.2.2.2.2.2.2.2.2.2.2.2.2.2.2.2.2.2.2.2.1))
    have k_xSG : xSG W := by
      rw [hW]
      exact (uxSG rfl (uxSG (sinc_ok rfl _) hI.2.2.2.2.2.2.2.2.2.2.2.2.2.2.2.2.2.2.2.2.2.2.2.2.2.2.2.2.2.2.2.1))
    have k_xSF : xSF W := by
      rw [hW]
      exact (uxSF rfl (uxSF (sinc_ok rfl _) hI.2.2.2.2.2.2.2.2.2.2.2.2.2.2.2.2.2.2.2.2.2.2.2.2.2.2.2.2.2.2.2.2.1))
    have k_xSB : xSB W := by
      rw [hW]
      exact (uxSB rfl (uxSB (sinc_ok rfl _) hI.2.2.2.2.2.2.2.2.2.2.2.2.2.2.2.2.2.2.2.2.2.2.2.2.2.2.2.2.2.2.2.2.2.1))
    have k_xSC : xSC W := by
      rw [hW]
      exact (uxSC rfl (uxSC (sinc_ok rfl _) hI.2.2.2.2.2.2.2.2.2.2.2.2.2.2.2.2.2.2.2.2.2.2.2.2.2.2.2.2.2.2.2.2.2.2.1))
    have k_xSD : xSD W := by
      rw [hW]
      exact (uxSD rfl (uxSD (sinc_ok rfl _) hI.2.2.2.2.2.2.2.2.2.2.2.2.2.2.2.2.2.2.2.2.2.2.2.2.2.2.2.2.2.2.2.2.2.2.2.1))
    have k_xSE : xSE W := by
      rw [hW]
      exact (uxSE rfl (uxSE (sinc_ok rfl _) hI.2.2.2.2.2.2.2.2.2.2.2.2.2.2.2.2.2.2.2.2.2.2.2.2.2.2.2.2.2.2.2.2.2.2.2.2.1))
    have k_xSW : xSW W := by
      rw [hW]
      exact (uxSW rfl (uxSW (sinc_ok rfl _) hI.2.2.2.2.2.2.2.2.2.2.2.2.2.2.2.2.2.2.2.2.2.2.2.2.2.2.2.2.2.2.2.2.2.2.2.2.2.1))
    have k_xST : xST W := by
      rw [hW]
      exact (uxST rfl (uxST (sinc_ok rfl _) hI.2.2.2.2.2.2.2.2.2.2.2.2.2.2.2.2.2.2.2.2.2.2.2.2.2.2.2.2.2.2.2.2.2.2.2.2.2.2.1))
    have k_xSP : xSP W := by
      rw [hW]
      exact (uxSP rfl (uxSP (sinc_ok rfl _) hI.2.2.2.2.2.2.2.2.2.2.2.2.2.2.2.2.2.2.2.2.2.2.2.2.2.2.2.2.2.2.2.2.2.2.2.2.2.2.2.1))
    have k_xSL : xSL W := by
      rw [hW]
      exact (uxSL rfl (uxSL (sinc_ok rfl _) hI.2.2.2.2.2.2.2.2.2.2.2.2.2.2.2.2.2.2.2.2.2.2.2.2.2.2.2.2.2.2.2.2.2.2.2.2.2.2.2.2.1))
    have k_xSM : xSM W := by
      rw [hW]
      exact (uxSM rfl (uxSM (sinc_ok rfl _) hI.2.2.2.2.2.2.2.2.2.2.2.2.2.2.2.2.2.2.2.2.2.2.2.2.2.2.2.2.2.2.2.2.2.2.2.2.2.2.2.2.2.1))
    have k_xSI : xSI W := by
      rw [hW]
      exact (uxSI rfl (uxSI (sinc_ok rfl _) hI.2.2.2.2.2.2.2.2.2.2.2.2.2.2.2.2.2.2.2.2.2.2.2.2.2.2.2.2.2.2.2.2.2.2.2.2.2.2.2.2.2.2.1))
    have k_xD3 : xD3 W := by
      have r4_100 : W 4 100 = M 4 100 := by rw [hW, sU_ne (fun z => by omega), sU_ne (fun z => by omega)]
      have r4_101 : W 4 101 = M 4 101 := by rw [hW, sU_ne (fun z => by omega), sU_ne (fun z => by omega)]
      have r4_103 : W 4 103 = M 4 103 := by rw [hW, sU_ne (fun z => by omega), sU_ne (fun z => by omega)]
      have r4_104 : W 4 104 = M 4 104 := by rw [hW, sU_ne (fun z => by omega), sU_ne (fun z => by omega)]
      have r4_105 : W 4 105 = M 4 105 := by rw [hW, sU_ne (fun z => by omega), sU_ne (fun z => by omega)]
      have r4_106 : W 4 106 = M 4 106 := by rw [hW, sU_ne (fun z => by omega), sU_ne (fun z => by omega)]
      have r4_207 : W 4 207 = M 4 207 := by rw [hW, sU_ne (fun z => by omega), sU_ne (fun z => by omega)]
      have r4_208 : W 4 208 = M 4 208 := by rw [hW, sU_ne (fun z => by omega), sU_ne (fun z => by omega)]
      have r4_311 : W 4 311 = -50 * ρ 0 + (6 * ρ 1 + 0) := by rw [hW, sU_at]
      have r4_313 : W 4 313 = M 4 313 := by rw [hW, sU_ne (fun z => by omega), sU_ne (fun z => by omega)]
      have r4_314 : W 4 314 = M 4 314 := by rw [hW, sU_ne (fun z => by omega), sU_ne (fun z => by omega)]
      have r13_0 : W 13 0 = M 13 0 := by rw [hW, sU_ne (fun z => by omega), sU_ne (fun z => by omega)]
      have r14_0 : W 14 0 = M 14 0 := by rw [hW, sU_ne (fun z => by omega), sU_ne (fun z => by omega)]
      have r15_0 : W 15 0 = M 15 0 := by rw [hW, sU_ne (fun z => by omega), sU_ne (fun z => by omega)]
      have r16_0 : W 16 0 = M 16 0 := by rw [hW, sU_ne (fun z => by omega), sU_ne (fun z => by omega)]
      have r17_0 : W 17 0 = M 17 0 := by rw [hW, sU_ne (fun z => by omega), sU_ne (fun z => by omega)]
      have r18_0 : W 18 0 = M 18 0 := by rw [hW, sU_ne (fun z => by omega), sU_ne (fun z => by omega)]
      have r19_0 : W 19 0 = M 19 0 := by rw [hW, sU_ne (fun z => by omega), sU_ne (fun z => by omega)]
      have r20_0 : W 20 0 = M 20 0 := by rw [hW, sU_ne (fun z => by omega), sU_ne (fun z => by omega)]
      have r21_0 : W 21 0 = M 21 0 := by rw [hW, sU_ne (fun z => by omega), sU_ne (fun z => by omega)]
      have r22_0 : W 22 0 = M 22 0 := by rw [hW, sU_ne (fun z => by omega), sU_ne (fun z => by omega)]
      have r23_0 : W 23 0 = M 23 0 := by rw [hW, sU_ne (fun z => by omega), sU_ne (fun z => by omega)]
      have r24_0 : W 24 0 = M 24 0 := by rw [hW, sU_ne (fun z => by omega), sU_ne (fun z => by omega)]
      have r25_0 : W 25 0 = M 25 0 := by rw [hW, sU_ne (fun z => by omega), sU_ne (fun z => by omega)]
      have r26_0 : W 26 0 = M 26 0 := by rw [hW, sU_ne (fun z => by omega), sU_ne (fun z => by omega)]
      have r27_0 : W 27 0 = M 27 0 := by rw [hW, sU_ne (fun z => by omega), sU_ne (fun z => by omega)]
      have r13_1 : W 13 1 = M 13 1 := by rw [hW, sU_ne (fun z => by omega), sU_ne (fun z => by omega)]
      have r14_1 : W 14 1 = M 14 1 := by rw [hW, sU_ne (fun z => by omega), sU_ne (fun z => by omega)]
      have r15_1 : W 15 1 = M 15 1 := by rw [hW, sU_ne (fun z => by omega), sU_ne (fun z => by omega)]
      have r16_1 : W 16 1 = M 16 1 := by rw [hW, sU_ne (fun z => by omega), sU_ne (fun z => by omega)]
      have r17_1 : W 17 1 = M 17 1 := by rw [hW, sU_ne (fun z => by omega), sU_ne (fun z => by omega)]
      have r18_1 : W 18 1 = M 18 1 := by rw [hW, sU_ne (fun z => by omega), sU_ne (fun z => by omega)]
      have r19_1 : W 19 1 = M 19 1 := by rw [hW, sU_ne (fun z => by omega), sU_ne (fun z => by omega)]
      have r20_1 : W 20 1 = M 20 1 := by rw [hW, sU_ne (fun z => by omega), sU_ne (fun z => by omega)]
      have r21_1 : W 21 1 = M 21 1 := by rw [hW, sU_ne (fun z => by omega), sU_ne (fun z => by omega)]
      have r22_1 : W 22 1 = M 22 1 := by rw [hW, sU_ne (fun z => by omega), sU_ne (fun z => by omega)]
      have r23_1 : W 23 1 = M 23 1 := by rw [hW, sU_ne (fun z => by omega), sU_ne (fun z => by omega)]
      have r24_1 : W 24 1 = M 24 1 := by rw [hW, sU_ne (fun z => by omega), sU_ne (fun z => by omega)]
      have r25_1 : W 25 1 = M 25 1 := by rw [hW, sU_ne (fun z => by omega), sU_ne (fun z => by omega)]
      have r26_1 : W 26 1 = M 26 1 := by rw [hW, sU_ne (fun z => by omega), sU_ne (fun z => by omega)]
      have r27_1 : W 27 1 = M 27 1 := by rw [hW, sU_ne (fun z => by omega), sU_ne (fun z => by omega)]
      have r13_2 : W 13 2 = M 13 2 := by rw [hW, sU_ne (fun z => by omega), sU_ne (fun z => by omega)]
      have r14_2 : W 14 2 = M 14 2 := by rw [hW, sU_ne (fun z => by omega), sU_ne (fun z => by omega)]
      have r15_2 : W 15 2 = M 15 2 := by rw [hW, sU_ne (fun z => by omega), sU_ne (fun z => by omega)]
      have r16_2 : W 16 2 = M 16 2 := by rw [hW, sU_ne (fun z => by omega), sU_ne (fun z => by omega)]
      have r17_2 : W 17 2 = M 17 2 := by rw [hW, sU_ne (fun z => by omega), sU_ne (fun z => by omega)]
      have r18_2 : W 18 2 = M 18 2 := by rw [hW, sU_ne (fun z => by omega), sU_ne (fun z => by omega)]
      have r19_2 : W 19 2 = M 19 2 := by rw [hW, sU_ne (fun z => by omega), sU_ne (fun z => by omega)]
      have r20_2 : W 20 2 = M 20 2 := by rw [hW, sU_ne (fun z => by omega), sU_ne (fun z => by omega)]
      have r21_2 : W 21 2 = M 21 2 := by rw [hW, sU_ne (fun z => by omega), sU_ne (fun z => by omega)]
      have r22_2 : W 22 2 = M 22 2 := by rw [hW, sU_ne (fun z => by omega), sU_ne (fun z => by omega)]
      have r23_2 : W 23 2 = M 23 2 := by rw [hW, sU_ne (fun z => by omega), sU_ne (fun z => by omega)]
      have r24_2 : W 24 2 = M 24 2 := by rw [hW, sU_ne (fun z => by omega), sU_ne (fun z => by omega)]
      have r25_2 : W 25 2 = M 25 2 := by rw [hW, sU_ne (fun z => by omega), sU_ne (fun z => by omega)]
      have r26_2 : W 26 2 = M 26 2 := by rw [hW, sU_ne (fun z => by omega), sU_ne (fun z => by omega)]
      have r27_2 : W 27 2 = M 27 2 := by rw [hW, sU_ne (fun z => by omega), sU_ne (fun z => by omega)]
      have r13_3 : W 13 3 = M 13 3 := by rw [hW, sU_ne (fun z => by omega), sU_ne (fun z => by omega)]
      have r14_3 : W 14 3 = M 14 3 := by rw [hW, sU_ne (fun z => by omega), sU_ne (fun z => by omega)]
      have r15_3 : W 15 3 = M 15 3 := by rw [hW, sU_ne (fun z => by omega), sU_ne (fun z => by omega)]
      have r16_3 : W 16 3 = M 16 3 := by rw [hW, sU_ne (fun z => by omega), sU_ne (fun z => by omega)]
      have r17_3 : W 17 3 = M 17 3 := by rw [hW, sU_ne (fun z => by omega), sU_ne (fun z => by omega)]
      have r18_3 : W 18 3 = M 18 3 := by rw [hW, sU_ne (fun z => by omega), sU_ne (fun z => by omega)]
      have r19_3 : W 19 3 = M 19 3 := by rw [hW, sU_ne (fun z => by omega), sU_ne (fun z => by omega)]
      have r20_3 : W 20 3 = M 20 3 := by rw [hW, sU_ne (fun z => by omega), sU_ne (fun z => by omega)]
      have r21_3 : W 21 3 = M 21 3 := by rw [hW, sU_ne (fun z => by omega), sU_ne (fun z => by omega)]
      have r22_3 : W 22 3 = M 22 3 := by rw [hW, sU_ne (fun z => by omega), sU_ne (fun z => by omega)]
      have r23_3 : W 23 3 = M 23 3 := by rw [hW, sU_ne (fun z => by omega), sU_ne (fun z => by omega)]
      have r24_3 : W 24 3 = M 24 3 := by rw [hW, sU_ne (fun z => by omega), sU_ne (fun z => by omega)]
      have r25_3 : W 25 3 = M 25 3 := by rw [hW, sU_ne (fun z => by omega), sU_ne (fun z => by omega)]
      have r26_3 : W 26 3 = M 26 3 := by rw [hW, sU_ne (fun z => by omega), sU_ne (fun z => by omega)]
      have r27_3 : W 27 3 = M 27 3 := by rw [hW, sU_ne (fun z => by omega), sU_ne (fun z => by omega)]
      have r13_4 : W 13 4 = M 13 4 := by rw [hW, sU_ne (fun z => by omega), sU_ne (fun z => by omega)]
      have r14_4 : W 14 4 = M 14 4 := by rw [hW, sU_ne (fun z => by omega), sU_ne (fun z => by omega)]
      have r15_4 : W 15 4 = M 15 4 := by rw [hW, sU_ne (fun z => by omega), sU_ne (fun z => by omega)]
      have r16_4 : W 16 4 = M 16 4 := by rw [hW, sU_ne (fun z => by omega), sU_ne (fun z => by omega)]
      have r17_4 : W 17 4 = M 17 4 := by rw [hW, sU_ne (fun z => by omega), sU_ne (fun z => by omega)]
      have r18_4 : W 18 4 = M 18 4 := by rw [hW, sU_ne (fun z => by omega), sU_ne (fun z => by omega)]
      have r19_4 : W 19 4 = M 19 4 := by rw [hW, sU_ne (fun z => by omega), sU_ne (fun z => by omega)]
      have r20_4 : W 20 4 = M 20 4 := by rw [hW, sU_ne (fun z => by omega), sU_ne (fun z => by omega)]
      have r21_4 : W 21 4 = M 21 4 := by rw [hW, sU_ne (fun z => by omega), sU_ne (fun z => by omega)]
      have r13_5 : W 13 5 = M 13 5 := by rw [hW, sU_ne (fun z => by omega), sU_ne (fun z => by omega)]
      have r14_5 : W 14 5 = M 14 5 := by rw [hW, sU_ne (fun z => by omega), sU_ne (fun z => by omega)]
      have r15_5 : W 15 5 = M 15 5 := by rw [hW, sU_ne (fun z => by omega), sU_ne (fun z => by omega)]
      have r16_5 : W 16 5 = M 16 5 := by rw [hW, sU_ne (fun z => by omega), sU_ne (fun z => by omega)]
      have r17_5 : W 17 5 = M 17 5 := by rw [hW, sU_ne (fun z => by omega), sU_ne (fun z => by omega)]
      have r18_5 : W 18 5 = M 18 5 := by rw [hW, sU_ne (fun z => by omega), sU_ne (fun z => by omega)]
      have r19_5 : W 19 5 = M 19 5 := by rw [hW, sU_ne (fun z => by omega), sU_ne (fun z => by omega)]
      have r20_5 : W 20 5 = M 20 5 := by rw [hW, sU_ne (fun z => by omega), sU_ne (fun z => by omega)]
      have r21_5 : W 21 5 = M 21 5 := by rw [hW, sU_ne (fun z => by omega), sU_ne (fun z => by omega)]
      have r2_11 : W 2 11 = M 2 11 := by rw [hW, sU_ne (fun z => by omega), sU_ne (fun z => by omega)]
      have r2_12 : W 2 12 = M 2 12 := by rw [hW, sU_ne (fun z => by omega), sU_ne (fun z => by omega)]
      have r2_13 : W 2 13 = M 2 13 := by rw [hW, sU_ne (fun z => by omega), sU_ne (fun z => by omega)]
      have r2_14 : W 2 14 = M 2 14 := by rw [hW, sU_ne (fun z => by omega), sU_ne (fun z => by omega)]
      have r2_15 : W 2 15 = M 2 15 := by rw [hW, sU_ne (fun z => by omega), sU_ne (fun z => by omega)]
      have r39_0 : W 39 0 = M 39 0 := by rw [hW, sU_ne (fun z => by omega), sU_ne (fun z => by omega)]
      have r40_0 : W 40 0 = M 40 0 := by rw [hW, sU_ne (fun z => by omega), sU_ne (fun z => by omega)]
      have r41_0 : W 41 0 = M 41 0 := by rw [hW, sU_ne (fun z => by omega), sU_ne (fun z => by omega)]
      have r42_0 : W 42 0 = M 42 0 := by rw [hW, sU_ne (fun z => by omega), sU_ne (fun z => by omega)]
      have r43_0 : W 43 0 = M 43 0 := by rw [hW, sU_ne (fun z => by omega), sU_ne (fun z => by omega)]
      have r44_0 : W 44 0 = M 44 0 := by rw [hW, sU_ne (fun z => by omega), sU_ne (fun z => by omega)]
      have r45_0 : W 45 0 = M 45 0 := by rw [hW, sU_ne (fun z => by omega), sU_ne (fun z => by omega)]
      have r46_0 : W 46 0 = M 46 0 := by rw [hW, sU_ne (fun z => by omega), sU_ne (fun z => by omega)]
      have r47_0 : W 47 0 = M 47 0 := by rw [hW, sU_ne (fun z => by omega), sU_ne (fun z => by omega)]
      have r48_0 : W 48 0 = M 48 0 := by rw [hW, sU_ne (fun z => by omega), sU_ne (fun z => by omega)]
      have r49_0 : W 49 0 = M 49 0 := by rw [hW, sU_ne (fun z => by omega), sU_ne (fun z => by omega)]
      have r50_0 : W 50 0 = M 50 0 := by rw [hW, sU_ne (fun z => by omega), sU_ne (fun z => by omega)]
      have r51_0 : W 51 0 = M 51 0 := by rw [hW, sU_ne (fun z => by omega), sU_ne (fun z => by omega)]
      have r52_0 : W 52 0 = M 52 0 := by rw [hW, sU_ne (fun z => by omega), sU_ne (fun z => by omega)]
      have r53_0 : W 53 0 = M 53 0 := by rw [hW, sU_ne (fun z => by omega), sU_ne (fun z => by omega)]
      have r39_1 : W 39 1 = M 39 1 := by rw [hW, sU_ne (fun z => by omega), sU_ne (fun z => by omega)]
      have r40_1 : W 40 1 = M 40 1 := by rw [hW, sU_ne (fun z => by omega), sU_ne (fun z => by omega)]
      have r41_1 : W 41 1 = M 41 1 := by rw [hW, sU_ne (fun z => by omega), sU_ne (fun z => by omega)]
      have r42_1 : W 42 1 = M 42 1 := by rw [hW, sU_ne (fun z => by omega), sU_ne (fun z => by omega)]
      have r43_1 : W 43 1 = M 43 1 := by rw [hW, sU_ne (fun z => by omega), sU_ne (fun z => by omega)]
      have r44_1 : W 44 1 = M 44 1 := by rw [hW, sU_ne (fun z => by omega), sU_ne (fun z => by omega)]
      have r45_1 : W 45 1 = M 45 1 := by rw [hW, sU_ne (fun z => by omega), sU_ne (fun z => by omega)]
      have r46_1 : W 46 1 = M 46 1 := by rw [hW, sU_ne (fun z => by omega), sU_ne (fun z => by omega)]
      have r47_1 : W 47 1 = M 47 1 := by rw [hW, sU_ne (fun z => by omega), sU_ne (fun z => by omega)]
      have r48_1 : W 48 1 = M 48 1 := by rw [hW, sU_ne (fun z => by omega), sU_ne (fun z => by omega)]
      have r49_1 : W 49 1 = M 49 1 := by rw [hW, sU_ne (fun z => by omega), sU_ne (fun z => by omega)]
      have r50_1 : W 50 1 = M 50 1 := by rw [hW, sU_ne (fun z => by omega), sU_ne (fun z => by omega)]
      have r51_1 : W 51 1 = M 51 1 := by rw [hW, sU_ne (fun z => by omega), sU_ne (fun z => by omega)]
      have r52_1 : W 52 1 = M 52 1 := by rw [hW, sU_ne (fun z => by omega), sU_ne (fun z => by omega)]
      have r53_1 : W 53 1 = M 53 1 := by rw [hW, sU_ne (fun z => by omega), sU_ne (fun z => by omega)]
      have r39_2 : W 39 2 = M 39 2 := by rw [hW, sU_ne (fun z => by omega), sU_ne (fun z => by omega)]
      have r40_2 : W 40 2 = M 40 2 := by rw [hW, sU_ne (fun z => by omega), sU_ne (fun z => by omega)]
      have r41_2 : W 41 2 = M 41 2 := by rw [hW, sU_ne (fun z => by omega), sU_ne (fun z => by omega)]
      have r42_2 : W 42 2 = M 42 2 := by rw [hW, sU_ne (fun z => by omega), sU_ne (fun z => by omega)]
      have r43_2 : W 43 2 = M 43 2 := by rw [hW, sU_ne (fun z => by omega), sU_ne (fun z => by omega)]
      have r44_2 : W 44 2 = M 44 2 := by rw [hW, sU_ne (fun z => by omega), sU_ne (fun z => by omega)]
      have r45_2 : W 45 2 = M 45 2 := by rw [hW, sU_ne (fun z => by omega), sU_ne (fun z => by omega)]
      have r46_2 : W 46 2 = M 46 2 := by rw [hW, sU_ne (fun z => by omega), sU_ne (fun z => by omega)]
      have r47_2 : W 47 2 = M 47 2 := by rw [hW, sU_ne (fun z => by omega), sU_ne (fun z => by omega)]
      have r48_2 : W 48 2 = M 48 2 := by rw [hW, sU_ne (fun z => by omega), sU_ne (fun z => by omega)]
      have r49_2 : W 49 2 = M 49 2 := by rw [hW, sU_ne (fun z => by omega), sU_ne (fun z => by omega)]
      have r50_2 : W 50 2 = M 50 2 := by rw [hW, sU_ne (fun z => by omega), sU_ne (fun z => by omega)]
      have r51_2 : W 51 2 = M 51 2 := by rw [hW, sU_ne (fun z => by omega), sU_ne (fun z => by omega)]
      have r52_2 : W 52 2 = M 52 2 := by rw [hW, sU_ne (fun z => by omega), sU_ne (fun z => by omega)]
      have r53_2 : W 53 2 = M 53 2 := by rw [hW, sU_ne (fun z => by omega), sU_ne (fun z => by omega)]
      have r39_3 : W 39 3 = M 39 3 := by rw [hW, sU_ne (fun z => by omega), sU_ne (fun z => by omega)]
      have r40_3 : W 40 3 = M 40 3 := by rw [hW, sU_ne (fun z => by omega), sU_ne (fun z => by omega)]
      have r41_3 : W 41 3 = M 41 3 := by rw [hW, sU_ne (fun z => by omega), sU_ne (fun z => by omega)]
      have r42_3 : W 42 3 = M 42 3 := by rw [hW, sU_ne (fun z => by omega), sU_ne (fun z => by omega)]
      have r43_3 : W 43 3 = M 43 3 := by rw [hW, sU_ne (fun z => by omega), sU_ne (fun z => by omega)]
      have r44_3 : W 44 3 = M 44 3 := by rw [hW, sU_ne (fun z => by omega), sU_ne (fun z => by omega)]
      have r45_3 : W 45 3 = M 45 3 := by rw [hW, sU_ne (fun z => by omega), sU_ne (fun z => by omega)]
      have r46_3 : W 46 3 = M 46 3 := by rw [hW, sU_ne (fun z => by omega), sU_ne (fun z => by omega)]
      have r47_3 : W 47 3 = M 47 3 := by rw [hW, sU_ne (fun z => by omega), sU_ne (fun z => by omega)]
      have r48_3 : W 48 3 = M 48 3 := by rw [hW, sU_ne (fun z => by omega), sU_ne (fun z => by omega)]
      have r49_3 : W 49 3 = M 49 3 := by rw [hW, sU_ne (fun z => by omega), sU_ne (fun z => by omega)]
      have r50_3 : W 50 3 = M 50 3 := by rw [hW, sU_ne (fun z => by omega), sU_ne (fun z => by omega)]
      have r51_3 : W 51 3 = M 51 3 := by rw [hW, sU_ne (fun z => by omega), sU_ne (fun z => by omega)]
      have r52_3 : W 52 3 = M 52 3 := by rw [hW, sU_ne (fun z => by omega), sU_ne (fun z => by omega)]
      have r53_3 : W 53 3 = M 53 3 := by rw [hW, sU_ne (fun z => by omega), sU_ne (fun z => by omega)]
      have r39_4 : W 39 4 = M 39 4 := by rw [hW, sU_ne (fun z => by omega), sU_ne (fun z => by omega)]
      have r40_4 : W 40 4 = M 40 4 := by rw [hW, sU_ne (fun z => by omega), sU_ne (fun z => by omega)]
      have r41_4 : W 41 4 = M 41 4 := by rw [hW, sU_ne (fun z => by omega), sU_ne (fun z => by omega)]
      have r42_4 : W 42 4 = M 42 4 := by rw [hW, sU_ne (fun z => by omega), sU_ne (fun z => by omega)]
      have r43_4 : W 43 4 = M 43 4 := by rw [hW, sU_ne (fun z => by omega), sU_ne (fun z => by omega)]
      have r44_4 : W 44 4 = M 44 4 := by rw [hW, sU_ne (fun z => by omega), sU_ne (fun z => by omega)]
      have r45_4 : W 45 4 = M 45 4 := by rw [hW, sU_ne (fun z => by omega), sU_ne (fun z => by omega)]
      have r46_4 : W 46 4 = M 46 4 := by rw [hW, sU_ne (fun z => by omega), sU_ne (fun z => by omega)]
      have r47_4 : W 47 4 = M 47 4 := by rw [hW, sU_ne (fun z => by omega), sU_ne (fun z => by omega)]
      have r39_5 : W 39 5 = M 39 5 := by rw [hW, sU_ne (fun z => by omega), sU_ne (fun z => by omega)]
      have r40_5 : W 40 5 = M 40 5 := by rw [hW, sU_ne (fun z => by omega), sU_ne (fun z => by omega)]
      have r41_5 : W 41 5 = M 41 5 := by rw [hW, sU_ne (fun z => by omega), sU_ne (fun z => by omega)]
      have r42_5 : W 42 5 = M 42 5 := by rw [hW, sU_ne (fun z => by omega), sU_ne (fun z => by omega)]
      have r43_5 : W 43 5 = M 43 5 := by rw [hW, sU_ne (fun z => by omega), sU_ne (fun z => by omega)]
      have r44_5 : W 44 5 = M 44 5 := by rw [hW, sU_ne (fun z => by omega), sU_ne (fun z => by omega)]
      have r45_5 : W 45 5 = M 45 5 := by rw [hW, sU_ne (fun z => by omega), sU_ne (fun z => by omega)]
      have r46_5 : W 46 5 = M 46 5 := by rw [hW, sU_ne (fun z => by omega), sU_ne (fun z => by omega)]
      have r47_5 : W 47 5 = M 47 5 := by rw [hW, sU_ne (fun z => by omega), sU_ne (fun z => by omega)]
      have r28_11 : W 28 11 = M 28 11 := by rw [hW, sU_ne (fun z => by omega), sU_ne (fun z => by omega)]
      have r28_12 : W 28 12 = M 28 12 := by rw [hW, sU_ne (fun z => by omega), sU_ne (fun z => by omega)]
      have r28_13 : W 28 13 = M 28 13 := by rw [hW, sU_ne (fun z => by omega), sU_ne (fun z => by omega)]
      have r28_14 : W 28 14 = M 28 14 := by rw [hW, sU_ne (fun z => by omega), sU_ne (fun z => by omega)]
      have r28_15 : W 28 15 = M 28 15 := by rw [hW, sU_ne (fun z => by omega), sU_ne (fun z => by omega)]
      have r93_12 : W 93 12 = M 93 12 := by rw [hW, sU_ne (fun z => by omega), sU_ne (fun z => by omega)]
      have r93_13 : W 93 13 = M 93 13 := by rw [hW, sU_ne (fun z => by omega), sU_ne (fun z => by omega)]
      have r93_14 : W 93 14 = M 93 14 := by rw [hW, sU_ne (fun z => by omega), sU_ne (fun z => by omega)]
      have r93_15 : W 93 15 = M 93 15 := by rw [hW, sU_ne (fun z => by omega), sU_ne (fun z => by omega)]
      have r93_16 : W 93 16 = M 93 16 := by rw [hW, sU_ne (fun z => by omega), sU_ne (fun z => by omega)]
      have c3 : ∀ k, W 3 k = M 3 k := fun k => by rw [hW, sU_ne (fun z => by omega), sU_ne (fun z => by omega)]
      have e3 : W 3 = M 3 := funext c3
      have c92 : ∀ k, W 92 k = M 92 k := fun k => by rw [hW, sU_ne (fun z => by omega), sU_ne (fun z => by omega)]
      have e92 : W 92 = M 92 := funext c92
      have c5 : ∀ k, W 5 k = M 5 k := fun k => by rw [hW, sU_ne (fun z => by omega), sU_ne (fun z => by omega)]
      have e5 : W 5 = M 5 := funext c5
      have c6 : ∀ k, W 6 k = M 6 k := fun k => by rw [hW, sU_ne (fun z => by omega), sU_ne (fun z => by omega)]
      have e6 : W 6 = M 6 := funext c6
      have c7 : ∀ k, W 7 k = M 7 k := fun k => by rw [hW, sU_ne (fun z => by omega), sU_ne (fun z => by omega)]
      have e7 : W 7 = M 7 := funext c7
      have c8 : ∀ k, W 8 k = M 8 k := fun k => by rw [hW, sU_ne (fun z => by omega), sU_ne (fun z => by omega)]
      have e8 : W 8 = M 8 := funext c8
      have c31 : ∀ k, W 31 k = M 31 k := fun k => by rw [hW, sU_ne (fun z => by omega), sU_ne (fun z => by omega)]
      have e31 : W 31 = M 31 := funext c31
      have c32 : ∀ k, W 32 k = M 32 k := fun k => by rw [hW, sU_ne (fun z => by omega), sU_ne (fun z => by omega)]
      have e32 : W 32 = M 32 := funext c32
      have c33 : ∀ k, W 33 k = M 33 k := fun k => by rw [hW, sU_ne (fun z => by omega), sU_ne (fun z => by omega)]
      have e33 : W 33 = M 33 := funext c33
      have c34 : ∀ k, W 34 k = M 34 k := fun k => by rw [hW, sU_ne (fun z => by omega), sU_ne (fun z => by omega)]
      have e34 : W 34 = M 34 := funext c34
      have c94 : ∀ k, W 94 k = M 94 k := fun k => by rw [hW, sU_ne (fun z => by omega), sU_ne (fun z => by omega)]
      have e94 : W 94 = M 94 := funext c94
      have c95 : ∀ k, W 95 k = M 95 k := fun k => by rw [hW, sU_ne (fun z => by omega), sU_ne (fun z => by omega)]
      have e95 : W 95 = M 95 := funext c95
      have c96 : ∀ k, W 96 k = M 96 k := fun k => by rw [hW, sU_ne (fun z => by omega), sU_ne (fun z => by omega)]
      have e96 : W 96 = M 96 := funext c96
      have c97 : ∀ k, W 97 k = M 97 k := fun k => by rw [hW, sU_ne (fun z => by omega), sU_ne (fun z => by omega)]
      have e97 : W 97 = M 97 := funext c97
      have c98 : ∀ k : Nat, k ≠ (1 * ρ 1 + 0).toNat → W 98 k = M 98 k := fun k hk => by rw [hW, sU_ne (fun z => by omega), sU_ne (fun z => by omega)]
      have a98 : W 98 (1 * ρ 1 + 0).toNat = 1 * ρ 2 + 0 := by rw [hW, sU_ne (fun z => by omega), sU_at]
      have c99 : ∀ k, W 99 k = M 99 k := fun k => by rw [hW, sU_ne (fun z => by omega), sU_ne (fun z => by omega)]
      have e99 : W 99 = M 99 := funext c99
      have c100 : ∀ k, W 100 k = M 100 k := fun k => by rw [hW, sU_ne (fun z => by omega), sU_ne (fun z => by omega)]
      have e100 : W 100 = M 100 := funext c100
      have c101 : ∀ k, W 101 k = M 101 k := fun k => by rw [hW, sU_ne (fun z => by omega), sU_ne (fun z => by omega)]
      have e101 : W 101 = M 101 := funext c101
      have c102 : ∀ k, W 102 k = M 102 k := fun k => by rw [hW, sU_ne (fun z => by omega), sU_ne (fun z => by omega)]
      have e102 : W 102 = M 102 := funext c102
      have c103 : ∀ k, W 103 k = M 103 k := fun k => by rw [hW, sU_ne (fun z => by omega), sU_ne (fun z => by omega)]
      have e103 : W 103 = M 103 := funext c103
      have c104 : ∀ k, W 104 k = M 104 k := fun k => by rw [hW, sU_ne (fun z => by omega), sU_ne (fun z => by omega)]
      have e104 : W 104 = M 104 := funext c104
      have c105 : ∀ k, W 105 k = M 105 k := fun k => by rw [hW, sU_ne (fun z => by omega), sU_ne (fun z => by omega)]
      have e105 : W 105 = M 105 := funext c105
      have c106 : ∀ k, W 106 k = M 106 k := fun k => by rw [hW, sU_ne (fun z => by omega), sU_ne (fun z => by omega)]
      have e106 : W 106 = M 106 := funext c106
      have c107 : ∀ k, W 107 k = M 107 k := fun k => by rw [hW, sU_ne (fun z => by omega), sU_ne (fun z => by omega)]
      have e107 : W 107 = M 107 := funext c107
      have hw : ∀ o k, 93 ≤ o → o ≤ 107 → ¬ (o = 98 ∧ k = (1 * ρ 1 + 0).toNat) → W o k = M o k := fun o k h1 h2 h3 => by rw [hW, sU_ne (fun z => by omega), sU_ne h3]
      have hx : ∀ o k, o ≠ 4 → o ≠ 91 → ¬ (o = 98 ∧ k = (1 * ρ 1 + 0).toNat) → W o k = M o k := fun o k h1 h2 h3 => by rw [hW, sU_ne (fun z => by omega), sU_ne h3]
      have e4 : ∀ k, (100 ≤ k ∧ k ≤ 208) ∨ k = 313 ∨ k = 314 → W 4 k = M 4 k := fun k hk => by rw [hW, sU_ne (fun z => by omega), sU_ne (fun z => by omega)]
      refine d3_ru (c := 98) (x := (1 * ρ 1 + 0).toNat) (gx_xD3 hI) (funext fun k => hx 3 k (by omega) (by omega) (by omega)) (funext fun k => hx 92 k (by omega) (by omega) (by omega)) e4 hw (by omega) (fun i hi ht hh => ?_)
      rw [r4_311] at hh
      exact ⟨by omega, (fun z => by have z1 : i = 4 + 6 * ((1 * ρ 1 + 0).toNat - 9) := z.1; have z2 : 9 ≤ (1 * ρ 1 + 0).toNat := z.2; omega)⟩
    have k_xDV : xDV W := by
      rw [hW]
      exact (uxDV rfl (uxDV (sinc_ok rfl _) hI.2.2.2.2.2.2.2.2.2.2.2.2.2.2.2.2.2.2.2.2.2.2.2.2.2.2.2.2.2.2.2.2.2.2.2.2.2.2.2.2.2.2.2.2.1))
    have k_xDP : xDP W := by
      have r : W 4 100 = 2 := by
        have e := m1
        rw [hW, sU_ne (fun z => by omega), sU_ne (fun z => by omega)]
        omega
      intro h
      rw [r] at h
      omega
    have k_xDE : xDE W := by
      have r4_301 : W 4 301 = M 4 301 := by rw [hW, sU_ne (fun z => by omega), sU_ne (fun z => by omega)]
      have r4_300 : W 4 300 = M 4 300 := by rw [hW, sU_ne (fun z => by omega), sU_ne (fun z => by omega)]
      have r93_0 : W 93 0 = M 93 0 := by rw [hW, sU_ne (fun z => by omega), sU_ne (fun z => by omega)]
      have r93_1 : W 93 1 = M 93 1 := by rw [hW, sU_ne (fun z => by omega), sU_ne (fun z => by omega)]
      have r93_2 : W 93 2 = M 93 2 := by rw [hW, sU_ne (fun z => by omega), sU_ne (fun z => by omega)]
      have r13_0 : W 13 0 = M 13 0 := by rw [hW, sU_ne (fun z => by omega), sU_ne (fun z => by omega)]
      have r14_0 : W 14 0 = M 14 0 := by rw [hW, sU_ne (fun z => by omega), sU_ne (fun z => by omega)]
      have r15_0 : W 15 0 = M 15 0 := by rw [hW, sU_ne (fun z => by omega), sU_ne (fun z => by omega)]
      have r16_0 : W 16 0 = M 16 0 := by rw [hW, sU_ne (fun z => by omega), sU_ne (fun z => by omega)]
      have r17_0 : W 17 0 = M 17 0 := by rw [hW, sU_ne (fun z => by omega), sU_ne (fun z => by omega)]
      have r18_0 : W 18 0 = M 18 0 := by rw [hW, sU_ne (fun z => by omega), sU_ne (fun z => by omega)]
      have r19_0 : W 19 0 = M 19 0 := by rw [hW, sU_ne (fun z => by omega), sU_ne (fun z => by omega)]
      have r20_0 : W 20 0 = M 20 0 := by rw [hW, sU_ne (fun z => by omega), sU_ne (fun z => by omega)]
      have r21_0 : W 21 0 = M 21 0 := by rw [hW, sU_ne (fun z => by omega), sU_ne (fun z => by omega)]
      have r22_0 : W 22 0 = M 22 0 := by rw [hW, sU_ne (fun z => by omega), sU_ne (fun z => by omega)]
      have r23_0 : W 23 0 = M 23 0 := by rw [hW, sU_ne (fun z => by omega), sU_ne (fun z => by omega)]
      have r24_0 : W 24 0 = M 24 0 := by rw [hW, sU_ne (fun z => by omega), sU_ne (fun z => by omega)]
      have r25_0 : W 25 0 = M 25 0 := by rw [hW, sU_ne (fun z => by omega), sU_ne (fun z => by omega)]
      have r26_0 : W 26 0 = M 26 0 := by rw [hW, sU_ne (fun z => by omega), sU_ne (fun z => by omega)]
      have r27_0 : W 27 0 = M 27 0 := by rw [hW, sU_ne (fun z => by omega), sU_ne (fun z => by omega)]
      have r13_1 : W 13 1 = M 13 1 := by rw [hW, sU_ne (fun z => by omega), sU_ne (fun z => by omega)]
      have r14_1 : W 14 1 = M 14 1 := by rw [hW, sU_ne (fun z => by omega), sU_ne (fun z => by omega)]
      have r15_1 : W 15 1 = M 15 1 := by rw [hW, sU_ne (fun z => by omega), sU_ne (fun z => by omega)]
      have r16_1 : W 16 1 = M 16 1 := by rw [hW, sU_ne (fun z => by omega), sU_ne (fun z => by omega)]
      have r17_1 : W 17 1 = M 17 1 := by rw [hW, sU_ne (fun z => by omega), sU_ne (fun z => by omega)]
      have r18_1 : W 18 1 = M 18 1 := by rw [hW, sU_ne (fun z => by omega), sU_ne (fun z => by omega)]
      have r19_1 : W 19 1 = M 19 1 := by rw [hW, sU_ne (fun z => by omega), sU_ne (fun z => by omega)]
      have r20_1 : W 20 1 = M 20 1 := by rw [hW, sU_ne (fun z => by omega), sU_ne (fun z => by omega)]
      have r21_1 : W 21 1 = M 21 1 := by rw [hW, sU_ne (fun z => by omega), sU_ne (fun z => by omega)]
      have r22_1 : W 22 1 = M 22 1 := by rw [hW, sU_ne (fun z => by omega), sU_ne (fun z => by omega)]
      have r23_1 : W 23 1 = M 23 1 := by rw [hW, sU_ne (fun z => by omega), sU_ne (fun z => by omega)]
      have r24_1 : W 24 1 = M 24 1 := by rw [hW, sU_ne (fun z => by omega), sU_ne (fun z => by omega)]
      have r25_1 : W 25 1 = M 25 1 := by rw [hW, sU_ne (fun z => by omega), sU_ne (fun z => by omega)]
      have r26_1 : W 26 1 = M 26 1 := by rw [hW, sU_ne (fun z => by omega), sU_ne (fun z => by omega)]
      have r27_1 : W 27 1 = M 27 1 := by rw [hW, sU_ne (fun z => by omega), sU_ne (fun z => by omega)]
      have r13_2 : W 13 2 = M 13 2 := by rw [hW, sU_ne (fun z => by omega), sU_ne (fun z => by omega)]
      have r14_2 : W 14 2 = M 14 2 := by rw [hW, sU_ne (fun z => by omega), sU_ne (fun z => by omega)]
      have r15_2 : W 15 2 = M 15 2 := by rw [hW, sU_ne (fun z => by omega), sU_ne (fun z => by omega)]
      have r16_2 : W 16 2 = M 16 2 := by rw [hW, sU_ne (fun z => by omega), sU_ne (fun z => by omega)]
      have r17_2 : W 17 2 = M 17 2 := by rw [hW, sU_ne (fun z => by omega), sU_ne (fun z => by omega)]
      have r18_2 : W 18 2 = M 18 2 := by rw [hW, sU_ne (fun z => by omega), sU_ne (fun z => by omega)]
      have r19_2 : W 19 2 = M 19 2 := by rw [hW, sU_ne (fun z => by omega), sU_ne (fun z => by omega)]
      have r20_2 : W 20 2 = M 20 2 := by rw [hW, sU_ne (fun z => by omega), sU_ne (fun z => by omega)]
      have r21_2 : W 21 2 = M 21 2 := by rw [hW, sU_ne (fun z => by omega), sU_ne (fun z => by omega)]
      have r22_2 : W 22 2 = M 22 2 := by rw [hW, sU_ne (fun z => by omega), sU_ne (fun z => by omega)]
      have r23_2 : W 23 2 = M 23 2 := by rw [hW, sU_ne (fun z => by omega), sU_ne (fun z => by omega)]
      have r24_2 : W 24 2 = M 24 2 := by rw [hW, sU_ne (fun z => by omega), sU_ne (fun z => by omega)]
      have r25_2 : W 25 2 = M 25 2 := by rw [hW, sU_ne (fun z => by omega), sU_ne (fun z => by omega)]
      have r26_2 : W 26 2 = M 26 2 := by rw [hW, sU_ne (fun z => by omega), sU_ne (fun z => by omega)]
      have r27_2 : W 27 2 = M 27 2 := by rw [hW, sU_ne (fun z => by omega), sU_ne (fun z => by omega)]
      have r13_3 : W 13 3 = M 13 3 := by rw [hW, sU_ne (fun z => by omega), sU_ne (fun z => by omega)]
      have r14_3 : W 14 3 = M 14 3 := by rw [hW, sU_ne (fun z => by omega), sU_ne (fun z => by omega)]
      have r15_3 : W 15 3 = M 15 3 := by rw [hW, sU_ne (fun z => by omega), sU_ne (fun z => by omega)]
      have r16_3 : W 16 3 = M 16 3 := by rw [hW, sU_ne (fun z => by omega), sU_ne (fun z => by omega)]
      have r17_3 : W 17 3 = M 17 3 := by rw [hW, sU_ne (fun z => by omega), sU_ne (fun z => by omega)]
      have r18_3 : W 18 3 = M 18 3 := by rw [hW, sU_ne (fun z => by omega), sU_ne (fun z => by omega)]
      have r19_3 : W 19 3 = M 19 3 := by rw [hW, sU_ne (fun z => by omega), sU_ne (fun z => by omega)]
      have r20_3 : W 20 3 = M 20 3 := by rw [hW, sU_ne (fun z => by omega), sU_ne (fun z => by omega)]
      have r21_3 : W 21 3 = M 21 3 := by rw [hW, sU_ne (fun z => by omega), sU_ne (fun z => by omega)]
      have r22_3 : W 22 3 = M 22 3 := by rw [hW, sU_ne (fun z => by omega), sU_ne (fun z => by omega)]
      have r23_3 : W 23 3 = M 23 3 := by rw [hW, sU_ne (fun z => by omega), sU_ne (fun z => by omega)]
      have r24_3 : W 24 3 = M 24 3 := by rw [hW, sU_ne (fun z => by omega), sU_ne (fun z => by omega)]
      have r25_3 : W 25 3 = M 25 3 := by rw [hW, sU_ne (fun z => by omega), sU_ne (fun z => by omega)]
      have r26_3 : W 26 3 = M 26 3 := by rw [hW, sU_ne (fun z => by omega), sU_ne (fun z => by omega)]
      have r27_3 : W 27 3 = M 27 3 := by rw [hW, sU_ne (fun z => by omega), sU_ne (fun z => by omega)]
      have r13_4 : W 13 4 = M 13 4 := by rw [hW, sU_ne (fun z => by omega), sU_ne (fun z => by omega)]
      have r14_4 : W 14 4 = M 14 4 := by rw [hW, sU_ne (fun z => by omega), sU_ne (fun z => by omega)]
      have r15_4 : W 15 4 = M 15 4 := by rw [hW, sU_ne (fun z => by omega), sU_ne (fun z => by omega)]
      have r16_4 : W 16 4 = M 16 4 := by rw [hW, sU_ne (fun z => by omega), sU_ne (fun z => by omega)]
      have r17_4 : W 17 4 = M 17 4 := by rw [hW, sU_ne (fun z => by omega), sU_ne (fun z => by omega)]
      have r18_4 : W 18 4 = M 18 4 := by rw [hW, sU_ne (fun z => by omega), sU_ne (fun z => by omega)]
      have r19_4 : W 19 4 = M 19 4 := by rw [hW, sU_ne (fun z => by omega), sU_ne (fun z => by omega)]
      have r20_4 : W 20 4 = M 20 4 := by rw [hW, sU_ne (fun z => by omega), sU_ne (fun z => by omega)]
      have r21_4 : W 21 4 = M 21 4 := by rw [hW, sU_ne (fun z => by omega), sU_ne (fun z => by omega)]
      have r13_5 : W 13 5 = M 13 5 := by rw [hW, sU_ne (fun z => by omega), sU_ne (fun z => by omega)]
      have r14_5 : W 14 5 = M 14 5 := by rw [hW, sU_ne (fun z => by omega), sU_ne (fun z => by omega)]
      have r15_5 : W 15 5 = M 15 5 := by rw [hW, sU_ne (fun z => by omega), sU_ne (fun z => by omega)]
      have r16_5 : W 16 5 = M 16 5 := by rw [hW, sU_ne (fun z => by omega), sU_ne (fun z => by omega)]
      have r17_5 : W 17 5 = M 17 5 := by rw [hW, sU_ne (fun z => by omega), sU_ne (fun z => by omega)]
      have r18_5 : W 18 5 = M 18 5 := by rw [hW, sU_ne (fun z => by omega), sU_ne (fun z => by omega)]
      have r19_5 : W 19 5 = M 19 5 := by rw [hW, sU_ne (fun z => by omega), sU_ne (fun z => by omega)]
      have r20_5 : W 20 5 = M 20 5 := by rw [hW, sU_ne (fun z => by omega), sU_ne (fun z => by omega)]
      have r21_5 : W 21 5 = M 21 5 := by rw [hW, sU_ne (fun z => by omega), sU_ne (fun z => by omega)]
      have r2_11 : W 2 11 = M 2 11 := by rw [hW, sU_ne (fun z => by omega), sU_ne (fun z => by omega)]
      have r2_12 : W 2 12 = M 2 12 := by rw [hW, sU_ne (fun z => by omega), sU_ne (fun z => by omega)]
      have r2_13 : W 2 13 = M 2 13 := by rw [hW, sU_ne (fun z => by omega), sU_ne (fun z => by omega)]
      have r2_14 : W 2 14 = M 2 14 := by rw [hW, sU_ne (fun z => by omega), sU_ne (fun z => by omega)]
      have r2_15 : W 2 15 = M 2 15 := by rw [hW, sU_ne (fun z => by omega), sU_ne (fun z => by omega)]
      have r39_0 : W 39 0 = M 39 0 := by rw [hW, sU_ne (fun z => by omega), sU_ne (fun z => by omega)]
      have r40_0 : W 40 0 = M 40 0 := by rw [hW, sU_ne (fun z => by omega), sU_ne (fun z => by omega)]
      have r41_0 : W 41 0 = M 41 0 := by rw [hW, sU_ne (fun z => by omega), sU_ne (fun z => by omega)]
      have r42_0 : W 42 0 = M 42 0 := by rw [hW, sU_ne (fun z => by omega), sU_ne (fun z => by omega)]
      have r43_0 : W 43 0 = M 43 0 := by rw [hW, sU_ne (fun z => by omega), sU_ne (fun z => by omega)]
      have r44_0 : W 44 0 = M 44 0 := by rw [hW, sU_ne (fun z => by omega), sU_ne (fun z => by omega)]
      have r45_0 : W 45 0 = M 45 0 := by rw [hW, sU_ne (fun z => by omega), sU_ne (fun z => by omega)]
      have r46_0 : W 46 0 = M 46 0 := by rw [hW, sU_ne (fun z => by omega), sU_ne (fun z => by omega)]
      have r47_0 : W 47 0 = M 47 0 := by rw [hW, sU_ne (fun z => by omega), sU_ne (fun z => by omega)]
      have r48_0 : W 48 0 = M 48 0 := by rw [hW, sU_ne (fun z => by omega), sU_ne (fun z => by omega)]
      have r49_0 : W 49 0 = M 49 0 := by rw [hW, sU_ne (fun z => by omega), sU_ne (fun z => by omega)]
      have r50_0 : W 50 0 = M 50 0 := by rw [hW, sU_ne (fun z => by omega), sU_ne (fun z => by omega)]
      have r51_0 : W 51 0 = M 51 0 := by rw [hW, sU_ne (fun z => by omega), sU_ne (fun z => by omega)]
      have r52_0 : W 52 0 = M 52 0 := by rw [hW, sU_ne (fun z => by omega), sU_ne (fun z => by omega)]
      have r53_0 : W 53 0 = M 53 0 := by rw [hW, sU_ne (fun z => by omega), sU_ne (fun z => by omega)]
      have r39_1 : W 39 1 = M 39 1 := by rw [hW, sU_ne (fun z => by omega), sU_ne (fun z => by omega)]
      have r40_1 : W 40 1 = M 40 1 := by rw [hW, sU_ne (fun z => by omega), sU_ne (fun z => by omega)]
      have r41_1 : W 41 1 = M 41 1 := by rw [hW, sU_ne (fun z => by omega), sU_ne (fun z => by omega)]
      have r42_1 : W 42 1 = M 42 1 := by rw [hW, sU_ne (fun z => by omega), sU_ne (fun z => by omega)]
      have r43_1 : W 43 1 = M 43 1 := by rw [hW, sU_ne (fun z => by omega), sU_ne (fun z => by omega)]
      have r44_1 : W 44 1 = M 44 1 := by rw [hW, sU_ne (fun z => by omega), sU_ne (fun z => by omega)]
      have r45_1 : W 45 1 = M 45 1 := by rw [hW, sU_ne (fun z => by omega), sU_ne (fun z => by omega)]
      have r46_1 : W 46 1 = M 46 1 := by rw [hW, sU_ne (fun z => by omega), sU_ne (fun z => by omega)]
      have r47_1 : W 47 1 = M 47 1 := by rw [hW, sU_ne (fun z => by omega), sU_ne (fun z => by omega)]
      have r48_1 : W 48 1 = M 48 1 := by rw [hW, sU_ne (fun z => by omega), sU_ne (fun z => by omega)]
      have r49_1 : W 49 1 = M 49 1 := by rw [hW, sU_ne (fun z => by omega), sU_ne (fun z => by omega)]
      have r50_1 : W 50 1 = M 50 1 := by rw [hW, sU_ne (fun z => by omega), sU_ne (fun z => by omega)]
      have r51_1 : W 51 1 = M 51 1 := by rw [hW, sU_ne (fun z => by omega), sU_ne (fun z => by omega)]
      have r52_1 : W 52 1 = M 52 1 := by rw [hW, sU_ne (fun z => by omega), sU_ne (fun z => by omega)]
      have r53_1 : W 53 1 = M 53 1 := by rw [hW, sU_ne (fun z => by omega), sU_ne (fun z => by omega)]
      have r39_2 : W 39 2 = M 39 2 := by rw [hW, sU_ne (fun z => by omega), sU_ne (fun z => by omega)]
      have r40_2 : W 40 2 = M 40 2 := by rw [hW, sU_ne (fun z => by omega), sU_ne (fun z => by omega)]
      have r41_2 : W 41 2 = M 41 2 := by rw [hW, sU_ne (fun z => by omega), sU_ne (fun z => by omega)]
      have r42_2 : W 42 2 = M 42 2 := by rw [hW, sU_ne (fun z => by omega), sU_ne (fun z => by omega)]
      have r43_2 : W 43 2 = M 43 2 := by rw [hW, sU_ne (fun z => by omega), sU_ne (fun z => by omega)]
      have r44_2 : W 44 2 = M 44 2 := by rw [hW, sU_ne (fun z => by omega), sU_ne (fun z => by omega)]
      have r45_2 : W 45 2 = M 45 2 := by rw [hW, sU_ne (fun z => by omega), sU_ne (fun z => by omega)]
      have r46_2 : W 46 2 = M 46 2 := by rw [hW, sU_ne (fun z => by omega), sU_ne (fun z => by omega)]
      have r47_2 : W 47 2 = M 47 2 := by rw [hW, sU_ne (fun z => by omega), sU_ne (fun z => by omega)]
      have r48_2 : W 48 2 = M 48 2 := by rw [hW, sU_ne (fun z => by omega), sU_ne (fun z => by omega)]
      have r49_2 : W 49 2 = M 49 2 := by rw [hW, sU_ne (fun z => by omega), sU_ne (fun z => by omega)]
      have r50_2 : W 50 2 = M 50 2 := by rw [hW, sU_ne (fun z => by omega), sU_ne (fun z => by omega)]
      have r51_2 : W 51 2 = M 51 2 := by rw [hW, sU_ne (fun z => by omega), sU_ne (fun z => by omega)]
      have r52_2 : W 52 2 = M 52 2 := by rw [hW, sU_ne (fun z => by omega), sU_ne (fun z => by omega)]
      have r53_2 : W 53 2 = M 53 2 := by rw [hW, sU_ne (fun z => by omega), sU_ne (fun z => by omega)]
      have r39_3 : W 39 3 = M 39 3 := by rw [hW, sU_ne (fun z => by omega), sU_ne (fun z => by omega)]
      have r40_3 : W 40 3 = M 40 3 := by rw [hW, sU_ne (fun z => by omega), sU_ne (fun z => by omega)]
      have r41_3 : W 41 3 = M 41 3 := by rw [hW, sU_ne (fun z => by omega), sU_ne (fun z => by omega)]
      have r42_3 : W 42 3 = M 42 3 := by rw [hW, sU_ne (fun z => by omega), sU_ne (fun z => by omega)]
      have r43_3 : W 43 3 = M 43 3 := by rw [hW, sU_ne (fun z => by omega), sU_ne (fun z => by omega)]
      have r44_3 : W 44 3 = M 44 3 := by rw [hW, sU_ne (fun z => by omega), sU_ne (fun z => by omega)]
      have r45_3 : W 45 3 = M 45 3 := by rw [hW, sU_ne (fun z => by omega), sU_ne (fun z => by omega)]
      have r46_3 : W 46 3 = M 46 3 := by rw [hW, sU_ne (fun z => by omega), sU_ne (fun z => by omega)]
      have r47_3 : W 47 3 = M 47 3 := by rw [hW, sU_ne (fun z => by omega), sU_ne (fun z => by omega)]
      have r48_3 : W 48 3 = M 48 3 := by rw [hW, sU_ne (fun z => by omega), sU_ne (fun z => by omega)]
      have r49_3 : W 49 3 = M 49 3 := by rw [hW, sU_ne (fun z => by omega), sU_ne (fun z => by omega)]
      have r50_3 : W 50 3 = M 50 3 := by rw [hW, sU_ne (fun z => by omega), sU_ne (fun z => by omega)]
      have r51_3 : W 51 3 = M 51 3 := by rw [hW, sU_ne (fun z => by omega), sU_ne (fun z => by omega)]
      have r52_3 : W 52 3 = M 52 3 := by rw [hW, sU_ne (fun z => by omega), sU_ne (fun z => by omega)]
      have r53_3 : W 53 3 = M 53 3 := by rw [hW, sU_ne (fun z => by omega), sU_ne (fun z => by omega)]
      have r39_4 : W 39 4 = M 39 4 := by rw [hW, sU_ne (fun z => by omega), sU_ne (fun z => by omega)]
      have r40_4 : W 40 4 = M 40 4 := by rw [hW, sU_ne (fun z => by omega), sU_ne (fun z => by omega)]
      have r41_4 : W 41 4 = M 41 4 := by rw [hW, sU_ne (fun z => by omega), sU_ne (fun z => by omega)]
      have r42_4 : W 42 4 = M 42 4 := by rw [hW, sU_ne (fun z => by omega), sU_ne (fun z => by omega)]
      have r43_4 : W 43 4 = M 43 4 := by rw [hW, sU_ne (fun z => by omega), sU_ne (fun z => by omega)]
      have r44_4 : W 44 4 = M 44 4 := by rw [hW, sU_ne (fun z => by omega), sU_ne (fun z => by omega)]
      have r45_4 : W 45 4 = M 45 4 := by rw [hW, sU_ne (fun z => by omega), sU_ne (fun z => by omega)]
      have r46_4 : W 46 4 = M 46 4 := by rw [hW, sU_ne (fun z => by omega), sU_ne (fun z => by omega)]
      have r47_4 : W 47 4 = M 47 4 := by rw [hW, sU_ne (fun z => by omega), sU_ne (fun z => by omega)]
      have r39_5 : W 39 5 = M 39 5 := by rw [hW, sU_ne (fun z => by omega), sU_ne (fun z => by omega)]
      have r40_5 : W 40 5 = M 40 5 := by rw [hW, sU_ne (fun z => by omega), sU_ne (fun z => by omega)]
      have r41_5 : W 41 5 = M 41 5 := by rw [hW, sU_ne (fun z => by omega), sU_ne (fun z => by omega)]
      have r42_5 : W 42 5 = M 42 5 := by rw [hW, sU_ne (fun z => by omega), sU_ne (fun z => by omega)]
      have r43_5 : W 43 5 = M 43 5 := by rw [hW, sU_ne (fun z => by omega), sU_ne (fun z => by omega)]
      have r44_5 : W 44 5 = M 44 5 := by rw [hW, sU_ne (fun z => by omega), sU_ne (fun z => by omega)]
      have r45_5 : W 45 5 = M 45 5 := by rw [hW, sU_ne (fun z => by omega), sU_ne (fun z => by omega)]
      have r46_5 : W 46 5 = M 46 5 := by rw [hW, sU_ne (fun z => by omega), sU_ne (fun z => by omega)]
      have r47_5 : W 47 5 = M 47 5 := by rw [hW, sU_ne (fun z => by omega), sU_ne (fun z => by omega)]
      have r28_11 : W 28 11 = M 28 11 := by rw [hW, sU_ne (fun z => by omega), sU_ne (fun z => by omega)]
      have r28_12 : W 28 12 = M 28 12 := by rw [hW, sU_ne (fun z => by omega), sU_ne (fun z => by omega)]
      have r28_13 : W 28 13 = M 28 13 := by rw [hW, sU_ne (fun z => by omega), sU_ne (fun z => by omega)]
      have r28_14 : W 28 14 = M 28 14 := by rw [hW, sU_ne (fun z => by omega), sU_ne (fun z => by omega)]
      have r28_15 : W 28 15 = M 28 15 := by rw [hW, sU_ne (fun z => by omega), sU_ne (fun z => by omega)]
      have r93_3 : W 93 3 = M 93 3 := by rw [hW, sU_ne (fun z => by omega), sU_ne (fun z => by omega)]
      have r93_4 : W 93 4 = M 93 4 := by rw [hW, sU_ne (fun z => by omega), sU_ne (fun z => by omega)]
      have r93_5 : W 93 5 = M 93 5 := by rw [hW, sU_ne (fun z => by omega), sU_ne (fun z => by omega)]
      have r93_6 : W 93 6 = M 93 6 := by rw [hW, sU_ne (fun z => by omega), sU_ne (fun z => by omega)]
      have r93_7 : W 93 7 = M 93 7 := by rw [hW, sU_ne (fun z => by omega), sU_ne (fun z => by omega)]
      have c5 : ∀ k, W 5 k = M 5 k := fun k => by rw [hW, sU_ne (fun z => by omega), sU_ne (fun z => by omega)]
      have e5 : W 5 = M 5 := funext c5
      have c6 : ∀ k, W 6 k = M 6 k := fun k => by rw [hW, sU_ne (fun z => by omega), sU_ne (fun z => by omega)]
      have e6 : W 6 = M 6 := funext c6
      have c7 : ∀ k, W 7 k = M 7 k := fun k => by rw [hW, sU_ne (fun z => by omega), sU_ne (fun z => by omega)]
      have e7 : W 7 = M 7 := funext c7
      have c8 : ∀ k, W 8 k = M 8 k := fun k => by rw [hW, sU_ne (fun z => by omega), sU_ne (fun z => by omega)]
      have e8 : W 8 = M 8 := funext c8
      have c31 : ∀ k, W 31 k = M 31 k := fun k => by rw [hW, sU_ne (fun z => by omega), sU_ne (fun z => by omega)]
      have e31 : W 31 = M 31 := funext c31
      have c32 : ∀ k, W 32 k = M 32 k := fun k => by rw [hW, sU_ne (fun z => by omega), sU_ne (fun z => by omega)]
      have e32 : W 32 = M 32 := funext c32
      have c33 : ∀ k, W 33 k = M 33 k := fun k => by rw [hW, sU_ne (fun z => by omega), sU_ne (fun z => by omega)]
      have e33 : W 33 = M 33 := funext c33
      have c34 : ∀ k, W 34 k = M 34 k := fun k => by rw [hW, sU_ne (fun z => by omega), sU_ne (fun z => by omega)]
      have e34 : W 34 = M 34 := funext c34
      have c94 : ∀ k, W 94 k = M 94 k := fun k => by rw [hW, sU_ne (fun z => by omega), sU_ne (fun z => by omega)]
      have e94 : W 94 = M 94 := funext c94
      have c95 : ∀ k, W 95 k = M 95 k := fun k => by rw [hW, sU_ne (fun z => by omega), sU_ne (fun z => by omega)]
      have e95 : W 95 = M 95 := funext c95
      have c96 : ∀ k, W 96 k = M 96 k := fun k => by rw [hW, sU_ne (fun z => by omega), sU_ne (fun z => by omega)]
      have e96 : W 96 = M 96 := funext c96
      have c97 : ∀ k, W 97 k = M 97 k := fun k => by rw [hW, sU_ne (fun z => by omega), sU_ne (fun z => by omega)]
      have e97 : W 97 = M 97 := funext c97
      have c98 : ∀ k : Nat, k ≠ (1 * ρ 1 + 0).toNat → W 98 k = M 98 k := fun k hk => by rw [hW, sU_ne (fun z => by omega), sU_ne (fun z => by omega)]
      have a98 : W 98 (1 * ρ 1 + 0).toNat = 1 * ρ 2 + 0 := by rw [hW, sU_ne (fun z => by omega), sU_at]
      have c99 : ∀ k, W 99 k = M 99 k := fun k => by rw [hW, sU_ne (fun z => by omega), sU_ne (fun z => by omega)]
      have e99 : W 99 = M 99 := funext c99
      have c100 : ∀ k, W 100 k = M 100 k := fun k => by rw [hW, sU_ne (fun z => by omega), sU_ne (fun z => by omega)]
      have e100 : W 100 = M 100 := funext c100
      have c101 : ∀ k, W 101 k = M 101 k := fun k => by rw [hW, sU_ne (fun z => by omega), sU_ne (fun z => by omega)]
      have e101 : W 101 = M 101 := funext c101
      have c102 : ∀ k, W 102 k = M 102 k := fun k => by rw [hW, sU_ne (fun z => by omega), sU_ne (fun z => by omega)]
      have e102 : W 102 = M 102 := funext c102
      have c103 : ∀ k, W 103 k = M 103 k := fun k => by rw [hW, sU_ne (fun z => by omega), sU_ne (fun z => by omega)]
      have e103 : W 103 = M 103 := funext c103
      have c104 : ∀ k, W 104 k = M 104 k := fun k => by rw [hW, sU_ne (fun z => by omega), sU_ne (fun z => by omega)]
      have e104 : W 104 = M 104 := funext c104
      have c105 : ∀ k, W 105 k = M 105 k := fun k => by rw [hW, sU_ne (fun z => by omega), sU_ne (fun z => by omega)]
      have e105 : W 105 = M 105 := funext c105
      have c106 : ∀ k, W 106 k = M 106 k := fun k => by rw [hW, sU_ne (fun z => by omega), sU_ne (fun z => by omega)]
      have e106 : W 106 = M 106 := funext c106
      have c107 : ∀ k, W 107 k = M 107 k := fun k => by rw [hW, sU_ne (fun z => by omega), sU_ne (fun z => by omega)]
      have e107 : W 107 = M 107 := funext c107
      have hw : ∀ o k, 93 ≤ o → o ≤ 107 → ¬ (o = 98 ∧ k = (1 * ρ 1 + 0).toNat) → W o k = M o k := fun o k h1 h2 h3 => by rw [hW, sU_ne (fun z => by omega), sU_ne h3]
      have hx : ∀ o k, o ≠ 4 → o ≠ 91 → ¬ (o = 98 ∧ k = (1 * ρ 1 + 0).toNat) → W o k = M o k := fun o k h1 h2 h3 => by rw [hW, sU_ne (fun z => by omega), sU_ne h3]
      intro h i hi ht
      rw [r4_301] at h
      rw [r93_0, r93_1, r93_2] at ht
      rw [r4_300, drl_up hw (by show 9 ≤ (1 * ρ 1 + 0).toNat; omega) hi, dcl_hi (fun o k h1 h2 => hx o k h2 (by omega) (by omega))]
      exact gx_xDE hI h i hi ht
    have k_xQ5 : xQ5 W := by
      rw [hW]
      exact (uxQ5 rfl (uxQ5 (sinc_ok rfl _) hI.2.2.2.2.2.2.2.2.2.2.2.2.2.2.2.2.2.2.2.2.2.2.2.2.2.2.2.2.2.2.2.2.2.2.2.2.2.2.2.2.2.2.2.2.2.2.2.1))
    have k_xQL : xQL W := by
      rw [hW]
      exact (uxQL rfl (uxQL (sinc_ok rfl _) hI.2.2.2.2.2.2.2.2.2.2.2.2.2.2.2.2.2.2.2.2.2.2.2.2.2.2.2.2.2.2.2.2.2.2.2.2.2.2.2.2.2.2.2.2.2.2.2.2.1))
    have k_xQW : xQW W := by
      rw [hW]
      exact (uxQW rfl (uxQW (sinc_ok rfl _) hI.2.2.2.2.2.2.2.2.2.2.2.2.2.2.2.2.2.2.2.2.2.2.2.2.2.2.2.2.2.2.2.2.2.2.2.2.2.2.2.2.2.2.2.2.2.2.2.2.2.1))
    have k_xQM : xQM W := by
      rw [hW]
      exact (uxQM rfl (uxQM (sinc_ok rfl _) hI.2.2.2.2.2.2.2.2.2.2.2.2.2.2.2.2.2.2.2.2.2.2.2.2.2.2.2.2.2.2.2.2.2.2.2.2.2.2.2.2.2.2.2.2.2.2.2.2.2.2.1))
    have k_xQH : xQH W := by
      rw [hW]
      exact (uxQH rfl (uxQH (sinc_ok rfl _) hI.2.2.2.2.2.2.2.2.2.2.2.2.2.2.2.2.2.2.2.2.2.2.2.2.2.2.2.2.2.2.2.2.2.2.2.2.2.2.2.2.2.2.2.2.2.2.2.2.2.2.2))
    have k_XC : XC W := ⟨k_xS1, k_xS2, k_xS3, k_xS4, k_xS5, k_xS6, k_xS7, k_xS8, k_xS9, k_xSA, k_xSG, k_xSF, k_xSB, k_xSC, k_xSD, k_xSE, k_xSW, k_xST, k_xSP, k_xSL, k_xSM, k_xSI, k_xD3, k_xDV, k_xDP, k_xDE, k_xQ5, k_xQL, k_xQW, k_xQM, k_xQH⟩
    have kXB : XB W := ⟨k_xN1, k_xN2, k_xN3, k_xN4, k_xN5, k_xN6, k_xH1, k_xK1, k_xC1, k_xRW, k_xWT, k_xCU, k_xG2, k_xG3, k_xG4, k_xG5, k_xG6, k_XC⟩
    exact ⟨base, k2, k3, kXA, kXB⟩
-- rZ98
def xr_593 : qRu := (3, [[(-9, 0), (1, 1)], [(17, 0), (-1, 1)]], [(4, 350, []), (4, 100, []), (4, 303, [])], [(98, [(1, 1)], [(1, 2)])], [], [])
theorem xo_593 : qRok xr_593 := by
  intro ρ M h0 hf hm hI
  have f0 := hf [(-9, 0), (1, 1)] (by decide)
  have f1 := hf [(17, 0), (-1, 1)] (by decide)
  simp only [qD, h0] at f0 f1
  have m0 : M 4 350 = 0 := hm (4, 350, []) (by decide)
  have m1 : M 4 100 = 0 := hm (4, 100, []) (by decide)
  have m2 : M 4 303 = 0 := hm (4, 303, []) (by decide)
  refine ⟨ρ, fun _ _ => rfl, fun f h => ?_, ?_⟩
  · exact nomatch h
  · show sI (sU M 98 (1 * ρ 1 + 0 : Int).toNat (1 * ρ 2 + 0))
    obtain ⟨W, hW⟩ : ∃ W, W = (sU M 98 (1 * ρ 1 + 0).toNat (1 * ρ 2 + 0)) := ⟨_, rfl⟩
    rw [← hW]
    have base : sI0 W := by
      rw [hW]
      exact (si_u0 hI.1 (fun r hr => by cases hr))
    have k2 : XI2 W := by
      rw [hW]
      exact (xi2_u (sinc_ok rfl _) hI.2.1)
    have k3 : XI3 W := by
      rw [hW]
      exact (xi3_u (sinc_ok rfl _) hI.2.2.1)
    have kXA : XA W := by
      rw [hW]
      exact (uXA (sinc_ok rfl _) hI.2.2.2.1)
    have k_xN1 : xN1 W := by
      rw [hW]
      exact (uxN1 (sinc_ok rfl _) hI.2.2.2.2.1)
    have k_xN2 : xN2 W := by
      rw [hW]
      exact (uxN2 (sinc_ok rfl _) hI.2.2.2.2.2.1)
    have k_xN3 : xN3 W := by
      rw [hW]
      exact (uxN3 (sinc_ok rfl _) hI.2.2.2.2.2.2.1)
    have k_xN4 : xN4 W := by
      rw [hW]
      exact (uxN4 (sinc_ok rfl _) hI.2.2.2.2.2.2.2.1)
    have k_xN5 : xN5 W := by
      rw [hW]
      exact (uxN5 (sinc_ok rfl _) hI.2.2.2.2.2.2.2.2.1)
    have k_xN6 : xN6 W := by
      rw [hW]
      exact (uxN6 (sinc_ok rfl _) hI.2.2.2.2.2.2.2.2.2.1)
    have k_xH1 : xH1 W := by
      rw [hW]
      exact (uxH1 (sinc_ok rfl _) hI.2.2.2.2.2.2.2.2.2.2.1)
    have k_xK1 : xK1 W := by
      rw [hW]
      exact (uxK1 (sinc_ok rfl _) hI.2.2.2.2.2.2.2.2.2.2.2.1)
    have k_xC1 : xC1 W := by
      rw [hW]
      exact (uxC1 (sinc_ok rfl _) hI.2.2.2.2.2.2.2.2.2.2.2.2.1)
    have k_xRW : xRW W := by
      rw [hW]
      exact (uxRW (sinc_ok rfl _) hI.2.2.2.2.2.2.2.2.2.2.2.2.2.1)
    have k_xWT : xWT W := by
      rw [hW]
      exact (uxWT (sinc_ok rfl _) hI.2.2.2.2.2.2.2.2.2.2.2.2.2.2.1)
    have k_xCU : xCU W := by
      rw [hW]
      exact (uxCU (sinc_ok rfl _) hI.2.2.2.2.2.2.2.2.2.2.2.2.2.2.2.1)
    have k_xG2 : xG2 W := by
      rw [hW]
      exact (uxG2 (sinc_ok rfl _) hI.2.2.2.2.2.2.2.2.2.2.2.2.2.2.2.2.1)
    have k_xG3 : xG3 W := by
      rw [hW]
      exact (uxG3 (sinc_ok rfl _) hI.2.2.2.2.2.2.2.2.2.2.2.2.2.2.2.2.2.1)
    have k_xG4 : xG4 W := by
      rw [hW]
      exact (uxG4 (sinc_ok rfl _) hI.2.2.2.2.2.2.2.2.2.2.2.2.2.2.2.2.2.2.1)
    have k_xG5 : xG5 W := by
      rw [hW]
      exact (uxG5 (sinc_ok rfl _) hI.2.2.2.2.2.2.2.2.2.2.2.2.2.2.2.2.2.2.2.1)
    have k_xG6 : xG6 W := by
      rw [hW]
      exact (uxG6 (sinc_ok rfl _) hI.2.2.2.2.2.2.2.2.2.2.2.2.2.2.2.2.2.2.2.2.1)
    have k_xS1 : xS1 W := by
      rw [hW]
      exact (uxS1 (sinc_ok rfl _) hI.2.2.2.2.2.2.2.2.2.2.2.2.2.2.2.2.2.2.2.2.2.1)
    have k_xS2 : xS2 W := by
      rw [hW]
      exact (uxS2 (sinc_ok rfl _) hI.2.2.2.2.2.2.2.2.2.2.2.2.2.2.2.2.2.2.2.2.2.2.1)
    have k_xS3 : xS3 W := by
      rw [hW]
      exact (uxS3 (sinc_ok rfl _) hI.2.2.2.2.2.2.2.2.2.2.2.2.2.2.2.2.2.2.2.2.2.2.2.1)
    have k_xS4 : xS4 W := by
      rw [hW]
      exact (uxS4 (sinc_ok rfl _) hI.2.2.2.2.2.2.2.2.2.2.2.2.2.2.2.2.2.2.2.2.2.2.2.2.1)
    have k_xS5 : xS5 W := by
      rw [hW]
      exact (uxS5 (sinc_ok rfl _) hI.2.2.2.2.2.2.2.2.2.2.2.2.2.2.2.2.2.2.2.2.2.2.2.2.2.1)
    have k_xS6 : xS6 W := by
      rw [hW]
      exact (uxS6 (sinc_ok rfl _) hI.2.2.2.2.2.2.2.2.2.2.2.2.2.2.2.2.2.2.2.2.2.2.2.2.2.2.1)
    have k_xS7 : xS7 W := by
      rw [hW]
      exact (uxS7 (sinc_ok rfl _) hI.2.2.2.2.2.2.2.2.2.2.2.2.2.2.2.2.2.2.2.2.2.2.2.2.2.2.2.1)
    have k_xS8 : xS8 W := by
      rw [hW]
      exact (uxS8 (sinc_ok rfl _) hI.2.2.2.2.2.2.2.2.2.2.2.2.2.2.2.2.2.2.2.2.2.2.2.2.2.2.2.2.1)
    have k_xS9 : xS9 W := by
      rw [hW]
      exact (uxS9 (sinc_ok rfl _) hI.2.2.2.2.2.2.2.2.2.2.2.2.2.2.2.2.2.2.2.2.2.2.2.2.2.2.2.2.2.1)
    have k_xSA : xSA W := by
      rw [hW]
      exact (uxSA (sinc_ok rfl _) hI.2.2.2.2.2.2.2.2.2.2.2.2.2.2.2.2.2.2.2.2.2.2.2.2.2.2.2.2.2.2.1)
    have k_xSG : xSG W := by
      rw [hW]
      exact (uxSG (sinc_ok rfl _) hI.2.2.2.2.2.2.2.2.2.2.2.2.2.2.2.2.2.2.2.2.2.2.2.2.2.2.2.2.2.2.2.1)
    have k_xSF : xSF W := by
      rw [hW]
      exact (uxSF (sinc_ok rfl _) hI.2.2.2.2.2.2.2.2.2.2.2.2.2.2.2.2.2.2.2.2.2.2.2.2.2.2.2.2.2.2.2.2.1)
    have k_xSB : xSB W := by
      rw [hW]
      exact (uxSB (sinc_ok rfl _) hI.2.2.2.2.2.2.2.2.2.2.2.2.2.2.2.2.2.2.2.2.2.2.2.2.2.2.2.2.2.2.2.2.2.1)
    have k_xSC : xSC W := by
      rw [hW]
      exact (uxSC (sinc_ok rfl _) hI.2.2.2.2.2.2.2.2.2.2.2.2.2.2.2.2.2.2.2.2.2.2.2.2.2.2.2.2.2.2.2.2.2.2.1)
    have k_xSD : xSD W := by
      rw [hW]
      exact (uxSD (sinc_ok rfl _) hI.2.2.2.2.2.2.2.2.2.2.2.2.2.2.2.2.2.2.2.2.2.2.2.2.2.2.2.2.2.2.2.2.2.2.2.1)
    have k_xSE : xSE W := by
      rw [hW]
      exact (uxSE (sinc_ok rfl _) hI.2.2.2.2.2.2.2.2.2.2.2.2.2.2.2.2.2.2.2.2.2.2.2.2.2.2.2.2.2.2.2.2.2.2.2.2.1)
    have k_xSW : xSW W := by
      rw [hW]
      exact (uxSW (sinc_ok rfl _) hI.2.2.2.2.2.2.2.2.2.2.2.2.2.2.2.2.2.2.2.2.2.2.2.2.2.2.2.2.2.2.2.2.2.2.2.2.2.1)
    have k_xST : xST W := by
      rw [hW]
      exact (uxST (sinc_ok rfl _) hI.2.2.2.2.2.2.2.2.2.2.2.2.2.2.2.2.2.2.2.2.2.2.2.2.2.2.2.2.2.2.2.2.2.2.2.2.2.2.1)
    have k_xSP : xSP W := by
      rw [hW]
      exact (uxSP (sinc_ok rfl _) hI.2.2.2.2.2.2.2.2.2.2.2.2.2.2.2.2.2.2.2.2.2.2.2.2.2.2.2.2.2.2.2.2.2.2.2.2.2.2.2.1)
    have k_xSL : xSL W := by
      rw [hW]
      exact (uxSL (sinc_ok rfl _) hI.2.2.2.2.2.2.2.2.2.2.2.2.2.2.2.2.2.2.2.2.2.2.2.2.2.2.2.2.2.2.2.2.2.2.2.2.2.2.2.2.1)
    have k_xSM : xSM W := by
      rw [hW]
      exact (uxSM (sinc_ok rfl _) hI.2.2.2.2.2.2.2.2.2.2.2.2.2.2.2.2.2.2.2.2.2.2.2.2.2.2.2.2.2.2.2.2.2.2.2.2.2.2.2.2.2.1)
    have k_xSI : xSI W := by
      rw [hW]
      exact (uxSI (sinc_ok rfl _) hI.2.2.2.2.2.2.2.2.2.2.2.2.2.2.2.2.2.2.2.2.2.2.2.2.2.2.2.2.2.2.2.2.2.2.2.2.2.2.2.2.2.2.1)
    have k_xD3 : xD3 W := by
      have r : W 4 100 = 0 := by
        have e := m1
        rw [hW, sU_ne (fun z => by omega)]
        omega
      intro h
      rw [r] at h
      exact absurd rfl h
    have k_xDV : xDV W := by
      rw [hW]
      exact (uxDV (sinc_ok rfl _) hI.2.2.2.2.2.2.2.2.2.2.2.2.2.2.2.2.2.2.2.2.2.2.2.2.2.2.2.2.2.2.2.2.2.2.2.2.2.2.2.2.2.2.2.2.1)
    have k_xDP : xDP W := by
      have r : W 4 303 = 0 := by
        have e := m2
        rw [hW, sU_ne (fun z => by omega)]
        omega
      intro _ h
      rw [r] at h
      omega
    have k_xDE : xDE W := by
      have r4_301 : W 4 301 = M 4 301 := by rw [hW, sU_ne (fun z => by omega)]
      have r4_300 : W 4 300 = M 4 300 := by rw [hW, sU_ne (fun z => by omega)]
      have r93_0 : W 93 0 = M 93 0 := by rw [hW, sU_ne (fun z => by omega)]
      have r93_1 : W 93 1 = M 93 1 := by rw [hW, sU_ne (fun z => by omega)]
      have r93_2 : W 93 2 = M 93 2 := by rw [hW, sU_ne (fun z => by omega)]
      have r13_0 : W 13 0 = M 13 0 := by rw [hW, sU_ne (fun z => by omega)]
      have r14_0 : W 14 0 = M 14 0 := by rw [hW, sU_ne (fun z => by omega)]
      have r15_0 : W 15 0 = M 15 0 := by rw [hW, sU_ne (fun z => by omega)]
      have r16_0 : W 16 0 = M 16 0 := by rw [hW, sU_ne (fun z => by omega)]
      have r17_0 : W 17 0 = M 17 0 := by rw [hW, sU_ne (fun z => by omega)]
      have r18_0 : W 18 0 = M 18 0 := by rw [hW, sU_ne (fun z => by omega)]
      have r19_0 : W 19 0 = M 19 0 := by rw [hW, sU_ne (fun z => by omega)]
      have r20_0 : W 20 0 = M 20 0 := by rw [hW, sU_ne (fun z => by omega)]
      have r21_0 : W 21 0 = M 21 0 := by rw [hW, sU_ne (fun z => by omega)]
      have r22_0 : W 22 0 = M 22 0 := by rw [hW, sU_ne (fun z => by omega)]
      have r23_0 : W 23 0 = M 23 0 := by rw [hW, sU_ne (fun z => by omega)]
      have r24_0 : W 24 0 = M 24 0 := by rw [hW, sU_ne (fun z => by omega)]
      have r25_0 : W 25 0 = M 25 0 := by rw [hW, sU_ne (fun z => by omega)]
      have r26_0 : W 26 0 = M 26 0 := by rw [hW, sU_ne (fun z => by omega)]
      have r27_0 : W 27 0 = M 27 0 := by rw [hW, sU_ne (fun z => by omega)]
      have r13_1 : W 13 1 = M 13 1 := by rw [hW, sU_ne (fun z => by omega)]
      have r14_1 : W 14 1 = M 14 1 := by rw [hW, sU_ne (fun z => by omega)]
      have r15_1 : W 15 1 = M 15 1 := by rw [hW, sU_ne (fun z => by omega)]
      have r16_1 : W 16 1 = M 16 1 := by rw [hW, sU_ne (fun z => by omega)]
      have r17_1 : W 17 1 = M 17 1 := by rw [hW, sU_ne (fun z => by omega)]
      have r18_1 : W 18 1 = M 18 1 := by rw [hW, sU_ne (fun z => by omega)]
      have r19_1 : W 19 1 = M 19 1 := by rw [hW, sU_ne (fun z => by omega)]
      have r20_1 : W 20 1 = M 20 1 := by rw [hW, sU_ne (fun z => by omega)]
      have r21_1 : W 21 1 = M 21 1 := by rw [hW, sU_ne (fun z => by omega)]
      have r22_1 : W 22 1 = M 22 1 := by rw [hW, sU_ne (fun z => by omega)]
      have r23_1 : W 23 1 = M 23 1 := by rw [hW, sU_ne (fun z => by omega)]
      have r24_1 : W 24 1 = M 24 1 := by rw [hW, sU_ne (fun z => by omega)]
      have r25_1 : W 25 1 = M 25 1 := by rw [hW, sU_ne (fun z => by omega)]
      have r26_1 : W 26 1 = M 26 1 := by rw [hW, sU_ne (fun z => by omega)]
      have r27_1 : W 27 1 = M 27 1 := by rw [hW, sU_ne (fun z => by omega)]
      have r13_2 : W 13 2 = M 13 2 := by rw [hW, sU_ne (fun z => by omega)]
      have r14_2 : W 14 2 = M 14 2 := by rw [hW, sU_ne (fun z => by omega)]
      have r15_2 : W 15 2 = M 15 2 := by rw [hW, sU_ne (fun z => by omega)]
      have r16_2 : W 16 2 = M 16 2 := by rw [hW, sU_ne (fun z => by omega)]
      have r17_2 : W 17 2 = M 17 2 := by rw [hW, sU_ne (fun z => by omega)]
      have r18_2 : W 18 2 = M 18 2 := by rw [hW, sU_ne (fun z => by omega)]
      have r19_2 : W 19 2 = M 19 2 := by rw [hW, sU_ne (fun z => by omega)]
      have r20_2 : W 20 2 = M 20 2 := by rw [hW, sU_ne (fun z => by omega)]
      have r21_2 : W 21 2 = M 21 2 := by rw [hW, sU_ne (fun z => by omega)]
      have r22_2 : W 22 2 = M 22 2 := by rw [hW, sU_ne (fun z => by omega)]
      have r23_2 : W 23 2 = M 23 2 := by rw [hW, sU_ne (fun z => by omega)]
      have r24_2 : W 24 2 = M 24 2 := by rw [hW, sU_ne (fun z => by omega)]
      have r25_2 : W 25 2 = M 25 2 := by rw [hW, sU_ne (fun z => by omega)]
      have r26_2 : W 26 2 = M 26 2 := by rw [hW, sU_ne (fun z => by omega)]
      have r27_2 : W 27 2 = M 27 2 := by rw [hW, sU_ne (fun z => by omega)]
      have r13_3 : W 13 3 = M 13 3 := by rw [hW, sU_ne (fun z => by omega)]
      have r14_3 : W 14 3 = M 14 3 := by rw [hW, sU_ne (fun z => by omega)]
      have r15_3 : W 15 3 = M 15 3 := by rw [hW, sU_ne (fun z => by omega)]
      have r16_3 : W 16 3 = M 16 3 := by rw [hW, sU_ne (fun z => by omega)]
      have r17_3 : W 17 3 = M 17 3 := by rw [hW, sU_ne (fun z => by omega)]
      have r18_3 : W 18 3 = M 18 3 := by rw [hW, sU_ne (fun z => by omega)]
      have r19_3 : W 19 3 = M 19 3 := by rw [hW, sU_ne (fun z => by omega)]
      have r20_3 : W 20 3 = M 20 3 := by rw [hW, sU_ne (fun z => by omega)]
      have r21_3 : W 21 3 = M 21 3 := by rw [hW, sU_ne (fun z => by omega)]
      have r22_3 : W 22 3 = M 22 3 := by rw [hW, sU_ne (fun z => by omega)]
      have r23_3 : W 23 3 = M 23 3 := by rw [hW, sU_ne (fun z => by omega)]
      have r24_3 : W 24 3 = M 24 3 := by rw [hW, sU_ne (fun z => by omega)]
      have r25_3 : W 25 3 = M 25 3 := by rw [hW, sU_ne (fun z => by omega)]
      have r26_3 : W 26 3 = M 26 3 := by rw [hW, sU_ne (fun z => by omega)]
      have r27_3 : W 27 3 = M 27 3 := by rw [hW, sU_ne (fun z => by omega)]
      have r13_4 : W 13 4 = M 13 4 := by rw [hW, sU_ne (fun z => by omega)]
      have r14_4 : W 14 4 = M 14 4 := by rw [hW, sU_ne (fun z => by omega)]
      have r15_4 : W 15 4 = M 15 4 := by rw [hW, sU_ne (fun z => by omega)]
      have r16_4 : W 16 4 = M 16 4 := by rw [hW, sU_ne (fun z => by omega)]
      have r17_4 : W 17 4 = M 17 4 := by rw [hW, sU_ne (fun z => by omega)]
      have r18_4 : W 18 4 = M 18 4 := by rw [hW, sU_ne (fun z => by omega)]
      have r19_4 : W 19 4 = M 19 4 := by rw [hW, sU_ne (fun z => by omega)]
      have r20_4 : W 20 4 = M 20 4 := by rw [hW, sU_ne (fun z => by omega)]
      have r21_4 : W 21 4 = M 21 4 := by rw [hW, sU_ne (fun z => by omega)]
      have r13_5 : W 13 5 = M 13 5 := by rw [hW, sU_ne (fun z => by omega)]
      have r14_5 : W 14 5 = M 14 5 := by rw [hW, sU_ne (fun z => by omega)]
      have r15_5 : W 15 5 = M 15 5 := by rw [hW, sU_ne (fun z => by omega)]
      have r16_5 : W 16 5 = M 16 5 := by rw [hW, sU_ne (fun z => by omega)]
      have r17_5 : W 17 5 = M 17 5 := by rw [hW, sU_ne (fun z => by omega)]
      have r18_5 : W 18 5 = M 18 5 := by rw [hW, sU_ne (fun z => by omega)]
      have r19_5 : W 19 5 = M 19 5 := by rw [hW, sU_ne (fun z => by omega)]
      have r20_5 : W 20 5 = M 20 5 := by rw [hW, sU_ne (fun z => by omega)]
      have r21_5 : W 21 5 = M 21 5 := by rw [hW, sU_ne (fun z => by omega)]
      have r2_11 : W 2 11 = M 2 11 := by rw [hW, sU_ne (fun z => by omega)]
      have r2_12 : W 2 12 = M 2 12 := by rw [hW, sU_ne (fun z => by omega)]
      have r2_13 : W 2 13 = M 2 13 := by rw [hW, sU_ne (fun z => by omega)]
      have r2_14 : W 2 14 = M 2 14 := by rw [hW, sU_ne (fun z => by omega)]
      have r2_15 : W 2 15 = M 2 15 := by rw [hW, sU_ne (fun z => by omega)]
      have r39_0 : W 39 0 = M 39 0 := by rw [hW, sU_ne (fun z => by omega)]
      have r40_0 : W 40 0 = M 40 0 := by rw [hW, sU_ne (fun z => by omega)]
      have r41_0 : W 41 0 = M 41 0 := by rw [hW, sU_ne (fun z => by omega)]
      have r42_0 : W 42 0 = M 42 0 := by rw [hW, sU_ne (fun z => by omega)]
      have r43_0 : W 43 0 = M 43 0 := by rw [hW, sU_ne (fun z => by omega)]
      have r44_0 : W 44 0 = M 44 0 := by rw [hW, sU_ne (fun z => by omega)]
      have r45_0 : W 45 0 = M 45 0 := by rw [hW, sU_ne (fun z => by omega)]
      have r46_0 : W 46 0 = M 46 0 := by rw [hW, sU_ne (fun z => by omega)]
      have r47_0 : W 47 0 = M 47 0 := by rw [hW, sU_ne (fun z => by omega)]
      have r48_0 : W 48 0 = M 48 0 := by rw [hW, sU_ne (fun z => by omega)]
      have r49_0 : W 49 0 = M 49 0 := by rw [hW, sU_ne (fun z => by omega)]
      have r50_0 : W 50 0 = M 50 0 := by rw [hW, sU_ne (fun z => by omega)]
      have r51_0 : W 51 0 = M 51 0 := by rw [hW, sU_ne (fun z => by omega)]
      have r52_0 : W 52 0 = M 52 0 := by rw [hW, sU_ne (fun z => by omega)]
      have r53_0 : W 53 0 = M 53 0 := by rw [hW, sU_ne (fun z => by omega)]
      have r39_1 : W 39 1 = M 39 1 := by rw [hW, sU_ne (fun z => by omega)]
      have r40_1 : W 40 1 = M 40 1 := by rw [hW, sU_ne (fun z => by omega)]
      have r41_1 : W 41 1 = M 41 1 := by rw [hW, sU_ne (fun z => by omega)]
      have r42_1 : W 42 1 = M 42 1 := by rw [hW, sU_ne (fun z => by omega)]
      have r43_1 : W 43 1 = M 43 1 := by rw [hW, sU_ne (fun z => by omega)]
      have r44_1 : W 44 1 = M 44 1 := by rw [hW, sU_ne (fun z => by omega)]
      have r45_1 : W 45 1 = M 45 1 := by rw [hW, sU_ne (fun z => by omega)]
      have r46_1 : W 46 1 = M 46 1 := by rw [hW, sU_ne (fun z => by omega)]
      have r47_1 : W 47 1 = M 47 1 := by rw [hW, sU_ne (fun z => by omega)]
      have r48_1 : W 48 1 = M 48 1 := by rw [hW, sU_ne (fun z => by omega)]
      have r49_1 : W 49 1 = M 49 1 := by rw [hW, sU_ne (fun z => by omega)]
      have r50_1 : W 50 1 = M 50 1 := by rw [hW, sU_ne (fun z => by omega)]
      have r51_1 : W 51 1 = M 51 1 := by rw [hW, sU_ne (fun z => by omega)]
      have r52_1 : W 52 1 = M 52 1 := by rw [hW, sU_ne (fun z => by omega)]
      have r53_1 : W 53 1 = M 53 1 := by rw [hW, sU_ne (fun z => by omega)]
      have r39_2 : W 39 2 = M 39 2 := by rw [hW, sU_ne (fun z => by omega)]
      have r40_2 : W 40 2 = M 40 2 := by rw [hW, sU_ne (fun z => by omega)]
      have r41_2 : W 41 2 = M 41 2 := by rw [hW, sU_ne (fun z => by omega)]
      have r42_2 : W 42 2 = M 42 2 := by rw [hW, sU_ne (fun z => by omega)]
      have r43_2 : W 43 2 = M 43 2 := by rw [hW, sU_ne (fun z => by omega)]
      have r44_2 : W 44 2 = M 44 2 := by rw [hW, sU_ne (fun z => by omega)]
      have r45_2 : W 45 2 = M 45 2 := by rw [hW, sU_ne (fun z => by omega)]
      have r46_2 : W 46 2 = M 46 2 := by rw [hW, sU_ne (fun z => by omega)]
      have r47_2 : W 47 2 = M 47 2 := by rw [hW, sU_ne (fun z => by omega)]
      have r48_2 : W 48 2 = M 48 2 := by rw [hW, sU_ne (fun z => by omega)]
      have r49_2 : W 49 2 = M 49 2 := by rw [hW, sU_ne (fun z => by omega)]
      have r50_2 : W 50 2 = M 50 2 := by rw [hW, sU_ne (fun z => by omega)]
      have r51_2 : W 51 2 = M 51 2 := by rw [hW, sU_ne (fun z => by omega)]
      have r52_2 : W 52 2 = M 52 2 := by rw [hW, sU_ne (fun z => by omega)]
      have r53_2 : W 53 2 = M 53 2 := by rw [hW, sU_ne (fun z => by omega)]
      have r39_3 : W 39 3 = M 39 3 := by rw [hW, sU_ne (fun z => by omega)]
      have r40_3 : W 40 3 = M 40 3 := by rw [hW, sU_ne (fun z => by omega)]
      have r41_3 : W 41 3 = M 41 3 := by rw [hW, sU_ne (fun z => by omega)]
      have r42_3 : W 42 3 = M 42 3 := by rw [hW, sU_ne (fun z => by omega)]
      have r43_3 : W 43 3 = M 43 3 := by rw [hW, sU_ne (fun z => by omega)]
      have r44_3 : W 44 3 = M 44 3 := by rw [hW, sU_ne (fun z => by omega)]
      have r45_3 : W 45 3 = M 45 3 := by rw [hW, sU_ne (fun z => by omega)]
      have r46_3 : W 46 3 = M 46 3 := by rw [hW, sU_ne (fun z => by omega)]
      have r47_3 : W 47 3 = M 47 3 := by rw [hW, sU_ne (fun z => by omega)]
      have r48_3 : W 48 3 = M 48 3 := by rw [hW, sU_ne (fun z => by omega)]
      have r49_3 : W 49 3 = M 49 3 := by rw [hW, sU_ne (fun z => by omega)]
      have r50_3 : W 50 3 = M 50 3 := by rw [hW, sU_ne (fun z => by omega)]
      have r51_3 : W 51 3 = M 51 3 := by rw [hW, sU_ne (fun z => by omega)]
      have r52_3 : W 52 3 = M 52 3 := by rw [hW, sU_ne (fun z => by omega)]
      have r53_3 : W 53 3 = M 53 3 := by rw [hW, sU_ne (fun z => by omega)]
      have r39_4 : W 39 4 = M 39 4 := by rw [hW, sU_ne (fun z => by omega)]
      have r40_4 : W 40 4 = M 40 4 := by rw [hW, sU_ne (fun z => by omega)]
      have r41_4 : W 41 4 = M 41 4 := by rw [hW, sU_ne (fun z => by omega)]
      have r42_4 : W 42 4 = M 42 4 := by rw [hW, sU_ne (fun z => by omega)]
      have r43_4 : W 43 4 = M 43 4 := by rw [hW, sU_ne (fun z => by omega)]
      have r44_4 : W 44 4 = M 44 4 := by rw [hW, sU_ne (fun z => by omega)]
      have r45_4 : W 45 4 = M 45 4 := by rw [hW, sU_ne (fun z => by omega)]
      have r46_4 : W 46 4 = M 46 4 := by rw [hW, sU_ne (fun z => by omega)]
      have r47_4 : W 47 4 = M 47 4 := by rw [hW, sU_ne (fun z => by omega)]
      have r39_5 : W 39 5 = M 39 5 := by rw [hW, sU_ne (fun z => by omega)]
      have r40_5 : W 40 5 = M 40 5 := by rw [hW, sU_ne (fun z => by omega)]
      have r41_5 : W 41 5 = M 41 5 := by rw [hW, sU_ne (fun z => by omega)]
      have r42_5 : W 42 5 = M 42 5 := by rw [hW, sU_ne (fun z => by omega)]
      have r43_5 : W 43 5 = M 43 5 := by rw [hW, sU_ne (fun z => by omega)]
      have r44_5 : W 44 5 = M 44 5 := by rw [hW, sU_ne (fun z => by omega)]
      have r45_5 : W 45 5 = M 45 5 := by rw [hW, sU_ne (fun z => by omega)]
      have r46_5 : W 46 5 = M 46 5 := by rw [hW, sU_ne (fun z => by omega)]
      have r47_5 : W 47 5 = M 47 5 := by rw [hW, sU_ne (fun z => by omega)]
      have r28_11 : W 28 11 = M 28 11 := by rw [hW, sU_ne (fun z => by omega)]
      have r28_12 : W 28 12 = M 28 12 := by rw [hW, sU_ne (fun z => by omega)]
      have r28_13 : W 28 13 = M 28 13 := by rw [hW, sU_ne (fun z => by omega)]
      have r28_14 : W 28 14 = M 28 14 := by rw [hW, sU_ne (fun z => by omega)]
      have r28_15 : W 28 15 = M 28 15 := by rw [hW, sU_ne (fun z => by omega)]
      have r93_3 : W 93 3 = M 93 3 := by rw [hW, sU_ne (fun z => by omega)]
      have r93_4 : W 93 4 = M 93 4 := by rw [hW, sU_ne (fun z => by omega)]
      have r93_5 : W 93 5 = M 93 5 := by rw [hW, sU_ne (fun z => by omega)]
      have r93_6 : W 93 6 = M 93 6 := by rw [hW, sU_ne (fun z => by omega)]
      have r93_7 : W 93 7 = M 93 7 := by rw [hW, sU_ne (fun z => by omega)]
      have c5 : ∀ k, W 5 k = M 5 k := fun k => by rw [hW, sU_ne (fun z => by omega)]
      have e5 : W 5 = M 5 := funext c5
      have c6 : ∀ k, W 6 k = M 6 k := fun k => by rw [hW, sU_ne (fun z => by omega)]
      have e6 : W 6 = M 6 := funext c6
      have c7 : ∀ k, W 7 k = M 7 k := fun k => by rw [hW, sU_ne (fun z => by omega)]
      have e7 : W 7 = M 7 := funext c7
      have c8 : ∀ k, W 8 k = M 8 k := fun k => by rw [hW, sU_ne (fun z => by omega)]
      have e8 : W 8 = M 8 := funext c8
      have c31 : ∀ k, W 31 k = M 31 k := fun k => by rw [hW, sU_ne (fun z => by omega)]
      have e31 : W 31 = M 31 := funext c31
      have c32 : ∀ k, W 32 k = M 32 k := fun k => by rw [hW, sU_ne (fun z => by omega)]
      have e32 : W 32 = M 32 := funext c32
      have c33 : ∀ k, W 33 k = M 33 k := fun k => by rw [hW, sU_ne (fun z => by omega)]
      have e33 : W 33 = M 33 := funext c33
      have c34 : ∀ k, W 34 k = M 34 k := fun k => by rw [hW, sU_ne (fun z => by omega)]
      have e34 : W 34 = M 34 := funext c34
      have c94 : ∀ k, W 94 k = M 94 k := fun k => by rw [hW, sU_ne (fun z => by omega)]
      have e94 : W 94 = M 94 := funext c94
      have c95 : ∀ k, W 95 k = M 95 k := fun k => by rw [hW, sU_ne (fun z => by omega)]
      have e95 : W 95 = M 95 := funext c95
      have c96 : ∀ k, W 96 k = M 96 k := fun k => by rw [hW, sU_ne (fun z => by omega)]
      have e96 : W 96 = M 96 := funext c96
      have c97 : ∀ k, W 97 k = M 97 k := fun k => by rw [hW, sU_ne (fun z => by omega)]
      have e97 : W 97 = M 97 := funext c97
      have c98 : ∀ k : Nat, k ≠ (1 * ρ 1 + 0).toNat → W 98 k = M 98 k := fun k hk => by rw [hW, sU_ne (fun z => by omega)]
      have a98 : W 98 (1 * ρ 1 + 0).toNat = 1 * ρ 2 + 0 := by rw [hW, sU_at]
      have c99 : ∀ k, W 99 k = M 99 k := fun k => by rw [hW, sU_ne (fun z => by omega)]
      have e99 : W 99 = M 99 := funext c99
      have c100 : ∀ k, W 100 k = M 100 k := fun k => by rw [hW, sU_ne (fun z => by omega)]
      have e100 : W 100 = M 100 := funext c100
      have c101 : ∀ k, W 101 k = M 101 k := fun k => by rw [hW, sU_ne (fun z => by omega)]
      have e101 : W 101 = M 101 := funext c101
      have c102 : ∀ k, W 102 k = M 102 k := fun k => by rw [hW, sU_ne (fun z => by omega)]
      have e102 : W 102 = M 102 := funext c102
      have c103 : ∀ k, W 103 k = M 103 k := fun k => by rw [hW, sU_ne (fun z => by omega)]
      have e103 : W 103 = M 103 := funext c103
      have c104 : ∀ k, W 104 k = M 104 k := fun k => by rw [hW, sU_ne (fun z => by omega)]
      have e104 : W 104 = M 104 := funext c104
      have c105 : ∀ k, W 105 k = M 105 k := fun k => by rw [hW, sU_ne (fun z => by omega)]
      have e105 : W 105 = M 105 := funext c105
      have c106 : ∀ k, W 106 k = M 106 k := fun k => by rw [hW, sU_ne (fun z => by omega)]
      have e106 : W 106 = M 106 := funext c106
      have c107 : ∀ k, W 107 k = M 107 k := fun k => by rw [hW, sU_ne (fun z => by omega)]
      have e107 : W 107 = M 107 := funext c107
      have hw : ∀ o k, 93 ≤ o → o ≤ 107 → ¬ (o = 98 ∧ k = (1 * ρ 1 + 0).toNat) → W o k = M o k := fun o k h1 h2 h3 => by rw [hW, sU_ne h3]
      have hx : ∀ o k, o ≠ 4 → o ≠ 91 → ¬ (o = 98 ∧ k = (1 * ρ 1 + 0).toNat) → W o k = M o k := fun o k h1 h2 h3 => by rw [hW, sU_ne h3]
      intro h i hi ht
      rw [r4_301] at h
      rw [r93_0, r93_1, r93_2] at ht
      rw [r4_300, drl_up hw (by show 9 ≤ (1 * ρ 1 + 0).toNat; omega) hi, dcl_hi (fun o k h1 h2 => hx o k h2 (by omega) (by omega))]
      exact gx_xDE hI h i hi ht
    have k_xQ5 : xQ5 W := by
      rw [hW]
      exact (uxQ5 (sinc_ok rfl _) hI.2.2.2.2.2.2.2.2.2.2.2.2.2.2.2.2.2.2.2.2.2.2.2.2.2.2.2.2.2.2.2.2.2.2.2.2.2.2.2.2.2.2.2.2.2.2.2.1)
    have k_xQL : xQL W := by
      rw [hW]
      exact (uxQL (sinc_ok rfl _) hI.2.2.2.2.2.2.2.2.2.2.2.2.2.2.2.2.2.2.2.2.2.2.2.2.2.2.2.2.2.2.2.2.2.2.2.2.2.2.2.2.2.2.2.2.2.2.2.2.1)
    have k_xQW : xQW W := by
      rw [hW]
      exact (uxQW (sinc_ok rfl _) hI.2.2.2.2.2.2.2.2.2.2.2.2.2.2.2.2.2.2.2.2.2.2.2.2.2.2.2.2.2.2.2.2.2.2.2.2.2.2.2.2.2.2.2.2.2.2.2.2.2.1)
    have k_xQM : xQM W := by
      rw [hW]
      exact (uxQM (sinc_ok rfl _) hI.2.2.2.2.2.2.2.2.2.2.2.2.2.2.2.2.2.2.2.2.2.2.2.2.2.2.2.2.2.2.2.2.2.2.2.2.2.2.2.2.2.2.2.2.2.2.2.2.2.2.1)
    have k_xQH : xQH W := by
      rw [hW]
      exact (uxQH (sinc_ok rfl _) hI.2.2.2.2.2.2.2.2.2.2.2.2.2.2.2.2.2.2.2.2.2.2.2.2.2.2.2.2.2.2.2.2.2.2.2.2.2.2.2.2.2.2.2.2.2.2.2.2.2.2.2)
    have k_XC : XC W := ⟨k_xS1, k_xS2, k_xS3, k_xS4, k_xS5, k_xS6, k_xS7, k_xS8, k_xS9, k_xSA, k_xSG, k_xSF, k_xSB, k_xSC, k_xSD, k_xSE, k_xSW, k_xST, k_xSP, k_xSL, k_xSM, k_xSI, k_xD3, k_xDV, k_xDP, k_xDE, k_xQ5, k_xQL, k_xQW, k_xQM, k_xQH⟩
    have kXB : XB W := ⟨k_xN1, k_xN2, k_xN3, k_xN4, k_xN5, k_xN6, k_xH1, k_xK1, k_xC1, k_xRW, k_xWT, k_xCU, k_xG2, k_xG3, k_xG4, k_xG5, k_xG6, k_XC⟩
    exact ⟨base, k2, k3, kXA, kXB⟩
-- rL98
def xr_594 : qRu := (5, [[(1, 1)], [(8, 0), (-1, 1)], [(-9, 0), (-1, 1), (1, 2)], [(9, 0), (1, 1), (-1, 2)], [(1, 1), (-1, 4)], [(-1, 1), (1, 4)]], [(98, 1002, [(1, 3)]), (4, 350, []), (4, 100, []), (4, 303, [(1, 0)]), (4, 301, []), (4, 335, [(1, 4)])], [(98, [(1, 1)], [(1, 3)])], [(4, 335, [(1, 0), (1, 4)])], [])
theorem xo_594 : qRok xr_594 := by
  intro ρ M h0 hf hm hI
  have f0 := hf [(1, 1)] (by decide)
  have f1 := hf [(8, 0), (-1, 1)] (by decide)
  have f2 := hf [(-9, 0), (-1, 1), (1, 2)] (by decide)
  have f3 := hf [(9, 0), (1, 1), (-1, 2)] (by decide)
  have f4 := hf [(1, 1), (-1, 4)] (by decide)
  have f5 := hf [(-1, 1), (1, 4)] (by decide)
  simp only [qD, h0] at f0 f1 f2 f3 f4 f5
  have m0 : M 98 (zIx ρ (1000 + 2)) = 1 * ρ 3 + 0 := hm (98, 1002, [(1, 3)]) (by decide)
  rw [zix_p] at m0
  have m1 : M 4 350 = 0 := hm (4, 350, []) (by decide)
  have m2 : M 4 100 = 0 := hm (4, 100, []) (by decide)
  have m3 : M 4 303 = 1 * ρ 0 + 0 := hm (4, 303, [(1, 0)]) (by decide)
  have m4 : M 4 301 = 0 := hm (4, 301, []) (by decide)
  have m5 : M 4 335 = 1 * ρ 4 + 0 := hm (4, 335, [(1, 4)]) (by decide)
  simp only [h0] at m3
  refine ⟨ρ, fun _ _ => rfl, fun f h => ?_, ?_⟩
  · exact nomatch h
  · show sI (sU (sU M 98 (1 * ρ 1 + 0 : Int).toNat (1 * ρ 3 + 0)) 4 335 (1 * ρ 0 + (1 * ρ 4 + 0)))
    obtain ⟨W, hW⟩ : ∃ W, W = (sU (sU M 98 (1 * ρ 1 + 0).toNat (1 * ρ 3 + 0)) 4 335 (1 * ρ 0 + (1 * ρ 4 + 0))) := ⟨_, rfl⟩
    rw [← hW]
    have base : sI0 W := by
      rw [hW]
      exact (si_u0 (si_u0 hI.1 (fun r hr => by cases hr)) (fun r hr => by cases hr))
    have k2 : XI2 W := by
      rw [hW]
      exact (xi2_u rfl (xi2_u (sinc_ok rfl _) hI.2.1))
    have k3 : XI3 W := by
      rw [hW]
      exact (xi3_u rfl (xi3_u (sinc_ok rfl _) hI.2.2.1))
    have kXA : XA W := by
      rw [hW]
      exact (uXA rfl (uXA (sinc_ok rfl _) hI.2.2.2.1))
    have k_xN1 : xN1 W := by
      rw [hW]
      exact (uxN1 rfl (uxN1 (sinc_ok rfl _) hI.2.2.2.2.1))
    have k_xN2 : xN2 W := by
      rw [hW]
      exact (uxN2 rfl (uxN2 (sinc_ok rfl _) hI.2.2.2.2.2.1))
    have k_xN3 : xN3 W := by
      rw [hW]
      exact (uxN3 rfl (uxN3 (sinc_ok rfl _) hI.2.2.2.2.2.2.1))
    have k_xN4 : xN4 W := by
      rw [hW]
      exact (uxN4 rfl (uxN4 (sinc_ok rfl _) hI.2.2.2.2.2.2.2.1))
    have k_xN5 : xN5 W := by
      rw [hW]
      exact (uxN5 rfl (uxN5 (sinc_ok rfl _) hI.2.2.2.2.2.2.2.2.1))
    have k_xN6 : xN6 W := by
      rw [hW]
      exact (uxN6 rfl (uxN6 (sinc_ok rfl _) hI.2.2.2.2.2.2.2.2.2.1))
    have k_xH1 : xH1 W := by
      rw [hW]
      exact (uxH1 rfl (uxH1 (sinc_ok rfl _) hI.2.2.2.2.2.2.2.2.2.2.1))
    have k_xK1 : xK1 W := by
      rw [hW]
      exact (uxK1 rfl (uxK1 (sinc_ok rfl _) hI.2.2.2.2.2.2.2.2.2.2.2.1))
    have k_xC1 : xC1 W := by
      rw [hW]
      exact (uxC1 rfl (uxC1 (sinc_ok rfl _) hI.2.2.2.2.2.2.2.2.2.2.2.2.1))
    have k_xRW : xRW W := by
      rw [hW]
      exact (uxRW rfl (uxRW (sinc_ok rfl _) hI.2.2.2.2.2.2.2.2.2.2.2.2.2.1))
    have k_xWT : xWT W := by
      rw [hW]
      exact (uxWT rfl (uxWT (sinc_ok rfl _) hI.2.2.2.2.2.2.2.2.2.2.2.2.2.2.1))
    have k_xCU : xCU W := by
      rw [hW]
      exact (uxCU rfl (uxCU (sinc_ok rfl _) hI.2.2.2.2.2.2.2.2.2.2.2.2.2.2.2.1))
    have k_xG2 : xG2 W := by
      rw [hW]
      exact (uxG2 rfl (uxG2 (sinc_ok rfl _) hI.2.2.2.2.2.2.2.2.2.2.2.2.2.2.2.2.1))
    have k_xG3 : xG3 W := by
      rw [hW]
      exact (uxG3 rfl (uxG3 (sinc_ok rfl _) hI.2.2.2.2.2.2.2.2.2.2.2.2.2.2.2.2.2.1))
    have k_xG4 : xG4 W := by
      rw [hW]
      exact (uxG4 rfl (uxG4 (sinc_ok rfl _) hI.2.2.2.2.2.2.2.2.2.2.2.2.2.2.2.2.2.2.1))
    have k_xG5 : xG5 W := by
      rw [hW]
      exact (uxG5 rfl (uxG5 (sinc_ok rfl _) hI.2.2.2.2.2.2.2.2.2.2.2.2.2.2.2.2.2.2.2.1))
    have k_xG6 : xG6 W := by
      rw [hW]
      exact (uxG6 rfl (uxG6 (sinc_ok rfl _) hI.2.2.2.2.2.2.2.2.2.2.2.2.2.2.2.2.2.2.2.2.1))
    have k_xS1 : xS1 W := by
      rw [hW]
      exact (uxS1 rfl (uxS1 (sinc_ok rfl _) hI.2.2.2.2.2.2.2.2.2.2.2.2.2.2.2.2.2.2.2.2.2.1))
    have k_xS2 : xS2 W := by
      rw [hW]
      exact (uxS2 rfl (uxS2 (sinc_ok rfl _) hI.2.2.2.2.2.2.2.2.2.2.2.2.2.2.2.2.2.2.2.2.2.2.1))
    have k_xS3 : xS3 W := by
      rw [hW]
      exact (uxS3 rfl (uxS3 (sinc_ok rfl _) hI.2.2.2.2.2.2.2.2.2.2.2.2.2.2.2.2.2.2.2.2.2.2.2.1))
    have k_xS4 : xS4 W := by
      rw [hW]
      exact (uxS4 rfl (uxS4 (sinc_ok rfl _) hI.2.2.2.2.2.2.2.2.2.2.2.2.2.2.2.2.2.2.2.2.2.2.2.2.1))
    have k_xS5 : xS5 W := by
      rw [hW]
      exact (uxS5 rfl (uxS5 (sinc_ok rfl _) hI.2.2.2.2.2.2.2.2.2.2.2.2.2.2.2.2.2.2.2.2.2.2.2.2.2.1))
    have k_xS6 : xS6 W := by
      rw [hW]
      exact (uxS6 rfl (uxS6 (sinc_ok rfl _) hI.2.2.2.2.2.2.2.2.2.2.2.2.2.2.2.2.2.2.2.2.2.2.2.2.2.2.1))
    have k_xS7 : xS7 W := by
      rw [hW]
      exact (uxS7 rfl (uxS7 (sinc_ok rfl _) hI.2.2.2.2.2.2.2.2.2.2.2.2.2.2.2.2.2.2.2.2.2.2.2.2.2.2.2.1))
    have k_xS8 : xS8 W := by
      rw [hW]
      exact (uxS8 rfl (uxS8 (sinc_ok rfl _) hI.2.2.2.2.2.2.2.2.2.2.2.2.2.2.2.2.2.2.2.2.2.2.2.2.2.2.2.2.1))
    have k_xS9 : xS9 W := by
      rw [hW]
      exact (uxS9 rfl (uxS9 (sinc_ok rfl _) hI.2.2.2.2.2.2.2.2.2.2.2.2.2.2.2.2.2.2.2.2.2.2.2.2.2.2.2.2.2.1))
    have k_xSA : xSA W := by
      rw [hW]
      exact (uxSA rfl (uxSA (sinc_ok rfl _) hI.2.2.2.2.2.2.2.2.2.2.2.2.2.2.2.2.2.2.2.2.2.2.2.2.2.2.2.2.2.2.1))
    have k_xSG : xSG W := by
      rw [hW]
      exact (uxSG rfl (uxSG (sinc_ok rfl _) hI.2.2.2.2.2.2.2.2.2.2.2.2.2.2.2.2.2.2.2.2.2.2.2.2.2.2.2.2.2.2.2.1))
    have k_xSF : xSF W := by
      rw [hW]
      exact (uxSF rfl (uxSF (sinc_ok rfl _) hI.2.2.2.2.2.2.2.2.2.2.2.2.2.2.2.2.2.2.2.2.2.2.2.2.2.2.2.2.2.2.2.2.1))
    have k_xSB : xSB W := by
      rw [hW]
      exact (uxSB rfl (uxSB (sinc_ok rfl _) hI.2.2.2.2.2.2.2.2.2.2.2.2.2.2.2.2.2.2.2.2.2.2.2.2.2.2.2.2.2.2.2.2.2.1))
    have k_xSC : xSC W := by
      rw [hW]
      exact (uxSC rfl (uxSC (sinc_ok rfl _) hI.2.2.2.2.2.2.2.2.2.2.2.2.2.2.2.2.2.2.2.2.2.2.2.2.2.2.2.2.2.2.2.2.2.2.1))
    have k_xSD : xSD W := by
      rw [hW]
      exact (uxSD rfl (uxSD (sinc_ok rfl _) hI.2.2.2.2.2.2.2.2.2.2.2.2.2.2.2.2.2.2.2.2.2.2.2.2.2.2.2.2.2.2.2.2.2.2.2.1))
    have k_xSE : xSE W := by
      rw [hW]
      exact (uxSE rfl (uxSE (sinc_ok rfl _) hI.2.2.2.2.2.2.2.2.2.2.2.2.2.2.2.2.2.2.2.2.2.2.2.2.2.2.2.2.2.2.2.2.2.2.2.2.1))
    have k_xSW : xSW W := by
      rw [hW]
      exact (uxSW rfl (uxSW (sinc_ok rfl _) hI.2.2.2.2.2.2.2.2.2.2.2.2.2.2.2.2.2.2.2.2.2.2.2.2.2.2.2.2.2.2.2.2.2.2.2.2.2.1))
    have k_xST : xST W := by
      rw [hW]
      exact (uxST rfl (uxST (sinc_ok rfl _) hI.2.2.2.2.2.2.2.2.2.2.2.2.2.2.2.2.2.2.2.2.2.2.2.2.2.2.2.2.2.2.2.2.2.2.2.2.2.2.1))
    have k_xSP : xSP W := by
      rw [hW]
      exact (uxSP rfl (uxSP (sinc_ok rfl _) hI.2.2.2.2.2.2.2.2.2.2.2.2.2.2.2.2.2.2.2.2.2.2.2.2.2.2.2.2.2.2.2.2.2.2.2.2.2.2.2.1))
    have k_xSL : xSL W := by
      rw [hW]
      exact (uxSL rfl (uxSL (sinc_ok rfl _) hI.2.2.2.2.2.2.2.2.2.2.2.2.2.2.2.2.2.2.2.2.2.2.2.2.2.2.2.2.2.2.2.2.2.2.2.2.2.2.2.2.1))
    have k_xSM : xSM W := by
      rw [hW]
      exact (uxSM rfl (uxSM (sinc_ok rfl _) hI.2.2.2.2.2.2.2.2.2.2.2.2.2.2.2.2.2.2.2.2.2.2.2.2.2.2.2.2.2.2.2.2.2.2.2.2.2.2.2.2.2.1))
    have k_xSI : xSI W := by
      rw [hW]
      exact (uxSI rfl (uxSI (sinc_ok rfl _) hI.2.2.2.2.2.2.2.2.2.2.2.2.2.2.2.2.2.2.2.2.2.2.2.2.2.2.2.2.2.2.2.2.2.2.2.2.2.2.2.2.2.2.1))
    have k_xD3 : xD3 W := by
      have r : W 4 100 = 0 := by
        have e := m2
        rw [hW, sU_ne (fun z => by omega), sU_ne (fun z => by omega)]
        omega
      intro h
      rw [r] at h
      exact absurd rfl h
    have k_xDV : xDV W := by
      rw [hW]
      exact (uxDV rfl (uxDV (sinc_ok rfl _) hI.2.2.2.2.2.2.2.2.2.2.2.2.2.2.2.2.2.2.2.2.2.2.2.2.2.2.2.2.2.2.2.2.2.2.2.2.2.2.2.2.2.2.2.2.1))
    have k_xDP : xDP W := by
      have r4_100 : W 4 100 = M 4 100 := by rw [hW, sU_ne (fun z => by omega), sU_ne (fun z => by omega)]
      have r4_303 : W 4 303 = M 4 303 := by rw [hW, sU_ne (fun z => by omega), sU_ne (fun z => by omega)]
      have r4_204 : W 4 204 = M 4 204 := by rw [hW, sU_ne (fun z => by omega), sU_ne (fun z => by omega)]
      have r4_205 : W 4 205 = M 4 205 := by rw [hW, sU_ne (fun z => by omega), sU_ne (fun z => by omega)]
      have r4_206 : W 4 206 = M 4 206 := by rw [hW, sU_ne (fun z => by omega), sU_ne (fun z => by omega)]
      have r4_302 : W 4 302 = M 4 302 := by rw [hW, sU_ne (fun z => by omega), sU_ne (fun z => by omega)]
      have r4_330 : W 4 330 = M 4 330 := by rw [hW, sU_ne (fun z => by omega), sU_ne (fun z => by omega)]
      have r4_331 : W 4 331 = M 4 331 := by rw [hW, sU_ne (fun z => by omega), sU_ne (fun z => by omega)]
      have r4_332 : W 4 332 = M 4 332 := by rw [hW, sU_ne (fun z => by omega), sU_ne (fun z => by omega)]
      have r4_333 : W 4 333 = M 4 333 := by rw [hW, sU_ne (fun z => by omega), sU_ne (fun z => by omega)]
      have r4_334 : W 4 334 = M 4 334 := by rw [hW, sU_ne (fun z => by omega), sU_ne (fun z => by omega)]
      have r4_335 : W 4 335 = 1 * ρ 0 + (1 * ρ 4 + 0) := by rw [hW, sU_at]
      have r4_336 : W 4 336 = M 4 336 := by rw [hW, sU_ne (fun z => by omega), sU_ne (fun z => by omega)]
      have r4_337 : W 4 337 = M 4 337 := by rw [hW, sU_ne (fun z => by omega), sU_ne (fun z => by omega)]
      have r4_338 : W 4 338 = M 4 338 := by rw [hW, sU_ne (fun z => by omega), sU_ne (fun z => by omega)]
      have r4_339 : W 4 339 = M 4 339 := by rw [hW, sU_ne (fun z => by omega), sU_ne (fun z => by omega)]
      have r4_340 : W 4 340 = M 4 340 := by rw [hW, sU_ne (fun z => by omega), sU_ne (fun z => by omega)]
      have r4_341 : W 4 341 = M 4 341 := by rw [hW, sU_ne (fun z => by omega), sU_ne (fun z => by omega)]
      have r4_342 : W 4 342 = M 4 342 := by rw [hW, sU_ne (fun z => by omega), sU_ne (fun z => by omega)]
      have r4_343 : W 4 343 = M 4 343 := by rw [hW, sU_ne (fun z => by omega), sU_ne (fun z => by omega)]
      have r4_344 : W 4 344 = M 4 344 := by rw [hW, sU_ne (fun z => by omega), sU_ne (fun z => by omega)]
      have r13_0 : W 13 0 = M 13 0 := by rw [hW, sU_ne (fun z => by omega), sU_ne (fun z => by omega)]
      have r14_0 : W 14 0 = M 14 0 := by rw [hW, sU_ne (fun z => by omega), sU_ne (fun z => by omega)]
      have r15_0 : W 15 0 = M 15 0 := by rw [hW, sU_ne (fun z => by omega), sU_ne (fun z => by omega)]
      have r16_0 : W 16 0 = M 16 0 := by rw [hW, sU_ne (fun z => by omega), sU_ne (fun z => by omega)]
      have r17_0 : W 17 0 = M 17 0 := by rw [hW, sU_ne (fun z => by omega), sU_ne (fun z => by omega)]
      have r18_0 : W 18 0 = M 18 0 := by rw [hW, sU_ne (fun z => by omega), sU_ne (fun z => by omega)]
      have r19_0 : W 19 0 = M 19 0 := by rw [hW, sU_ne (fun z => by omega), sU_ne (fun z => by omega)]
      have r20_0 : W 20 0 = M 20 0 := by rw [hW, sU_ne (fun z => by omega), sU_ne (fun z => by omega)]
      have r21_0 : W 21 0 = M 21 0 := by rw [hW, sU_ne (fun z => by omega), sU_ne (fun z => by omega)]
      have r22_0 : W 22 0 = M 22 0 := by rw [hW, sU_ne (fun z => by omega), sU_ne (fun z => by omega)]
      have r23_0 : W 23 0 = M 23 0 := by rw [hW, sU_ne (fun z => by omega), sU_ne (fun z => by omega)]
      have r24_0 : W 24 0 = M 24 0 := by rw [hW, sU_ne (fun z => by omega), sU_ne (fun z => by omega)]
      have r25_0 : W 25 0 = M 25 0 := by rw [hW, sU_ne (fun z => by omega), sU_ne (fun z => by omega)]
      have r26_0 : W 26 0 = M 26 0 := by rw [hW, sU_ne (fun z => by omega), sU_ne (fun z => by omega)]
      have r27_0 : W 27 0 = M 27 0 := by rw [hW, sU_ne (fun z => by omega), sU_ne (fun z => by omega)]
      have r13_1 : W 13 1 = M 13 1 := by rw [hW, sU_ne (fun z => by omega), sU_ne (fun z => by omega)]
      have r14_1 : W 14 1 = M 14 1 := by rw [hW, sU_ne (fun z => by omega), sU_ne (fun z => by omega)]
      have r15_1 : W 15 1 = M 15 1 := by rw [hW, sU_ne (fun z => by omega), sU_ne (fun z => by omega)]
      have r16_1 : W 16 1 = M 16 1 := by rw [hW, sU_ne (fun z => by omega), sU_ne (fun z => by omega)]
      have r17_1 : W 17 1 = M 17 1 := by rw [hW, sU_ne (fun z => by omega), sU_ne (fun z => by omega)]
      have r18_1 : W 18 1 = M 18 1 := by rw [hW, sU_ne (fun z => by omega), sU_ne (fun z => by omega)]
      have r19_1 : W 19 1 = M 19 1 := by rw [hW, sU_ne (fun z => by omega), sU_ne (fun z => by omega)]
      have r20_1 : W 20 1 = M 20 1 := by rw [hW, sU_ne (fun z => by omega), sU_ne (fun z => by omega)]
      have r21_1 : W 21 1 = M 21 1 := by rw [hW, sU_ne (fun z => by omega), sU_ne (fun z => by omega)]
      have r22_1 : W 22 1 = M 22 1 := by rw [hW, sU_ne (fun z => by omega), sU_ne (fun z => by omega)]
      have r23_1 : W 23 1 = M 23 1 := by rw [hW, sU_ne (fun z => by omega), sU_ne (fun z => by omega)]
      have r24_1 : W 24 1 = M 24 1 := by rw [hW, sU_ne (fun z => by omega), sU_ne (fun z => by omega)]
      have r25_1 : W 25 1 = M 25 1 := by rw [hW, sU_ne (fun z => by omega), sU_ne (fun z => by omega)]
      have r26_1 : W 26 1 = M 26 1 := by rw [hW, sU_ne (fun z => by omega), sU_ne (fun z => by omega)]
      have r27_1 : W 27 1 = M 27 1 := by rw [hW, sU_ne (fun z => by omega), sU_ne (fun z => by omega)]
      have r13_2 : W 13 2 = M 13 2 := by rw [hW, sU_ne (fun z => by omega), sU_ne (fun z => by omega)]
      have r14_2 : W 14 2 = M 14 2 := by rw [hW, sU_ne (fun z => by omega), sU_ne (fun z => by omega)]
      have r15_2 : W 15 2 = M 15 2 := by rw [hW, sU_ne (fun z => by omega), sU_ne (fun z => by omega)]
      have r16_2 : W 16 2 = M 16 2 := by rw [hW, sU_ne (fun z => by omega), sU_ne (fun z => by omega)]
      have r17_2 : W 17 2 = M 17 2 := by rw [hW, sU_ne (fun z => by omega), sU_ne (fun z => by omega)]
      have r18_2 : W 18 2 = M 18 2 := by rw [hW, sU_ne (fun z => by omega), sU_ne (fun z => by omega)]
      have r19_2 : W 19 2 = M 19 2 := by rw [hW, sU_ne (fun z => by omega), sU_ne (fun z => by omega)]
      have r20_2 : W 20 2 = M 20 2 := by rw [hW, sU_ne (fun z => by omega), sU_ne (fun z => by omega)]
      have r21_2 : W 21 2 = M 21 2 := by rw [hW, sU_ne (fun z => by omega), sU_ne (fun z => by omega)]
      have r22_2 : W 22 2 = M 22 2 := by rw [hW, sU_ne (fun z => by omega), sU_ne (fun z => by omega)]
      have r23_2 : W 23 2 = M 23 2 := by rw [hW, sU_ne (fun z => by omega), sU_ne (fun z => by omega)]
      have r24_2 : W 24 2 = M 24 2 := by rw [hW, sU_ne (fun z => by omega), sU_ne (fun z => by omega)]
      have r25_2 : W 25 2 = M 25 2 := by rw [hW, sU_ne (fun z => by omega), sU_ne (fun z => by omega)]
      have r26_2 : W 26 2 = M 26 2 := by rw [hW, sU_ne (fun z => by omega), sU_ne (fun z => by omega)]
      have r27_2 : W 27 2 = M 27 2 := by rw [hW, sU_ne (fun z => by omega), sU_ne (fun z => by omega)]
      have r13_3 : W 13 3 = M 13 3 := by rw [hW, sU_ne (fun z => by omega), sU_ne (fun z => by omega)]
      have r14_3 : W 14 3 = M 14 3 := by rw [hW, sU_ne (fun z => by omega), sU_ne (fun z => by omega)]
      have r15_3 : W 15 3 = M 15 3 := by rw [hW, sU_ne (fun z => by omega), sU_ne (fun z => by omega)]
      have r16_3 : W 16 3 = M 16 3 := by rw [hW, sU_ne (fun z => by omega), sU_ne (fun z => by omega)]
      have r17_3 : W 17 3 = M 17 3 := by rw [hW, sU_ne (fun z => by omega), sU_ne (fun z => by omega)]
      have r18_3 : W 18 3 = M 18 3 := by rw [hW, sU_ne (fun z => by omega), sU_ne (fun z => by omega)]
      have r19_3 : W 19 3 = M 19 3 := by rw [hW, sU_ne (fun z => by omega), sU_ne (fun z => by omega)]
      have r20_3 : W 20 3 = M 20 3 := by rw [hW, sU_ne (fun z => by omega), sU_ne (fun z => by omega)]
      have r21_3 : W 21 3 = M 21 3 := by rw [hW, sU_ne (fun z => by omega), sU_ne (fun z => by omega)]
      have r22_3 : W 22 3 = M 22 3 := by rw [hW, sU_ne (fun z => by omega), sU_ne (fun z => by omega)]
      have r23_3 : W 23 3 = M 23 3 := by rw [hW, sU_ne (fun z => by omega), sU_ne (fun z => by omega)]
      have r24_3 : W 24 3 = M 24 3 := by rw [hW, sU_ne (fun z => by omega), sU_ne (fun z => by omega)]
      have r25_3 : W 25 3 = M 25 3 := by rw [hW, sU_ne (fun z => by omega), sU_ne (fun z => by omega)]
      have r26_3 : W 26 3 = M 26 3 := by rw [hW, sU_ne (fun z => by omega), sU_ne (fun z => by omega)]
      have r27_3 : W 27 3 = M 27 3 := by rw [hW, sU_ne (fun z => by omega), sU_ne (fun z => by omega)]
      have r13_4 : W 13 4 = M 13 4 := by rw [hW, sU_ne (fun z => by omega), sU_ne (fun z => by omega)]
      have r14_4 : W 14 4 = M 14 4 := by rw [hW, sU_ne (fun z => by omega), sU_ne (fun z => by omega)]
      have r15_4 : W 15 4 = M 15 4 := by rw [hW, sU_ne (fun z => by omega), sU_ne (fun z => by omega)]
      have r16_4 : W 16 4 = M 16 4 := by rw [hW, sU_ne (fun z => by omega), sU_ne (fun z => by omega)]
      have r17_4 : W 17 4 = M 17 4 := by rw [hW, sU_ne (fun z => by omega), sU_ne (fun z => by omega)]
      have r18_4 : W 18 4 = M 18 4 := by rw [hW, sU_ne (fun z => by omega), sU_ne (fun z => by omega)]
      have r19_4 : W 19 4 = M 19 4 := by rw [hW, sU_ne (fun z => by omega), sU_ne (fun z => by omega)]
      have r20_4 : W 20 4 = M 20 4 := by rw [hW, sU_ne (fun z => by omega), sU_ne (fun z => by omega)]
      have r21_4 : W 21 4 = M 21 4 := by rw [hW, sU_ne (fun z => by omega), sU_ne (fun z => by omega)]
      have r13_5 : W 13 5 = M 13 5 := by rw [hW, sU_ne (fun z => by omega), sU_ne (fun z => by omega)]
      have r14_5 : W 14 5 = M 14 5 := by rw [hW, sU_ne (fun z => by omega), sU_ne (fun z => by omega)]
      have r15_5 : W 15 5 = M 15 5 := by rw [hW, sU_ne (fun z => by omega), sU_ne (fun z => by omega)]
      have r16_5 : W 16 5 = M 16 5 := by rw [hW, sU_ne (fun z => by omega), sU_ne (fun z => by omega)]
      have r17_5 : W 17 5 = M 17 5 := by rw [hW, sU_ne (fun z => by omega), sU_ne (fun z => by omega)]
      have r18_5 : W 18 5 = M 18 5 := by rw [hW, sU_ne (fun z => by omega), sU_ne (fun z => by omega)]
      have r19_5 : W 19 5 = M 19 5 := by rw [hW, sU_ne (fun z => by omega), sU_ne (fun z => by omega)]
      have r20_5 : W 20 5 = M 20 5 := by rw [hW, sU_ne (fun z => by omega), sU_ne (fun z => by omega)]
      have r21_5 : W 21 5 = M 21 5 := by rw [hW, sU_ne (fun z => by omega), sU_ne (fun z => by omega)]
      have r2_11 : W 2 11 = M 2 11 := by rw [hW, sU_ne (fun z => by omega), sU_ne (fun z => by omega)]
      have r2_12 : W 2 12 = M 2 12 := by rw [hW, sU_ne (fun z => by omega), sU_ne (fun z => by omega)]
      have r2_13 : W 2 13 = M 2 13 := by rw [hW, sU_ne (fun z => by omega), sU_ne (fun z => by omega)]
      have r2_14 : W 2 14 = M 2 14 := by rw [hW, sU_ne (fun z => by omega), sU_ne (fun z => by omega)]
      have r2_15 : W 2 15 = M 2 15 := by rw [hW, sU_ne (fun z => by omega), sU_ne (fun z => by omega)]
      have r39_0 : W 39 0 = M 39 0 := by rw [hW, sU_ne (fun z => by omega), sU_ne (fun z => by omega)]
      have r40_0 : W 40 0 = M 40 0 := by rw [hW, sU_ne (fun z => by omega), sU_ne (fun z => by omega)]
      have r41_0 : W 41 0 = M 41 0 := by rw [hW, sU_ne (fun z => by omega), sU_ne (fun z => by omega)]
      have r42_0 : W 42 0 = M 42 0 := by rw [hW, sU_ne (fun z => by omega), sU_ne (fun z => by omega)]
      have r43_0 : W 43 0 = M 43 0 := by rw [hW, sU_ne (fun z => by omega), sU_ne (fun z => by omega)]
      have r44_0 : W 44 0 = M 44 0 := by rw [hW, sU_ne (fun z => by omega), sU_ne (fun z => by omega)]
      have r45_0 : W 45 0 = M 45 0 := by rw [hW, sU_ne (fun z => by omega), sU_ne (fun z => by omega)]
      have r46_0 : W 46 0 = M 46 0 := by rw [hW, sU_ne (fun z => by omega), sU_ne (fun z => by omega)]
      have r47_0 : W 47 0 = M 47 0 := by rw [hW, sU_ne (fun z => by omega), sU_ne (fun z => by omega)]
      have r48_0 : W 48 0 = M 48 0 := by rw [hW, sU_ne (fun z => by omega), sU_ne (fun z => by omega)]
      have r49_0 : W 49 0 = M 49 0 := by rw [hW, sU_ne (fun z => by omega), sU_ne (fun z => by omega)]
      have r50_0 : W 50 0 = M 50 0 := by rw [hW, sU_ne (fun z => by omega), sU_ne (fun z => by omega)]
      have r51_0 : W 51 0 = M 51 0 := by rw [hW, sU_ne (fun z => by omega), sU_ne (fun z => by omega)]
      have r52_0 : W 52 0 = M 52 0 := by rw [hW, sU_ne (fun z => by omega), sU_ne (fun z => by omega)]
      have r53_0 : W 53 0 = M 53 0 := by rw [hW, sU_ne (fun z => by omega), sU_ne (fun z => by omega)]
      have r39_1 : W 39 1 = M 39 1 := by rw [hW, sU_ne (fun z => by omega), sU_ne (fun z => by omega)]
      have r40_1 : W 40 1 = M 40 1 := by rw [hW, sU_ne (fun z => by omega), sU_ne (fun z => by omega)]
      have r41_1 : W 41 1 = M 41 1 := by rw [hW, sU_ne (fun z => by omega), sU_ne (fun z => by omega)]
      have r42_1 : W 42 1 = M 42 1 := by rw [hW, sU_ne (fun z => by omega), sU_ne (fun z => by omega)]
      have r43_1 : W 43 1 = M 43 1 := by rw [hW, sU_ne (fun z => by omega), sU_ne (fun z => by omega)]
      have r44_1 : W 44 1 = M 44 1 := by rw [hW, sU_ne (fun z => by omega), sU_ne (fun z => by omega)]
      have r45_1 : W 45 1 = M 45 1 := by rw [hW, sU_ne (fun z => by omega), sU_ne (fun z => by omega)]
      have r46_1 : W 46 1 = M 46 1 := by rw [hW, sU_ne (fun z => by omega), sU_ne (fun z => by omega)]
      have r47_1 : W 47 1 = M 47 1 := by rw [hW, sU_ne (fun z => by omega), sU_ne (fun z => by omega)]
      have r48_1 : W 48 1 = M 48 1 := by rw [hW, sU_ne (fun z => by omega), sU_ne (fun z => by omega)]
      have r49_1 : W 49 1 = M 49 1 := by rw [hW, sU_ne (fun z => by omega), sU_ne (fun z => by omega)]
      have r50_1 : W 50 1 = M 50 1 := by rw [hW, sU_ne (fun z => by omega), sU_ne (fun z => by omega)]
      have r51_1 : W 51 1 = M 51 1 := by rw [hW, sU_ne (fun z => by omega), sU_ne (fun z => by omega)]
      have r52_1 : W 52 1 = M 52 1 := by rw [hW, sU_ne (fun z => by omega), sU_ne (fun z => by omega)]
      have r53_1 : W 53 1 = M 53 1 := by rw [hW, sU_ne (fun z => by omega), sU_ne (fun z => by omega)]
      have r39_2 : W 39 2 = M 39 2 := by rw [hW, sU_ne (fun z => by omega), sU_ne (fun z => by omega)]
      have r40_2 : W 40 2 = M 40 2 := by rw [hW, sU_ne (fun z => by omega), sU_ne (fun z => by omega)]
      have r41_2 : W 41 2 = M 41 2 := by rw [hW, sU_ne (fun z => by omega), sU_ne (fun z => by omega)]
      have r42_2 : W 42 2 = M 42 2 := by rw [hW, sU_ne (fun z => by omega), sU_ne (fun z => by omega)]
      have r43_2 : W 43 2 = M 43 2 := by rw [hW, sU_ne (fun z => by omega), sU_ne (fun z => by omega)]
      have r44_2 : W 44 2 = M 44 2 := by rw [hW, sU_ne (fun z => by omega), sU_ne (fun z => by omega)]
      have r45_2 : W 45 2 = M 45 2 := by rw [hW, sU_ne (fun z => by omega), sU_ne (fun z => by omega)]
      have r46_2 : W 46 2 = M 46 2 := by rw [hW, sU_ne (fun z => by omega), sU_ne (fun z => by omega)]
      have r47_2 : W 47 2 = M 47 2 := by rw [hW, sU_ne (fun z => by omega), sU_ne (fun z => by omega)]
      have r48_2 : W 48 2 = M 48 2 := by rw [hW, sU_ne (fun z => by omega), sU_ne (fun z => by omega)]
      have r49_2 : W 49 2 = M 49 2 := by rw [hW, sU_ne (fun z => by omega), sU_ne (fun z => by omega)]
      have r50_2 : W 50 2 = M 50 2 := by rw [hW, sU_ne (fun z => by omega), sU_ne (fun z => by omega)]
      have r51_2 : W 51 2 = M 51 2 := by rw [hW, sU_ne (fun z => by omega), sU_ne (fun z => by omega)]
      have r52_2 : W 52 2 = M 52 2 := by rw [hW, sU_ne (fun z => by omega), sU_ne (fun z => by omega)]
      have r53_2 : W 53 2 = M 53 2 := by rw [hW, sU_ne (fun z => by omega), sU_ne (fun z => by omega)]
      have r39_3 : W 39 3 = M 39 3 := by rw [hW, sU_ne (fun z => by omega), sU_ne (fun z => by omega)]
      have r40_3 : W 40 3 = M 40 3 := by rw [hW, sU_ne (fun z => by omega), sU_ne (fun z => by omega)]
      have r41_3 : W 41 3 = M 41 3 := by rw [hW, sU_ne (fun z => by omega), sU_ne (fun z => by omega)]
      have r42_3 : W 42 3 = M 42 3 := by rw [hW, sU_ne (fun z => by omega), sU_ne (fun z => by omega)]
      have r43_3 : W 43 3 = M 43 3 := by rw [hW, sU_ne (fun z => by omega), sU_ne (fun z => by omega)]
      have r44_3 : W 44 3 = M 44 3 := by rw [hW, sU_ne (fun z => by omega), sU_ne (fun z => by omega)]
      have r45_3 : W 45 3 = M 45 3 := by rw [hW, sU_ne (fun z => by omega), sU_ne (fun z => by omega)]
      have r46_3 : W 46 3 = M 46 3 := by rw [hW, sU_ne (fun z => by omega), sU_ne (fun z => by omega)]
      have r47_3 : W 47 3 = M 47 3 := by rw [hW, sU_ne (fun z => by omega), sU_ne (fun z => by omega)]
      have r48_3 : W 48 3 = M 48 3 := by rw [hW, sU_ne (fun z => by omega), sU_ne (fun z => by omega)]
      have r49_3 : W 49 3 = M 49 3 := by rw [hW, sU_ne (fun z => by omega), sU_ne (fun z => by omega)]
      have r50_3 : W 50 3 = M 50 3 := by rw [hW, sU_ne (fun z => by omega), sU_ne (fun z => by omega)]
      have r51_3 : W 51 3 = M 51 3 := by rw [hW, sU_ne (fun z => by omega), sU_ne (fun z => by omega)]
      have r52_3 : W 52 3 = M 52 3 := by rw [hW, sU_ne (fun z => by omega), sU_ne (fun z => by omega)]
      have r53_3 : W 53 3 = M 53 3 := by rw [hW, sU_ne (fun z => by omega), sU_ne (fun z => by omega)]
      have r39_4 : W 39 4 = M 39 4 := by rw [hW, sU_ne (fun z => by omega), sU_ne (fun z => by omega)]
      have r40_4 : W 40 4 = M 40 4 := by rw [hW, sU_ne (fun z => by omega), sU_ne (fun z => by omega)]
      have r41_4 : W 41 4 = M 41 4 := by rw [hW, sU_ne (fun z => by omega), sU_ne (fun z => by omega)]
      have r42_4 : W 42 4 = M 42 4 := by rw [hW, sU_ne (fun z => by omega), sU_ne (fun z => by omega)]
      have r43_4 : W 43 4 = M 43 4 := by rw [hW, sU_ne (fun z => by omega), sU_ne (fun z => by omega)]
      have r44_4 : W 44 4 = M 44 4 := by rw [hW, sU_ne (fun z => by omega), sU_ne (fun z => by omega)]
      have r45_4 : W 45 4 = M 45 4 := by rw [hW, sU_ne (fun z => by omega), sU_ne (fun z => by omega)]
      have r46_4 : W 46 4 = M 46 4 := by rw [hW, sU_ne (fun z => by omega), sU_ne (fun z => by omega)]
      have r47_4 : W 47 4 = M 47 4 := by rw [hW, sU_ne (fun z => by omega), sU_ne (fun z => by omega)]
      have r39_5 : W 39 5 = M 39 5 := by rw [hW, sU_ne (fun z => by omega), sU_ne (fun z => by omega)]
      have r40_5 : W 40 5 = M 40 5 := by rw [hW, sU_ne (fun z => by omega), sU_ne (fun z => by omega)]
      have r41_5 : W 41 5 = M 41 5 := by rw [hW, sU_ne (fun z => by omega), sU_ne (fun z => by omega)]
      have r42_5 : W 42 5 = M 42 5 := by rw [hW, sU_ne (fun z => by omega), sU_ne (fun z => by omega)]
      have r43_5 : W 43 5 = M 43 5 := by rw [hW, sU_ne (fun z => by omega), sU_ne (fun z => by omega)]
      have r44_5 : W 44 5 = M 44 5 := by rw [hW, sU_ne (fun z => by omega), sU_ne (fun z => by omega)]
      have r45_5 : W 45 5 = M 45 5 := by rw [hW, sU_ne (fun z => by omega), sU_ne (fun z => by omega)]
      have r46_5 : W 46 5 = M 46 5 := by rw [hW, sU_ne (fun z => by omega), sU_ne (fun z => by omega)]
      have r47_5 : W 47 5 = M 47 5 := by rw [hW, sU_ne (fun z => by omega), sU_ne (fun z => by omega)]
      have r28_11 : W 28 11 = M 28 11 := by rw [hW, sU_ne (fun z => by omega), sU_ne (fun z => by omega)]
      have r28_12 : W 28 12 = M 28 12 := by rw [hW, sU_ne (fun z => by omega), sU_ne (fun z => by omega)]
      have r28_13 : W 28 13 = M 28 13 := by rw [hW, sU_ne (fun z => by omega), sU_ne (fun z => by omega)]
      have r28_14 : W 28 14 = M 28 14 := by rw [hW, sU_ne (fun z => by omega), sU_ne (fun z => by omega)]
      have r28_15 : W 28 15 = M 28 15 := by rw [hW, sU_ne (fun z => by omega), sU_ne (fun z => by omega)]
      have c5 : ∀ k, W 5 k = M 5 k := fun k => by rw [hW, sU_ne (fun z => by omega), sU_ne (fun z => by omega)]
      have e5 : W 5 = M 5 := funext c5
      have c6 : ∀ k, W 6 k = M 6 k := fun k => by rw [hW, sU_ne (fun z => by omega), sU_ne (fun z => by omega)]
      have e6 : W 6 = M 6 := funext c6
      have c7 : ∀ k, W 7 k = M 7 k := fun k => by rw [hW, sU_ne (fun z => by omega), sU_ne (fun z => by omega)]
      have e7 : W 7 = M 7 := funext c7
      have c8 : ∀ k, W 8 k = M 8 k := fun k => by rw [hW, sU_ne (fun z => by omega), sU_ne (fun z => by omega)]
      have e8 : W 8 = M 8 := funext c8
      have c31 : ∀ k, W 31 k = M 31 k := fun k => by rw [hW, sU_ne (fun z => by omega), sU_ne (fun z => by omega)]
      have e31 : W 31 = M 31 := funext c31
      have c32 : ∀ k, W 32 k = M 32 k := fun k => by rw [hW, sU_ne (fun z => by omega), sU_ne (fun z => by omega)]
      have e32 : W 32 = M 32 := funext c32
      have c33 : ∀ k, W 33 k = M 33 k := fun k => by rw [hW, sU_ne (fun z => by omega), sU_ne (fun z => by omega)]
      have e33 : W 33 = M 33 := funext c33
      have c34 : ∀ k, W 34 k = M 34 k := fun k => by rw [hW, sU_ne (fun z => by omega), sU_ne (fun z => by omega)]
      have e34 : W 34 = M 34 := funext c34
      have c93 : ∀ k, W 93 k = M 93 k := fun k => by rw [hW, sU_ne (fun z => by omega), sU_ne (fun z => by omega)]
      have e93 : W 93 = M 93 := funext c93
      have c94 : ∀ k, W 94 k = M 94 k := fun k => by rw [hW, sU_ne (fun z => by omega), sU_ne (fun z => by omega)]
      have e94 : W 94 = M 94 := funext c94
      have c95 : ∀ k, W 95 k = M 95 k := fun k => by rw [hW, sU_ne (fun z => by omega), sU_ne (fun z => by omega)]
      have e95 : W 95 = M 95 := funext c95
      have c96 : ∀ k, W 96 k = M 96 k := fun k => by rw [hW, sU_ne (fun z => by omega), sU_ne (fun z => by omega)]
      have e96 : W 96 = M 96 := funext c96
      have c97 : ∀ k, W 97 k = M 97 k := fun k => by rw [hW, sU_ne (fun z => by omega), sU_ne (fun z => by omega)]
      have e97 : W 97 = M 97 := funext c97
      have c98 : ∀ k : Nat, k ≠ (1 * ρ 1 + 0).toNat → W 98 k = M 98 k := fun k hk => by rw [hW, sU_ne (fun z => by omega), sU_ne (fun z => by omega)]
      have a98 : W 98 (1 * ρ 1 + 0).toNat = 1 * ρ 3 + 0 := by rw [hW, sU_ne (fun z => by omega), sU_at]
      have c99 : ∀ k, W 99 k = M 99 k := fun k => by rw [hW, sU_ne (fun z => by omega), sU_ne (fun z => by omega)]
      have e99 : W 99 = M 99 := funext c99
      have c100 : ∀ k, W 100 k = M 100 k := fun k => by rw [hW, sU_ne (fun z => by omega), sU_ne (fun z => by omega)]
      have e100 : W 100 = M 100 := funext c100
      have c101 : ∀ k, W 101 k = M 101 k := fun k => by rw [hW, sU_ne (fun z => by omega), sU_ne (fun z => by omega)]
      have e101 : W 101 = M 101 := funext c101
      have c102 : ∀ k, W 102 k = M 102 k := fun k => by rw [hW, sU_ne (fun z => by omega), sU_ne (fun z => by omega)]
      have e102 : W 102 = M 102 := funext c102
      have c103 : ∀ k, W 103 k = M 103 k := fun k => by rw [hW, sU_ne (fun z => by omega), sU_ne (fun z => by omega)]
      have e103 : W 103 = M 103 := funext c103
      have c104 : ∀ k, W 104 k = M 104 k := fun k => by rw [hW, sU_ne (fun z => by omega), sU_ne (fun z => by omega)]
      have e104 : W 104 = M 104 := funext c104
      have c105 : ∀ k, W 105 k = M 105 k := fun k => by rw [hW, sU_ne (fun z => by omega), sU_ne (fun z => by omega)]
      have e105 : W 105 = M 105 := funext c105
      have c106 : ∀ k, W 106 k = M 106 k := fun k => by rw [hW, sU_ne (fun z => by omega), sU_ne (fun z => by omega)]
      have e106 : W 106 = M 106 := funext c106
      have c107 : ∀ k, W 107 k = M 107 k := fun k => by rw [hW, sU_ne (fun z => by omega), sU_ne (fun z => by omega)]
      have e107 : W 107 = M 107 := funext c107
      have hw : ∀ o k, 93 ≤ o → o ≤ 107 → ¬ (o = 98 ∧ k = (1 * ρ 1 + 0).toNat) → W o k = M o k := fun o k h1 h2 h3 => by rw [hW, sU_ne (fun z => by omega), sU_ne h3]
      have hx : ∀ o k, o ≠ 4 → o ≠ 91 → ¬ (o = 98 ∧ k = (1 * ρ 1 + 0).toNat) → W o k = M o k := fun o k h1 h2 h3 => by rw [hW, sU_ne (fun z => by omega), sU_ne h3]
      have e4 : ∀ k, (204 ≤ k ∧ k ≤ 206) ∨ k = 302 → W 4 k = M 4 k := fun k hk => by rw [hW, sU_ne (fun z => by omega), sU_ne (fun z => by omega)]
      have e5 : ∀ b, b < 15 → b ≠ 5 → W 4 (330 + b) = M 4 (330 + b) := fun b hb hn => by rw [hW, sU_ne (fun z => by omega), sU_ne (fun z => by omega)]
      have hv : W 98 (1 * ρ 1 + 0).toNat = M 98 (9 + (1 * ρ 1 + 0).toNat) := by rw [a98]; rw [show 9 + (1 * ρ 1 + 0).toNat = (ρ 2).toNat by omega]; omega
      exact dp_cp (a := 5) (x := (1 * ρ 1 + 0).toNat) (by decide) (by show (1 * ρ 1 + 0).toNat < 9; omega) (gx_xDP hI) (by omega) (by omega) e4 (fun o k h1 h2 h3 => hx o k h1 h2 (fun z => h3 ⟨by omega, z.2⟩)) hv (by show W 4 335 = _; rw [r4_335]; (try rw [h0]); omega) (by show M 4 335 = _; omega) e5
    have k_xDE : xDE W := by
      have r : W 4 301 = 0 := by
        have e := m4
        rw [hW, sU_ne (fun z => by omega), sU_ne (fun z => by omega)]
        omega
      intro h
      rw [r] at h
      omega
    have k_xQ5 : xQ5 W := by
      rw [hW]
      exact (uxQ5 rfl (uxQ5 (sinc_ok rfl _) hI.2.2.2.2.2.2.2.2.2.2.2.2.2.2.2.2.2.2.2.2.2.2.2.2.2.2.2.2.2.2.2.2.2.2.2.2.2.2.2.2.2.2.2.2.2.2.2.1))
    have k_xQL : xQL W := by
      rw [hW]
      exact (uxQL rfl (uxQL (sinc_ok rfl _) hI.2.2.2.2.2.2.2.2.2.2.2.2.2.2.2.2.2.2.2.2.2.2.2.2.2.2.2.2.2.2.2.2.2.2.2.2.2.2.2.2.2.2.2.2.2.2.2.2.1))
    have k_xQW : xQW W := by
      rw [hW]
      exact (uxQW rfl (uxQW (sinc_ok rfl _) hI.2.2.2.2.2.2.2.2.2.2.2.2.2.2.2.2.2.2.2.2.2.2.2.2.2.2.2.2.2.2.2.2.2.2.2.2.2.2.2.2.2.2.2.2.2.2.2.2.2.1))
    have k_xQM : xQM W := by
      rw [hW]
      exact (uxQM rfl (uxQM (sinc_ok rfl _) hI.2.2.2.2.2.2.2.2.2.2.2.2.2.2.2.2.2.2.2.2.2.2.2.2.2.2.2.2.2.2.2.2.2.2.2.2.2.2.2.2.2.2.2.2.2.2.2.2.2.2.1))
    have k_xQH : xQH W := by
      rw [hW]
      exact (uxQH rfl (uxQH (sinc_ok rfl _) hI.2.2.2.2.2.2.2.2.2.2.2.2.2.2.2.2.2.2.2.2.2.2.2.2.2.2.2.2.2.2.2.2.2.2.2.2.2.2.2.2.2.2.2.2.2.2.2.2.2.2.2))
    have k_XC : XC W := ⟨k_xS1, k_xS2, k_xS3, k_xS4, k_xS5, k_xS6, k_xS7, k_xS8, k_xS9, k_xSA, k_xSG, k_xSF, k_xSB, k_xSC, k_xSD, k_xSE, k_xSW, k_xST, k_xSP, k_xSL, k_xSM, k_xSI, k_xD3, k_xDV, k_xDP, k_xDE, k_xQ5, k_xQL, k_xQW, k_xQM, k_xQH⟩
    have kXB : XB W := ⟨k_xN1, k_xN2, k_xN3, k_xN4, k_xN5, k_xN6, k_xH1, k_xK1, k_xC1, k_xRW, k_xWT, k_xCU, k_xG2, k_xG3, k_xG4, k_xG5, k_xG6, k_XC⟩
    exact ⟨base, k2, k3, kXA, kXB⟩
