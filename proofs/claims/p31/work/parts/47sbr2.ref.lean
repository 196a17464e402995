/-! RULES OF THE REFERENCE (wip/p3/xsf.py). -/
-- rt7
def xr_541 : qRu := (11, [[(1, 1), (-1, 2), (-32, 3), (-64, 4), (-128, 5), (-256, 6), (-512, 7), (-1024, 8), (-65536, 9), (-131072, 10)], [(-1, 1), (1, 2), (32, 3), (64, 4), (128, 5), (256, 6), (512, 7), (1024, 8), (65536, 9), (131072, 10)], [(1, 2)], [(31, 0), (-1, 2)], [(1, 8)], [(63, 0), (-1, 8)], [(1, 3)], [(1, 0), (-1, 3)], [(1, 4)], [(1, 0), (-1, 4)], [(1, 5)], [(1, 0), (-1, 5)], [(1, 6)], [(1, 0), (-1, 6)], [(1, 7)], [(1, 0), (-1, 7)], [(1, 9)], [(1, 0), (-1, 9)], [(1, 10)], [(1, 0), (-1, 10)]], [], [], [(91, 249, [(1, 0)]), (91, 250, [(1, 1)]), (91, 251, [(7, 0)]), (91, 252, [(1, 11)]), (91, 253, [(1, 5)]), (91, 255, []), (91, 256, [(1, 12)]), (91, 257, [(1, 13)]), (91, 240, [(1, 0)]), (91, 241, [(1, 0)]), (91, 242, [(7, 0)]), (91, 243, [(128, 0)]), (91, 245, []), (91, 246, [(1, 1)]), (91, 244, [(128, 0), (1, 1), (-128, 5)]), (91, 247, [(128, 0)])], [])
theorem xo_541 : qRok xr_541 := by
  intro ρ M h0 hf hm hI
  have f0 := hf [(1, 1), (-1, 2), (-32, 3), (-64, 4), (-128, 5), (-256, 6), (-512, 7), (-1024, 8), (-65536, 9), (-131072, 10)] (by decide)
  have f1 := hf [(-1, 1), (1, 2), (32, 3), (64, 4), (128, 5), (256, 6), (512, 7), (1024, 8), (65536, 9), (131072, 10)] (by decide)
  have f2 := hf [(1, 2)] (by decide)
  have f3 := hf [(31, 0), (-1, 2)] (by decide)
  have f4 := hf [(1, 8)] (by decide)
  have f5 := hf [(63, 0), (-1, 8)] (by decide)
  have f6 := hf [(1, 3)] (by decide)
  have f7 := hf [(1, 0), (-1, 3)] (by decide)
  have f8 := hf [(1, 4)] (by decide)
  have f9 := hf [(1, 0), (-1, 4)] (by decide)
  have f10 := hf [(1, 5)] (by decide)
  have f11 := hf [(1, 0), (-1, 5)] (by decide)
  have f12 := hf [(1, 6)] (by decide)
  have f13 := hf [(1, 0), (-1, 6)] (by decide)
  have f14 := hf [(1, 7)] (by decide)
  have f15 := hf [(1, 0), (-1, 7)] (by decide)
  have f16 := hf [(1, 9)] (by decide)
  have f17 := hf [(1, 0), (-1, 9)] (by decide)
  have f18 := hf [(1, 10)] (by decide)
  have f19 := hf [(1, 0), (-1, 10)] (by decide)
  simp only [qD, h0] at f0 f1 f2 f3 f4 f5 f6 f7 f8 f9 f10 f11 f12 f13 f14 f15 f16 f17 f18 f19
  have qxSD := hI.2.2.2.2.2.2.2.2.2.2.2.2.2.2.2.2.2.2.2.2.2.2.2.2.2.2.2.2.2.2.2.2.2.2.2.1
  have qxSE := hI.2.2.2.2.2.2.2.2.2.2.2.2.2.2.2.2.2.2.2.2.2.2.2.2.2.2.2.2.2.2.2.2.2.2.2.2.1
  have xb := xbit7 (t := ρ 1) (b := ρ 5) (h := 1 * ρ 6 + 2 * ρ 7 + 4 * ρ 8 + 256 * ρ 9 + 512 * ρ 10) (l := 1 * ρ 2 + 32 * ρ 3 + 64 * ρ 4) (by omega) (by omega) (by omega) (by omega) (by omega)
  refine ⟨fun a => cond (Nat.blt a 11) (ρ a) (([xop 0 (ρ 1) 7, xop 1 0 128, xop 1 (xop 0 (ρ 1) 7) 255] : List Int).getD (a - 11) 0), fun a ha => ?_, fun f h => ?_, ?_⟩
  · show cond (Nat.blt a 11) (ρ a) _ = ρ a
    rw [show Nat.blt a 11 = true from Nat.ble_eq_true_of_le ha]; rfl
  · exact nomatch h
  · show sI (sU (sU (sU (sU (sU (sU (sU (sU (sU (sU (sU (sU (sU (sU (sU (sU M 91 249 (1 * ρ 0 + 0)) 91 250 (1 * ρ 1 + 0)) 91 251 (7 * ρ 0 + 0)) 91 252 (1 * (xop 0 (ρ 1) 7) + 0)) 91 253 (1 * ρ 5 + 0)) 91 255 (0)) 91 256 (1 * (xop 1 0 128) + 0)) 91 257 (1 * (xop 1 (xop 0 (ρ 1) 7) 255) + 0)) 91 240 (1 * ρ 0 + 0)) 91 241 (1 * ρ 0 + 0)) 91 242 (7 * ρ 0 + 0)) 91 243 (128 * ρ 0 + 0)) 91 245 (0)) 91 246 (1 * ρ 1 + 0)) 91 244 (128 * ρ 0 + (1 * ρ 1 + (-128 * ρ 5 + 0)))) 91 247 (128 * ρ 0 + 0))
    obtain ⟨W, hW⟩ : ∃ W, W = (sU (sU (sU (sU (sU (sU (sU (sU (sU (sU (sU (sU (sU (sU (sU (sU M 91 249 (1 * ρ 0 + 0)) 91 250 (1 * ρ 1 + 0)) 91 251 (7 * ρ 0 + 0)) 91 252 (1 * (xop 0 (ρ 1) 7) + 0)) 91 253 (1 * ρ 5 + 0)) 91 255 (0)) 91 256 (1 * (xop 1 0 128) + 0)) 91 257 (1 * (xop 1 (xop 0 (ρ 1) 7) 255) + 0)) 91 240 (1 * ρ 0 + 0)) 91 241 (1 * ρ 0 + 0)) 91 242 (7 * ρ 0 + 0)) 91 243 (128 * ρ 0 + 0)) 91 245 (0)) 91 246 (1 * ρ 1 + 0)) 91 244 (128 * ρ 0 + (1 * ρ 1 + (-128 * ρ 5 + 0)))) 91 247 (128 * ρ 0 + 0)) := ⟨_, rfl⟩
    rw [← hW]
    have base : sI0 W := by
      rw [hW]
      exact (si_u0 (si_u0 (si_u0 (si_u0 (si_u0 (si_u0 (si_u0 (si_u0 (si_u0 (si_u0 (si_u0 (si_u0 (si_u0 (si_u0 (si_u0 (si_u0 hI.1 (fun r hr => by cases hr)) (fun r hr => by cases hr)) (fun r hr => by cases hr)) (fun r hr => by cases hr)) (fun r hr => by cases hr)) (fun r hr => by cases hr)) (fun r hr => by cases hr)) (fun r hr => by cases hr)) (fun r hr => by cases hr)) (fun r hr => by cases hr)) (fun r hr => by cases hr)) (fun r hr => by cases hr)) (fun r hr => by cases hr)) (fun r hr => by cases hr)) (fun r hr => by cases hr)) (fun r hr => by cases hr))
    have k2 : XI2 W := by
      rw [hW]
      exact (xi2_u rfl (xi2_u rfl (xi2_u rfl (xi2_u rfl (xi2_u rfl (xi2_u rfl (xi2_u rfl (xi2_u rfl (xi2_u rfl (xi2_u rfl (xi2_u rfl (xi2_u rfl (xi2_u rfl (xi2_u rfl (xi2_u rfl (xi2_u rfl hI.2.1))))))))))))))))
    have k3 : XI3 W := by
      rw [hW]
      exact (xi3_u rfl (xi3_u rfl (xi3_u rfl (xi3_u rfl (xi3_u rfl (xi3_u rfl (xi3_u rfl (xi3_u rfl (xi3_u rfl (xi3_u rfl (xi3_u rfl (xi3_u rfl (xi3_u rfl (xi3_u rfl (xi3_u rfl (xi3_u rfl hI.2.2.1))))))))))))))))
    have kXA : XA W := by
      rw [hW]
      exact (uXA rfl (uXA rfl (uXA rfl (uXA rfl (uXA rfl (uXA rfl (uXA rfl (uXA rfl (uXA rfl (uXA rfl (uXA rfl (uXA rfl (uXA rfl (uXA rfl (uXA rfl (uXA rfl hI.2.2.2.1))))))))))))))))
    have k_xN1 : xN1 W := by
      rw [hW]
      exact (uxN1 rfl (uxN1 rfl (uxN1 rfl (uxN1 rfl (uxN1 rfl (uxN1 rfl (uxN1 rfl (uxN1 rfl (uxN1 rfl (uxN1 rfl (uxN1 rfl (uxN1 rfl (uxN1 rfl (uxN1 rfl (uxN1 rfl (uxN1 rfl hI.2.2.2.2.1))))))))))))))))
    have k_xN2 : xN2 W := by
      rw [hW]
      exact (uxN2 rfl (uxN2 rfl (uxN2 rfl (uxN2 rfl (uxN2 rfl (uxN2 rfl (uxN2 rfl (uxN2 rfl (uxN2 rfl (uxN2 rfl (uxN2 rfl (uxN2 rfl (uxN2 rfl (uxN2 rfl (uxN2 rfl (uxN2 rfl hI.2.2.2.2.2.1))))))))))))))))
    have k_xN3 : xN3 W := by
      rw [hW]
      exact (uxN3 rfl (uxN3 rfl (uxN3 rfl (uxN3 rfl (uxN3 rfl (uxN3 rfl (uxN3 rfl (uxN3 rfl (uxN3 rfl (uxN3 rfl (uxN3 rfl (uxN3 rfl (uxN3 rfl (uxN3 rfl (uxN3 rfl (uxN3 rfl hI.2.2.2.2.2.2.1))))))))))))))))
    have k_xN4 : xN4 W := by
      rw [hW]
      exact (uxN4 rfl (uxN4 rfl (uxN4 rfl (uxN4 rfl (uxN4 rfl (uxN4 rfl (uxN4 rfl (uxN4 rfl (uxN4 rfl (uxN4 rfl (uxN4 rfl (uxN4 rfl (uxN4 rfl (uxN4 rfl (uxN4 rfl (uxN4 rfl hI.2.2.2.2.2.2.2.1))))))))))))))))
    have k_xN5 : xN5 W := by
      rw [hW]
      exact (uxN5 rfl (uxN5 rfl (uxN5 rfl (uxN5 rfl (uxN5 rfl (uxN5 rfl (uxN5 rfl (uxN5 rfl (uxN5 rfl (uxN5 rfl (uxN5 rfl (uxN5 rfl (uxN5 rfl (uxN5 rfl (uxN5 rfl (uxN5 rfl hI.2.2.2.2.2.2.2.2.1))))))))))))))))
    have k_xN6 : xN6 W := by
      rw [hW]
      exact (uxN6 rfl (uxN6 rfl (uxN6 rfl (uxN6 rfl (uxN6 rfl (uxN6 rfl (uxN6 rfl (uxN6 rfl (uxN6 rfl (uxN6 rfl (uxN6 rfl (uxN6 rfl (uxN6 rfl (uxN6 rfl (uxN6 rfl (uxN6 rfl hI.2.2.2.2.2.2.2.2.2.1))))))))))))))))
    have k_xH1 : xH1 W := by
      rw [hW]
      exact (uxH1 rfl (uxH1 rfl (uxH1 rfl (uxH1 rfl (uxH1 rfl (uxH1 rfl (uxH1 rfl (uxH1 rfl (uxH1 rfl (uxH1 rfl (uxH1 rfl (uxH1 rfl (uxH1 rfl (uxH1 rfl (uxH1 rfl (uxH1 rfl hI.2.2.2.2.2.2.2.2.2.2.1))))))))))))))))
    have k_xK1 : xK1 W := by
      rw [hW]
      exact (uxK1 rfl (uxK1 rfl (uxK1 rfl (uxK1 rfl (uxK1 rfl (uxK1 rfl (uxK1 rfl (uxK1 rfl (uxK1 rfl (uxK1 rfl (uxK1 rfl (uxK1 rfl (uxK1 rfl (uxK1 rfl (uxK1 rfl (uxK1 rfl hI.2.2.2.2.2.2.2.2.2.2.2.1))))))))))))))))
    have k_xC1 : xC1 W := by
      rw [hW]
      exact (uxC1 rfl (uxC1 rfl (uxC1 rfl (uxC1 rfl (uxC1 rfl (uxC1 rfl (uxC1 rfl (uxC1 rfl (uxC1 rfl (uxC1 rfl (uxC1 rfl (uxC1 rfl (uxC1 rfl (uxC1 rfl (uxC1 rfl (uxC1 rfl hI.2.2.2.2.2.2.2.2.2.2.2.2.1))))))))))))))))
    have k_xRW : xRW W := by
      rw [hW]
      exact (uxRW rfl (uxRW rfl (uxRW rfl (uxRW rfl (uxRW rfl (uxRW rfl (uxRW rfl (uxRW rfl (uxRW rfl (uxRW rfl (uxRW rfl (uxRW rfl (uxRW rfl (uxRW rfl (uxRW rfl (uxRW rfl hI.2.2.2.2.2.2.2.2.2.2.2.2.2.1))))))))))))))))
    have k_xWT : xWT W := by
      rw [hW]
      exact (uxWT rfl (uxWT rfl (uxWT rfl (uxWT rfl (uxWT rfl (uxWT rfl (uxWT rfl (uxWT rfl (uxWT rfl (uxWT rfl (uxWT rfl (uxWT rfl (uxWT rfl (uxWT rfl (uxWT rfl (uxWT rfl hI.2.2.2.2.2.2.2.2.2.2.2.2.2.2.1))))))))))))))))
    have k_xCU : xCU W := by
      rw [hW]
      exact (uxCU rfl (uxCU rfl (uxCU rfl (uxCU rfl (uxCU rfl (uxCU rfl (uxCU rfl (uxCU rfl (uxCU rfl (uxCU rfl (uxCU rfl (uxCU rfl (uxCU rfl (uxCU rfl (uxCU rfl (uxCU rfl hI.2.2.2.2.2.2.2.2.2.2.2.2.2.2.2.1))))))))))))))))
    have k_xG2 : xG2 W := by
      rw [hW]
      exact (uxG2 rfl (uxG2 rfl (uxG2 rfl (uxG2 rfl (uxG2 rfl (uxG2 rfl (uxG2 rfl (uxG2 rfl (uxG2 rfl (uxG2 rfl (uxG2 rfl (uxG2 rfl (uxG2 rfl (uxG2 rfl (uxG2 rfl (uxG2 rfl hI.2.2.2.2.2.2.2.2.2.2.2.2.2.2.2.2.1))))))))))))))))
    have k_xG3 : xG3 W := by
      rw [hW]
      exact (uxG3 rfl (uxG3 rfl (uxG3 rfl (uxG3 rfl (uxG3 rfl (uxG3 rfl (uxG3 rfl (uxG3 rfl (uxG3 rfl (uxG3 rfl (uxG3 rfl (uxG3 rfl (uxG3 rfl (uxG3 rfl (uxG3 rfl (uxG3 rfl hI.2.2.2.2.2.2.2.2.2.2.2.2.2.2.2.2.2.1))))))))))))))))
    have k_xG4 : xG4 W := by
      rw [hW]
      exact (uxG4 rfl (uxG4 rfl (uxG4 rfl (uxG4 rfl (uxG4 rfl (uxG4 rfl (uxG4 rfl (uxG4 rfl (uxG4 rfl (uxG4 rfl (uxG4 rfl (uxG4 rfl (uxG4 rfl (uxG4 rfl (uxG4 rfl (uxG4 rfl hI.2.2.2.2.2.2.2.2.2.2.2.2.2.2.2.2.2.2.1))))))))))))))))
    have k_xG5 : xG5 W := by
      rw [hW]
      exact (uxG5 rfl (uxG5 rfl (uxG5 rfl (uxG5 rfl (uxG5 rfl (uxG5 rfl (uxG5 rfl (uxG5 rfl (uxG5 rfl (uxG5 rfl (uxG5 rfl (uxG5 rfl (uxG5 rfl (uxG5 rfl (uxG5 rfl (uxG5 rfl hI.2.2.2.2.2.2.2.2.2.2.2.2.2.2.2.2.2.2.2.1))))))))))))))))
    have k_xG6 : xG6 W := by
      rw [hW]
      exact (uxG6 rfl (uxG6 rfl (uxG6 rfl (uxG6 rfl (uxG6 rfl (uxG6 rfl (uxG6 rfl (uxG6 rfl (uxG6 rfl (uxG6 rfl (uxG6 rfl (uxG6 rfl (uxG6 rfl (uxG6 rfl (uxG6 rfl (uxG6 rfl hI.2.2.2.2.2.2.2.2.2.2.2.2.2.2.2.2.2.2.2.2.1))))))))))))))))
    have k_xS1 : xS1 W := by
      rw [hW]
      exact (uxS1 rfl (uxS1 rfl (uxS1 rfl (uxS1 rfl (uxS1 rfl (uxS1 rfl (uxS1 rfl (uxS1 rfl (uxS1 rfl (uxS1 rfl (uxS1 rfl (uxS1 rfl (uxS1 rfl (uxS1 rfl (uxS1 rfl (uxS1 rfl hI.2.2.2.2.2.2.2.2.2.2.2.2.2.2.2.2.2.2.2.2.2.1))))))))))))))))
    have k_xS2 : xS2 W := by
      rw [hW]
      exact (uxS2 rfl (uxS2 rfl (uxS2 rfl (uxS2 rfl (uxS2 rfl (uxS2 rfl (uxS2 rfl (uxS2 rfl (uxS2 rfl (uxS2 rfl (uxS2 rfl (uxS2 rfl (uxS2 rfl (uxS2 rfl (uxS2 rfl (uxS2 rfl hI.2.2.2.2.2.2.2.2.2.2.2.2.2.2.2.2.2.2.2.2.2.2.1))))))))))))))))
    have k_xS3 : xS3 W := by
      rw [hW]
      exact (uxS3 rfl (uxS3 rfl (uxS3 rfl (uxS3 rfl (uxS3 rfl (uxS3 rfl (uxS3 rfl (uxS3 rfl (uxS3 rfl (uxS3 rfl (uxS3 rfl (uxS3 rfl (uxS3 rfl (uxS3 rfl (uxS3 rfl (uxS3 rfl hI.2.2.2.2.2.2.2.2.2.2.2.2.2.2.2.2.2.2.2.2.2.2.2.1))))))))))))))))
    have k_xS4 : xS4 W := by
      rw [hW]
      exact (uxS4 rfl (uxS4 rfl (uxS4 rfl (uxS4 rfl (uxS4 rfl (uxS4 rfl (uxS4 rfl (uxS4 rfl (uxS4 rfl (uxS4 rfl (uxS4 rfl (uxS4 rfl (uxS4 rfl (uxS4 rfl (uxS4 rfl (uxS4 rfl hI.2.2.2.2.2.2.2.2.2.2.2.2.2.2.2.2.2.2.2.2.2.2.2.2.1))))))))))))))))
    have k_xS5 : xS5 W := by
      rw [hW]
      exact (uxS5 rfl (uxS5 rfl (uxS5 rfl (uxS5 rfl (uxS5 rfl (uxS5 rfl (uxS5 rfl (uxS5 rfl (uxS5 rfl (uxS5 rfl (uxS5 rfl (uxS5 rfl (uxS5 rfl (uxS5 rfl (uxS5 rfl (uxS5 rfl hI.2.2.2.2.2.2.2.2.2.2.2.2.2.2.2.2.2.2.2.2.2.2.2.2.2.1))))))))))))))))
    have k_xS6 : xS6 W := by
      rw [hW]
      exact (uxS6 rfl (uxS6 rfl (uxS6 rfl (uxS6 rfl (uxS6 rfl (uxS6 rfl (uxS6 rfl (uxS6 rfl (uxS6 rfl (uxS6 rfl (uxS6 rfl (uxS6 rfl (uxS6 rfl (uxS6 rfl (uxS6 rfl (uxS6 rfl hI.2.2.2.2.2.2.2.2.2.2.2.2.2.2.2.2.2.2.2.2.2.2.2.2.2.2.1))))))))))))))))
    have k_xS7 : xS7 W := by
      rw [hW]
      exact (uxS7 rfl (uxS7 rfl (uxS7 rfl (uxS7 rfl (uxS7 rfl (uxS7 rfl (uxS7 rfl (uxS7 rfl (uxS7 rfl (uxS7 rfl (uxS7 rfl (uxS7 rfl (uxS7 rfl (uxS7 rfl (uxS7 rfl (uxS7 rfl hI.2.2.2.2.2.2.2.2.2.2.2.2.2.2.2.2.2.2.2.2.2.2.2.2.2.2.2.1))))))))))))))))
    have k_xS8 : xS8 W := by
      rw [hW]
      exact (uxS8 rfl (uxS8 rfl (uxS8 rfl (uxS8 rfl (uxS8 rfl (uxS8 rfl (uxS8 rfl (uxS8 rfl (uxS8 rfl (uxS8 rfl (uxS8 rfl (uxS8 rfl (uxS8 rfl (uxS8 rfl (uxS8 rfl (uxS8 rfl hI.2.2.2.2.2.2.2.2.2.2.2.2.2.2.2.2.2.2.2.2.2.2.2.2.2.2.2.2.1))))))))))))))))
    have k_xS9 : xS9 W := by
      rw [hW]
      exact (uxS9 rfl (uxS9 rfl (uxS9 rfl (uxS9 rfl (uxS9 rfl (uxS9 rfl (uxS9 rfl (uxS9 rfl (uxS9 rfl (uxS9 rfl (uxS9 rfl (uxS9 rfl (uxS9 rfl (uxS9 rfl (uxS9 rfl (uxS9 rfl hI.2.2.2.2.2.2.2.2.2.2.2.2.2.2.2.2.2.2.2.2.2.2.2.2.2.2.2.2.2.1))))))))))))))))
    have k_xSA : xSA W := by
      rw [hW]
      exact (uxSA rfl (uxSA rfl (uxSA rfl (uxSA rfl (uxSA rfl (uxSA rfl (uxSA rfl (uxSA rfl (uxSA rfl (uxSA rfl (uxSA rfl (uxSA rfl (uxSA rfl (uxSA rfl (uxSA rfl (uxSA rfl hI.2.2.2.2.2.2.2.2.2.2.2.2.2.2.2.2.2.2.2.2.2.2.2.2.2.2.2.2.2.2.1))))))))))))))))
    have k_xSG : xSG W := by
      rw [hW]
      exact (uxSG rfl (uxSG rfl (uxSG rfl (uxSG rfl (uxSG rfl (uxSG rfl (uxSG rfl (uxSG rfl (uxSG rfl (uxSG rfl (uxSG rfl (uxSG rfl (uxSG rfl (uxSG rfl (uxSG rfl (uxSG rfl hI.2.2.2.2.2.2.2.2.2.2.2.2.2.2.2.2.2.2.2.2.2.2.2.2.2.2.2.2.2.2.2.1))))))))))))))))
    have k_xSF : xSF W := by
      rw [hW]
      exact (uxSF rfl (uxSF rfl (uxSF rfl (uxSF rfl (uxSF rfl (uxSF rfl (uxSF rfl (uxSF rfl (uxSF rfl (uxSF rfl (uxSF rfl (uxSF rfl (uxSF rfl (uxSF rfl (uxSF rfl (uxSF rfl hI.2.2.2.2.2.2.2.2.2.2.2.2.2.2.2.2.2.2.2.2.2.2.2.2.2.2.2.2.2.2.2.2.1))))))))))))))))
    have k_xSB : xSB W := by
      rw [hW]
      exact (uxSB rfl (uxSB rfl (uxSB rfl (uxSB rfl (uxSB rfl (uxSB rfl (uxSB rfl (uxSB rfl (uxSB rfl (uxSB rfl (uxSB rfl (uxSB rfl (uxSB rfl (uxSB rfl (uxSB rfl (uxSB rfl hI.2.2.2.2.2.2.2.2.2.2.2.2.2.2.2.2.2.2.2.2.2.2.2.2.2.2.2.2.2.2.2.2.2.1))))))))))))))))
    have k_xSC : xSC W := by
      rw [hW]
      exact (uxSC rfl (uxSC rfl (uxSC rfl (uxSC rfl (uxSC rfl (uxSC rfl (uxSC rfl (uxSC rfl (uxSC rfl (uxSC rfl (uxSC rfl (uxSC rfl (uxSC rfl (uxSC rfl (uxSC rfl (uxSC rfl hI.2.2.2.2.2.2.2.2.2.2.2.2.2.2.2.2.2.2.2.2.2.2.2.2.2.2.2.2.2.2.2.2.2.2.1))))))))))))))))
    have k_xSD : xSD W := by
      have r91_240 : W 91 240 = 1 * ρ 0 + 0 := by rw [hW, sU_ne (fun z => by omega), sU_ne (fun z => by omega), sU_ne (fun z => by omega), sU_ne (fun z => by omega), sU_ne (fun z => by omega), sU_ne (fun z => by omega), sU_ne (fun z => by omega), sU_at]
      have r91_241 : W 91 241 = 1 * ρ 0 + 0 := by rw [hW, sU_ne (fun z => by omega), sU_ne (fun z => by omega), sU_ne (fun z => by omega), sU_ne (fun z => by omega), sU_ne (fun z => by omega), sU_ne (fun z => by omega), sU_at]
      have r91_242 : W 91 242 = 7 * ρ 0 + 0 := by rw [hW, sU_ne (fun z => by omega), sU_ne (fun z => by omega), sU_ne (fun z => by omega), sU_ne (fun z => by omega), sU_ne (fun z => by omega), sU_at]
      have r91_243 : W 91 243 = 128 * ρ 0 + 0 := by rw [hW, sU_ne (fun z => by omega), sU_ne (fun z => by omega), sU_ne (fun z => by omega), sU_ne (fun z => by omega), sU_at]
      have r91_244 : W 91 244 = 128 * ρ 0 + (1 * ρ 1 + (-128 * ρ 5 + 0)) := by rw [hW, sU_ne (fun z => by omega), sU_at]
      have r91_245 : W 91 245 = 0 := by rw [hW, sU_ne (fun z => by omega), sU_ne (fun z => by omega), sU_ne (fun z => by omega), sU_at]
      have r91_246 : W 91 246 = 1 * ρ 1 + 0 := by rw [hW, sU_ne (fun z => by omega), sU_ne (fun z => by omega), sU_at]
      have r91_247 : W 91 247 = 128 * ρ 0 + 0 := by rw [hW, sU_at]
      intro h
      rw [r91_241, r91_242, r91_243, r91_244, r91_245, r91_246, r91_247, h0]
      refine ⟨by decide, ?_, by decide⟩
      rw [show ((128 : Int) * 1 + 0) = 128 from rfl, show (1 * ρ 1 + 0 : Int) = ρ 1 by omega, xb.2]
      omega
    have k_xSE : xSE W := by
      have r91_249 : W 91 249 = 1 * ρ 0 + 0 := by rw [hW, sU_ne (fun z => by omega), sU_ne (fun z => by omega), sU_ne (fun z => by omega), sU_ne (fun z => by omega), sU_ne (fun z => by omega), sU_ne (fun z => by omega), sU_ne (fun z => by omega), sU_ne (fun z => by omega), sU_ne (fun z => by omega), sU_ne (fun z => by omega), sU_ne (fun z => by omega), sU_ne (fun z => by omega), sU_ne (fun z => by omega), sU_ne (fun z => by omega), sU_ne (fun z => by omega), sU_at]
      have r91_250 : W 91 250 = 1 * ρ 1 + 0 := by rw [hW, sU_ne (fun z => by omega), sU_ne (fun z => by omega), sU_ne (fun z => by omega), sU_ne (fun z => by omega), sU_ne (fun z => by omega), sU_ne (fun z => by omega), sU_ne (fun z => by omega), sU_ne (fun z => by omega), sU_ne (fun z => by omega), sU_ne (fun z => by omega), sU_ne (fun z => by omega), sU_ne (fun z => by omega), sU_ne (fun z => by omega), sU_ne (fun z => by omega), sU_at]
      have r91_251 : W 91 251 = 7 * ρ 0 + 0 := by rw [hW, sU_ne (fun z => by omega), sU_ne (fun z => by omega), sU_ne (fun z => by omega), sU_ne (fun z => by omega), sU_ne (fun z => by omega), sU_ne (fun z => by omega), sU_ne (fun z => by omega), sU_ne (fun z => by omega), sU_ne (fun z => by omega), sU_ne (fun z => by omega), sU_ne (fun z => by omega), sU_ne (fun z => by omega), sU_ne (fun z => by omega), sU_at]
      have r91_252 : W 91 252 = 1 * (xop 0 (ρ 1) 7) + 0 := by rw [hW, sU_ne (fun z => by omega), sU_ne (fun z => by omega), sU_ne (fun z => by omega), sU_ne (fun z => by omega), sU_ne (fun z => by omega), sU_ne (fun z => by omega), sU_ne (fun z => by omega), sU_ne (fun z => by omega), sU_ne (fun z => by omega), sU_ne (fun z => by omega), sU_ne (fun z => by omega), sU_ne (fun z => by omega), sU_at]
      have r91_253 : W 91 253 = 1 * ρ 5 + 0 := by rw [hW, sU_ne (fun z => by omega), sU_ne (fun z => by omega), sU_ne (fun z => by omega), sU_ne (fun z => by omega), sU_ne (fun z => by omega), sU_ne (fun z => by omega), sU_ne (fun z => by omega), sU_ne (fun z => by omega), sU_ne (fun z => by omega), sU_ne (fun z => by omega), sU_ne (fun z => by omega), sU_at]
      have r91_255 : W 91 255 = 0 := by rw [hW, sU_ne (fun z => by omega), sU_ne (fun z => by omega), sU_ne (fun z => by omega), sU_ne (fun z => by omega), sU_ne (fun z => by omega), sU_ne (fun z => by omega), sU_ne (fun z => by omega), sU_ne (fun z => by omega), sU_ne (fun z => by omega), sU_ne (fun z => by omega), sU_at]
      have r91_256 : W 91 256 = 1 * (xop 1 0 128) + 0 := by rw [hW, sU_ne (fun z => by omega), sU_ne (fun z => by omega), sU_ne (fun z => by omega), sU_ne (fun z => by omega), sU_ne (fun z => by omega), sU_ne (fun z => by omega), sU_ne (fun z => by omega), sU_ne (fun z => by omega), sU_ne (fun z => by omega), sU_at]
      have r91_243 : W 91 243 = 128 * ρ 0 + 0 := by rw [hW, sU_ne (fun z => by omega), sU_ne (fun z => by omega), sU_ne (fun z => by omega), sU_ne (fun z => by omega), sU_at]
      have r91_257 : W 91 257 = 1 * (xop 1 (xop 0 (ρ 1) 7) 255) + 0 := by rw [hW, sU_ne (fun z => by omega), sU_ne (fun z => by omega), sU_ne (fun z => by omega), sU_ne (fun z => by omega), sU_ne (fun z => by omega), sU_ne (fun z => by omega), sU_ne (fun z => by omega), sU_ne (fun z => by omega), sU_at]
      intro h
      rw [r91_243, r91_250, r91_251, r91_252, r91_253, r91_255, r91_256, r91_257, h0]
      rw [show ((7 : Int) * 1 + 0) = 7 from rfl, show (1 * ρ 1 + 0 : Int) = ρ 1 by omega, show ((128 : Int) * 1 + 0) = 128 from rfl]
      refine ⟨by omega, ?_, by omega, ?_⟩
      · rw [show (1 * (xop 0 (ρ 1) 7) + 0 : Int) = xop 0 (ρ 1) 7 by omega, xb.1]
        omega
      · rw [show (1 * (xop 0 (ρ 1) 7) + 0 : Int) = xop 0 (ρ 1) 7 by omega]
        omega
    have k_xSW : xSW W := by
      rw [hW]
      exact (uxSW rfl (uxSW rfl (uxSW rfl (uxSW rfl (uxSW rfl (uxSW rfl (uxSW rfl (uxSW rfl (uxSW rfl (uxSW rfl (uxSW rfl (uxSW rfl (uxSW rfl (uxSW rfl (uxSW rfl (uxSW rfl hI.2.2.2.2.2.2.2.2.2.2.2.2.2.2.2.2.2.2.2.2.2.2.2.2.2.2.2.2.2.2.2.2.2.2.2.2.2.1))))))))))))))))
    have k_xST : xST W := by
      rw [hW]
      exact (uxST rfl (uxST rfl (uxST rfl (uxST rfl (uxST rfl (uxST rfl (uxST rfl (uxST rfl (uxST rfl (uxST rfl (uxST rfl (uxST rfl (uxST rfl (uxST rfl (uxST rfl (uxST rfl hI.2.2.2.2.2.2.2.2.2.2.2.2.2.2.2.2.2.2.2.2.2.2.2.2.2.2.2.2.2.2.2.2.2.2.2.2.2.2.1))))))))))))))))
    have k_xSP : xSP W := by
      rw [hW]
      exact (uxSP rfl (uxSP rfl (uxSP rfl (uxSP rfl (uxSP rfl (uxSP rfl (uxSP rfl (uxSP rfl (uxSP rfl (uxSP rfl (uxSP rfl (uxSP rfl (uxSP rfl (uxSP rfl (uxSP rfl (uxSP rfl hI.2.2.2.2.2.2.2.2.2.2.2.2.2.2.2.2.2.2.2.2.2.2.2.2.2.2.2.2.2.2.2.2.2.2.2.2.2.2.2.1))))))))))))))))
    have k_xSL : xSL W := by
      rw [hW]
      exact (uxSL rfl (uxSL rfl (uxSL rfl (uxSL rfl (uxSL rfl (uxSL rfl (uxSL rfl (uxSL rfl (uxSL rfl (uxSL rfl (uxSL rfl (uxSL rfl (uxSL rfl (uxSL rfl (uxSL rfl (uxSL rfl hI.2.2.2.2.2.2.2.2.2.2.2.2.2.2.2.2.2.2.2.2.2.2.2.2.2.2.2.2.2.2.2.2.2.2.2.2.2.2.2.2.1))))))))))))))))
    have k_xSM : xSM W := by
      rw [hW]
      exact (uxSM rfl (uxSM rfl (uxSM rfl (uxSM rfl (uxSM rfl (uxSM rfl (uxSM rfl (uxSM rfl (uxSM rfl (uxSM rfl (uxSM rfl (uxSM rfl (uxSM rfl (uxSM rfl (uxSM rfl (uxSM rfl hI.2.2.2.2.2.2.2.2.2.2.2.2.2.2.2.2.2.2.2.2.2.2.2.2.2.2.2.2.2.2.2.2.2.2.2.2.2.2.2.2.2.1))))))))))))))))
    have k_xSI : xSI W := by
      rw [hW]
      exact (uxSI rfl (uxSI rfl (uxSI rfl (uxSI rfl (uxSI rfl (uxSI rfl (uxSI rfl (uxSI rfl (uxSI rfl (uxSI rfl (uxSI rfl (uxSI rfl (uxSI rfl (uxSI rfl (uxSI rfl (uxSI rfl hI.2.2.2.2.2.2.2.2.2.2.2.2.2.2.2.2.2.2.2.2.2.2.2.2.2.2.2.2.2.2.2.2.2.2.2.2.2.2.2.2.2.2))))))))))))))))
    have k_XC : XC W := ⟨k_xS1, k_xS2, k_xS3, k_xS4, k_xS5, k_xS6, k_xS7, k_xS8, k_xS9, k_xSA, k_xSG, k_xSF, k_xSB, k_xSC, k_xSD, k_xSE, k_xSW, k_xST, k_xSP, k_xSL, k_xSM, k_xSI⟩
    have kXB : XB W := ⟨k_xN1, k_xN2, k_xN3, k_xN4, k_xN5, k_xN6, k_xH1, k_xK1, k_xC1, k_xRW, k_xWT, k_xCU, k_xG2, k_xG3, k_xG4, k_xG5, k_xG6, k_XC⟩
    exact ⟨base, k2, k3, kXA, kXB⟩
-- rt8
def xr_542 : qRu := (11, [[(1, 1), (-1, 2), (-32, 3), (-64, 4), (-128, 5), (-256, 6), (-512, 7), (-1024, 8), (-65536, 9), (-131072, 10)], [(-1, 1), (1, 2), (32, 3), (64, 4), (128, 5), (256, 6), (512, 7), (1024, 8), (65536, 9), (131072, 10)], [(1, 2)], [(31, 0), (-1, 2)], [(1, 8)], [(63, 0), (-1, 8)], [(1, 3)], [(1, 0), (-1, 3)], [(1, 4)], [(1, 0), (-1, 4)], [(1, 5)], [(1, 0), (-1, 5)], [(1, 6)], [(1, 0), (-1, 6)], [(1, 7)], [(1, 0), (-1, 7)], [(1, 9)], [(1, 0), (-1, 9)], [(1, 10)], [(1, 0), (-1, 10)]], [], [], [(91, 249, [(1, 0)]), (91, 250, [(1, 1)]), (91, 251, [(8, 0)]), (91, 252, [(1, 11)]), (91, 253, [(1, 6)]), (91, 255, []), (91, 256, [(1, 12)]), (91, 257, [(1, 13)]), (91, 240, [(1, 0)]), (91, 241, [(1, 0)]), (91, 242, [(8, 0)]), (91, 243, [(256, 0)]), (91, 245, []), (91, 246, [(1, 1)]), (91, 244, [(256, 0), (1, 1), (-256, 6)]), (91, 247, [(256, 0)])], [])
theorem xo_542 : qRok xr_542 := by
  intro ρ M h0 hf hm hI
  have f0 := hf [(1, 1), (-1, 2), (-32, 3), (-64, 4), (-128, 5), (-256, 6), (-512, 7), (-1024, 8), (-65536, 9), (-131072, 10)] (by decide)
  have f1 := hf [(-1, 1), (1, 2), (32, 3), (64, 4), (128, 5), (256, 6), (512, 7), (1024, 8), (65536, 9), (131072, 10)] (by decide)
  have f2 := hf [(1, 2)] (by decide)
  have f3 := hf [(31, 0), (-1, 2)] (by decide)
  have f4 := hf [(1, 8)] (by decide)
  have f5 := hf [(63, 0), (-1, 8)] (by decide)
  have f6 := hf [(1, 3)] (by decide)
  have f7 := hf [(1, 0), (-1, 3)] (by decide)
  have f8 := hf [(1, 4)] (by decide)
  have f9 := hf [(1, 0), (-1, 4)] (by decide)
  have f10 := hf [(1, 5)] (by decide)
  have f11 := hf [(1, 0), (-1, 5)] (by decide)
  have f12 := hf [(1, 6)] (by decide)
  have f13 := hf [(1, 0), (-1, 6)] (by decide)
  have f14 := hf [(1, 7)] (by decide)
  have f15 := hf [(1, 0), (-1, 7)] (by decide)
  have f16 := hf [(1, 9)] (by decide)
  have f17 := hf [(1, 0), (-1, 9)] (by decide)
  have f18 := hf [(1, 10)] (by decide)
  have f19 := hf [(1, 0), (-1, 10)] (by decide)
  simp only [qD, h0] at f0 f1 f2 f3 f4 f5 f6 f7 f8 f9 f10 f11 f12 f13 f14 f15 f16 f17 f18 f19
  have qxSD := hI.2.2.2.2.2.2.2.2.2.2.2.2.2.2.2.2.2.2.2.2.2.2.2.2.2.2.2.2.2.2.2.2.2.2.2.1
  have qxSE := hI.2.2.2.2.2.2.2.2.2.2.2.2.2.2.2.2.2.2.2.2.2.2.2.2.2.2.2.2.2.2.2.2.2.2.2.2.1
  have xb := xbit8 (t := ρ 1) (b := ρ 6) (h := 1 * ρ 7 + 2 * ρ 8 + 128 * ρ 9 + 256 * ρ 10) (l := 1 * ρ 2 + 32 * ρ 3 + 64 * ρ 4 + 128 * ρ 5) (by omega) (by omega) (by omega) (by omega) (by omega)
  refine ⟨fun a => cond (Nat.blt a 11) (ρ a) (([xop 0 (ρ 1) 8, xop 1 0 256, xop 1 (xop 0 (ρ 1) 8) 255] : List Int).getD (a - 11) 0), fun a ha => ?_, fun f h => ?_, ?_⟩
  · show cond (Nat.blt a 11) (ρ a) _ = ρ a
    rw [show Nat.blt a 11 = true from Nat.ble_eq_true_of_le ha]; rfl
  · exact nomatch h
  · show sI (sU (sU (sU (sU (sU (sU (sU (sU (sU (sU (sU (sU (sU (sU (sU (sU M 91 249 (1 * ρ 0 + 0)) 91 250 (1 * ρ 1 + 0)) 91 251 (8 * ρ 0 + 0)) 91 252 (1 * (xop 0 (ρ 1) 8) + 0)) 91 253 (1 * ρ 6 + 0)) 91 255 (0)) 91 256 (1 * (xop 1 0 256) + 0)) 91 257 (1 * (xop 1 (xop 0 (ρ 1) 8) 255) + 0)) 91 240 (1 * ρ 0 + 0)) 91 241 (1 * ρ 0 + 0)) 91 242 (8 * ρ 0 + 0)) 91 243 (256 * ρ 0 + 0)) 91 245 (0)) 91 246 (1 * ρ 1 + 0)) 91 244 (256 * ρ 0 + (1 * ρ 1 + (-256 * ρ 6 + 0)))) 91 247 (256 * ρ 0 + 0))
    obtain ⟨W, hW⟩ : ∃ W, W = (sU (sU (sU (sU (sU (sU (sU (sU (sU (sU (sU (sU (sU (sU (sU (sU M 91 249 (1 * ρ 0 + 0)) 91 250 (1 * ρ 1 + 0)) 91 251 (8 * ρ 0 + 0)) 91 252 (1 * (xop 0 (ρ 1) 8) + 0)) 91 253 (1 * ρ 6 + 0)) 91 255 (0)) 91 256 (1 * (xop 1 0 256) + 0)) 91 257 (1 * (xop 1 (xop 0 (ρ 1) 8) 255) + 0)) 91 240 (1 * ρ 0 + 0)) 91 241 (1 * ρ 0 + 0)) 91 242 (8 * ρ 0 + 0)) 91 243 (256 * ρ 0 + 0)) 91 245 (0)) 91 246 (1 * ρ 1 + 0)) 91 244 (256 * ρ 0 + (1 * ρ 1 + (-256 * ρ 6 + 0)))) 91 247 (256 * ρ 0 + 0)) := ⟨_, rfl⟩
    rw [← hW]
    have base : sI0 W := by
      rw [hW]
      exact (si_u0 (si_u0 (si_u0 (si_u0 (si_u0 (si_u0 (si_u0 (si_u0 (si_u0 (si_u0 (si_u0 (si_u0 (si_u0 (si_u0 (si_u0 (si_u0 hI.1 (fun r hr => by cases hr)) (fun r hr => by cases hr)) (fun r hr => by cases hr)) (fun r hr => by cases hr)) (fun r hr => by cases hr)) (fun r hr => by cases hr)) (fun r hr => by cases hr)) (fun r hr => by cases hr)) (fun r hr => by cases hr)) (fun r hr => by cases hr)) (fun r hr => by cases hr)) (fun r hr => by cases hr)) (fun r hr => by cases hr)) (fun r hr => by cases hr)) (fun r hr => by cases hr)) (fun r hr => by cases hr))
    have k2 : XI2 W := by
      rw [hW]
      exact (xi2_u rfl (xi2_u rfl (xi2_u rfl (xi2_u rfl (xi2_u rfl (xi2_u rfl (xi2_u rfl (xi2_u rfl (xi2_u rfl (xi2_u rfl (xi2_u rfl (xi2_u rfl (xi2_u rfl (xi2_u rfl (xi2_u rfl (xi2_u rfl hI.2.1))))))))))))))))
    have k3 : XI3 W := by
      rw [hW]
      exact (xi3_u rfl (xi3_u rfl (xi3_u rfl (xi3_u rfl (xi3_u rfl (xi3_u rfl (xi3_u rfl (xi3_u rfl (xi3_u rfl (xi3_u rfl (xi3_u rfl (xi3_u rfl (xi3_u rfl (xi3_u rfl (xi3_u rfl (xi3_u rfl hI.2.2.1))))))))))))))))
    have kXA : XA W := by
      rw [hW]
      exact (uXA rfl (uXA rfl (uXA rfl (uXA rfl (uXA rfl (uXA rfl (uXA rfl (uXA rfl (uXA rfl (uXA rfl (uXA rfl (uXA rfl (uXA rfl (uXA rfl (uXA rfl (uXA rfl hI.2.2.2.1))))))))))))))))
    have k_xN1 : xN1 W := by
      rw [hW]
      exact (uxN1 rfl (uxN1 rfl (uxN1 rfl (uxN1 rfl (uxN1 rfl (uxN1 rfl (uxN1 rfl (uxN1 rfl (uxN1 rfl (uxN1 rfl (uxN1 rfl (uxN1 rfl (uxN1 rfl (uxN1 rfl (uxN1 rfl (uxN1 rfl hI.2.2.2.2.1))))))))))))))))
    have k_xN2 : xN2 W := by
      rw [hW]
      exact (uxN2 rfl (uxN2 rfl (uxN2 rfl (uxN2 rfl (uxN2 rfl (uxN2 rfl (uxN2 rfl (uxN2 rfl (uxN2 rfl (uxN2 rfl (uxN2 rfl (uxN2 rfl (uxN2 rfl (uxN2 rfl (uxN2 rfl (uxN2 rfl hI.2.2.2.2.2.1))))))))))))))))
    have k_xN3 : xN3 W := by
      rw [hW]
      exact (uxN3 rfl (uxN3 rfl (uxN3 rfl (uxN3 rfl (uxN3 rfl (uxN3 rfl (uxN3 rfl (uxN3 rfl (uxN3 rfl (uxN3 rfl (uxN3 rfl (uxN3 rfl (uxN3 rfl (uxN3 rfl (uxN3 rfl (uxN3 rfl hI.2.2.2.2.2.2.1))))))))))))))))
    have k_xN4 : xN4 W := by
      rw [hW]
      exact (uxN4 rfl (uxN4 rfl (uxN4 rfl (uxN4 rfl (uxN4 rfl (uxN4 rfl (uxN4 rfl (uxN4 rfl (uxN4 rfl (uxN4 rfl (uxN4 rfl (uxN4 rfl (uxN4 rfl (uxN4 rfl (uxN4 rfl (uxN4 rfl hI.2.2.2.2.2.2.2.1))))))))))))))))
    have k_xN5 : xN5 W := by
      rw [hW]
      exact (uxN5 rfl (uxN5 rfl (uxN5 rfl (uxN5 rfl (uxN5 rfl (uxN5 rfl (uxN5 rfl (uxN5 rfl (uxN5 rfl (uxN5 rfl (uxN5 rfl (uxN5 rfl (uxN5 rfl (uxN5 rfl (uxN5 rfl (uxN5 rfl hI.2.2.2.2.2.2.2.2.1))))))))))))))))
    have k_xN6 : xN6 W := by
      rw [hW]
      exact (uxN6 rfl (uxN6 rfl (uxN6 rfl (uxN6 rfl (uxN6 rfl (uxN6 rfl (uxN6 rfl (uxN6 rfl (uxN6 rfl (uxN6 rfl (uxN6 rfl (uxN6 rfl (uxN6 rfl (uxN6 rfl (uxN6 rfl (uxN6 rfl hI.2.2.2.2.2.2.2.2.2.1))))))))))))))))
    have k_xH1 : xH1 W := by
      rw [hW]
      exact (uxH1 rfl (uxH1 rfl (uxH1 rfl (uxH1 rfl (uxH1 rfl (uxH1 rfl (uxH1 rfl (uxH1 rfl (uxH1 rfl (uxH1 rfl (uxH1 rfl (uxH1 rfl (uxH1 rfl (uxH1 rfl (uxH1 rfl (uxH1 rfl hI.2.2.2.2.2.2.2.2.2.2.1))))))))))))))))
    have k_xK1 : xK1 W := by
      rw [hW]
      exact (uxK1 rfl (uxK1 rfl (uxK1 rfl (uxK1 rfl (uxK1 rfl (uxK1 rfl (uxK1 rfl (uxK1 rfl (uxK1 rfl (uxK1 rfl (uxK1 rfl (uxK1 rfl (uxK1 rfl (uxK1 rfl (uxK1 rfl (uxK1 rfl hI.2.2.2.2.2.2.2.2.2.2.2.1))))))))))))))))
    have k_xC1 : xC1 W := by
      rw [hW]
      exact (uxC1 rfl (uxC1 rfl (uxC1 rfl (uxC1 rfl (uxC1 rfl (uxC1 rfl (uxC1 rfl (uxC1 rfl (uxC1 rfl (uxC1 rfl (uxC1 rfl (uxC1 rfl (uxC1 rfl (uxC1 rfl (uxC1 rfl (uxC1 rfl hI.2.2.2.2.2.2.2.2.2.2.2.2.1))))))))))))))))
    have k_xRW : xRW W := by
      rw [hW]
      exact (uxRW rfl (uxRW rfl (uxRW rfl (uxRW rfl (uxRW rfl (uxRW rfl (uxRW rfl (uxRW rfl (uxRW rfl (uxRW rfl (uxRW rfl (uxRW rfl (uxRW rfl (uxRW rfl (uxRW rfl (uxRW rfl hI.2.2.2.2.2.2.2.2.2.2.2.2.2.1))))))))))))))))
    have k_xWT : xWT W := by
      rw [hW]
      exact (uxWT rfl (uxWT rfl (uxWT rfl (uxWT rfl (uxWT rfl (uxWT rfl (uxWT rfl (uxWT rfl (uxWT rfl (uxWT rfl (uxWT rfl (uxWT rfl (uxWT rfl (uxWT rfl (uxWT rfl (uxWT rfl hI.2.2.2.2.2.2.2.2.2.2.2.2.2.2.1))))))))))))))))
    have k_xCU : xCU W := by
      rw [hW]
      exact (uxCU rfl (uxCU rfl (uxCU rfl (uxCU rfl (uxCU rfl (uxCU rfl (uxCU rfl (uxCU rfl (uxCU rfl (uxCU rfl (uxCU rfl (uxCU rfl (uxCU rfl (uxCU rfl (uxCU rfl (uxCU rfl hI.2.2.2.2.2.2.2.2.2.2.2.2.2.2.2.1))))))))))))))))
    have k_xG2 : xG2 W := by
      rw [hW]
      exact (uxG2 rfl (uxG2 rfl (uxG2 rfl (uxG2 rfl (uxG2 rfl (uxG2 rfl (uxG2 rfl (uxG2 rfl (uxG2 rfl (uxG2 rfl (uxG2 rfl (uxG2 rfl (uxG2 rfl (uxG2 rfl (uxG2 rfl (uxG2 rfl hI.2.2.2.2.2.2.2.2.2.2.2.2.2.2.2.2.1))))))))))))))))
    have k_xG3 : xG3 W := by
      rw [hW]
      exact (uxG3 rfl (uxG3 rfl (uxG3 rfl (uxG3 rfl (uxG3 rfl (uxG3 rfl (uxG3 rfl (uxG3 rfl (uxG3 rfl (uxG3 rfl (uxG3 rfl (uxG3 rfl (uxG3 rfl (uxG3 rfl (uxG3 rfl (uxG3 rfl hI.2.2.2.2.2.2.2.2.2.2.2.2.2.2.2.2.2.1))))))))))))))))
    have k_xG4 : xG4 W := by
      rw [hW]
      exact (uxG4 rfl (uxG4 rfl (uxG4 rfl (uxG4 rfl (uxG4 rfl (uxG4 rfl (uxG4 rfl (uxG4 rfl (uxG4 rfl (uxG4 rfl (uxG4 rfl (uxG4 rfl (uxG4 rfl (uxG4 rfl (uxG4 rfl (uxG4 rfl hI.2.2.2.2.2.2.2.2.2.2.2.2.2.2.2.2.2.2.1))))))))))))))))
    have k_xG5 : xG5 W := by
      rw [hW]
      exact (uxG5 rfl (uxG5 rfl (uxG5 rfl (uxG5 rfl (uxG5 rfl (uxG5 rfl (uxG5 rfl (uxG5 rfl (uxG5 rfl (uxG5 rfl (uxG5 rfl (uxG5 rfl (uxG5 rfl (uxG5 rfl (uxG5 rfl (uxG5 rfl hI.2.2.2.2.2.2.2.2.2.2.2.2.2.2.2.2.2.2.2.1))))))))))))))))
    have k_xG6 : xG6 W := by
      rw [hW]
      exact (uxG6 rfl (uxG6 rfl (uxG6 rfl (uxG6 rfl (uxG6 rfl (uxG6 rfl (uxG6 rfl (uxG6 rfl (uxG6 rfl (uxG6 rfl (uxG6 rfl (uxG6 rfl (uxG6 rfl (uxG6 rfl (uxG6 rfl (uxG6 rfl hI.2.2.2.2.2.2.2.2.2.2.2.2.2.2.2.2.2.2.2.2.1))))))))))))))))
    have k_xS1 : xS1 W := by
      rw [hW]
      exact (uxS1 rfl (uxS1 rfl (uxS1 rfl (uxS1 rfl (uxS1 rfl (uxS1 rfl (uxS1 rfl (uxS1 rfl (uxS1 rfl (uxS1 rfl (uxS1 rfl (uxS1 rfl (uxS1 rfl (uxS1 rfl (uxS1 rfl (uxS1 rfl hI.2.2.2.2.2.2.2.2.2.2.2.2.2.2.2.2.2.2.2.2.2.1))))))))))))))))
    have k_xS2 : xS2 W := by
      rw [hW]
      exact (uxS2 rfl (uxS2 rfl (uxS2 rfl (uxS2 rfl (uxS2 rfl (uxS2 rfl (uxS2 rfl (uxS2 rfl (uxS2 rfl (uxS2 rfl (uxS2 rfl (uxS2 rfl (uxS2 rfl (uxS2 rfl (uxS2 rfl (uxS2 rfl hI.2.2.2.2.2.2.2.2.2.2.2.2.2.2.2.2.2.2.2.2.2.2.1))))))))))))))))
    have k_xS3 : xS3 W := by
      rw [hW]
      exact (uxS3 rfl (uxS3 rfl (uxS3 rfl (uxS3 rfl (uxS3 rfl (uxS3 rfl (uxS3 rfl (uxS3 rfl (uxS3 rfl (uxS3 rfl (uxS3 rfl (uxS3 rfl (uxS3 rfl (uxS3 rfl (uxS3 rfl (uxS3 rfl hI.2.2.2.2.2.2.2.2.2.2.2.2.2.2.2.2.2.2.2.2.2.2.2.1))))))))))))))))
    have k_xS4 : xS4 W := by
      rw [hW]
      exact (uxS4 rfl (uxS4 rfl (uxS4 rfl (uxS4 rfl (uxS4 rfl (uxS4 rfl (uxS4 rfl (uxS4 rfl (uxS4 rfl (uxS4 rfl (uxS4 rfl (uxS4 rfl (uxS4 rfl (uxS4 rfl (uxS4 rfl (uxS4 rfl hI.2.2.2.2.2.2.2.2.2.2.2.2.2.2.2.2.2.2.2.2.2.2.2.2.1))))))))))))))))
    have k_xS5 : xS5 W := by
      rw [hW]
      exact (uxS5 rfl (uxS5 rfl (uxS5 rfl (uxS5 rfl (uxS5 rfl (uxS5 rfl (uxS5 rfl (uxS5 rfl (uxS5 rfl (uxS5 rfl (uxS5 rfl (uxS5 rfl (uxS5 rfl (uxS5 rfl (uxS5 rfl (uxS5 rfl hI.2.2.2.2.2.2.2.2.2.2.2.2.2.2.2.2.2.2.2.2.2.2.2.2.2.1))))))))))))))))
    have k_xS6 : xS6 W := by
      rw [hW]
      exact (uxS6 rfl (uxS6 rfl (uxS6 rfl (uxS6 rfl (uxS6 rfl (uxS6 rfl (uxS6 rfl (uxS6 rfl (uxS6 rfl (uxS6 rfl (uxS6 rfl (uxS6 rfl (uxS6 rfl (uxS6 rfl (uxS6 rfl (uxS6 rfl hI.2.2.2.2.2.2.2.2.2.2.2.2.2.2.2.2.2.2.2.2.2.2.2.2.2.2.1))))))))))))))))
    have k_xS7 : xS7 W := by
      rw [hW]
      exact (uxS7 rfl (uxS7 rfl (uxS7 rfl (uxS7 rfl (uxS7 rfl (uxS7 rfl (uxS7 rfl (uxS7 rfl (uxS7 rfl (uxS7 rfl (uxS7 rfl (uxS7 rfl (uxS7 rfl (uxS7 rfl (uxS7 rfl (uxS7 rfl hI.2.2.2.2.2.2.2.2.2.2.2.2.2.2.2.2.2.2.2.2.2.2.2.2.2.2.2.1))))))))))))))))
    have k_xS8 : xS8 W := by
      rw [hW]
      exact (uxS8 rfl (uxS8 rfl (uxS8 rfl (uxS8 rfl (uxS8 rfl (uxS8 rfl (uxS8 rfl (uxS8 rfl (uxS8 rfl (uxS8 rfl (uxS8 rfl (uxS8 rfl (uxS8 rfl (uxS8 rfl (uxS8 rfl (uxS8 rfl hI.2.2.2.2.2.2.2.2.2.2.2.2.2.2.2.2.2.2.2.2.2.2.2.2.2.2.2.2.1))))))))))))))))
    have k_xS9 : xS9 W := by
      rw [hW]
      exact (uxS9 rfl (uxS9 rfl (uxS9 rfl (uxS9 rfl (uxS9 rfl (uxS9 rfl (uxS9 rfl (uxS9 rfl (uxS9 rfl (uxS9 rfl (uxS9 rfl (uxS9 rfl (uxS9 rfl (uxS9 rfl (uxS9 rfl (uxS9 rfl hI.2.2.2.2.2.2.2.2.2.2.2.2.2.2.2.2.2.2.2.2.2.2.2.2.2.2.2.2.2.1))))))))))))))))
    have k_xSA : xSA W := by
      rw [hW]
      exact (uxSA rfl (uxSA rfl (uxSA rfl (uxSA rfl (uxSA rfl (uxSA rfl (uxSA rfl (uxSA rfl (uxSA rfl (uxSA rfl (uxSA rfl (uxSA rfl (uxSA rfl (uxSA rfl (uxSA rfl (uxSA rfl hI.2.2.2.2.2.2.2.2.2.2.2.2.2.2.2.2.2.2.2.2.2.2.2.2.2.2.2.2.2.2.1))))))))))))))))
    have k_xSG : xSG W := by
      rw [hW]
      exact (uxSG rfl (uxSG rfl (uxSG rfl (uxSG rfl (uxSG rfl (uxSG rfl (uxSG rfl (uxSG rfl (uxSG rfl (uxSG rfl (uxSG rfl (uxSG rfl (uxSG rfl (uxSG rfl (uxSG rfl (uxSG rfl hI.2.2.2.2.2.2.2.2.2.2.2.2.2.2.2.2.2.2.2.2.2.2.2.2.2.2.2.2.2.2.2.1))))))))))))))))
    have k_xSF : xSF W := by
      rw [hW]
      exact (uxSF rfl (uxSF rfl (uxSF rfl (uxSF rfl (uxSF rfl (uxSF rfl (uxSF rfl (uxSF rfl (uxSF rfl (uxSF rfl (uxSF rfl (uxSF rfl (uxSF rfl (uxSF rfl (uxSF rfl (uxSF rfl hI.2.2.2.2.2.2.2.2.2.2.2.2.2.2.2.2.2.2.2.2.2.2.2.2.2.2.2.2.2.2.2.2.1))))))))))))))))
    have k_xSB : xSB W := by
      rw [hW]
      exact (uxSB rfl (uxSB rfl (uxSB rfl (uxSB rfl (uxSB rfl (uxSB rfl (uxSB rfl (uxSB rfl (uxSB rfl (uxSB rfl (uxSB rfl (uxSB rfl (uxSB rfl (uxSB rfl (uxSB rfl (uxSB rfl hI.2.2.2.2.2.2.2.2.2.2.2.2.2.2.2.2.2.2.2.2.2.2.2.2.2.2.2.2.2.2.2.2.2.1))))))))))))))))
    have k_xSC : xSC W := by
      rw [hW]
      exact (uxSC rfl (uxSC rfl (uxSC rfl (uxSC rfl (uxSC rfl (uxSC rfl (uxSC rfl (uxSC rfl (uxSC rfl (uxSC rfl (uxSC rfl (uxSC rfl (uxSC rfl (uxSC rfl (uxSC rfl (uxSC rfl hI.2.2.2.2.2.2.2.2.2.2.2.2.2.2.2.2.2.2.2.2.2.2.2.2.2.2.2.2.2.2.2.2.2.2.1))))))))))))))))
    have k_xSD : xSD W := by
      have r91_240 : W 91 240 = 1 * ρ 0 + 0 := by rw [hW, sU_ne (fun z => by omega), sU_ne (fun z => by omega), sU_ne (fun z => by omega), sU_ne (fun z => by omega), sU_ne (fun z => by omega), sU_ne (fun z => by omega), sU_ne (fun z => by omega), sU_at]
      have r91_241 : W 91 241 = 1 * ρ 0 + 0 := by rw [hW, sU_ne (fun z => by omega), sU_ne (fun z => by omega), sU_ne (fun z => by omega), sU_ne (fun z => by omega), sU_ne (fun z => by omega), sU_ne (fun z => by omega), sU_at]
      have r91_242 : W 91 242 = 8 * ρ 0 + 0 := by rw [hW, sU_ne (fun z => by omega), sU_ne (fun z => by omega), sU_ne (fun z => by omega), sU_ne (fun z => by omega), sU_ne (fun z => by omega), sU_at]
      have r91_243 : W 91 243 = 256 * ρ 0 + 0 := by rw [hW, sU_ne (fun z => by omega), sU_ne (fun z => by omega), sU_ne (fun z => by omega), sU_ne (fun z => by omega), sU_at]
      have r91_244 : W 91 244 = 256 * ρ 0 + (1 * ρ 1 + (-256 * ρ 6 + 0)) := by rw [hW, sU_ne (fun z => by omega), sU_at]
      have r91_245 : W 91 245 = 0 := by rw [hW, sU_ne (fun z => by omega), sU_ne (fun z => by omega), sU_ne (fun z => by omega), sU_at]
      have r91_246 : W 91 246 = 1 * ρ 1 + 0 := by rw [hW, sU_ne (fun z => by omega), sU_ne (fun z => by omega), sU_at]
      have r91_247 : W 91 247 = 256 * ρ 0 + 0 := by rw [hW, sU_at]
      intro h
      rw [r91_241, r91_242, r91_243, r91_244, r91_245, r91_246, r91_247, h0]
      refine ⟨by decide, ?_, by decide⟩
      rw [show ((256 : Int) * 1 + 0) = 256 from rfl, show (1 * ρ 1 + 0 : Int) = ρ 1 by omega, xb.2]
      omega
    have k_xSE : xSE W := by
      have r91_249 : W 91 249 = 1 * ρ 0 + 0 := by rw [hW, sU_ne (fun z => by omega), sU_ne (fun z => by omega), sU_ne (fun z => by omega), sU_ne (fun z => by omega), sU_ne (fun z => by omega), sU_ne (fun z => by omega), sU_ne (fun z => by omega), sU_ne (fun z => by omega), sU_ne (fun z => by omega), sU_ne (fun z => by omega), sU_ne (fun z => by omega), sU_ne (fun z => by omega), sU_ne (fun z => by omega), sU_ne (fun z => by omega), sU_ne (fun z => by omega), sU_at]
      have r91_250 : W 91 250 = 1 * ρ 1 + 0 := by rw [hW, sU_ne (fun z => by omega), sU_ne (fun z => by omega), sU_ne (fun z => by omega), sU_ne (fun z => by omega), sU_ne (fun z => by omega), sU_ne (fun z => by omega), sU_ne (fun z => by omega), sU_ne (fun z => by omega), sU_ne (fun z => by omega), sU_ne (fun z => by omega), sU_ne (fun z => by omega), sU_ne (fun z => by omega), sU_ne (fun z => by omega), sU_ne (fun z => by omega), sU_at]
      have r91_251 : W 91 251 = 8 * ρ 0 + 0 := by rw [hW, sU_ne (fun z => by omega), sU_ne (fun z => by omega), sU_ne (fun z => by omega), sU_ne (fun z => by omega), sU_ne (fun z => by omega), sU_ne (fun z => by omega), sU_ne (fun z => by omega), sU_ne (fun z => by omega), sU_ne (fun z => by omega), sU_ne (fun z => by omega), sU_ne (fun z => by omega), sU_ne (fun z => by omega), sU_ne (fun z => by omega), sU_at]
      have r91_252 : W 91 252 = 1 * (xop 0 (ρ 1) 8) + 0 := by rw [hW, sU_ne (fun z => by omega), sU_ne (fun z => by omega), sU_ne (fun z => by omega), sU_ne (fun z => by omega), sU_ne (fun z => by omega), sU_ne (fun z => by omega), sU_ne (fun z => by omega), sU_ne (fun z => by omega), sU_ne (fun z => by omega), sU_ne (fun z => by omega), sU_ne (fun z => by omega), sU_ne (fun z => by omega), sU_at]
      have r91_253 : W 91 253 = 1 * ρ 6 + 0 := by rw [hW, sU_ne (fun z => by omega), sU_ne (fun z => by omega), sU_ne (fun z => by omega), sU_ne (fun z => by omega), sU_ne (fun z => by omega), sU_ne (fun z => by omega), sU_ne (fun z => by omega), sU_ne (fun z => by omega), sU_ne (fun z => by omega), sU_ne (fun z => by omega), sU_ne (fun z => by omega), sU_at]
      have r91_255 : W 91 255 = 0 := by rw [hW, sU_ne (fun z => by omega), sU_ne (fun z => by omega), sU_ne (fun z => by omega), sU_ne (fun z => by omega), sU_ne (fun z => by omega), sU_ne (fun z => by omega), sU_ne (fun z => by omega), sU_ne (fun z => by omega), sU_ne (fun z => by omega), sU_ne (fun z => by omega), sU_at]
      have r91_256 : W 91 256 = 1 * (xop 1 0 256) + 0 := by rw [hW, sU_ne (fun z => by omega), sU_ne (fun z => by omega), sU_ne (fun z => by omega), sU_ne (fun z => by omega), sU_ne (fun z => by omega), sU_ne (fun z => by omega), sU_ne (fun z => by omega), sU_ne (fun z => by omega), sU_ne (fun z => by omega), sU_at]
      have r91_243 : W 91 243 = 256 * ρ 0 + 0 := by rw [hW, sU_ne (fun z => by omega), sU_ne (fun z => by omega), sU_ne (fun z => by omega), sU_ne (fun z => by omega), sU_at]
      have r91_257 : W 91 257 = 1 * (xop 1 (xop 0 (ρ 1) 8) 255) + 0 := by rw [hW, sU_ne (fun z => by omega), sU_ne (fun z => by omega), sU_ne (fun z => by omega), sU_ne (fun z => by omega), sU_ne (fun z => by omega), sU_ne (fun z => by omega), sU_ne (fun z => by omega), sU_ne (fun z => by omega), sU_at]
      intro h
      rw [r91_243, r91_250, r91_251, r91_252, r91_253, r91_255, r91_256, r91_257, h0]
      rw [show ((8 : Int) * 1 + 0) = 8 from rfl, show (1 * ρ 1 + 0 : Int) = ρ 1 by omega, show ((256 : Int) * 1 + 0) = 256 from rfl]
      refine ⟨by omega, ?_, by omega, ?_⟩
      · rw [show (1 * (xop 0 (ρ 1) 8) + 0 : Int) = xop 0 (ρ 1) 8 by omega, xb.1]
        omega
      · rw [show (1 * (xop 0 (ρ 1) 8) + 0 : Int) = xop 0 (ρ 1) 8 by omega]
        omega
    have k_xSW : xSW W := by
      rw [hW]
      exact (uxSW rfl (uxSW rfl (uxSW rfl (uxSW rfl (uxSW rfl (uxSW rfl (uxSW rfl (uxSW rfl (uxSW rfl (uxSW rfl (uxSW rfl (uxSW rfl (uxSW rfl (uxSW rfl (uxSW rfl (uxSW rfl hI.2.2.2.2.2.2.2.2.2.2.2.2.2.2.2.2.2.2.2.2.2.2.2.2.2.2.2.2.2.2.2.2.2.2.2.2.2.1))))))))))))))))
    have k_xST : xST W := by
      rw [hW]
      exact (uxST rfl (uxST rfl (uxST rfl (uxST rfl (uxST rfl (uxST rfl (uxST rfl (uxST rfl (uxST rfl (uxST rfl (uxST rfl (uxST rfl (uxST rfl (uxST rfl (uxST rfl (uxST rfl hI.2.2.2.2.2.2.2.2.2.2.2.2.2.2.2.2.2.2.2.2.2.2.2.2.2.2.2.2.2.2.2.2.2.2.2.2.2.2.1))))))))))))))))
    have k_xSP : xSP W := by
      rw [hW]
      exact (uxSP rfl (uxSP rfl (uxSP rfl (uxSP rfl (uxSP rfl (uxSP rfl (uxSP rfl (uxSP rfl (uxSP rfl (uxSP rfl (uxSP rfl (uxSP rfl (uxSP rfl (uxSP rfl (uxSP rfl (uxSP rfl hI.2.2.2.2.2.2.2.2.2.2.2.2.2.2.2.2.2.2.2.2.2.2.2.2.2.2.2.2.2.2.2.2.2.2.2.2.2.2.2.1))))))))))))))))
    have k_xSL : xSL W := by
      rw [hW]
      exact (uxSL rfl (uxSL rfl (uxSL rfl (uxSL rfl (uxSL rfl (uxSL rfl (uxSL rfl (uxSL rfl (uxSL rfl (uxSL rfl (uxSL rfl (uxSL rfl (uxSL rfl (uxSL rfl (uxSL rfl (uxSL rfl hI.2.2.2.2.2.2.2.2.2.2.2.2.2.2.2.2.2.2.2.2.2.2.2.2.2.2.2.2.2.2.2.2.2.2.2.2.2.2.2.2.1))))))))))))))))
    have k_xSM : xSM W := by
      rw [hW]
      exact (uxSM rfl (uxSM rfl (uxSM rfl (uxSM rfl (uxSM rfl (uxSM rfl (uxSM rfl (uxSM rfl (uxSM rfl (uxSM rfl (uxSM rfl (uxSM rfl (uxSM rfl (uxSM rfl (uxSM rfl (uxSM rfl hI.2.2.2.2.2.2.2.2.2.2.2.2.2.2.2.2.2.2.2.2.2.2.2.2.2.2.2.2.2.2.2.2.2.2.2.2.2.2.2.2.2.1))))))))))))))))
    have k_xSI : xSI W := by
      rw [hW]
      exact (uxSI rfl (uxSI rfl (uxSI rfl (uxSI rfl (uxSI rfl (uxSI rfl (uxSI rfl (uxSI rfl (uxSI rfl (uxSI rfl (uxSI rfl (uxSI rfl (uxSI rfl (uxSI rfl (uxSI rfl (uxSI rfl hI.2.2.2.2.2.2.2.2.2.2.2.2.2.2.2.2.2.2.2.2.2.2.2.2.2.2.2.2.2.2.2.2.2.2.2.2.2.2.2.2.2.2))))))))))))))))
    have k_XC : XC W := ⟨k_xS1, k_xS2, k_xS3, k_xS4, k_xS5, k_xS6, k_xS7, k_xS8, k_xS9, k_xSA, k_xSG, k_xSF, k_xSB, k_xSC, k_xSD, k_xSE, k_xSW, k_xST, k_xSP, k_xSL, k_xSM, k_xSI⟩
    have kXB : XB W := ⟨k_xN1, k_xN2, k_xN3, k_xN4, k_xN5, k_xN6, k_xH1, k_xK1, k_xC1, k_xRW, k_xWT, k_xCU, k_xG2, k_xG3, k_xG4, k_xG5, k_xG6, k_XC⟩
    exact ⟨base, k2, k3, kXA, kXB⟩
-- rt9
def xr_543 : qRu := (11, [[(1, 1), (-1, 2), (-32, 3), (-64, 4), (-128, 5), (-256, 6), (-512, 7), (-1024, 8), (-65536, 9), (-131072, 10)], [(-1, 1), (1, 2), (32, 3), (64, 4), (128, 5), (256, 6), (512, 7), (1024, 8), (65536, 9), (131072, 10)], [(1, 2)], [(31, 0), (-1, 2)], [(1, 8)], [(63, 0), (-1, 8)], [(1, 3)], [(1, 0), (-1, 3)], [(1, 4)], [(1, 0), (-1, 4)], [(1, 5)], [(1, 0), (-1, 5)], [(1, 6)], [(1, 0), (-1, 6)], [(1, 7)], [(1, 0), (-1, 7)], [(1, 9)], [(1, 0), (-1, 9)], [(1, 10)], [(1, 0), (-1, 10)]], [], [], [(91, 249, [(1, 0)]), (91, 250, [(1, 1)]), (91, 251, [(9, 0)]), (91, 252, [(1, 11)]), (91, 253, [(1, 7)]), (91, 255, []), (91, 256, [(1, 12)]), (91, 257, [(1, 13)]), (91, 240, [(1, 0)]), (91, 241, [(1, 0)]), (91, 242, [(9, 0)]), (91, 243, [(512, 0)]), (91, 245, []), (91, 246, [(1, 1)]), (91, 244, [(512, 0), (1, 1), (-512, 7)]), (91, 247, [(512, 0)])], [])
theorem xo_543 : qRok xr_543 := by
  intro ρ M h0 hf hm hI
  have f0 := hf [(1, 1), (-1, 2), (-32, 3), (-64, 4), (-128, 5), (-256, 6), (-512, 7), (-1024, 8), (-65536, 9), (-131072, 10)] (by decide)
  have f1 := hf [(-1, 1), (1, 2), (32, 3), (64, 4), (128, 5), (256, 6), (512, 7), (1024, 8), (65536, 9), (131072, 10)] (by decide)
  have f2 := hf [(1, 2)] (by decide)
  have f3 := hf [(31, 0), (-1, 2)] (by decide)
  have f4 := hf [(1, 8)] (by decide)
  have f5 := hf [(63, 0), (-1, 8)] (by decide)
  have f6 := hf [(1, 3)] (by decide)
  have f7 := hf [(1, 0), (-1, 3)] (by decide)
  have f8 := hf [(1, 4)] (by decide)
  have f9 := hf [(1, 0), (-1, 4)] (by decide)
  have f10 := hf [(1, 5)] (by decide)
  have f11 := hf [(1, 0), (-1, 5)] (by decide)
  have f12 := hf [(1, 6)] (by decide)
  have f13 := hf [(1, 0), (-1, 6)] (by decide)
  have f14 := hf [(1, 7)] (by decide)
  have f15 := hf [(1, 0), (-1, 7)] (by decide)
  have f16 := hf [(1, 9)] (by decide)
  have f17 := hf [(1, 0), (-1, 9)] (by decide)
  have f18 := hf [(1, 10)] (by decide)
  have f19 := hf [(1, 0), (-1, 10)] (by decide)
  simp only [qD, h0] at f0 f1 f2 f3 f4 f5 f6 f7 f8 f9 f10 f11 f12 f13 f14 f15 f16 f17 f18 f19
  have qxSD := hI.2.2.2.2.2.2.2.2.2.2.2.2.2.2.2.2.2.2.2.2.2.2.2.2.2.2.2.2.2.2.2.2.2.2.2.1
  have qxSE := hI.2.2.2.2.2.2.2.2.2.2.2.2.2.2.2.2.2.2.2.2.2.2.2.2.2.2.2.2.2.2.2.2.2.2.2.2.1
  have xb := xbit9 (t := ρ 1) (b := ρ 7) (h := 1 * ρ 8 + 64 * ρ 9 + 128 * ρ 10) (l := 1 * ρ 2 + 32 * ρ 3 + 64 * ρ 4 + 128 * ρ 5 + 256 * ρ 6) (by omega) (by omega) (by omega) (by omega) (by omega)
  refine ⟨fun a => cond (Nat.blt a 11) (ρ a) (([xop 0 (ρ 1) 9, xop 1 0 512, xop 1 (xop 0 (ρ 1) 9) 255] : List Int).getD (a - 11) 0), fun a ha => ?_, fun f h => ?_, ?_⟩
  · show cond (Nat.blt a 11) (ρ a) _ = ρ a
    rw [show Nat.blt a 11 = true from Nat.ble_eq_true_of_le ha]; rfl
  · exact nomatch h
  · show sI (sU (sU (sU (sU (sU (sU (sU (sU (sU (sU (sU (sU (sU (sU (sU (sU M 91 249 (1 * ρ 0 + 0)) 91 250 (1 * ρ 1 + 0)) 91 251 (9 * ρ 0 + 0)) 91 252 (1 * (xop 0 (ρ 1) 9) + 0)) 91 253 (1 * ρ 7 + 0)) 91 255 (0)) 91 256 (1 * (xop 1 0 512) + 0)) 91 257 (1 * (xop 1 (xop 0 (ρ 1) 9) 255) + 0)) 91 240 (1 * ρ 0 + 0)) 91 241 (1 * ρ 0 + 0)) 91 242 (9 * ρ 0 + 0)) 91 243 (512 * ρ 0 + 0)) 91 245 (0)) 91 246 (1 * ρ 1 + 0)) 91 244 (512 * ρ 0 + (1 * ρ 1 + (-512 * ρ 7 + 0)))) 91 247 (512 * ρ 0 + 0))
    obtain ⟨W, hW⟩ : ∃ W, W = (sU (sU (sU (sU (sU (sU (sU (sU (sU (sU (sU (sU (sU (sU (sU (sU M 91 249 (1 * ρ 0 + 0)) 91 250 (1 * ρ 1 + 0)) 91 251 (9 * ρ 0 + 0)) 91 252 (1 * (xop 0 (ρ 1) 9) + 0)) 91 253 (1 * ρ 7 + 0)) 91 255 (0)) 91 256 (1 * (xop 1 0 512) + 0)) 91 257 (1 * (xop 1 (xop 0 (ρ 1) 9) 255) + 0)) 91 240 (1 * ρ 0 + 0)) 91 241 (1 * ρ 0 + 0)) 91 242 (9 * ρ 0 + 0)) 91 243 (512 * ρ 0 + 0)) 91 245 (0)) 91 246 (1 * ρ 1 + 0)) 91 244 (512 * ρ 0 + (1 * ρ 1 + (-512 * ρ 7 + 0)))) 91 247 (512 * ρ 0 + 0)) := ⟨_, rfl⟩
    rw [← hW]
    have base : sI0 W := by
      rw [hW]
      exact (si_u0 (si_u0 (si_u0 (si_u0 (si_u0 (si_u0 (si_u0 (si_u0 (si_u0 (si_u0 (si_u0 (si_u0 (si_u0 (si_u0 (si_u0 (si_u0 hI.1 (fun r hr => by cases hr)) (fun r hr => by cases hr)) (fun r hr => by cases hr)) (fun r hr => by cases hr)) (fun r hr => by cases hr)) (fun r hr => by cases hr)) (fun r hr => by cases hr)) (fun r hr => by cases hr)) (fun r hr => by cases hr)) (fun r hr => by cases hr)) (fun r hr => by cases hr)) (fun r hr => by cases hr)) (fun r hr => by cases hr)) (fun r hr => by cases hr)) (fun r hr => by cases hr)) (fun r hr => by cases hr))
    have k2 : XI2 W := by
      rw [hW]
      exact (xi2_u rfl (xi2_u rfl (xi2_u rfl (xi2_u rfl (xi2_u rfl (xi2_u rfl (xi2_u rfl (xi2_u rfl (xi2_u rfl (xi2_u rfl (xi2_u rfl (xi2_u rfl (xi2_u rfl (xi2_u rfl (xi2_u rfl (xi2_u rfl hI.2.1))))))))))))))))
    have k3 : XI3 W := by
      rw [hW]
      exact (xi3_u rfl (xi3_u rfl (xi3_u rfl (xi3_u rfl (xi3_u rfl (xi3_u rfl (xi3_u rfl (xi3_u rfl (xi3_u rfl (xi3_u rfl (xi3_u rfl (xi3_u rfl (xi3_u rfl (xi3_u rfl (xi3_u rfl (xi3_u rfl hI.2.2.1))))))))))))))))
    have kXA : XA W := by
      rw [hW]
      exact (uXA rfl (uXA rfl (uXA rfl (uXA rfl (uXA rfl (uXA rfl (uXA rfl (uXA rfl (uXA rfl (uXA rfl (uXA rfl (uXA rfl (uXA rfl (uXA rfl (uXA rfl (uXA rfl hI.2.2.2.1))))))))))))))))
    have k_xN1 : xN1 W := by
      rw [hW]
      exact (uxN1 rfl (uxN1 rfl (uxN1 rfl (uxN1 rfl (uxN1 rfl (uxN1 rfl (uxN1 rfl (uxN1 rfl (uxN1 rfl (uxN1 rfl (uxN1 rfl (uxN1 rfl (uxN1 rfl (uxN1 rfl (uxN1 rfl (uxN1 rfl hI.2.2.2.2.1))))))))))))))))
    have k_xN2 : xN2 W := by
      rw [hW]
      exact (uxN2 rfl (uxN2 rfl (uxN2 rfl (uxN2 rfl (uxN2 rfl (uxN2 rfl (uxN2 rfl (uxN2 rfl (uxN2 rfl (uxN2 rfl (uxN2 rfl (uxN2 rfl (uxN2 rfl (uxN2 rfl (uxN2 rfl (uxN2 rfl hI.2.2.2.2.2.1))))))))))))))))
    have k_xN3 : xN3 W := by
      rw [hW]
      exact (uxN3 rfl (uxN3 rfl (uxN3 rfl (uxN3 rfl (uxN3 rfl (uxN3 rfl (uxN3 rfl (uxN3 rfl (uxN3 rfl (uxN3 rfl (uxN3 rfl (uxN3 rfl (uxN3 rfl (uxN3 rfl (uxN3 rfl (uxN3 rfl hI.2.2.2.2.2.2.1))))))))))))))))
    have k_xN4 : xN4 W := by
      rw [hW]
      exact (uxN4 rfl (uxN4 rfl (uxN4 rfl (uxN4 rfl (uxN4 rfl (uxN4 rfl (uxN4 rfl (uxN4 rfl (uxN4 rfl (uxN4 rfl (uxN4 rfl (uxN4 rfl (uxN4 rfl (uxN4 rfl (uxN4 rfl (uxN4 rfl hI.2.2.2.2.2.2.2.1))))))))))))))))
    have k_xN5 : xN5 W := by
      rw [hW]
      exact (uxN5 rfl (uxN5 rfl (uxN5 rfl (uxN5 rfl (uxN5 rfl (uxN5 rfl (uxN5 rfl (uxN5 rfl (uxN5 rfl (uxN5 rfl (uxN5 rfl (uxN5 rfl (uxN5 rfl (uxN5 rfl (uxN5 rfl (uxN5 rfl hI.2.2.2.2.2.2.2.2.1))))))))))))))))
    have k_xN6 : xN6 W := by
      rw [hW]
      exact (uxN6 rfl (uxN6 rfl (uxN6 rfl (uxN6 rfl (uxN6 rfl (uxN6 rfl (uxN6 rfl (uxN6 rfl (uxN6 rfl (uxN6 rfl (uxN6 rfl (uxN6 rfl (uxN6 rfl (uxN6 rfl (uxN6 rfl (uxN6 rfl hI.2.2.2.2.2.2.2.2.2.1))))))))))))))))
    have k_xH1 : xH1 W := by
      rw [hW]
      exact (uxH1 rfl (uxH1 rfl (uxH1 rfl (uxH1 rfl (uxH1 rfl (uxH1 rfl (uxH1 rfl (uxH1 rfl (uxH1 rfl (uxH1 rfl (uxH1 rfl (uxH1 rfl (uxH1 rfl (uxH1 rfl (uxH1 rfl (uxH1 rfl hI.2.2.2.2.2.2.2.2.2.2.1))))))))))))))))
    have k_xK1 : xK1 W := by
      rw [hW]
      exact (uxK1 rfl (uxK1 rfl (uxK1 rfl (uxK1 rfl (uxK1 rfl (uxK1 rfl (uxK1 rfl (uxK1 rfl (uxK1 rfl (uxK1 rfl (uxK1 rfl (uxK1 rfl (uxK1 rfl (uxK1 rfl (uxK1 rfl (uxK1 rfl hI.2.2.2.2.2.2.2.2.2.2.2.1))))))))))))))))
    have k_xC1 : xC1 W := by
      rw [hW]
      exact (uxC1 rfl (uxC1 rfl (uxC1 rfl (uxC1 rfl (uxC1 rfl (uxC1 rfl (uxC1 rfl (uxC1 rfl (uxC1 rfl (uxC1 rfl (uxC1 rfl (uxC1 rfl (uxC1 rfl (uxC1 rfl (uxC1 rfl (uxC1 rfl hI.2.2.2.2.2.2.2.2.2.2.2.2.1))))))))))))))))
    have k_xRW : xRW W := by
      rw [hW]
      exact (uxRW rfl (uxRW rfl (uxRW rfl (uxRW rfl (uxRW rfl (uxRW rfl (uxRW rfl (uxRW rfl (uxRW rfl (uxRW rfl (uxRW rfl (uxRW rfl (uxRW rfl (uxRW rfl (uxRW rfl (uxRW rfl hI.2.2.2.2.2.2.2.2.2.2.2.2.2.1))))))))))))))))
    have k_xWT : xWT W := by
      rw [hW]
      exact (uxWT rfl (uxWT rfl (uxWT rfl (uxWT rfl (uxWT rfl (uxWT rfl (uxWT rfl (uxWT rfl (uxWT rfl (uxWT rfl (uxWT rfl (uxWT rfl (uxWT rfl (uxWT rfl (uxWT rfl (uxWT rfl hI.2.2.2.2.2.2.2.2.2.2.2.2.2.2.1))))))))))))))))
    have k_xCU : xCU W := by
      rw [hW]
      exact (uxCU rfl (uxCU rfl (uxCU rfl (uxCU rfl (uxCU rfl (uxCU rfl (uxCU rfl (uxCU rfl (uxCU rfl (uxCU rfl (uxCU rfl (uxCU rfl (uxCU rfl (uxCU rfl (uxCU rfl (uxCU rfl hI.2.2.2.2.2.2.2.2.2.2.2.2.2.2.2.1))))))))))))))))
    have k_xG2 : xG2 W := by
      rw [hW]
      exact (uxG2 rfl (uxG2 rfl (uxG2 rfl (uxG2 rfl (uxG2 rfl (uxG2 rfl (uxG2 rfl (uxG2 rfl (uxG2 rfl (uxG2 rfl (uxG2 rfl (uxG2 rfl (uxG2 rfl (uxG2 rfl (uxG2 rfl (uxG2 rfl hI.2.2.2.2.2.2.2.2.2.2.2.2.2.2.2.2.1))))))))))))))))
    have k_xG3 : xG3 W := by
      rw [hW]
      exact (uxG3 rfl (uxG3 rfl (uxG3 rfl (uxG3 rfl (uxG3 rfl (uxG3 rfl (uxG3 rfl (uxG3 rfl (uxG3 rfl (uxG3 rfl (uxG3 rfl (uxG3 rfl (uxG3 rfl (uxG3 rfl (uxG3 rfl (uxG3 rfl hI.2.2.2.2.2.2.2.2.2.2.2.2.2.2.2.2.2.1))))))))))))))))
    have k_xG4 : xG4 W := by
      rw [hW]
      exact (uxG4 rfl (uxG4 rfl (uxG4 rfl (uxG4 rfl (uxG4 rfl (uxG4 rfl (uxG4 rfl (uxG4 rfl (uxG4 rfl (uxG4 rfl (uxG4 rfl (uxG4 rfl (uxG4 rfl (uxG4 rfl (uxG4 rfl (uxG4 rfl hI.2.2.2.2.2.2.2.2.2.2.2.2.2.2.2.2.2.2.1))))))))))))))))
    have k_xG5 : xG5 W := by
      rw [hW]
      exact (uxG5 rfl (uxG5 rfl (uxG5 rfl (uxG5 rfl (uxG5 rfl (uxG5 rfl (uxG5 rfl (uxG5 rfl (uxG5 rfl (uxG5 rfl (uxG5 rfl (uxG5 rfl (uxG5 rfl (uxG5 rfl (uxG5 rfl (uxG5 rfl hI.2.2.2.2.2.2.2.2.2.2.2.2.2.2.2.2.2.2.2.1))))))))))))))))
    have k_xG6 : xG6 W := by
      rw [hW]
      exact (uxG6 rfl (uxG6 rfl (uxG6 rfl (uxG6 rfl (uxG6 rfl (uxG6 rfl (uxG6 rfl (uxG6 rfl (uxG6 rfl (uxG6 rfl (uxG6 rfl (uxG6 rfl (uxG6 rfl (uxG6 rfl (uxG6 rfl (uxG6 rfl hI.2.2.2.2.2.2.2.2.2.2.2.2.2.2.2.2.2.2.2.2.1))))))))))))))))
    have k_xS1 : xS1 W := by
      rw [hW]
      exact (uxS1 rfl (uxS1 rfl (uxS1 rfl (uxS1 rfl (uxS1 rfl (uxS1 rfl (uxS1 rfl (uxS1 rfl (uxS1 rfl (uxS1 rfl (uxS1 rfl (uxS1 rfl (uxS1 rfl (uxS1 rfl (uxS1 rfl (uxS1 rfl hI.2.2.2.2.2.2.2.2.2.2.2.2.2.2.2.2.2.2.2.2.2.1))))))))))))))))
    have k_xS2 : xS2 W := by
      rw [hW]
      exact (uxS2 rfl (uxS2 rfl (uxS2 rfl (uxS2 rfl (uxS2 rfl (uxS2 rfl (uxS2 rfl (uxS2 rfl (uxS2 rfl (uxS2 rfl (uxS2 rfl (uxS2 rfl (uxS2 rfl (uxS2 rfl (uxS2 rfl (uxS2 rfl hI.2.2.2.2.2.2.2.2.2.2.2.2.2.2.2.2.2.2.2.2.2.2.1))))))))))))))))
    have k_xS3 : xS3 W := by
      rw [hW]
      exact (uxS3 rfl (uxS3 rfl (uxS3 rfl (uxS3 rfl (uxS3 rfl (uxS3 rfl (uxS3 rfl (uxS3 rfl (uxS3 rfl (uxS3 rfl (uxS3 rfl (uxS3 rfl (uxS3 rfl (uxS3 rfl (uxS3 rfl (uxS3 rfl hI.2.2.2.2.2.2.2.2.2.2.2.2.2.2.2.2.2.2.2.2.2.2.2.1))))))))))))))))
    have k_xS4 : xS4 W := by
      rw [hW]
      exact (uxS4 rfl (uxS4 rfl (uxS4 rfl (uxS4 rfl (uxS4 rfl (uxS4 rfl (uxS4 rfl (uxS4 rfl (uxS4 rfl (uxS4 rfl (uxS4 rfl (uxS4 rfl (uxS4 rfl (uxS4 rfl (uxS4 rfl (uxS4 rfl hI.2.2.2.2.2.2.2.2.2.2.2.2.2.2.2.2.2.2.2.2.2.2.2.2.1))))))))))))))))
    have k_xS5 : xS5 W := by
      rw [hW]
      exact (uxS5 rfl (uxS5 rfl (uxS5 rfl (uxS5 rfl (uxS5 rfl (uxS5 rfl (uxS5 rfl (uxS5 rfl (uxS5 rfl (uxS5 rfl (uxS5 rfl (uxS5 rfl (uxS5 rfl (uxS5 rfl (uxS5 rfl (uxS5 rfl hI.2.2.2.2.2.2.2.2.2.2.2.2.2.2.2.2.2.2.2.2.2.2.2.2.2.1))))))))))))))))
    have k_xS6 : xS6 W := by
      rw [hW]
      exact (uxS6 rfl (uxS6 rfl (uxS6 rfl (uxS6 rfl (uxS6 rfl (uxS6 rfl (uxS6 rfl (uxS6 rfl (uxS6 rfl (uxS6 rfl (uxS6 rfl (uxS6 rfl (uxS6 rfl (uxS6 rfl (uxS6 rfl (uxS6 rfl hI.2.2.2.2.2.2.2.2.2.2.2.2.2.2.2.2.2.2.2.2.2.2.2.2.2.2.1))))))))))))))))
    have k_xS7 : xS7 W := by
      rw [hW]
      exact (uxS7 rfl (uxS7 rfl (uxS7 rfl (uxS7 rfl (uxS7 rfl (uxS7 rfl (uxS7 rfl (uxS7 rfl (uxS7 rfl (uxS7 rfl (uxS7 rfl (uxS7 rfl (uxS7 rfl (uxS7 rfl (uxS7 rfl (uxS7 rfl hI.2.2.2.2.2.2.2.2.2.2.2.2.2.2.2.2.2.2.2.2.2.2.2.2.2.2.2.1))))))))))))))))
    have k_xS8 : xS8 W := by
      rw [hW]
      exact (uxS8 rfl (uxS8 rfl (uxS8 rfl (uxS8 rfl (uxS8 rfl (uxS8 rfl (uxS8 rfl (uxS8 rfl (uxS8 rfl (uxS8 rfl (uxS8 rfl (uxS8 rfl (uxS8 rfl (uxS8 rfl (uxS8 rfl (uxS8 rfl hI.2.2.2.2.2.2.2.2.2.2.2.2.2.2.2.2.2.2.2.2.2.2.2.2.2.2.2.2.1))))))))))))))))
    have k_xS9 : xS9 W := by
      rw [hW]
      exact (uxS9 rfl (uxS9 rfl (uxS9 rfl (uxS9 rfl (uxS9 rfl (uxS9 rfl (uxS9 rfl (uxS9 rfl (uxS9 rfl (uxS9 rfl (uxS9 rfl (uxS9 rfl (uxS9 rfl (uxS9 rfl (uxS9 rfl (uxS9 rfl hI.2.2.2.2.2.2.2.2.2.2.2.2.2.2.2.2.2.2.2.2.2.2.2.2.2.2.2.2.2.1))))))))))))))))
    have k_xSA : xSA W := by
      rw [hW]
      exact (uxSA rfl (uxSA rfl (uxSA rfl (uxSA rfl (uxSA rfl (uxSA rfl (uxSA rfl (uxSA rfl (uxSA rfl (uxSA rfl (uxSA rfl (uxSA rfl (uxSA rfl (uxSA rfl (uxSA rfl (uxSA rfl hI.2.2.2.2.2.2.2.2.2.2.2.2.2.2.2.2.2.2.2.2.2.2.2.2.2.2.2.2.2.2.1))))))))))))))))
    have k_xSG : xSG W := by
      rw [hW]
      exact (uxSG rfl (uxSG rfl (uxSG rfl (uxSG rfl (uxSG rfl (uxSG rfl (uxSG rfl (uxSG rfl (uxSG rfl (uxSG rfl (uxSG rfl (uxSG rfl (uxSG rfl (uxSG rfl (uxSG rfl (uxSG rfl hI.2.2.2.2.2.2.2.2.2.2.2.2.2.2.2.2.2.2.2.2.2.2.2.2.2.2.2.2.2.2.2.1))))))))))))))))
    have k_xSF : xSF W := by
      rw [hW]
      exact (uxSF rfl (uxSF rfl (uxSF rfl (uxSF rfl (uxSF rfl (uxSF rfl (uxSF rfl (uxSF rfl (uxSF rfl (uxSF rfl (uxSF rfl (uxSF rfl (uxSF rfl (uxSF rfl (uxSF rfl (uxSF rfl hI.2.2.2.2.2.2.2.2.2.2.2.2.2.2.2.2.2.2.2.2.2.2.2.2.2.2.2.2.2.2.2.2.1))))))))))))))))
    have k_xSB : xSB W := by
      rw [hW]
      exact (uxSB rfl (uxSB rfl (uxSB rfl (uxSB rfl (uxSB rfl (uxSB rfl (uxSB rfl (uxSB rfl (uxSB rfl (uxSB rfl (uxSB rfl (uxSB rfl (uxSB rfl (uxSB rfl (uxSB rfl (uxSB rfl hI.2.2.2.2.2.2.2.2.2.2.2.2.2.2.2.2.2.2.2.2.2.2.2.2.2.2.2.2.2.2.2.2.2.1))))))))))))))))
    have k_xSC : xSC W := by
      rw [hW]
      exact (uxSC rfl (uxSC rfl (uxSC rfl (uxSC rfl (uxSC rfl (uxSC rfl (uxSC rfl (uxSC rfl (uxSC rfl (uxSC rfl (uxSC rfl (uxSC rfl (uxSC rfl (uxSC rfl (uxSC rfl (uxSC rfl hI.2.2.2.2.2.2.2.2.2.2.2.2.2.2.2.2.2.2.2.2.2.2.2.2.2.2.2.2.2.2.2.2.2.2.1))))))))))))))))
    have k_xSD : xSD W := by
      have r91_240 : W 91 240 = 1 * ρ 0 + 0 := by rw [hW, sU_ne (fun z => by omega), sU_ne (fun z => by omega), sU_ne (fun z => by omega), sU_ne (fun z => by omega), sU_ne (fun z => by omega), sU_ne (fun z => by omega), sU_ne (fun z => by omega), sU_at]
      have r91_241 : W 91 241 = 1 * ρ 0 + 0 := by rw [hW, sU_ne (fun z => by omega), sU_ne (fun z => by omega), sU_ne (fun z => by omega), sU_ne (fun z => by omega), sU_ne (fun z => by omega), sU_ne (fun z => by omega), sU_at]
      have r91_242 : W 91 242 = 9 * ρ 0 + 0 := by rw [hW, sU_ne (fun z => by omega), sU_ne (fun z => by omega), sU_ne (fun z => by omega), sU_ne (fun z => by omega), sU_ne (fun z => by omega), sU_at]
      have r91_243 : W 91 243 = 512 * ρ 0 + 0 := by rw [hW, sU_ne (fun z => by omega), sU_ne (fun z => by omega), sU_ne (fun z => by omega), sU_ne (fun z => by omega), sU_at]
      have r91_244 : W 91 244 = 512 * ρ 0 + (1 * ρ 1 + (-512 * ρ 7 + 0)) := by rw [hW, sU_ne (fun z => by omega), sU_at]
      have r91_245 : W 91 245 = 0 := by rw [hW, sU_ne (fun z => by omega), sU_ne (fun z => by omega), sU_ne (fun z => by omega), sU_at]
      have r91_246 : W 91 246 = 1 * ρ 1 + 0 := by rw [hW, sU_ne (fun z => by omega), sU_ne (fun z => by omega), sU_at]
      have r91_247 : W 91 247 = 512 * ρ 0 + 0 := by rw [hW, sU_at]
      intro h
      rw [r91_241, r91_242, r91_243, r91_244, r91_245, r91_246, r91_247, h0]
      refine ⟨by decide, ?_, by decide⟩
      rw [show ((512 : Int) * 1 + 0) = 512 from rfl, show (1 * ρ 1 + 0 : Int) = ρ 1 by omega, xb.2]
      omega
    have k_xSE : xSE W := by
      have r91_249 : W 91 249 = 1 * ρ 0 + 0 := by rw [hW, sU_ne (fun z => by omega), sU_ne (fun z => by omega), sU_ne (fun z => by omega), sU_ne (fun z => by omega), sU_ne (fun z => by omega), sU_ne (fun z => by omega), sU_ne (fun z => by omega), sU_ne (fun z => by omega), sU_ne (fun z => by omega), sU_ne (fun z => by omega), sU_ne (fun z => by omega), sU_ne (fun z => by omega), sU_ne (fun z => by omega), sU_ne (fun z => by omega), sU_ne (fun z => by omega), sU_at]
      have r91_250 : W 91 250 = 1 * ρ 1 + 0 := by rw [hW, sU_ne (fun z => by omega), sU_ne (fun z => by omega), sU_ne (fun z => by omega), sU_ne (fun z => by omega), sU_ne (fun z => by omega), sU_ne (fun z => by omega), sU_ne (fun z => by omega), sU_ne (fun z => by omega), sU_ne (fun z => by omega), sU_ne (fun z => by omega), sU_ne (fun z => by omega), sU_ne (fun z => by omega), sU_ne (fun z => by omega), sU_ne (fun z => by omega), sU_at]
      have r91_251 : W 91 251 = 9 * ρ 0 + 0 := by rw [hW, sU_ne (fun z => by omega), sU_ne (fun z => by omega), sU_ne (fun z => by omega), sU_ne (fun z => by omega), sU_ne (fun z => by omega), sU_ne (fun z => by omega), sU_ne (fun z => by omega), sU_ne (fun z => by omega), sU_ne (fun z => by omega), sU_ne (fun z => by omega), sU_ne (fun z => by omega), sU_ne (fun z => by omega), sU_ne (fun z => by omega), sU_at]
      have r91_252 : W 91 252 = 1 * (xop 0 (ρ 1) 9) + 0 := by rw [hW, sU_ne (fun z => by omega), sU_ne (fun z => by omega), sU_ne (fun z => by omega), sU_ne (fun z => by omega), sU_ne (fun z => by omega), sU_ne (fun z => by omega), sU_ne (fun z => by omega), sU_ne (fun z => by omega), sU_ne (fun z => by omega), sU_ne (fun z => by omega), sU_ne (fun z => by omega), sU_ne (fun z => by omega), sU_at]
      have r91_253 : W 91 253 = 1 * ρ 7 + 0 := by rw [hW, sU_ne (fun z => by omega), sU_ne (fun z => by omega), sU_ne (fun z => by omega), sU_ne (fun z => by omega), sU_ne (fun z => by omega), sU_ne (fun z => by omega), sU_ne (fun z => by omega), sU_ne (fun z => by omega), sU_ne (fun z => by omega), sU_ne (fun z => by omega), sU_ne (fun z => by omega), sU_at]
      have r91_255 : W 91 255 = 0 := by rw [hW, sU_ne (fun z => by omega), sU_ne (fun z => by omega), sU_ne (fun z => by omega), sU_ne (fun z => by omega), sU_ne (fun z => by omega), sU_ne (fun z => by omega), sU_ne (fun z => by omega), sU_ne (fun z => by omega), sU_ne (fun z => by omega), sU_ne (fun z => by omega), sU_at]
      have r91_256 : W 91 256 = 1 * (xop 1 0 512) + 0 := by rw [hW, sU_ne (fun z => by omega), sU_ne (fun z => by omega), sU_ne (fun z => by omega), sU_ne (fun z => by omega), sU_ne (fun z => by omega), sU_ne (fun z => by omega), sU_ne (fun z => by omega), sU_ne (fun z => by omega), sU_ne (fun z => by omega), sU_at]
      have r91_243 : W 91 243 = 512 * ρ 0 + 0 := by rw [hW, sU_ne (fun z => by omega), sU_ne (fun z => by omega), sU_ne (fun z => by omega), sU_ne (fun z => by omega), sU_at]
      have r91_257 : W 91 257 = 1 * (xop 1 (xop 0 (ρ 1) 9) 255) + 0 := by rw [hW, sU_ne (fun z => by omega), sU_ne (fun z => by omega), sU_ne (fun z => by omega), sU_ne (fun z => by omega), sU_ne (fun z => by omega), sU_ne (fun z => by omega), sU_ne (fun z => by omega), sU_ne (fun z => by omega), sU_at]
      intro h
      rw [r91_243, r91_250, r91_251, r91_252, r91_253, r91_255, r91_256, r91_257, h0]
      rw [show ((9 : Int) * 1 + 0) = 9 from rfl, show (1 * ρ 1 + 0 : Int) = ρ 1 by omega, show ((512 : Int) * 1 + 0) = 512 from rfl]
      refine ⟨by omega, ?_, by omega, ?_⟩
      · rw [show (1 * (xop 0 (ρ 1) 9) + 0 : Int) = xop 0 (ρ 1) 9 by omega, xb.1]
        omega
      · rw [show (1 * (xop 0 (ρ 1) 9) + 0 : Int) = xop 0 (ρ 1) 9 by omega]
        omega
    have k_xSW : xSW W := by
      rw [hW]
      exact (uxSW rfl (uxSW rfl (uxSW rfl (uxSW rfl (uxSW rfl (uxSW rfl (uxSW rfl (uxSW rfl (uxSW rfl (uxSW rfl (uxSW rfl (uxSW rfl (uxSW rfl (uxSW rfl (uxSW rfl (uxSW rfl hI.2.2.2.2.2.2.2.2.2.2.2.2.2.2.2.2.2.2.2.2.2.2.2.2.2.2.2.2.2.2.2.2.2.2.2.2.2.1))))))))))))))))
    have k_xST : xST W := by
      rw [hW]
      exact (uxST rfl (uxST rfl (uxST rfl (uxST rfl (uxST rfl (uxST rfl (uxST rfl (uxST rfl (uxST rfl (uxST rfl (uxST rfl (uxST rfl (uxST rfl (uxST rfl (uxST rfl (uxST rfl hI.2.2.2.2.2.2.2.2.2.2.2.2.2.2.2.2.2.2.2.2.2.2.2.2.2.2.2.2.2.2.2.2.2.2.2.2.2.2.1))))))))))))))))
    have k_xSP : xSP W := by
      rw [hW]
      exact (uxSP rfl (uxSP rfl (uxSP rfl (uxSP rfl (uxSP rfl (uxSP rfl (uxSP rfl (uxSP rfl (uxSP rfl (uxSP rfl (uxSP rfl (uxSP rfl (uxSP rfl (uxSP rfl (uxSP rfl (uxSP rfl hI.2.2.2.2.2.2.2.2.2.2.2.2.2.2.2.2.2.2.2.2.2.2.2.2.2.2.2.2.2.2.2.2.2.2.2.2.2.2.2.1))))))))))))))))
    have k_xSL : xSL W := by
      rw [hW]
      exact (uxSL rfl (uxSL rfl (uxSL rfl (uxSL rfl (uxSL rfl (uxSL rfl (uxSL rfl (uxSL rfl (uxSL rfl (uxSL rfl (uxSL rfl (uxSL rfl (uxSL rfl (uxSL rfl (uxSL rfl (uxSL rfl hI.2.2.2.2.2.2.2.2.2.2.2.2.2.2.2.2.2.2.2.2.2.2.2.2.2.2.2.2.2.2.2.2.2.2.2.2.2.2.2.2.1))))))))))))))))
    have k_xSM : xSM W := by
      rw [hW]
      exact (uxSM rfl (uxSM rfl (uxSM rfl (uxSM rfl (uxSM rfl (uxSM rfl (uxSM rfl (uxSM rfl (uxSM rfl (uxSM rfl (uxSM rfl (uxSM rfl (uxSM rfl (uxSM rfl (uxSM rfl (uxSM rfl hI.2.2.2.2.2.2.2.2.2.2.2.2.2.2.2.2.2.2.2.2.2.2.2.2.2.2.2.2.2.2.2.2.2.2.2.2.2.2.2.2.2.1))))))))))))))))
    have k_xSI : xSI W := by
      rw [hW]
      exact (uxSI rfl (uxSI rfl (uxSI rfl (uxSI rfl (uxSI rfl (uxSI rfl (uxSI rfl (uxSI rfl (uxSI rfl (uxSI rfl (uxSI rfl (uxSI rfl (uxSI rfl (uxSI rfl (uxSI rfl (uxSI rfl hI.2.2.2.2.2.2.2.2.2.2.2.2.2.2.2.2.2.2.2.2.2.2.2.2.2.2.2.2.2.2.2.2.2.2.2.2.2.2.2.2.2.2))))))))))))))))
    have k_XC : XC W := ⟨k_xS1, k_xS2, k_xS3, k_xS4, k_xS5, k_xS6, k_xS7, k_xS8, k_xS9, k_xSA, k_xSG, k_xSF, k_xSB, k_xSC, k_xSD, k_xSE, k_xSW, k_xST, k_xSP, k_xSL, k_xSM, k_xSI⟩
    have kXB : XB W := ⟨k_xN1, k_xN2, k_xN3, k_xN4, k_xN5, k_xN6, k_xH1, k_xK1, k_xC1, k_xRW, k_xWT, k_xCU, k_xG2, k_xG3, k_xG4, k_xG5, k_xG6, k_XC⟩
    exact ⟨base, k2, k3, kXA, kXB⟩
-- rt16
def xr_544 : qRu := (11, [[(1, 1), (-1, 2), (-32, 3), (-64, 4), (-128, 5), (-256, 6), (-512, 7), (-1024, 8), (-65536, 9), (-131072, 10)], [(-1, 1), (1, 2), (32, 3), (64, 4), (128, 5), (256, 6), (512, 7), (1024, 8), (65536, 9), (131072, 10)], [(1, 2)], [(31, 0), (-1, 2)], [(1, 8)], [(63, 0), (-1, 8)], [(1, 3)], [(1, 0), (-1, 3)], [(1, 4)], [(1, 0), (-1, 4)], [(1, 5)], [(1, 0), (-1, 5)], [(1, 6)], [(1, 0), (-1, 6)], [(1, 7)], [(1, 0), (-1, 7)], [(1, 9)], [(1, 0), (-1, 9)], [(1, 10)], [(1, 0), (-1, 10)]], [], [], [(91, 249, [(1, 0)]), (91, 250, [(1, 1)]), (91, 251, [(16, 0)]), (91, 252, [(1, 11)]), (91, 253, [(1, 9)]), (91, 255, []), (91, 256, [(1, 12)]), (91, 257, [(1, 13)]), (91, 240, [(1, 0)]), (91, 241, [(1, 0)]), (91, 242, [(16, 0)]), (91, 243, [(65536, 0)]), (91, 245, []), (91, 246, [(1, 1)]), (91, 244, [(65536, 0), (1, 1), (-65536, 9)]), (91, 247, [(65536, 0)])], [])
theorem xo_544 : qRok xr_544 := by
  intro ρ M h0 hf hm hI
  have f0 := hf [(1, 1), (-1, 2), (-32, 3), (-64, 4), (-128, 5), (-256, 6), (-512, 7), (-1024, 8), (-65536, 9), (-131072, 10)] (by decide)
  have f1 := hf [(-1, 1), (1, 2), (32, 3), (64, 4), (128, 5), (256, 6), (512, 7), (1024, 8), (65536, 9), (131072, 10)] (by decide)
  have f2 := hf [(1, 2)] (by decide)
  have f3 := hf [(31, 0), (-1, 2)] (by decide)
  have f4 := hf [(1, 8)] (by decide)
  have f5 := hf [(63, 0), (-1, 8)] (by decide)
  have f6 := hf [(1, 3)] (by decide)
  have f7 := hf [(1, 0), (-1, 3)] (by decide)
  have f8 := hf [(1, 4)] (by decide)
  have f9 := hf [(1, 0), (-1, 4)] (by decide)
  have f10 := hf [(1, 5)] (by decide)
  have f11 := hf [(1, 0), (-1, 5)] (by decide)
  have f12 := hf [(1, 6)] (by decide)
  have f13 := hf [(1, 0), (-1, 6)] (by decide)
  have f14 := hf [(1, 7)] (by decide)
  have f15 := hf [(1, 0), (-1, 7)] (by decide)
  have f16 := hf [(1, 9)] (by decide)
  have f17 := hf [(1, 0), (-1, 9)] (by decide)
  have f18 := hf [(1, 10)] (by decide)
  have f19 := hf [(1, 0), (-1, 10)] (by decide)
  simp only [qD, h0] at f0 f1 f2 f3 f4 f5 f6 f7 f8 f9 f10 f11 f12 f13 f14 f15 f16 f17 f18 f19
  have qxSD := hI.2.2.2.2.2.2.2.2.2.2.2.2.2.2.2.2.2.2.2.2.2.2.2.2.2.2.2.2.2.2.2.2.2.2.2.1
  have qxSE := hI.2.2.2.2.2.2.2.2.2.2.2.2.2.2.2.2.2.2.2.2.2.2.2.2.2.2.2.2.2.2.2.2.2.2.2.2.1
  have xb := xbit16 (t := ρ 1) (b := ρ 9) (h := 1 * ρ 10) (l := 1 * ρ 2 + 32 * ρ 3 + 64 * ρ 4 + 128 * ρ 5 + 256 * ρ 6 + 512 * ρ 7 + 1024 * ρ 8) (by omega) (by omega) (by omega) (by omega) (by omega)
  refine ⟨fun a => cond (Nat.blt a 11) (ρ a) (([xop 0 (ρ 1) 16, xop 1 0 65536, xop 1 (xop 0 (ρ 1) 16) 255] : List Int).getD (a - 11) 0), fun a ha => ?_, fun f h => ?_, ?_⟩
  · show cond (Nat.blt a 11) (ρ a) _ = ρ a
    rw [show Nat.blt a 11 = true from Nat.ble_eq_true_of_le ha]; rfl
  · exact nomatch h
  · show sI (sU (sU (sU (sU (sU (sU (sU (sU (sU (sU (sU (sU (sU (sU (sU (sU M 91 249 (1 * ρ 0 + 0)) 91 250 (1 * ρ 1 + 0)) 91 251 (16 * ρ 0 + 0)) 91 252 (1 * (xop 0 (ρ 1) 16) + 0)) 91 253 (1 * ρ 9 + 0)) 91 255 (0)) 91 256 (1 * (xop 1 0 65536) + 0)) 91 257 (1 * (xop 1 (xop 0 (ρ 1) 16) 255) + 0)) 91 240 (1 * ρ 0 + 0)) 91 241 (1 * ρ 0 + 0)) 91 242 (16 * ρ 0 + 0)) 91 243 (65536 * ρ 0 + 0)) 91 245 (0)) 91 246 (1 * ρ 1 + 0)) 91 244 (65536 * ρ 0 + (1 * ρ 1 + (-65536 * ρ 9 + 0)))) 91 247 (65536 * ρ 0 + 0))
    obtain ⟨W, hW⟩ : ∃ W, W = (sU (sU (sU (sU (sU (sU (sU (sU (sU (sU (sU (sU (sU (sU (sU (sU M 91 249 (1 * ρ 0 + 0)) 91 250 (1 * ρ 1 + 0)) 91 251 (16 * ρ 0 + 0)) 91 252 (1 * (xop 0 (ρ 1) 16) + 0)) 91 253 (1 * ρ 9 + 0)) 91 255 (0)) 91 256 (1 * (xop 1 0 65536) + 0)) 91 257 (1 * (xop 1 (xop 0 (ρ 1) 16) 255) + 0)) 91 240 (1 * ρ 0 + 0)) 91 241 (1 * ρ 0 + 0)) 91 242 (16 * ρ 0 + 0)) 91 243 (65536 * ρ 0 + 0)) 91 245 (0)) 91 246 (1 * ρ 1 + 0)) 91 244 (65536 * ρ 0 + (1 * ρ 1 + (-65536 * ρ 9 + 0)))) 91 247 (65536 * ρ 0 + 0)) := ⟨_, rfl⟩
    rw [← hW]
    have base : sI0 W := by
      rw [hW]
      exact (si_u0 (si_u0 (si_u0 (si_u0 (si_u0 (si_u0 (si_u0 (si_u0 (si_u0 (si_u0 (si_u0 (si_u0 (si_u0 (si_u0 (si_u0 (si_u0 hI.1 (fun r hr => by cases hr)) (fun r hr => by cases hr)) (fun r hr => by cases hr)) (fun r hr => by cases hr)) (fun r hr => by cases hr)) (fun r hr => by cases hr)) (fun r hr => by cases hr)) (fun r hr => by cases hr)) (fun r hr => by cases hr)) (fun r hr => by cases hr)) (fun r hr => by cases hr)) (fun r hr => by cases hr)) (fun r hr => by cases hr)) (fun r hr => by cases hr)) (fun r hr => by cases hr)) (fun r hr => by cases hr))
    have k2 : XI2 W := by
      rw [hW]
      exact (xi2_u rfl (xi2_u rfl (xi2_u rfl (xi2_u rfl (xi2_u rfl (xi2_u rfl (xi2_u rfl (xi2_u rfl (xi2_u rfl (xi2_u rfl (xi2_u rfl (xi2_u rfl (xi2_u rfl (xi2_u rfl (xi2_u rfl (xi2_u rfl hI.2.1))))))))))))))))
    have k3 : XI3 W := by
      rw [hW]
      exact (xi3_u rfl (xi3_u rfl (xi3_u rfl (xi3_u rfl (xi3_u rfl (xi3_u rfl (xi3_u rfl (xi3_u rfl (xi3_u rfl (xi3_u rfl (xi3_u rfl (xi3_u rfl (xi3_u rfl (xi3_u rfl (xi3_u rfl (xi3_u rfl hI.2.2.1))))))))))))))))
    have kXA : XA W := by
      rw [hW]
      exact (uXA rfl (uXA rfl (uXA rfl (uXA rfl (uXA rfl (uXA rfl (uXA rfl (uXA rfl (uXA rfl (uXA rfl (uXA rfl (uXA rfl (uXA rfl (uXA rfl (uXA rfl (uXA rfl hI.2.2.2.1))))))))))))))))
    have k_xN1 : xN1 W := by
      rw [hW]
      exact (uxN1 rfl (uxN1 rfl (uxN1 rfl (uxN1 rfl (uxN1 rfl (uxN1 rfl (uxN1 rfl (uxN1 rfl (uxN1 rfl (uxN1 rfl (uxN1 rfl (uxN1 rfl (uxN1 rfl (uxN1 rfl (uxN1 rfl (uxN1 rfl hI.2.2.2.2.1))))))))))))))))
    have k_xN2 : xN2 W := by
      rw [hW]
      exact (uxN2 rfl (uxN2 rfl (uxN2 rfl (uxN2 rfl (uxN2 rfl (uxN2 rfl (uxN2 rfl (uxN2 rfl (uxN2 rfl (uxN2 rfl (uxN2 rfl (uxN2 rfl (uxN2 rfl (uxN2 rfl (uxN2 rfl (uxN2 rfl hI.2.2.2.2.2.1))))))))))))))))
    have k_xN3 : xN3 W := by
      rw [hW]
      exact (uxN3 rfl (uxN3 rfl (uxN3 rfl (uxN3 rfl (uxN3 rfl (uxN3 rfl (uxN3 rfl (uxN3 rfl (uxN3 rfl (uxN3 rfl (uxN3 rfl (uxN3 rfl (uxN3 rfl (uxN3 rfl (uxN3 rfl (uxN3 rfl hI.2.2.2.2.2.2.1))))))))))))))))
    have k_xN4 : xN4 W := by
      rw [hW]
      exact (uxN4 rfl (uxN4 rfl (uxN4 rfl (uxN4 rfl (uxN4 rfl (uxN4 rfl (uxN4 rfl (uxN4 rfl (uxN4 rfl (uxN4 rfl (uxN4 rfl (uxN4 rfl (uxN4 rfl (uxN4 rfl (uxN4 rfl (uxN4 rfl hI.2.2.2.2.2.2.2.1))))))))))))))))
    have k_xN5 : xN5 W := by
      rw [hW]
      exact (uxN5 rfl (uxN5 rfl (uxN5 rfl (uxN5 rfl (uxN5 rfl (uxN5 rfl (uxN5 rfl (uxN5 rfl (uxN5 rfl (uxN5 rfl (uxN5 rfl (uxN5 rfl (uxN5 rfl (uxN5 rfl (uxN5 rfl (uxN5 rfl hI.2.2.2.2.2.2.2.2.1))))))))))))))))
    have k_xN6 : xN6 W := by
      rw [hW]
      exact (uxN6 rfl (uxN6 rfl (uxN6 rfl (uxN6 rfl (uxN6 rfl (uxN6 rfl (uxN6 rfl (uxN6 rfl (uxN6 rfl (uxN6 rfl (uxN6 rfl (uxN6 rfl (uxN6 rfl (uxN6 rfl (uxN6 rfl (uxN6 rfl hI.2.2.2.2.2.2.2.2.2.1))))))))))))))))
    have k_xH1 : xH1 W := by
      rw [hW]
      exact (uxH1 rfl (uxH1 rfl (uxH1 rfl (uxH1 rfl (uxH1 rfl (uxH1 rfl (uxH1 rfl (uxH1 rfl (uxH1 rfl (uxH1 rfl (uxH1 rfl (uxH1 rfl (uxH1 rfl (uxH1 rfl (uxH1 rfl (uxH1 rfl hI.2.2.2.2.2.2.2.2.2.2.1))))))))))))))))
    have k_xK1 : xK1 W := by
      rw [hW]
      exact (uxK1 rfl (uxK1 rfl (uxK1 rfl (uxK1 rfl (uxK1 rfl (uxK1 rfl (uxK1 rfl (uxK1 rfl (uxK1 rfl (uxK1 rfl (uxK1 rfl (uxK1 rfl (uxK1 rfl (uxK1 rfl (uxK1 rfl (uxK1 rfl hI.2.2.2.2.2.2.2.2.2.2.2.1))))))))))))))))
    have k_xC1 : xC1 W := by
      rw [hW]
      exact (uxC1 rfl (uxC1 rfl (uxC1 rfl (uxC1 rfl (uxC1 rfl (uxC1 rfl (uxC1 rfl (uxC1 rfl (uxC1 rfl (uxC1 rfl (uxC1 rfl (uxC1 rfl (uxC1 rfl (uxC1 rfl (uxC1 rfl (uxC1 rfl hI.2.2.2.2.2.2.2.2.2.2.2.2.1))))))))))))))))
    have k_xRW : xRW W := by
      rw [hW]
      exact (uxRW rfl (uxRW rfl (uxRW rfl (uxRW rfl (uxRW rfl (uxRW rfl (uxRW rfl (uxRW rfl (uxRW rfl (uxRW rfl (uxRW rfl (uxRW rfl (uxRW rfl (uxRW rfl (uxRW rfl (uxRW rfl hI.2.2.2.2.2.2.2.2.2.2.2.2.2.1))))))))))))))))
    have k_xWT : xWT W := by
      rw [hW]
      exact (uxWT rfl (uxWT rfl (uxWT rfl (uxWT rfl (uxWT rfl (uxWT rfl (uxWT rfl (uxWT rfl (uxWT rfl (uxWT rfl (uxWT rfl (uxWT rfl (uxWT rfl (uxWT rfl (uxWT rfl (uxWT rfl hI.2.2.2.2.2.2.2.2.2.2.2.2.2.2.1))))))))))))))))
    have k_xCU : xCU W := by
      rw [hW]
      exact (uxCU rfl (uxCU rfl (uxCU rfl (uxCU rfl (uxCU rfl (uxCU rfl (uxCU rfl (uxCU rfl (uxCU rfl (uxCU rfl (uxCU rfl (uxCU rfl (uxCU rfl (uxCU rfl (uxCU rfl (uxCU rfl hI.2.2.2.2.2.2.2.2.2.2.2.2.2.2.2.1))))))))))))))))
    have k_xG2 : xG2 W := by
      rw [hW]
      exact (uxG2 rfl (uxG2 rfl (uxG2 rfl (uxG2 rfl (uxG2 rfl (uxG2 rfl (uxG2 rfl (uxG2 rfl (uxG2 rfl (uxG2 rfl (uxG2 rfl (uxG2 rfl (uxG2 rfl (uxG2 rfl (uxG2 rfl (uxG2 rfl hI.2.2.2.2.2.2.2.2.2.2.2.2.2.2.2.2.1))))))))))))))))
    have k_xG3 : xG3 W := by
      rw [hW]
      exact (uxG3 rfl (uxG3 rfl (uxG3 rfl (uxG3 rfl (uxG3 rfl (uxG3 rfl (uxG3 rfl (uxG3 rfl (uxG3 rfl (uxG3 rfl (uxG3 rfl (uxG3 rfl (uxG3 rfl (uxG3 rfl (uxG3 rfl (uxG3 rfl hI.2.2.2.2.2.2.2.2.2.2.2.2.2.2.2.2.2.1))))))))))))))))
    have k_xG4 : xG4 W := by
      rw [hW]
      exact (uxG4 rfl (uxG4 rfl (uxG4 rfl (uxG4 rfl (uxG4 rfl (uxG4 rfl (uxG4 rfl (uxG4 rfl (uxG4 rfl (uxG4 rfl (uxG4 rfl (uxG4 rfl (uxG4 rfl (uxG4 rfl (uxG4 rfl (uxG4 rfl hI.2.2.2.2.2.2.2.2.2.2.2.2.2.2.2.2.2.2.1))))))))))))))))
    have k_xG5 : xG5 W := by
      rw [hW]
      exact (uxG5 rfl (uxG5 rfl (uxG5 rfl (uxG5 rfl (uxG5 rfl (uxG5 rfl (uxG5 rfl (uxG5 rfl (uxG5 rfl (uxG5 rfl (uxG5 rfl (uxG5 rfl (uxG5 rfl (uxG5 rfl (uxG5 rfl (uxG5 rfl hI.2.2.2.2.2.2.2.2.2.2.2.2.2.2.2.2.2.2.2.1))))))))))))))))
    have k_xG6 : xG6 W := by
      rw [hW]
      exact (uxG6 rfl (uxG6 rfl (uxG6 rfl (uxG6 rfl (uxG6 rfl (uxG6 rfl (uxG6 rfl (uxG6 rfl (uxG6 rfl (uxG6 rfl (uxG6 rfl (uxG6 rfl (uxG6 rfl (uxG6 rfl (uxG6 rfl (uxG6 rfl hI.2.2.2.2.2.2.2.2.2.2.2.2.2.2.2.2.2.2.2.2.1))))))))))))))))
    have k_xS1 : xS1 W := by
      rw [hW]
      exact (uxS1 rfl (uxS1 rfl (uxS1 rfl (uxS1 rfl (uxS1 rfl (uxS1 rfl (uxS1 rfl (uxS1 rfl (uxS1 rfl (uxS1 rfl (uxS1 rfl (uxS1 rfl (uxS1 rfl (uxS1 rfl (uxS1 rfl (uxS1 rfl hI.2.2.2.2.2.2.2.2.2.2.2.2.2.2.2.2.2.2.2.2.2.1))))))))))))))))
    have k_xS2 : xS2 W := by
      rw [hW]
      exact (uxS2 rfl (uxS2 rfl (uxS2 rfl (uxS2 rfl (uxS2 rfl (uxS2 rfl (uxS2 rfl (uxS2 rfl (uxS2 rfl (uxS2 rfl (uxS2 rfl (uxS2 rfl (uxS2 rfl (uxS2 rfl (uxS2 rfl (uxS2 rfl hI.2.2.2.2.2.2.2.2.2.2.2.2.2.2.2.2.2.2.2.2.2.2.1))))))))))))))))
    have k_xS3 : xS3 W := by
      rw [hW]
      exact (uxS3 rfl (uxS3 rfl (uxS3 rfl (uxS3 rfl (uxS3 rfl (uxS3 rfl (uxS3 rfl (uxS3 rfl (uxS3 rfl (uxS3 rfl (uxS3 rfl (uxS3 rfl (uxS3 rfl (uxS3 rfl (uxS3 rfl (uxS3 rfl hI.2.2.2.2.2.2.2.2.2.2.2.2.2.2.2.2.2.2.2.2.2.2.2.1))))))))))))))))
    have k_xS4 : xS4 W := by
      rw [hW]
      exact (uxS4 rfl (uxS4 rfl (uxS4 rfl (uxS4 rfl (uxS4 rfl (uxS4 rfl (uxS4 rfl (uxS4 rfl (uxS4 rfl (uxS4 rfl (uxS4 rfl (uxS4 rfl (uxS4 rfl (uxS4 rfl (uxS4 rfl (uxS4 rfl hI.2.2.2.2.2.2.2.2.2.2.2.2.2.2.2.2.2.2.2.2.2.2.2.2.1))))))))))))))))
    have k_xS5 : xS5 W := by
      rw [hW]
      exact (uxS5 rfl (uxS5 rfl (uxS5 rfl (uxS5 rfl (uxS5 rfl (uxS5 rfl (uxS5 rfl (uxS5 rfl (uxS5 rfl (uxS5 rfl (uxS5 rfl (uxS5 rfl (uxS5 rfl (uxS5 rfl (uxS5 rfl (uxS5 rfl hI.2.2.2.2.2.2.2.2.2.2.2.2.2.2.2.2.2.2.2.2.2.2.2.2.2.1))))))))))))))))
    have k_xS6 : xS6 W := by
      rw [hW]
      exact (uxS6 rfl (uxS6 rfl (uxS6 rfl (uxS6 rfl (uxS6 rfl (uxS6 rfl (uxS6 rfl (uxS6 rfl (uxS6 rfl (uxS6 rfl (uxS6 rfl (uxS6 rfl (uxS6 rfl (uxS6 rfl (uxS6 rfl (uxS6 rfl hI.2.2.2.2.2.2.2.2.2.2.2.2.2.2.2.2.2.2.2.2.2.2.2.2.2.2.1))))))))))))))))
    have k_xS7 : xS7 W := by
      rw [hW]
      exact (uxS7 rfl (uxS7 rfl (uxS7 rfl (uxS7 rfl (uxS7 rfl (uxS7 rfl (uxS7 rfl (uxS7 rfl (uxS7 rfl (uxS7 rfl (uxS7 rfl (uxS7 rfl (uxS7 rfl (uxS7 rfl (uxS7 rfl (uxS7 rfl hI.2.2.2.2.2.2.2.2.2.2.2.2.2.2.2.2.2.2.2.2.2.2.2.2.2.2.2.1))))))))))))))))
    have k_xS8 : xS8 W := by
      rw [hW]
      exact (uxS8 rfl (uxS8 rfl (uxS8 rfl (uxS8 rfl (uxS8 rfl (uxS8 rfl (uxS8 rfl (uxS8 rfl (uxS8 rfl (uxS8 rfl (uxS8 rfl (uxS8 rfl (uxS8 rfl (uxS8 rfl (uxS8 rfl (uxS8 rfl hI.2.2.2.2.2.2.2.2.2.2.2.2.2.2.2.2.2.2.2.2.2.2.2.2.2.2.2.2.1))))))))))))))))
    have k_xS9 : xS9 W := by
      rw [hW]
      exact (uxS9 rfl (uxS9 rfl (uxS9 rfl (uxS9 rfl (uxS9 rfl (uxS9 rfl (uxS9 rfl (uxS9 rfl (uxS9 rfl (uxS9 rfl (uxS9 rfl (uxS9 rfl (uxS9 rfl (uxS9 rfl (uxS9 rfl (uxS9 rfl hI.2.2.2.2.2.2.2.2.2.2.2.2.2.2.2.2.2.2.2.2.2.2.2.2.2.2.2.2.2.1))))))))))))))))
    have k_xSA : xSA W := by
      rw [hW]
      exact (uxSA rfl (uxSA rfl (uxSA rfl (uxSA rfl (uxSA rfl (uxSA rfl (uxSA rfl (uxSA rfl (uxSA rfl (uxSA rfl (uxSA rfl (uxSA rfl (uxSA rfl (uxSA rfl (uxSA rfl (uxSA rfl hI.2.2.2.2.2.2.2.2.2.2.2.2.2.2.2.2.2.2.2.2.2.2.2.2.2.2.2.2.2.2.1))))))))))))))))
    have k_xSG : xSG W := by
      rw [hW]
      exact (uxSG rfl (uxSG rfl (uxSG rfl (uxSG rfl (uxSG rfl (uxSG rfl (uxSG rfl (uxSG rfl (uxSG rfl (uxSG rfl (uxSG rfl (uxSG rfl (uxSG rfl (uxSG rfl (uxSG rfl (uxSG rfl hI.2.2.2.2.2.2.2.2.2.2.2.2.2.2.2.2.2.2.2.2.2.2.2.2.2.2.2.2.2.2.2.1))))))))))))))))
    have k_xSF : xSF W := by
      rw [hW]
      exact (uxSF rfl (uxSF rfl (uxSF rfl (uxSF rfl (uxSF rfl (uxSF rfl (uxSF rfl (uxSF rfl (uxSF rfl (uxSF rfl (uxSF rfl (uxSF rfl (uxSF rfl (uxSF rfl (uxSF rfl (uxSF rfl hI.2.2.2.2.2.2.2.2.2.2.2.2.2.2.2.2.2.2.2.2.2.2.2.2.2.2.2.2.2.2.2.2.1))))))))))))))))
    have k_xSB : xSB W := by
      rw [hW]
      exact (uxSB rfl (uxSB rfl (uxSB rfl (uxSB rfl (uxSB rfl (uxSB rfl (uxSB rfl (uxSB rfl (uxSB rfl (uxSB rfl (uxSB rfl (uxSB rfl (uxSB rfl (uxSB rfl (uxSB rfl (uxSB rfl hI.2.2.2.2.2.2.2.2.2.2.2.2.2.2.2.2.2.2.2.2.2.2.2.2.2.2.2.2.2.2.2.2.2.1))))))))))))))))
    have k_xSC : xSC W := by
      rw [hW]
      exact (uxSC rfl (uxSC rfl (uxSC rfl (uxSC rfl (uxSC rfl (uxSC rfl (uxSC rfl (uxSC rfl (uxSC rfl (uxSC rfl (uxSC rfl (uxSC rfl (uxSC rfl (uxSC rfl (uxSC rfl (uxSC rfl hI.2.2.2.2.2.2.2.2.2.2.2.2.2.2.2.2.2.2.2.2.2.2.2.2.2.2.2.2.2.2.2.2.2.2.1))))))))))))))))
    have k_xSD : xSD W := by
      have r91_240 : W 91 240 = 1 * ρ 0 + 0 := by rw [hW, sU_ne (fun z => by omega), sU_ne (fun z => by omega), sU_ne (fun z => by omega), sU_ne (fun z => by omega), sU_ne (fun z => by omega), sU_ne (fun z => by omega), sU_ne (fun z => by omega), sU_at]
      have r91_241 : W 91 241 = 1 * ρ 0 + 0 := by rw [hW, sU_ne (fun z => by omega), sU_ne (fun z => by omega), sU_ne (fun z => by omega), sU_ne (fun z => by omega), sU_ne (fun z => by omega), sU_ne (fun z => by omega), sU_at]
      have r91_242 : W 91 242 = 16 * ρ 0 + 0 := by rw [hW, sU_ne (fun z => by omega), sU_ne (fun z => by omega), sU_ne (fun z => by omega), sU_ne (fun z => by omega), sU_ne (fun z => by omega), sU_at]
      have r91_243 : W 91 243 = 65536 * ρ 0 + 0 := by rw [hW, sU_ne (fun z => by omega), sU_ne (fun z => by omega), sU_ne (fun z => by omega), sU_ne (fun z => by omega), sU_at]
      have r91_244 : W 91 244 = 65536 * ρ 0 + (1 * ρ 1 + (-65536 * ρ 9 + 0)) := by rw [hW, sU_ne (fun z => by omega), sU_at]
      have r91_245 : W 91 245 = 0 := by rw [hW, sU_ne (fun z => by omega), sU_ne (fun z => by omega), sU_ne (fun z => by omega), sU_at]
      have r91_246 : W 91 246 = 1 * ρ 1 + 0 := by rw [hW, sU_ne (fun z => by omega), sU_ne (fun z => by omega), sU_at]
      have r91_247 : W 91 247 = 65536 * ρ 0 + 0 := by rw [hW, sU_at]
      intro h
      rw [r91_241, r91_242, r91_243, r91_244, r91_245, r91_246, r91_247, h0]
      refine ⟨by decide, ?_, by decide⟩
      rw [show ((65536 : Int) * 1 + 0) = 65536 from rfl, show (1 * ρ 1 + 0 : Int) = ρ 1 by omega, xb.2]
      omega
    have k_xSE : xSE W := by
      have r91_249 : W 91 249 = 1 * ρ 0 + 0 := by rw [hW, sU_ne (fun z => by omega), sU_ne (fun z => by omega), sU_ne (fun z => by omega), sU_ne (fun z => by omega), sU_ne (fun z => by omega), sU_ne (fun z => by omega), sU_ne (fun z => by omega), sU_ne (fun z => by omega), sU_ne (fun z => by omega), sU_ne (fun z => by omega), sU_ne (fun z => by omega), sU_ne (fun z => by omega), sU_ne (fun z => by omega), sU_ne (fun z => by omega), sU_ne (fun z => by omega), sU_at]
      have r91_250 : W 91 250 = 1 * ρ 1 + 0 := by rw [hW, sU_ne (fun z => by omega), sU_ne (fun z => by omega), sU_ne (fun z => by omega), sU_ne (fun z => by omega), sU_ne (fun z => by omega), sU_ne (fun z => by omega), sU_ne (fun z => by omega), sU_ne (fun z => by omega), sU_ne (fun z => by omega), sU_ne (fun z => by omega), sU_ne (fun z => by omega), sU_ne (fun z => by omega), sU_ne (fun z => by omega), sU_ne (fun z => by omega), sU_at]
      have r91_251 : W 91 251 = 16 * ρ 0 + 0 := by rw [hW, sU_ne (fun z => by omega), sU_ne (fun z => by omega), sU_ne (fun z => by omega), sU_ne (fun z => by omega), sU_ne (fun z => by omega), sU_ne (fun z => by omega), sU_ne (fun z => by omega), sU_ne (fun z => by omega), sU_ne (fun z => by omega), sU_ne (fun z => by omega), sU_ne (fun z => by omega), sU_ne (fun z => by omega), sU_ne (fun z => by omega), sU_at]
      have r91_252 : W 91 252 = 1 * (xop 0 (ρ 1) 16) + 0 := by rw [hW, sU_ne (fun z => by omega), sU_ne (fun z => by omega), sU_ne (fun z => by omega), sU_ne (fun z => by omega), sU_ne (fun z => by omega), sU_ne (fun z => by omega), sU_ne (fun z => by omega), sU_ne (fun z => by omega), sU_ne (fun z => by omega), sU_ne (fun z => by omega), sU_ne (fun z => by omega), sU_ne (fun z => by omega), sU_at]
      have r91_253 : W 91 253 = 1 * ρ 9 + 0 := by rw [hW, sU_ne (fun z => by omega), sU_ne (fun z => by omega), sU_ne (fun z => by omega), sU_ne (fun z => by omega), sU_ne (fun z => by omega), sU_ne (fun z => by omega), sU_ne (fun z => by omega), sU_ne (fun z => by omega), sU_ne (fun z => by omega), sU_ne (fun z => by omega), sU_ne (fun z => by omega), sU_at]
      have r91_255 : W 91 255 = 0 := by rw [hW, sU_ne (fun z => by omega), sU_ne (fun z => by omega), sU_ne (fun z => by omega), sU_ne (fun z => by omega), sU_ne (fun z => by omega), sU_ne (fun z => by omega), sU_ne (fun z => by omega), sU_ne (fun z => by omega), sU_ne (fun z => by omega), sU_ne (fun z => by omega), sU_at]
      have r91_256 : W 91 256 = 1 * (xop 1 0 65536) + 0 := by rw [hW, sU_ne (fun z => by omega), sU_ne (fun z => by omega), sU_ne (fun z => by omega), sU_ne (fun z => by omega), sU_ne (fun z => by omega), sU_ne (fun z => by omega), sU_ne (fun z => by omega), sU_ne (fun z => by omega), sU_ne (fun z => by omega), sU_at]
      have r91_243 : W 91 243 = 65536 * ρ 0 + 0 := by rw [hW, sU_ne (fun z => by omega), sU_ne (fun z => by omega), sU_ne (fun z => by omega), sU_ne (fun z => by omega), sU_at]
      have r91_257 : W 91 257 = 1 * (xop 1 (xop 0 (ρ 1) 16) 255) + 0 := by rw [hW, sU_ne (fun z => by omega), sU_ne (fun z => by omega), sU_ne (fun z => by omega), sU_ne (fun z => by omega), sU_ne (fun z => by omega), sU_ne (fun z => by omega), sU_ne (fun z => by omega), sU_ne (fun z => by omega), sU_at]
      intro h
      rw [r91_243, r91_250, r91_251, r91_252, r91_253, r91_255, r91_256, r91_257, h0]
      rw [show ((16 : Int) * 1 + 0) = 16 from rfl, show (1 * ρ 1 + 0 : Int) = ρ 1 by omega, show ((65536 : Int) * 1 + 0) = 65536 from rfl]
      refine ⟨by omega, ?_, by omega, ?_⟩
      · rw [show (1 * (xop 0 (ρ 1) 16) + 0 : Int) = xop 0 (ρ 1) 16 by omega, xb.1]
        omega
      · rw [show (1 * (xop 0 (ρ 1) 16) + 0 : Int) = xop 0 (ρ 1) 16 by omega]
        omega
    have k_xSW : xSW W := by
      rw [hW]
      exact (uxSW rfl (uxSW rfl (uxSW rfl (uxSW rfl (uxSW rfl (uxSW rfl (uxSW rfl (uxSW rfl (uxSW rfl (uxSW rfl (uxSW rfl (uxSW rfl (uxSW rfl (uxSW rfl (uxSW rfl (uxSW rfl hI.2.2.2.2.2.2.2.2.2.2.2.2.2.2.2.2.2.2.2.2.2.2.2.2.2.2.2.2.2.2.2.2.2.2.2.2.2.1))))))))))))))))
    have k_xST : xST W := by
      rw [hW]
      exact (uxST rfl (uxST rfl (uxST rfl (uxST rfl (uxST rfl (uxST rfl (uxST rfl (uxST rfl (uxST rfl (uxST rfl (uxST rfl (uxST rfl (uxST rfl (uxST rfl (uxST rfl (uxST rfl hI.2.2.2.2.2.2.2.2.2.2.2.2.2.2.2.2.2.2.2.2.2.2.2.2.2.2.2.2.2.2.2.2.2.2.2.2.2.2.1))))))))))))))))
    have k_xSP : xSP W := by
      rw [hW]
      exact (uxSP rfl (uxSP rfl (uxSP rfl (uxSP rfl (uxSP rfl (uxSP rfl (uxSP rfl (uxSP rfl (uxSP rfl (uxSP rfl (uxSP rfl (uxSP rfl (uxSP rfl (uxSP rfl (uxSP rfl (uxSP rfl hI.2.2.2.2.2.2.2.2.2.2.2.2.2.2.2.2.2.2.2.2.2.2.2.2.2.2.2.2.2.2.2.2.2.2.2.2.2.2.2.1))))))))))))))))
    have k_xSL : xSL W := by
      rw [hW]
      exact (uxSL rfl (uxSL rfl (uxSL rfl (uxSL rfl (uxSL rfl (uxSL rfl (uxSL rfl (uxSL rfl (uxSL rfl (uxSL rfl (uxSL rfl (uxSL rfl (uxSL rfl (uxSL rfl (uxSL rfl (uxSL rfl hI.2.2.2.2.2.2.2.2.2.2.2.2.2.2.2.2.2.2.2.2.2.2.2.2.2.2.2.2.2.2.2.2.2.2.2.2.2.2.2.2.1))))))))))))))))
    have k_xSM : xSM W := by
      rw [hW]
      exact (uxSM rfl (uxSM rfl (uxSM rfl (uxSM rfl (uxSM rfl (uxSM rfl (uxSM rfl (uxSM rfl (uxSM rfl (uxSM rfl (uxSM rfl (uxSM rfl (uxSM rfl (uxSM rfl (uxSM rfl (uxSM rfl hI.2.2.2.2.2.2.2.2.2.2.2.2.2.2.2.2.2.2.2.2.2.2.2.2.2.2.2.2.2.2.2.2.2.2.2.2.2.2.2.2.2.1))))))))))))))))
    have k_xSI : xSI W := by
      rw [hW]
      exact (uxSI rfl (uxSI rfl (uxSI rfl (uxSI rfl (uxSI rfl (uxSI rfl (uxSI rfl (uxSI rfl (uxSI rfl (uxSI rfl (uxSI rfl (uxSI rfl (uxSI rfl (uxSI rfl (uxSI rfl (uxSI rfl hI.2.2.2.2.2.2.2.2.2.2.2.2.2.2.2.2.2.2.2.2.2.2.2.2.2.2.2.2.2.2.2.2.2.2.2.2.2.2.2.2.2.2))))))))))))))))
    have k_XC : XC W := ⟨k_xS1, k_xS2, k_xS3, k_xS4, k_xS5, k_xS6, k_xS7, k_xS8, k_xS9, k_xSA, k_xSG, k_xSF, k_xSB, k_xSC, k_xSD, k_xSE, k_xSW, k_xST, k_xSP, k_xSL, k_xSM, k_xSI⟩
    have kXB : XB W := ⟨k_xN1, k_xN2, k_xN3, k_xN4, k_xN5, k_xN6, k_xH1, k_xK1, k_xC1, k_xRW, k_xWT, k_xCU, k_xG2, k_xG3, k_xG4, k_xG5, k_xG6, k_XC⟩
    exact ⟨base, k2, k3, kXA, kXB⟩
-- rt17
def xr_545 : qRu := (11, [[(1, 1), (-1, 2), (-32, 3), (-64, 4), (-128, 5), (-256, 6), (-512, 7), (-1024, 8), (-65536, 9), (-131072, 10)], [(-1, 1), (1, 2), (32, 3), (64, 4), (128, 5), (256, 6), (512, 7), (1024, 8), (65536, 9), (131072, 10)], [(1, 2)], [(31, 0), (-1, 2)], [(1, 8)], [(63, 0), (-1, 8)], [(1, 3)], [(1, 0), (-1, 3)], [(1, 4)], [(1, 0), (-1, 4)], [(1, 5)], [(1, 0), (-1, 5)], [(1, 6)], [(1, 0), (-1, 6)], [(1, 7)], [(1, 0), (-1, 7)], [(1, 9)], [(1, 0), (-1, 9)], [(1, 10)], [(1, 0), (-1, 10)]], [], [], [(91, 249, [(1, 0)]), (91, 250, [(1, 1)]), (91, 251, [(17, 0)]), (91, 252, [(1, 11)]), (91, 253, [(1, 10)]), (91, 255, []), (91, 256, [(1, 12)]), (91, 257, [(1, 13)]), (91, 240, [(1, 0)]), (91, 241, [(1, 0)]), (91, 242, [(17, 0)]), (91, 243, [(131072, 0)]), (91, 245, []), (91, 246, [(1, 1)]), (91, 244, [(131072, 0), (1, 1), (-131072, 10)]), (91, 247, [(131072, 0)])], [])
theorem xo_545 : qRok xr_545 := by
  intro ρ M h0 hf hm hI
  have f0 := hf [(1, 1), (-1, 2), (-32, 3), (-64, 4), (-128, 5), (-256, 6), (-512, 7), (-1024, 8), (-65536, 9), (-131072, 10)] (by decide)
  have f1 := hf [(-1, 1), (1, 2), (32, 3), (64, 4), (128, 5), (256, 6), (512, 7), (1024, 8), (65536, 9), (131072, 10)] (by decide)
  have f2 := hf [(1, 2)] (by decide)
  have f3 := hf [(31, 0), (-1, 2)] (by decide)
  have f4 := hf [(1, 8)] (by decide)
  have f5 := hf [(63, 0), (-1, 8)] (by decide)
  have f6 := hf [(1, 3)] (by decide)
  have f7 := hf [(1, 0), (-1, 3)] (by decide)
  have f8 := hf [(1, 4)] (by decide)
  have f9 := hf [(1, 0), (-1, 4)] (by decide)
  have f10 := hf [(1, 5)] (by decide)
  have f11 := hf [(1, 0), (-1, 5)] (by decide)
  have f12 := hf [(1, 6)] (by decide)
  have f13 := hf [(1, 0), (-1, 6)] (by decide)
  have f14 := hf [(1, 7)] (by decide)
  have f15 := hf [(1, 0), (-1, 7)] (by decide)
  have f16 := hf [(1, 9)] (by decide)
  have f17 := hf [(1, 0), (-1, 9)] (by decide)
  have f18 := hf [(1, 10)] (by decide)
  have f19 := hf [(1, 0), (-1, 10)] (by decide)
  simp only [qD, h0] at f0 f1 f2 f3 f4 f5 f6 f7 f8 f9 f10 f11 f12 f13 f14 f15 f16 f17 f18 f19
  have qxSD := hI.2.2.2.2.2.2.2.2.2.2.2.2.2.2.2.2.2.2.2.2.2.2.2.2.2.2.2.2.2.2.2.2.2.2.2.1
  have qxSE := hI.2.2.2.2.2.2.2.2.2.2.2.2.2.2.2.2.2.2.2.2.2.2.2.2.2.2.2.2.2.2.2.2.2.2.2.2.1
  have xb := xbit17 (t := ρ 1) (b := ρ 10) (h := 0) (l := 1 * ρ 2 + 32 * ρ 3 + 64 * ρ 4 + 128 * ρ 5 + 256 * ρ 6 + 512 * ρ 7 + 1024 * ρ 8 + 65536 * ρ 9) (by omega) (by omega) (by omega) (by omega) (by omega)
  refine ⟨fun a => cond (Nat.blt a 11) (ρ a) (([xop 0 (ρ 1) 17, xop 1 0 131072, xop 1 (xop 0 (ρ 1) 17) 255] : List Int).getD (a - 11) 0), fun a ha => ?_, fun f h => ?_, ?_⟩
  · show cond (Nat.blt a 11) (ρ a) _ = ρ a
    rw [show Nat.blt a 11 = true from Nat.ble_eq_true_of_le ha]; rfl
  · exact nomatch h
  · show sI (sU (sU (sU (sU (sU (sU (sU (sU (sU (sU (sU (sU (sU (sU (sU (sU M 91 249 (1 * ρ 0 + 0)) 91 250 (1 * ρ 1 + 0)) 91 251 (17 * ρ 0 + 0)) 91 252 (1 * (xop 0 (ρ 1) 17) + 0)) 91 253 (1 * ρ 10 + 0)) 91 255 (0)) 91 256 (1 * (xop 1 0 131072) + 0)) 91 257 (1 * (xop 1 (xop 0 (ρ 1) 17) 255) + 0)) 91 240 (1 * ρ 0 + 0)) 91 241 (1 * ρ 0 + 0)) 91 242 (17 * ρ 0 + 0)) 91 243 (131072 * ρ 0 + 0)) 91 245 (0)) 91 246 (1 * ρ 1 + 0)) 91 244 (131072 * ρ 0 + (1 * ρ 1 + (-131072 * ρ 10 + 0)))) 91 247 (131072 * ρ 0 + 0))
    obtain ⟨W, hW⟩ : ∃ W, W = (sU (sU (sU (sU (sU (sU (sU (sU (sU (sU (sU (sU (sU (sU (sU (sU M 91 249 (1 * ρ 0 + 0)) 91 250 (1 * ρ 1 + 0)) 91 251 (17 * ρ 0 + 0)) 91 252 (1 * (xop 0 (ρ 1) 17) + 0)) 91 253 (1 * ρ 10 + 0)) 91 255 (0)) 91 256 (1 * (xop 1 0 131072) + 0)) 91 257 (1 * (xop 1 (xop 0 (ρ 1) 17) 255) + 0)) 91 240 (1 * ρ 0 + 0)) 91 241 (1 * ρ 0 + 0)) 91 242 (17 * ρ 0 + 0)) 91 243 (131072 * ρ 0 + 0)) 91 245 (0)) 91 246 (1 * ρ 1 + 0)) 91 244 (131072 * ρ 0 + (1 * ρ 1 + (-131072 * ρ 10 + 0)))) 91 247 (131072 * ρ 0 + 0)) := ⟨_, rfl⟩
    rw [← hW]
    have base : sI0 W := by
      rw [hW]
      exact (si_u0 (si_u0 (si_u0 (si_u0 (si_u0 (si_u0 (si_u0 (si_u0 (si_u0 (si_u0 (si_u0 (si_u0 (si_u0 (si_u0 (si_u0 (si_u0 hI.1 (fun r hr => by cases hr)) (fun r hr => by cases hr)) (fun r hr => by cases hr)) (fun r hr => by cases hr)) (fun r hr => by cases hr)) (fun r hr => by cases hr)) (fun r hr => by cases hr)) (fun r hr => by cases hr)) (fun r hr => by cases hr)) (fun r hr => by cases hr)) (fun r hr => by cases hr)) (fun r hr => by cases hr)) (fun r hr => by cases hr)) (fun r hr => by cases hr)) (fun r hr => by cases hr)) (fun r hr => by cases hr))
    have k2 : XI2 W := by
      rw [hW]
      exact (xi2_u rfl (xi2_u rfl (xi2_u rfl (xi2_u rfl (xi2_u rfl (xi2_u rfl (xi2_u rfl (xi2_u rfl (xi2_u rfl (xi2_u rfl (xi2_u rfl (xi2_u rfl (xi2_u rfl (xi2_u rfl (xi2_u rfl (xi2_u rfl hI.2.1))))))))))))))))
    have k3 : XI3 W := by
      rw [hW]
      exact (xi3_u rfl (xi3_u rfl (xi3_u rfl (xi3_u rfl (xi3_u rfl (xi3_u rfl (xi3_u rfl (xi3_u rfl (xi3_u rfl (xi3_u rfl (xi3_u rfl (xi3_u rfl (xi3_u rfl (xi3_u rfl (xi3_u rfl (xi3_u rfl hI.2.2.1))))))))))))))))
    have kXA : XA W := by
      rw [hW]
      exact (uXA rfl (uXA rfl (uXA rfl (uXA rfl (uXA rfl (uXA rfl (uXA rfl (uXA rfl (uXA rfl (uXA rfl (uXA rfl (uXA rfl (uXA rfl (uXA rfl (uXA rfl (uXA rfl hI.2.2.2.1))))))))))))))))
    have k_xN1 : xN1 W := by
      rw [hW]
      exact (uxN1 rfl (uxN1 rfl (uxN1 rfl (uxN1 rfl (uxN1 rfl (uxN1 rfl (uxN1 rfl (uxN1 rfl (uxN1 rfl (uxN1 rfl (uxN1 rfl (uxN1 rfl (uxN1 rfl (uxN1 rfl (uxN1 rfl (uxN1 rfl hI.2.2.2.2.1))))))))))))))))
    have k_xN2 : xN2 W := by
      rw [hW]
      exact (uxN2 rfl (uxN2 rfl (uxN2 rfl (uxN2 rfl (uxN2 rfl (uxN2 rfl (uxN2 rfl (uxN2 rfl (uxN2 rfl (uxN2 rfl (uxN2 rfl (uxN2 rfl (uxN2 rfl (uxN2 rfl (uxN2 rfl (uxN2 rfl hI.2.2.2.2.2.1))))))))))))))))
    have k_xN3 : xN3 W := by
      rw [hW]
      exact (uxN3 rfl (uxN3 rfl (uxN3 rfl (uxN3 rfl (uxN3 rfl (uxN3 rfl (uxN3 rfl (uxN3 rfl (uxN3 rfl (uxN3 rfl (uxN3 rfl (uxN3 rfl (uxN3 rfl (uxN3 rfl (uxN3 rfl (uxN3 rfl hI.2.2.2.2.2.2.1))))))))))))))))
    have k_xN4 : xN4 W := by
      rw [hW]
      exact (uxN4 rfl (uxN4 rfl (uxN4 rfl (uxN4 rfl (uxN4 rfl (uxN4 rfl (uxN4 rfl (uxN4 rfl (uxN4 rfl (uxN4 rfl (uxN4 rfl (uxN4 rfl (uxN4 rfl (uxN4 rfl (uxN4 rfl (uxN4 rfl hI.2.2.2.2.2.2.2.1))))))))))))))))
    have k_xN5 : xN5 W := by
      rw [hW]
      exact (uxN5 rfl (uxN5 rfl (uxN5 rfl (uxN5 rfl (uxN5 rfl (uxN5 rfl (uxN5 rfl (uxN5 rfl (uxN5 rfl (uxN5 rfl (uxN5 rfl (uxN5 rfl (uxN5 rfl (uxN5 rfl (uxN5 rfl (uxN5 rfl hI.2.2.2.2.2.2.2.2.1))))))))))))))))
    have k_xN6 : xN6 W := by
      rw [hW]
      exact (uxN6 rfl (uxN6 rfl (uxN6 rfl (uxN6 rfl (uxN6 rfl (uxN6 rfl (uxN6 rfl (uxN6 rfl (uxN6 rfl (uxN6 rfl (uxN6 rfl (uxN6 rfl (uxN6 rfl (uxN6 rfl (uxN6 rfl (uxN6 rfl hI.2.2.2.2.2.2.2.2.2.1))))))))))))))))
    have k_xH1 : xH1 W := by
      rw [hW]
      exact (uxH1 rfl (uxH1 rfl (uxH1 rfl (uxH1 rfl (uxH1 rfl (uxH1 rfl (uxH1 rfl (uxH1 rfl (uxH1 rfl (uxH1 rfl (uxH1 rfl (uxH1 rfl (uxH1 rfl (uxH1 rfl (uxH1 rfl (uxH1 rfl hI.2.2.2.2.2.2.2.2.2.2.1))))))))))))))))
    have k_xK1 : xK1 W := by
      rw [hW]
      exact (uxK1 rfl (uxK1 rfl (uxK1 rfl (uxK1 rfl (uxK1 rfl (uxK1 rfl (uxK1 rfl (uxK1 rfl (uxK1 rfl (uxK1 rfl (uxK1 rfl (uxK1 rfl (uxK1 rfl (uxK1 rfl (uxK1 rfl (uxK1 rfl hI.2.2.2.2.2.2.2.2.2.2.2.1))))))))))))))))
    have k_xC1 : xC1 W := by
      rw [hW]
      exact (uxC1 rfl (uxC1 rfl (uxC1 rfl (uxC1 rfl (uxC1 rfl (uxC1 rfl (uxC1 rfl (uxC1 rfl (uxC1 rfl (uxC1 rfl (uxC1 rfl (uxC1 rfl (uxC1 rfl (uxC1 rfl (uxC1 rfl (uxC1 rfl hI.2.2.2.2.2.2.2.2.2.2.2.2.1))))))))))))))))
    have k_xRW : xRW W := by
      rw [hW]
      exact (uxRW rfl (uxRW rfl (uxRW rfl (uxRW rfl (uxRW rfl (uxRW rfl (uxRW rfl (uxRW rfl (uxRW rfl (uxRW rfl (uxRW rfl (uxRW rfl (uxRW rfl (uxRW rfl (uxRW rfl (uxRW rfl hI.2.2.2.2.2.2.2.2.2.2.2.2.2.1))))))))))))))))
    have k_xWT : xWT W := by
      rw [hW]
      exact (uxWT rfl (uxWT rfl (uxWT rfl (uxWT rfl (uxWT rfl (uxWT rfl (uxWT rfl (uxWT rfl (uxWT rfl (uxWT rfl (uxWT rfl (uxWT rfl (uxWT rfl (uxWT rfl (uxWT rfl (uxWT rfl hI.2.2.2.2.2.2.2.2.2.2.2.2.2.2.1))))))))))))))))
    have k_xCU : xCU W := by
      rw [hW]
      exact (uxCU rfl (uxCU rfl (uxCU rfl (uxCU rfl (uxCU rfl (uxCU rfl (uxCU rfl (uxCU rfl (uxCU rfl (uxCU rfl (uxCU rfl (uxCU rfl (uxCU rfl (uxCU rfl (uxCU rfl (uxCU rfl hI.2.2.2.2.2.2.2.2.2.2.2.2.2.2.2.1))))))))))))))))
    have k_xG2 : xG2 W := by
      rw [hW]
      exact (uxG2 rfl (uxG2 rfl (uxG2 rfl (uxG2 rfl (uxG2 rfl (uxG2 rfl (uxG2 rfl (uxG2 rfl (uxG2 rfl (uxG2 rfl (uxG2 rfl (uxG2 rfl (uxG2 rfl (uxG2 rfl (uxG2 rfl (uxG2 rfl hI.2.2.2.2.2.2.2.2.2.2.2.2.2.2.2.2.1))))))))))))))))
    have k_xG3 : xG3 W := by
      rw [hW]
      exact (uxG3 rfl (uxG3 rfl (uxG3 rfl (uxG3 rfl (uxG3 rfl (uxG3 rfl (uxG3 rfl (uxG3 rfl (uxG3 rfl (uxG3 rfl (uxG3 rfl (uxG3 rfl (uxG3 rfl (uxG3 rfl (uxG3 rfl (uxG3 rfl hI.2.2.2.2.2.2.2.2.2.2.2.2.2.2.2.2.2.1))))))))))))))))
    have k_xG4 : xG4 W := by
      rw [hW]
      exact (uxG4 rfl (uxG4 rfl (uxG4 rfl (uxG4 rfl (uxG4 rfl (uxG4 rfl (uxG4 rfl (uxG4 rfl (uxG4 rfl (uxG4 rfl (uxG4 rfl (uxG4 rfl (uxG4 rfl (uxG4 rfl (uxG4 rfl (uxG4 rfl hI.2.2.2.2.2.2.2.2.2.2.2.2.2.2.2.2.2.2.1))))))))))))))))
    have k_xG5 : xG5 W := by
      rw [hW]
      exact (uxG5 rfl (uxG5 rfl (uxG5 rfl (uxG5 rfl (uxG5 rfl (uxG5 rfl (uxG5 rfl (uxG5 rfl (uxG5 rfl (uxG5 rfl (uxG5 rfl (uxG5 rfl (uxG5 rfl (uxG5 rfl (uxG5 rfl (uxG5 rfl hI.2.2.2.2.2.2.2.2.2.2.2.2.2.2.2.2.2.2.2.1))))))))))))))))
    have k_xG6 : xG6 W := by
      rw [hW]
      exact (uxG6 rfl (uxG6 rfl (uxG6 rfl (uxG6 rfl (uxG6 rfl (uxG6 rfl (uxG6 rfl (uxG6 rfl (uxG6 rfl (uxG6 rfl (uxG6 rfl (uxG6 rfl (uxG6 rfl (uxG6 rfl (uxG6 rfl (uxG6 rfl hI.2.2.2.2.2.2.2.2.2.2.2.2.2.2.2.2.2.2.2.2.1))))))))))))))))
    have k_xS1 : xS1 W := by
      rw [hW]
      exact (uxS1 rfl (uxS1 rfl (uxS1 rfl (uxS1 rfl (uxS1 rfl (uxS1 rfl (uxS1 rfl (uxS1 rfl (uxS1 rfl (uxS1 rfl (uxS1 rfl (uxS1 rfl (uxS1 rfl (uxS1 rfl (uxS1 rfl (uxS1 rfl hI.2.2.2.2.2.2.2.2.2.2.2.2.2.2.2.2.2.2.2.2.2.1))))))))))))))))
    have k_xS2 : xS2 W := by
      rw [hW]
      exact (uxS2 rfl (uxS2 rfl (uxS2 rfl (uxS2 rfl (uxS2 rfl (uxS2 rfl (uxS2 rfl (uxS2 rfl (uxS2 rfl (uxS2 rfl (uxS2 rfl (uxS2 rfl (uxS2 rfl (uxS2 rfl (uxS2 rfl (uxS2 rfl hI.2.2.2.2.2.2.2.2.2.2.2.2.2.2.2.2.2.2.2.2.2.2.1))))))))))))))))
    have k_xS3 : xS3 W := by
      rw [hW]
      exact (uxS3 rfl (uxS3 rfl (uxS3 rfl (uxS3 rfl (uxS3 rfl (uxS3 rfl (uxS3 rfl (uxS3 rfl (uxS3 rfl (uxS3 rfl (uxS3 rfl (uxS3 rfl (uxS3 rfl (uxS3 rfl (uxS3 rfl (uxS3 rfl hI.2.2.2.2.2.2.2.2.2.2.2.2.2.2.2.2.2.2.2.2.2.2.2.1))))))))))))))))
    have k_xS4 : xS4 W := by
      rw [hW]
      exact (uxS4 rfl (uxS4 rfl (uxS4 rfl (uxS4 rfl (uxS4 rfl (uxS4 rfl (uxS4 rfl (uxS4 rfl (uxS4 rfl (uxS4 rfl (uxS4 rfl (uxS4 rfl (uxS4 rfl (uxS4 rfl (uxS4 rfl (uxS4 rfl hI.2.2.2.2.2.2.2.2.2.2.2.2.2.2.2.2.2.2.2.2.2.2.2.2.1))))))))))))))))
    have k_xS5 : xS5 W := by
      rw [hW]
      exact (uxS5 rfl (uxS5 rfl (uxS5 rfl (uxS5 rfl (uxS5 rfl (uxS5 rfl (uxS5 rfl (uxS5 rfl (uxS5 rfl (uxS5 rfl (uxS5 rfl (uxS5 rfl (uxS5 rfl (uxS5 rfl (uxS5 rfl (uxS5 rfl hI.2.2.2.2.2.2.2.2.2.2.2.2.2.2.2.2.2.2.2.2.2.2.2.2.2.1))))))))))))))))
    have k_xS6 : xS6 W := by
      rw [hW]
      exact (uxS6 rfl (uxS6 rfl (uxS6 rfl (uxS6 rfl (uxS6 rfl (uxS6 rfl (uxS6 rfl (uxS6 rfl (uxS6 rfl (uxS6 rfl (uxS6 rfl (uxS6 rfl (uxS6 rfl (uxS6 rfl (uxS6 rfl (uxS6 rfl hI.2.2.2.2.2.2.2.2.2.2.2.2.2.2.2.2.2.2.2.2.2.2.2.2.2.2.1))))))))))))))))
    have k_xS7 : xS7 W := by
      rw [hW]
      exact (uxS7 rfl (uxS7 rfl (uxS7 rfl (uxS7 rfl (uxS7 rfl (uxS7 rfl (uxS7 rfl (uxS7 rfl (uxS7 rfl (uxS7 rfl (uxS7 rfl (uxS7 rfl (uxS7 rfl (uxS7 rfl (uxS7 rfl (uxS7 rfl hI.2.2.2.2.2.2.2.2.2.2.2.2.2.2.2.2.2.2.2.2.2.2.2.2.2.2.2.1))))))))))))))))
    have k_xS8 : xS8 W := by
      rw [hW]
      exact (uxS8 rfl (uxS8 rfl (uxS8 rfl (uxS8 rfl (uxS8 rfl (uxS8 rfl (uxS8 rfl (uxS8 rfl (uxS8 rfl (uxS8 rfl (uxS8 rfl (uxS8 rfl (uxS8 rfl (uxS8 rfl (uxS8 rfl (uxS8 rfl hI.2.2.2.2.2.2.2.2.2.2.2.2.2.2.2.2.2.2.2.2.2.2.2.2.2.2.2.2.1))))))))))))))))
    have k_xS9 : xS9 W := by
      rw [hW]
      exact (uxS9 rfl (uxS9 rfl (uxS9 rfl (uxS9 rfl (uxS9 rfl (uxS9 rfl (uxS9 rfl (uxS9 rfl (uxS9 rfl (uxS9 rfl (uxS9 rfl (uxS9 rfl (uxS9 rfl (uxS9 rfl (uxS9 rfl (uxS9 rfl hI.2.2.2.2.2.2.2.2.2.2.2.2.2.2.2.2.2.2.2.2.2.2.2.2.2.2.2.2.2.1))))))))))))))))
    have k_xSA : xSA W := by
      rw [hW]
      exact (uxSA rfl (uxSA rfl (uxSA rfl (uxSA rfl (uxSA rfl (uxSA rfl (uxSA rfl (uxSA rfl (uxSA rfl (uxSA rfl (uxSA rfl (uxSA rfl (uxSA rfl (uxSA rfl (uxSA rfl (uxSA rfl hI.2.2.2.2.2.2.2.2.2.2.2.2.2.2.2.2.2.2.2.2.2.2.2.2.2.2.2.2.2.2.1))))))))))))))))
    have k_xSG : xSG W := by
      rw [hW]
      exact (uxSG rfl (uxSG rfl (uxSG rfl (uxSG rfl (uxSG rfl (uxSG rfl (uxSG rfl (uxSG rfl (uxSG rfl (uxSG rfl (uxSG rfl (uxSG rfl (uxSG rfl (uxSG rfl (uxSG rfl (uxSG rfl hI.2.2.2.2.2.2.2.2.2.2.2.2.2.2.2.2.2.2.2.2.2.2.2.2.2.2.2.2.2.2.2.1))))))))))))))))
    have k_xSF : xSF W := by
      rw [hW]
      exact (uxSF rfl (uxSF rfl (uxSF rfl (uxSF rfl (uxSF rfl (uxSF rfl (uxSF rfl (uxSF rfl (uxSF rfl (uxSF rfl (uxSF rfl (uxSF rfl (uxSF rfl (uxSF rfl (uxSF rfl (uxSF rfl hI.2.2.2.2.2.2.2.2.2.2.2.2.2.2.2.2.2.2.2.2.2.2.2.2.2.2.2.2.2.2.2.2.1))))))))))))))))
    have k_xSB : xSB W := by
      rw [hW]
      exact (uxSB rfl (uxSB rfl (uxSB rfl (uxSB rfl (uxSB rfl (uxSB rfl (uxSB rfl (uxSB rfl (uxSB rfl (uxSB rfl (uxSB rfl (uxSB rfl (uxSB rfl (uxSB rfl (uxSB rfl (uxSB rfl hI.2.2.2.2.2.2.2.2.2.2.2.2.2.2.2.2.2.2.2.2.2.2.2.2.2.2.2.2.2.2.2.2.2.1))))))))))))))))
    have k_xSC : xSC W := by
      rw [hW]
      exact (uxSC rfl (uxSC rfl (uxSC rfl (uxSC rfl (uxSC rfl (uxSC rfl (uxSC rfl (uxSC rfl (uxSC rfl (uxSC rfl (uxSC rfl (uxSC rfl (uxSC rfl (uxSC rfl (uxSC rfl (uxSC rfl hI.2.2.2.2.2.2.2.2.2.2.2.2.2.2.2.2.2.2.2.2.2.2.2.2.2.2.2.2.2.2.2.2.2.2.1))))))))))))))))
    have k_xSD : xSD W := by
      have r91_240 : W 91 240 = 1 * ρ 0 + 0 := by rw [hW, sU_ne (fun z => by omega), sU_ne (fun z => by omega), sU_ne (fun z => by omega), sU_ne (fun z => by omega), sU_ne (fun z => by omega), sU_ne (fun z => by omega), sU_ne (fun z => by omega), sU_at]
      have r91_241 : W 91 241 = 1 * ρ 0 + 0 := by rw [hW, sU_ne (fun z => by omega), sU_ne (fun z => by omega), sU_ne (fun z => by omega), sU_ne (fun z => by omega), sU_ne (fun z => by omega), sU_ne (fun z => by omega), sU_at]
      have r91_242 : W 91 242 = 17 * ρ 0 + 0 := by rw [hW, sU_ne (fun z => by omega), sU_ne (fun z => by omega), sU_ne (fun z => by omega), sU_ne (fun z => by omega), sU_ne (fun z => by omega), sU_at]
      have r91_243 : W 91 243 = 131072 * ρ 0 + 0 := by rw [hW, sU_ne (fun z => by omega), sU_ne (fun z => by omega), sU_ne (fun z => by omega), sU_ne (fun z => by omega), sU_at]
      have r91_244 : W 91 244 = 131072 * ρ 0 + (1 * ρ 1 + (-131072 * ρ 10 + 0)) := by rw [hW, sU_ne (fun z => by omega), sU_at]
      have r91_245 : W 91 245 = 0 := by rw [hW, sU_ne (fun z => by omega), sU_ne (fun z => by omega), sU_ne (fun z => by omega), sU_at]
      have r91_246 : W 91 246 = 1 * ρ 1 + 0 := by rw [hW, sU_ne (fun z => by omega), sU_ne (fun z => by omega), sU_at]
      have r91_247 : W 91 247 = 131072 * ρ 0 + 0 := by rw [hW, sU_at]
      intro h
      rw [r91_241, r91_242, r91_243, r91_244, r91_245, r91_246, r91_247, h0]
      refine ⟨by decide, ?_, by decide⟩
      rw [show ((131072 : Int) * 1 + 0) = 131072 from rfl, show (1 * ρ 1 + 0 : Int) = ρ 1 by omega, xb.2]
      omega
    have k_xSE : xSE W := by
      have r91_249 : W 91 249 = 1 * ρ 0 + 0 := by rw [hW, sU_ne (fun z => by omega), sU_ne (fun z => by omega), sU_ne (fun z => by omega), sU_ne (fun z => by omega), sU_ne (fun z => by omega), sU_ne (fun z => by omega), sU_ne (fun z => by omega), sU_ne (fun z => by omega), sU_ne (fun z => by omega), sU_ne (fun z => by omega), sU_ne (fun z => by omega), sU_ne (fun z => by omega), sU_ne (fun z => by omega), sU_ne (fun z => by omega), sU_ne (fun z => by omega), sU_at]
      have r91_250 : W 91 250 = 1 * ρ 1 + 0 := by rw [hW, sU_ne (fun z => by omega), sU_ne (fun z => by omega), sU_ne (fun z => by omega), sU_ne (fun z => by omega), sU_ne (fun z => by omega), sU_ne (fun z => by omega), sU_ne (fun z => by omega), sU_ne (fun z => by omega), sU_ne (fun z => by omega), sU_ne (fun z => by omega), sU_ne (fun z => by omega), sU_ne (fun z => by omega), sU_ne (fun z => by omega), sU_ne (fun z => by omega), sU_at]
      have r91_251 : W 91 251 = 17 * ρ 0 + 0 := by rw [hW, sU_ne (fun z => by omega), sU_ne (fun z => by omega), sU_ne (fun z => by omega), sU_ne (fun z => by omega), sU_ne (fun z => by omega), sU_ne (fun z => by omega), sU_ne (fun z => by omega), sU_ne (fun z => by omega), sU_ne (fun z => by omega), sU_ne (fun z => by omega), sU_ne (fun z => by omega), sU_ne (fun z => by omega), sU_ne (fun z => by omega), sU_at]
      have r91_252 : W 91 252 = 1 * (xop 0 (ρ 1) 17) + 0 := by rw [hW, sU_ne (fun z => by omega), sU_ne (fun z => by omega), sU_ne (fun z => by omega), sU_ne (fun z => by omega), sU_ne (fun z => by omega), sU_ne (fun z => by omega), sU_ne (fun z => by omega), sU_ne (fun z => by omega), sU_ne (fun z => by omega), sU_ne (fun z => by omega), sU_ne (fun z => by omega), sU_ne (fun z => by omega), sU_at]
      have r91_253 : W 91 253 = 1 * ρ 10 + 0 := by rw [hW, sU_ne (fun z => by omega), sU_ne (fun z => by omega), sU_ne (fun z => by omega), sU_ne (fun z => by omega), sU_ne (fun z => by omega), sU_ne (fun z => by omega), sU_ne (fun z => by omega), sU_ne (fun z => by omega), sU_ne (fun z => by omega), sU_ne (fun z => by omega), sU_ne (fun z => by omega), sU_at]
      have r91_255 : W 91 255 = 0 := by rw [hW, sU_ne (fun z => by omega), sU_ne (fun z => by omega), sU_ne (fun z => by omega), sU_ne (fun z => by omega), sU_ne (fun z => by omega), sU_ne (fun z => by omega), sU_ne (fun z => by omega), sU_ne (fun z => by omega), sU_ne (fun z => by omega), sU_ne (fun z => by omega), sU_at]
      have r91_256 : W 91 256 = 1 * (xop 1 0 131072) + 0 := by rw [hW, sU_ne (fun z => by omega), sU_ne (fun z => by omega), sU_ne (fun z => by omega), sU_ne (fun z => by omega), sU_ne (fun z => by omega), sU_ne (fun z => by omega), sU_ne (fun z => by omega), sU_ne (fun z => by omega), sU_ne (fun z => by omega), sU_at]
      have r91_243 : W 91 243 = 131072 * ρ 0 + 0 := by rw [hW, sU_ne (fun z => by omega), sU_ne (fun z => by omega), sU_ne (fun z => by omega), sU_ne (fun z => by omega), sU_at]
      have r91_257 : W 91 257 = 1 * (xop 1 (xop 0 (ρ 1) 17) 255) + 0 := by rw [hW, sU_ne (fun z => by omega), sU_ne (fun z => by omega), sU_ne (fun z => by omega), sU_ne (fun z => by omega), sU_ne (fun z => by omega), sU_ne (fun z => by omega), sU_ne (fun z => by omega), sU_ne (fun z => by omega), sU_at]
      intro h
      rw [r91_243, r91_250, r91_251, r91_252, r91_253, r91_255, r91_256, r91_257, h0]
      rw [show ((17 : Int) * 1 + 0) = 17 from rfl, show (1 * ρ 1 + 0 : Int) = ρ 1 by omega, show ((131072 : Int) * 1 + 0) = 131072 from rfl]
      refine ⟨by omega, ?_, by omega, ?_⟩
      · rw [show (1 * (xop 0 (ρ 1) 17) + 0 : Int) = xop 0 (ρ 1) 17 by omega, xb.1]
        omega
      · rw [show (1 * (xop 0 (ρ 1) 17) + 0 : Int) = xop 0 (ρ 1) 17 by omega]
        omega
    have k_xSW : xSW W := by
      rw [hW]
      exact (uxSW rfl (uxSW rfl (uxSW rfl (uxSW rfl (uxSW rfl (uxSW rfl (uxSW rfl (uxSW rfl (uxSW rfl (uxSW rfl (uxSW rfl (uxSW rfl (uxSW rfl (uxSW rfl (uxSW rfl (uxSW rfl hI.2.2.2.2.2.2.2.2.2.2.2.2.2.2.2.2.2.2.2.2.2.2.2.2.2.2.2.2.2.2.2.2.2.2.2.2.2.1))))))))))))))))
    have k_xST : xST W := by
      rw [hW]
      exact (uxST rfl (uxST rfl (uxST rfl (uxST rfl (uxST rfl (uxST rfl (uxST rfl (uxST rfl (uxST rfl (uxST rfl (uxST rfl (uxST rfl (uxST rfl (uxST rfl (uxST rfl (uxST rfl hI.2.2.2.2.2.2.2.2.2.2.2.2.2.2.2.2.2.2.2.2.2.2.2.2.2.2.2.2.2.2.2.2.2.2.2.2.2.2.1))))))))))))))))
    have k_xSP : xSP W := by
      rw [hW]
      exact (uxSP rfl (uxSP rfl (uxSP rfl (uxSP rfl (uxSP rfl (uxSP rfl (uxSP rfl (uxSP rfl (uxSP rfl (uxSP rfl (uxSP rfl (uxSP rfl (uxSP rfl (uxSP rfl (uxSP rfl (uxSP rfl hI.2.2.2.2.2.2.2.2.2.2.2.2.2.2.2.2.2.2.2.2.2.2.2.2.2.2.2.2.2.2.2.2.2.2.2.2.2.2.2.1))))))))))))))))
    have k_xSL : xSL W := by
      rw [hW]
      exact (uxSL rfl (uxSL rfl (uxSL rfl (uxSL rfl (uxSL rfl (uxSL rfl (uxSL rfl (uxSL rfl (uxSL rfl (uxSL rfl (uxSL rfl (uxSL rfl (uxSL rfl (uxSL rfl (uxSL rfl (uxSL rfl hI.2.2.2.2.2.2.2.2.2.2.2.2.2.2.2.2.2.2.2.2.2.2.2.2.2.2.2.2.2.2.2.2.2.2.2.2.2.2.2.2.1))))))))))))))))
    have k_xSM : xSM W := by
      rw [hW]
      exact (uxSM rfl (uxSM rfl (uxSM rfl (uxSM rfl (uxSM rfl (uxSM rfl (uxSM rfl (uxSM rfl (uxSM rfl (uxSM rfl (uxSM rfl (uxSM rfl (uxSM rfl (uxSM rfl (uxSM rfl (uxSM rfl hI.2.2.2.2.2.2.2.2.2.2.2.2.2.2.2.2.2.2.2.2.2.2.2.2.2.2.2.2.2.2.2.2.2.2.2.2.2.2.2.2.2.1))))))))))))))))
    have k_xSI : xSI W := by
      rw [hW]
      exact (uxSI rfl (uxSI rfl (uxSI rfl (uxSI rfl (uxSI rfl (uxSI rfl (uxSI rfl (uxSI rfl (uxSI rfl (uxSI rfl (uxSI rfl (uxSI rfl (uxSI rfl (uxSI rfl (uxSI rfl (uxSI rfl hI.2.2.2.2.2.2.2.2.2.2.2.2.2.2.2.2.2.2.2.2.2.2.2.2.2.2.2.2.2.2.2.2.2.2.2.2.2.2.2.2.2.2))))))))))))))))
    have k_XC : XC W := ⟨k_xS1, k_xS2, k_xS3, k_xS4, k_xS5, k_xS6, k_xS7, k_xS8, k_xS9, k_xSA, k_xSG, k_xSF, k_xSB, k_xSC, k_xSD, k_xSE, k_xSW, k_xST, k_xSP, k_xSL, k_xSM, k_xSI⟩
    have kXB : XB W := ⟨k_xN1, k_xN2, k_xN3, k_xN4, k_xN5, k_xN6, k_xH1, k_xK1, k_xC1, k_xRW, k_xWT, k_xCU, k_xG2, k_xG3, k_xG4, k_xG5, k_xG6, k_XC⟩
    exact ⟨base, k2, k3, kXA, kXB⟩
-- ro0
def xr_546 : qRu := (11, [[(1, 1), (-1, 2), (-32, 3), (-64, 4), (-128, 5), (-256, 6), (-512, 7), (-1024, 8), (-65536, 9), (-131072, 10)], [(-1, 1), (1, 2), (32, 3), (64, 4), (128, 5), (256, 6), (512, 7), (1024, 8), (65536, 9), (131072, 10)], [(1, 2)], [(31, 0), (-1, 2)], [(1, 8)], [(63, 0), (-1, 8)], [(1, 3)], [(1, 0), (-1, 3)], [(1, 4)], [(1, 0), (-1, 4)], [(1, 5)], [(1, 0), (-1, 5)], [(1, 6)], [(1, 0), (-1, 6)], [(1, 7)], [(1, 0), (-1, 7)], [(1, 9)], [(1, 0), (-1, 9)], [(1, 10)], [(1, 0), (-1, 10)]], [(91, 249, [])], [], [(91, 240, [(1, 0)]), (91, 241, [(1, 0)]), (91, 242, []), (91, 243, [(1, 0)]), (91, 245, []), (91, 246, [(1, 1)]), (91, 244, [(1, 11)]), (91, 247, [(1, 0)]), (4, 291, [(1, 12)])], [[(-1, 1), (1, 2), (1, 11), (-1, 12)], [(1, 1), (-1, 2), (-1, 11), (1, 12)], [(1, 12)], [(31, 0), (-1, 12)]])
theorem xo_546 : qRok xr_546 := by
  intro ρ M h0 hf hm hI
  have f0 := hf [(1, 1), (-1, 2), (-32, 3), (-64, 4), (-128, 5), (-256, 6), (-512, 7), (-1024, 8), (-65536, 9), (-131072, 10)] (by decide)
  have f1 := hf [(-1, 1), (1, 2), (32, 3), (64, 4), (128, 5), (256, 6), (512, 7), (1024, 8), (65536, 9), (131072, 10)] (by decide)
  have f2 := hf [(1, 2)] (by decide)
  have f3 := hf [(31, 0), (-1, 2)] (by decide)
  have f4 := hf [(1, 8)] (by decide)
  have f5 := hf [(63, 0), (-1, 8)] (by decide)
  have f6 := hf [(1, 3)] (by decide)
  have f7 := hf [(1, 0), (-1, 3)] (by decide)
  have f8 := hf [(1, 4)] (by decide)
  have f9 := hf [(1, 0), (-1, 4)] (by decide)
  have f10 := hf [(1, 5)] (by decide)
  have f11 := hf [(1, 0), (-1, 5)] (by decide)
  have f12 := hf [(1, 6)] (by decide)
  have f13 := hf [(1, 0), (-1, 6)] (by decide)
  have f14 := hf [(1, 7)] (by decide)
  have f15 := hf [(1, 0), (-1, 7)] (by decide)
  have f16 := hf [(1, 9)] (by decide)
  have f17 := hf [(1, 0), (-1, 9)] (by decide)
  have f18 := hf [(1, 10)] (by decide)
  have f19 := hf [(1, 0), (-1, 10)] (by decide)
  simp only [qD, h0] at f0 f1 f2 f3 f4 f5 f6 f7 f8 f9 f10 f11 f12 f13 f14 f15 f16 f17 f18 f19
  have m0 : M 91 249 = 0 := hm (91, 249, []) (by decide)
  have qxSD := hI.2.2.2.2.2.2.2.2.2.2.2.2.2.2.2.2.2.2.2.2.2.2.2.2.2.2.2.2.2.2.2.2.2.2.2.1
  have xb := xbo0 (t := ρ 1) (by omega) (by omega)

  have xc : xop 5 (ρ 1) 1 - ρ 1 = 0 ∨ (xop 5 (ρ 1) 1 - ρ 1 = 1 ∧ (ρ 2 / 1) % 2 = 0) := by omega
  refine ⟨fun a => cond (Nat.blt a 11) (ρ a) (([xop 5 (ρ 1) 1, ((xop 5 (ρ 1) 1 - ρ 1) / 1 + ρ 2)] : List Int).getD (a - 11) 0), fun a ha => ?_, fun f h => ?_, ?_⟩
  · show cond (Nat.blt a 11) (ρ a) _ = ρ a
    rw [show Nat.blt a 11 = true from Nat.ble_eq_true_of_le ha]; rfl
  · have h : f ∈ ([[(-1, 1), (1, 2), (1, 11), (-1, 12)], [(1, 1), (-1, 2), (-1, 11), (1, 12)], [(1, 12)], [(31, 0), (-1, 12)]] : List qF) := h
    simp only [List.mem_cons, List.not_mem_nil, or_false] at h
    rcases h with rfl | rfl | rfl | rfl
    · show 0 ≤ -1 * ρ 1 + (1 * ρ 2 + (1 * (xop 5 (ρ 1) 1) + (-1 * (((xop 5 (ρ 1) 1 - ρ 1) / 1 + ρ 2)) + 0)))
      (try rw [h0]); omega
    · show 0 ≤ 1 * ρ 1 + (-1 * ρ 2 + (-1 * (xop 5 (ρ 1) 1) + (1 * (((xop 5 (ρ 1) 1 - ρ 1) / 1 + ρ 2)) + 0)))
      (try rw [h0]); omega
    · show 0 ≤ 1 * (((xop 5 (ρ 1) 1 - ρ 1) / 1 + ρ 2)) + 0
      (try rw [h0]); omega
    · show 0 ≤ 31 * ρ 0 + (-1 * (((xop 5 (ρ 1) 1 - ρ 1) / 1 + ρ 2)) + 0)
      (try rw [h0]); omega
  · show sI (sU (sU (sU (sU (sU (sU (sU (sU (sU M 91 240 (1 * ρ 0 + 0)) 91 241 (1 * ρ 0 + 0)) 91 242 (0)) 91 243 (1 * ρ 0 + 0)) 91 245 (0)) 91 246 (1 * ρ 1 + 0)) 91 244 (1 * (xop 5 (ρ 1) 1) + 0)) 91 247 (1 * ρ 0 + 0)) 4 291 (1 * (((xop 5 (ρ 1) 1 - ρ 1) / 1 + ρ 2)) + 0))
    obtain ⟨W, hW⟩ : ∃ W, W = (sU (sU (sU (sU (sU (sU (sU (sU (sU M 91 240 (1 * ρ 0 + 0)) 91 241 (1 * ρ 0 + 0)) 91 242 (0)) 91 243 (1 * ρ 0 + 0)) 91 245 (0)) 91 246 (1 * ρ 1 + 0)) 91 244 (1 * (xop 5 (ρ 1) 1) + 0)) 91 247 (1 * ρ 0 + 0)) 4 291 (1 * (((xop 5 (ρ 1) 1 - ρ 1) / 1 + ρ 2)) + 0)) := ⟨_, rfl⟩
    rw [← hW]
    have base : sI0 W := by
      rw [hW]
      exact (si_u0 (si_u0 (si_u0 (si_u0 (si_u0 (si_u0 (si_u0 (si_u0 (si_u0 hI.1 (fun r hr => by cases hr)) (fun r hr => by cases hr)) (fun r hr => by cases hr)) (fun r hr => by cases hr)) (fun r hr => by cases hr)) (fun r hr => by cases hr)) (fun r hr => by cases hr)) (fun r hr => by cases hr)) (fun r hr => by cases hr))
    have k2 : XI2 W := by
      rw [hW]
      exact (xi2_u rfl (xi2_u rfl (xi2_u rfl (xi2_u rfl (xi2_u rfl (xi2_u rfl (xi2_u rfl (xi2_u rfl (xi2_u rfl hI.2.1)))))))))
    have k3 : XI3 W := by
      rw [hW]
      exact (xi3_u rfl (xi3_u rfl (xi3_u rfl (xi3_u rfl (xi3_u rfl (xi3_u rfl (xi3_u rfl (xi3_u rfl (xi3_u rfl hI.2.2.1)))))))))
    have kXA : XA W := by
      rw [hW]
      exact (uXA rfl (uXA rfl (uXA rfl (uXA rfl (uXA rfl (uXA rfl (uXA rfl (uXA rfl (uXA rfl hI.2.2.2.1)))))))))
    have k_xN1 : xN1 W := by
      rw [hW]
      exact (uxN1 rfl (uxN1 rfl (uxN1 rfl (uxN1 rfl (uxN1 rfl (uxN1 rfl (uxN1 rfl (uxN1 rfl (uxN1 rfl hI.2.2.2.2.1)))))))))
    have k_xN2 : xN2 W := by
      rw [hW]
      exact (uxN2 rfl (uxN2 rfl (uxN2 rfl (uxN2 rfl (uxN2 rfl (uxN2 rfl (uxN2 rfl (uxN2 rfl (uxN2 rfl hI.2.2.2.2.2.1)))))))))
    have k_xN3 : xN3 W := by
      rw [hW]
      exact (uxN3 rfl (uxN3 rfl (uxN3 rfl (uxN3 rfl (uxN3 rfl (uxN3 rfl (uxN3 rfl (uxN3 rfl (uxN3 rfl hI.2.2.2.2.2.2.1)))))))))
    have k_xN4 : xN4 W := by
      rw [hW]
      exact (uxN4 rfl (uxN4 rfl (uxN4 rfl (uxN4 rfl (uxN4 rfl (uxN4 rfl (uxN4 rfl (uxN4 rfl (uxN4 rfl hI.2.2.2.2.2.2.2.1)))))))))
    have k_xN5 : xN5 W := by
      rw [hW]
      exact (uxN5 rfl (uxN5 rfl (uxN5 rfl (uxN5 rfl (uxN5 rfl (uxN5 rfl (uxN5 rfl (uxN5 rfl (uxN5 rfl hI.2.2.2.2.2.2.2.2.1)))))))))
    have k_xN6 : xN6 W := by
      rw [hW]
      exact (uxN6 rfl (uxN6 rfl (uxN6 rfl (uxN6 rfl (uxN6 rfl (uxN6 rfl (uxN6 rfl (uxN6 rfl (uxN6 rfl hI.2.2.2.2.2.2.2.2.2.1)))))))))
    have k_xH1 : xH1 W := by
      rw [hW]
      exact (uxH1 rfl (uxH1 rfl (uxH1 rfl (uxH1 rfl (uxH1 rfl (uxH1 rfl (uxH1 rfl (uxH1 rfl (uxH1 rfl hI.2.2.2.2.2.2.2.2.2.2.1)))))))))
    have k_xK1 : xK1 W := by
      rw [hW]
      exact (uxK1 rfl (uxK1 rfl (uxK1 rfl (uxK1 rfl (uxK1 rfl (uxK1 rfl (uxK1 rfl (uxK1 rfl (uxK1 rfl hI.2.2.2.2.2.2.2.2.2.2.2.1)))))))))
    have k_xC1 : xC1 W := by
      rw [hW]
      exact (uxC1 rfl (uxC1 rfl (uxC1 rfl (uxC1 rfl (uxC1 rfl (uxC1 rfl (uxC1 rfl (uxC1 rfl (uxC1 rfl hI.2.2.2.2.2.2.2.2.2.2.2.2.1)))))))))
    have k_xRW : xRW W := by
      rw [hW]
      exact (uxRW rfl (uxRW rfl (uxRW rfl (uxRW rfl (uxRW rfl (uxRW rfl (uxRW rfl (uxRW rfl (uxRW rfl hI.2.2.2.2.2.2.2.2.2.2.2.2.2.1)))))))))
    have k_xWT : xWT W := by
      rw [hW]
      exact (uxWT rfl (uxWT rfl (uxWT rfl (uxWT rfl (uxWT rfl (uxWT rfl (uxWT rfl (uxWT rfl (uxWT rfl hI.2.2.2.2.2.2.2.2.2.2.2.2.2.2.1)))))))))
    have k_xCU : xCU W := by
      rw [hW]
      exact (uxCU rfl (uxCU rfl (uxCU rfl (uxCU rfl (uxCU rfl (uxCU rfl (uxCU rfl (uxCU rfl (uxCU rfl hI.2.2.2.2.2.2.2.2.2.2.2.2.2.2.2.1)))))))))
    have k_xG2 : xG2 W := by
      rw [hW]
      exact (uxG2 rfl (uxG2 rfl (uxG2 rfl (uxG2 rfl (uxG2 rfl (uxG2 rfl (uxG2 rfl (uxG2 rfl (uxG2 rfl hI.2.2.2.2.2.2.2.2.2.2.2.2.2.2.2.2.1)))))))))
    have k_xG3 : xG3 W := by
      rw [hW]
      exact (uxG3 rfl (uxG3 rfl (uxG3 rfl (uxG3 rfl (uxG3 rfl (uxG3 rfl (uxG3 rfl (uxG3 rfl (uxG3 rfl hI.2.2.2.2.2.2.2.2.2.2.2.2.2.2.2.2.2.1)))))))))
    have k_xG4 : xG4 W := by
      rw [hW]
      exact (uxG4 rfl (uxG4 rfl (uxG4 rfl (uxG4 rfl (uxG4 rfl (uxG4 rfl (uxG4 rfl (uxG4 rfl (uxG4 rfl hI.2.2.2.2.2.2.2.2.2.2.2.2.2.2.2.2.2.2.1)))))))))
    have k_xG5 : xG5 W := by
      rw [hW]
      exact (uxG5 rfl (uxG5 rfl (uxG5 rfl (uxG5 rfl (uxG5 rfl (uxG5 rfl (uxG5 rfl (uxG5 rfl (uxG5 rfl hI.2.2.2.2.2.2.2.2.2.2.2.2.2.2.2.2.2.2.2.1)))))))))
    have k_xG6 : xG6 W := by
      rw [hW]
      exact (uxG6 rfl (uxG6 rfl (uxG6 rfl (uxG6 rfl (uxG6 rfl (uxG6 rfl (uxG6 rfl (uxG6 rfl (uxG6 rfl hI.2.2.2.2.2.2.2.2.2.2.2.2.2.2.2.2.2.2.2.2.1)))))))))
    have k_xS1 : xS1 W := by
      rw [hW]
      exact (uxS1 rfl (uxS1 rfl (uxS1 rfl (uxS1 rfl (uxS1 rfl (uxS1 rfl (uxS1 rfl (uxS1 rfl (uxS1 rfl hI.2.2.2.2.2.2.2.2.2.2.2.2.2.2.2.2.2.2.2.2.2.1)))))))))
    have k_xS2 : xS2 W := by
      rw [hW]
      exact (uxS2 rfl (uxS2 rfl (uxS2 rfl (uxS2 rfl (uxS2 rfl (uxS2 rfl (uxS2 rfl (uxS2 rfl (uxS2 rfl hI.2.2.2.2.2.2.2.2.2.2.2.2.2.2.2.2.2.2.2.2.2.2.1)))))))))
    have k_xS3 : xS3 W := by
      rw [hW]
      exact (uxS3 rfl (uxS3 rfl (uxS3 rfl (uxS3 rfl (uxS3 rfl (uxS3 rfl (uxS3 rfl (uxS3 rfl (uxS3 rfl hI.2.2.2.2.2.2.2.2.2.2.2.2.2.2.2.2.2.2.2.2.2.2.2.1)))))))))
    have k_xS4 : xS4 W := by
      rw [hW]
      exact (uxS4 rfl (uxS4 rfl (uxS4 rfl (uxS4 rfl (uxS4 rfl (uxS4 rfl (uxS4 rfl (uxS4 rfl (uxS4 rfl hI.2.2.2.2.2.2.2.2.2.2.2.2.2.2.2.2.2.2.2.2.2.2.2.2.1)))))))))
    have k_xS5 : xS5 W := by
      rw [hW]
      exact (uxS5 rfl (uxS5 rfl (uxS5 rfl (uxS5 rfl (uxS5 rfl (uxS5 rfl (uxS5 rfl (uxS5 rfl (uxS5 rfl hI.2.2.2.2.2.2.2.2.2.2.2.2.2.2.2.2.2.2.2.2.2.2.2.2.2.1)))))))))
    have k_xS6 : xS6 W := by
      rw [hW]
      exact (uxS6 rfl (uxS6 rfl (uxS6 rfl (uxS6 rfl (uxS6 rfl (uxS6 rfl (uxS6 rfl (uxS6 rfl (uxS6 rfl hI.2.2.2.2.2.2.2.2.2.2.2.2.2.2.2.2.2.2.2.2.2.2.2.2.2.2.1)))))))))
    have k_xS7 : xS7 W := by
      rw [hW]
      exact (uxS7 rfl (uxS7 rfl (uxS7 rfl (uxS7 rfl (uxS7 rfl (uxS7 rfl (uxS7 rfl (uxS7 rfl (uxS7 rfl hI.2.2.2.2.2.2.2.2.2.2.2.2.2.2.2.2.2.2.2.2.2.2.2.2.2.2.2.1)))))))))
    have k_xS8 : xS8 W := by
      rw [hW]
      exact (uxS8 rfl (uxS8 rfl (uxS8 rfl (uxS8 rfl (uxS8 rfl (uxS8 rfl (uxS8 rfl (uxS8 rfl (uxS8 rfl hI.2.2.2.2.2.2.2.2.2.2.2.2.2.2.2.2.2.2.2.2.2.2.2.2.2.2.2.2.1)))))))))
    have k_xS9 : xS9 W := by
      rw [hW]
      exact (uxS9 rfl (uxS9 rfl (uxS9 rfl (uxS9 rfl (uxS9 rfl (uxS9 rfl (uxS9 rfl (uxS9 rfl (uxS9 rfl hI.2.2.2.2.2.2.2.2.2.2.2.2.2.2.2.2.2.2.2.2.2.2.2.2.2.2.2.2.2.1)))))))))
    have k_xSA : xSA W := by
      rw [hW]
      exact (uxSA rfl (uxSA rfl (uxSA rfl (uxSA rfl (uxSA rfl (uxSA rfl (uxSA rfl (uxSA rfl (uxSA rfl hI.2.2.2.2.2.2.2.2.2.2.2.2.2.2.2.2.2.2.2.2.2.2.2.2.2.2.2.2.2.2.1)))))))))
    have k_xSG : xSG W := by
      rw [hW]
      exact (uxSG rfl (uxSG rfl (uxSG rfl (uxSG rfl (uxSG rfl (uxSG rfl (uxSG rfl (uxSG rfl (uxSG rfl hI.2.2.2.2.2.2.2.2.2.2.2.2.2.2.2.2.2.2.2.2.2.2.2.2.2.2.2.2.2.2.2.1)))))))))
    have k_xSF : xSF W := by
      rw [hW]
      exact (uxSF rfl (uxSF rfl (uxSF rfl (uxSF rfl (uxSF rfl (uxSF rfl (uxSF rfl (uxSF rfl (uxSF rfl hI.2.2.2.2.2.2.2.2.2.2.2.2.2.2.2.2.2.2.2.2.2.2.2.2.2.2.2.2.2.2.2.2.1)))))))))
    have k_xSB : xSB W := by
      rw [hW]
      exact (uxSB rfl (uxSB rfl (uxSB rfl (uxSB rfl (uxSB rfl (uxSB rfl (uxSB rfl (uxSB rfl (uxSB rfl hI.2.2.2.2.2.2.2.2.2.2.2.2.2.2.2.2.2.2.2.2.2.2.2.2.2.2.2.2.2.2.2.2.2.1)))))))))
    have k_xSC : xSC W := by
      rw [hW]
      exact (uxSC rfl (uxSC rfl (uxSC rfl (uxSC rfl (uxSC rfl (uxSC rfl (uxSC rfl (uxSC rfl (uxSC rfl hI.2.2.2.2.2.2.2.2.2.2.2.2.2.2.2.2.2.2.2.2.2.2.2.2.2.2.2.2.2.2.2.2.2.2.1)))))))))
    have k_xSD : xSD W := by
      have r91_240 : W 91 240 = 1 * ρ 0 + 0 := by rw [hW, sU_ne (fun z => by omega), sU_ne (fun z => by omega), sU_ne (fun z => by omega), sU_ne (fun z => by omega), sU_ne (fun z => by omega), sU_ne (fun z => by omega), sU_ne (fun z => by omega), sU_ne (fun z => by omega), sU_at]
      have r91_241 : W 91 241 = 1 * ρ 0 + 0 := by rw [hW, sU_ne (fun z => by omega), sU_ne (fun z => by omega), sU_ne (fun z => by omega), sU_ne (fun z => by omega), sU_ne (fun z => by omega), sU_ne (fun z => by omega), sU_ne (fun z => by omega), sU_at]
      have r91_242 : W 91 242 = 0 := by rw [hW, sU_ne (fun z => by omega), sU_ne (fun z => by omega), sU_ne (fun z => by omega), sU_ne (fun z => by omega), sU_ne (fun z => by omega), sU_ne (fun z => by omega), sU_at]
      have r91_243 : W 91 243 = 1 * ρ 0 + 0 := by rw [hW, sU_ne (fun z => by omega), sU_ne (fun z => by omega), sU_ne (fun z => by omega), sU_ne (fun z => by omega), sU_ne (fun z => by omega), sU_at]
      have r91_244 : W 91 244 = 1 * (xop 5 (ρ 1) 1) + 0 := by rw [hW, sU_ne (fun z => by omega), sU_ne (fun z => by omega), sU_at]
      have r91_245 : W 91 245 = 0 := by rw [hW, sU_ne (fun z => by omega), sU_ne (fun z => by omega), sU_ne (fun z => by omega), sU_ne (fun z => by omega), sU_at]
      have r91_246 : W 91 246 = 1 * ρ 1 + 0 := by rw [hW, sU_ne (fun z => by omega), sU_ne (fun z => by omega), sU_ne (fun z => by omega), sU_at]
      have r91_247 : W 91 247 = 1 * ρ 0 + 0 := by rw [hW, sU_ne (fun z => by omega), sU_at]
      intro h
      rw [r91_241, r91_242, r91_243, r91_244, r91_245, r91_246, r91_247, h0]
      refine ⟨by decide, ?_, by decide⟩
      rw [show ((1 : Int) * 1 + 0) = 1 from rfl, show (1 * ρ 1 + 0 : Int) = ρ 1 by omega]
      omega
    have k_xSE : xSE W := by
      have r : W 91 249 = 0 := by
        have e := m0
        rw [hW, sU_ne (fun z => by omega), sU_ne (fun z => by omega), sU_ne (fun z => by omega), sU_ne (fun z => by omega), sU_ne (fun z => by omega), sU_ne (fun z => by omega), sU_ne (fun z => by omega), sU_ne (fun z => by omega), sU_ne (fun z => by omega)]
        omega
      intro h
      rw [r] at h
      omega
    have k_xSW : xSW W := by
      rw [hW]
      exact (uxSW rfl (uxSW rfl (uxSW rfl (uxSW rfl (uxSW rfl (uxSW rfl (uxSW rfl (uxSW rfl (uxSW rfl hI.2.2.2.2.2.2.2.2.2.2.2.2.2.2.2.2.2.2.2.2.2.2.2.2.2.2.2.2.2.2.2.2.2.2.2.2.2.1)))))))))
    have k_xST : xST W := by
      rw [hW]
      exact (uxST rfl (uxST rfl (uxST rfl (uxST rfl (uxST rfl (uxST rfl (uxST rfl (uxST rfl (uxST rfl hI.2.2.2.2.2.2.2.2.2.2.2.2.2.2.2.2.2.2.2.2.2.2.2.2.2.2.2.2.2.2.2.2.2.2.2.2.2.2.1)))))))))
    have k_xSP : xSP W := by
      rw [hW]
      exact (uxSP rfl (uxSP rfl (uxSP rfl (uxSP rfl (uxSP rfl (uxSP rfl (uxSP rfl (uxSP rfl (uxSP rfl hI.2.2.2.2.2.2.2.2.2.2.2.2.2.2.2.2.2.2.2.2.2.2.2.2.2.2.2.2.2.2.2.2.2.2.2.2.2.2.2.1)))))))))
    have k_xSL : xSL W := by
      rw [hW]
      exact (uxSL rfl (uxSL rfl (uxSL rfl (uxSL rfl (uxSL rfl (uxSL rfl (uxSL rfl (uxSL rfl (uxSL rfl hI.2.2.2.2.2.2.2.2.2.2.2.2.2.2.2.2.2.2.2.2.2.2.2.2.2.2.2.2.2.2.2.2.2.2.2.2.2.2.2.2.1)))))))))
    have k_xSM : xSM W := by
      rw [hW]
      exact (uxSM rfl (uxSM rfl (uxSM rfl (uxSM rfl (uxSM rfl (uxSM rfl (uxSM rfl (uxSM rfl (uxSM rfl hI.2.2.2.2.2.2.2.2.2.2.2.2.2.2.2.2.2.2.2.2.2.2.2.2.2.2.2.2.2.2.2.2.2.2.2.2.2.2.2.2.2.1)))))))))
    have k_xSI : xSI W := by
      rw [hW]
      exact (uxSI rfl (uxSI rfl (uxSI rfl (uxSI rfl (uxSI rfl (uxSI rfl (uxSI rfl (uxSI rfl (uxSI rfl hI.2.2.2.2.2.2.2.2.2.2.2.2.2.2.2.2.2.2.2.2.2.2.2.2.2.2.2.2.2.2.2.2.2.2.2.2.2.2.2.2.2.2)))))))))
    have k_XC : XC W := ⟨k_xS1, k_xS2, k_xS3, k_xS4, k_xS5, k_xS6, k_xS7, k_xS8, k_xS9, k_xSA, k_xSG, k_xSF, k_xSB, k_xSC, k_xSD, k_xSE, k_xSW, k_xST, k_xSP, k_xSL, k_xSM, k_xSI⟩
    have kXB : XB W := ⟨k_xN1, k_xN2, k_xN3, k_xN4, k_xN5, k_xN6, k_xH1, k_xK1, k_xC1, k_xRW, k_xWT, k_xCU, k_xG2, k_xG3, k_xG4, k_xG5, k_xG6, k_XC⟩
    exact ⟨base, k2, k3, kXA, kXB⟩
-- ro1
def xr_547 : qRu := (11, [[(1, 1), (-1, 2), (-32, 3), (-64, 4), (-128, 5), (-256, 6), (-512, 7), (-1024, 8), (-65536, 9), (-131072, 10)], [(-1, 1), (1, 2), (32, 3), (64, 4), (128, 5), (256, 6), (512, 7), (1024, 8), (65536, 9), (131072, 10)], [(1, 2)], [(31, 0), (-1, 2)], [(1, 8)], [(63, 0), (-1, 8)], [(1, 3)], [(1, 0), (-1, 3)], [(1, 4)], [(1, 0), (-1, 4)], [(1, 5)], [(1, 0), (-1, 5)], [(1, 6)], [(1, 0), (-1, 6)], [(1, 7)], [(1, 0), (-1, 7)], [(1, 9)], [(1, 0), (-1, 9)], [(1, 10)], [(1, 0), (-1, 10)]], [(91, 249, [])], [], [(91, 240, [(1, 0)]), (91, 241, [(1, 0)]), (91, 242, [(1, 0)]), (91, 243, [(2, 0)]), (91, 245, []), (91, 246, [(1, 1)]), (91, 244, [(1, 11)]), (91, 247, [(2, 0)]), (4, 291, [(1, 12)])], [[(-1, 1), (1, 2), (1, 11), (-1, 12)], [(1, 1), (-1, 2), (-1, 11), (1, 12)], [(1, 12)], [(31, 0), (-1, 12)]])
theorem xo_547 : qRok xr_547 := by
  intro ρ M h0 hf hm hI
  have f0 := hf [(1, 1), (-1, 2), (-32, 3), (-64, 4), (-128, 5), (-256, 6), (-512, 7), (-1024, 8), (-65536, 9), (-131072, 10)] (by decide)
  have f1 := hf [(-1, 1), (1, 2), (32, 3), (64, 4), (128, 5), (256, 6), (512, 7), (1024, 8), (65536, 9), (131072, 10)] (by decide)
  have f2 := hf [(1, 2)] (by decide)
  have f3 := hf [(31, 0), (-1, 2)] (by decide)
  have f4 := hf [(1, 8)] (by decide)
  have f5 := hf [(63, 0), (-1, 8)] (by decide)
  have f6 := hf [(1, 3)] (by decide)
  have f7 := hf [(1, 0), (-1, 3)] (by decide)
  have f8 := hf [(1, 4)] (by decide)
  have f9 := hf [(1, 0), (-1, 4)] (by decide)
  have f10 := hf [(1, 5)] (by decide)
  have f11 := hf [(1, 0), (-1, 5)] (by decide)
  have f12 := hf [(1, 6)] (by decide)
  have f13 := hf [(1, 0), (-1, 6)] (by decide)
  have f14 := hf [(1, 7)] (by decide)
  have f15 := hf [(1, 0), (-1, 7)] (by decide)
  have f16 := hf [(1, 9)] (by decide)
  have f17 := hf [(1, 0), (-1, 9)] (by decide)
  have f18 := hf [(1, 10)] (by decide)
  have f19 := hf [(1, 0), (-1, 10)] (by decide)
  simp only [qD, h0] at f0 f1 f2 f3 f4 f5 f6 f7 f8 f9 f10 f11 f12 f13 f14 f15 f16 f17 f18 f19
  have m0 : M 91 249 = 0 := hm (91, 249, []) (by decide)
  have qxSD := hI.2.2.2.2.2.2.2.2.2.2.2.2.2.2.2.2.2.2.2.2.2.2.2.2.2.2.2.2.2.2.2.2.2.2.2.1
  have xb := xbo1 (t := ρ 1) (by omega) (by omega)

  have xc : xop 5 (ρ 1) 2 - ρ 1 = 0 ∨ (xop 5 (ρ 1) 2 - ρ 1 = 2 ∧ (ρ 2 / 2) % 2 = 0) := by omega
  refine ⟨fun a => cond (Nat.blt a 11) (ρ a) (([xop 5 (ρ 1) 2, ((xop 5 (ρ 1) 2 - ρ 1) / 1 + ρ 2)] : List Int).getD (a - 11) 0), fun a ha => ?_, fun f h => ?_, ?_⟩
  · show cond (Nat.blt a 11) (ρ a) _ = ρ a
    rw [show Nat.blt a 11 = true from Nat.ble_eq_true_of_le ha]; rfl
  · have h : f ∈ ([[(-1, 1), (1, 2), (1, 11), (-1, 12)], [(1, 1), (-1, 2), (-1, 11), (1, 12)], [(1, 12)], [(31, 0), (-1, 12)]] : List qF) := h
    simp only [List.mem_cons, List.not_mem_nil, or_false] at h
    rcases h with rfl | rfl | rfl | rfl
    · show 0 ≤ -1 * ρ 1 + (1 * ρ 2 + (1 * (xop 5 (ρ 1) 2) + (-1 * (((xop 5 (ρ 1) 2 - ρ 1) / 1 + ρ 2)) + 0)))
      (try rw [h0]); omega
    · show 0 ≤ 1 * ρ 1 + (-1 * ρ 2 + (-1 * (xop 5 (ρ 1) 2) + (1 * (((xop 5 (ρ 1) 2 - ρ 1) / 1 + ρ 2)) + 0)))
      (try rw [h0]); omega
    · show 0 ≤ 1 * (((xop 5 (ρ 1) 2 - ρ 1) / 1 + ρ 2)) + 0
      (try rw [h0]); omega
    · show 0 ≤ 31 * ρ 0 + (-1 * (((xop 5 (ρ 1) 2 - ρ 1) / 1 + ρ 2)) + 0)
      (try rw [h0]); omega
  · show sI (sU (sU (sU (sU (sU (sU (sU (sU (sU M 91 240 (1 * ρ 0 + 0)) 91 241 (1 * ρ 0 + 0)) 91 242 (1 * ρ 0 + 0)) 91 243 (2 * ρ 0 + 0)) 91 245 (0)) 91 246 (1 * ρ 1 + 0)) 91 244 (1 * (xop 5 (ρ 1) 2) + 0)) 91 247 (2 * ρ 0 + 0)) 4 291 (1 * (((xop 5 (ρ 1) 2 - ρ 1) / 1 + ρ 2)) + 0))
    obtain ⟨W, hW⟩ : ∃ W, W = (sU (sU (sU (sU (sU (sU (sU (sU (sU M 91 240 (1 * ρ 0 + 0)) 91 241 (1 * ρ 0 + 0)) 91 242 (1 * ρ 0 + 0)) 91 243 (2 * ρ 0 + 0)) 91 245 (0)) 91 246 (1 * ρ 1 + 0)) 91 244 (1 * (xop 5 (ρ 1) 2) + 0)) 91 247 (2 * ρ 0 + 0)) 4 291 (1 * (((xop 5 (ρ 1) 2 - ρ 1) / 1 + ρ 2)) + 0)) := ⟨_, rfl⟩
    rw [← hW]
    have base : sI0 W := by
      rw [hW]
      exact (si_u0 (si_u0 (si_u0 (si_u0 (si_u0 (si_u0 (si_u0 (si_u0 (si_u0 hI.1 (fun r hr => by cases hr)) (fun r hr => by cases hr)) (fun r hr => by cases hr)) (fun r hr => by cases hr)) (fun r hr => by cases hr)) (fun r hr => by cases hr)) (fun r hr => by cases hr)) (fun r hr => by cases hr)) (fun r hr => by cases hr))
    have k2 : XI2 W := by
      rw [hW]
      exact (xi2_u rfl (xi2_u rfl (xi2_u rfl (xi2_u rfl (xi2_u rfl (xi2_u rfl (xi2_u rfl (xi2_u rfl (xi2_u rfl hI.2.1)))))))))
    have k3 : XI3 W := by
      rw [hW]
      exact (xi3_u rfl (xi3_u rfl (xi3_u rfl (xi3_u rfl (xi3_u rfl (xi3_u rfl (xi3_u rfl (xi3_u rfl (xi3_u rfl hI.2.2.1)))))))))
    have kXA : XA W := by
      rw [hW]
      exact (uXA rfl (uXA rfl (uXA rfl (uXA rfl (uXA rfl (uXA rfl (uXA rfl (uXA rfl (uXA rfl hI.2.2.2.1)))))))))
    have k_xN1 : xN1 W := by
      rw [hW]
      exact (uxN1 rfl (uxN1 rfl (uxN1 rfl (uxN1 rfl (uxN1 rfl (uxN1 rfl (uxN1 rfl (uxN1 rfl (uxN1 rfl hI.2.2.2.2.1)))))))))
    have k_xN2 : xN2 W := by
      rw [hW]
      exact (uxN2 rfl (uxN2 rfl (uxN2 rfl (uxN2 rfl (uxN2 rfl (uxN2 rfl (uxN2 rfl (uxN2 rfl (uxN2 rfl hI.2.2.2.2.2.1)))))))))
    have k_xN3 : xN3 W := by
      rw [hW]
      exact (uxN3 rfl (uxN3 rfl (uxN3 rfl (uxN3 rfl (uxN3 rfl (uxN3 rfl (uxN3 rfl (uxN3 rfl (uxN3 rfl hI.2.2.2.2.2.2.1)))))))))
    have k_xN4 : xN4 W := by
      rw [hW]
      exact (uxN4 rfl (uxN4 rfl (uxN4 rfl (uxN4 rfl (uxN4 rfl (uxN4 rfl (uxN4 rfl (uxN4 rfl (uxN4 rfl hI.2.2.2.2.2.2.2.1)))))))))
    have k_xN5 : xN5 W := by
      rw [hW]
      exact (uxN5 rfl (uxN5 rfl (uxN5 rfl (uxN5 rfl (uxN5 rfl (uxN5 rfl (uxN5 rfl (uxN5 rfl (uxN5 rfl hI.2.2.2.2.2.2.2.2.1)))))))))
    have k_xN6 : xN6 W := by
      rw [hW]
      exact (uxN6 rfl (uxN6 rfl (uxN6 rfl (uxN6 rfl (uxN6 rfl (uxN6 rfl (uxN6 rfl (uxN6 rfl (uxN6 rfl hI.2.2.2.2.2.2.2.2.2.1)))))))))
    have k_xH1 : xH1 W := by
      rw [hW]
      exact (uxH1 rfl (uxH1 rfl (uxH1 rfl (uxH1 rfl (uxH1 rfl (uxH1 rfl (uxH1 rfl (uxH1 rfl (uxH1 rfl hI.2.2.2.2.2.2.2.2.2.2.1)))))))))
    have k_xK1 : xK1 W := by
      rw [hW]
      exact (uxK1 rfl (uxK1 rfl (uxK1 rfl (uxK1 rfl (uxK1 rfl (uxK1 rfl (uxK1 rfl (uxK1 rfl (uxK1 rfl hI.2.2.2.2.2.2.2.2.2.2.2.1)))))))))
    have k_xC1 : xC1 W := by
      rw [hW]
      exact (uxC1 rfl (uxC1 rfl (uxC1 rfl (uxC1 rfl (uxC1 rfl (uxC1 rfl (uxC1 rfl (uxC1 rfl (uxC1 rfl hI.2.2.2.2.2.2.2.2.2.2.2.2.1)))))))))
    have k_xRW : xRW W := by
      rw [hW]
      exact (uxRW rfl (uxRW rfl (uxRW rfl (uxRW rfl (uxRW rfl (uxRW rfl (uxRW rfl (uxRW rfl (uxRW rfl hI.2.2.2.2.2.2.2.2.2.2.2.2.2.1)))))))))
    have k_xWT : xWT W := by
      rw [hW]
      exact (uxWT rfl (uxWT rfl (uxWT rfl (uxWT rfl (uxWT rfl (uxWT rfl (uxWT rfl (uxWT rfl (uxWT rfl hI.2.2.2.2.2.2.2.2.2.2.2.2.2.2.1)))))))))
    have k_xCU : xCU W := by
      rw [hW]
      exact (uxCU rfl (uxCU rfl (uxCU rfl (uxCU rfl (uxCU rfl (uxCU rfl (uxCU rfl (uxCU rfl (uxCU rfl hI.2.2.2.2.2.2.2.2.2.2.2.2.2.2.2.1)))))))))
    have k_xG2 : xG2 W := by
      rw [hW]
      exact (uxG2 rfl (uxG2 rfl (uxG2 rfl (uxG2 rfl (uxG2 rfl (uxG2 rfl (uxG2 rfl (uxG2 rfl (uxG2 rfl hI.2.2.2.2.2.2.2.2.2.2.2.2.2.2.2.2.1)))))))))
    have k_xG3 : xG3 W := by
      rw [hW]
      exact (uxG3 rfl (uxG3 rfl (uxG3 rfl (uxG3 rfl (uxG3 rfl (uxG3 rfl (uxG3 rfl (uxG3 rfl (uxG3 rfl hI.2.2.2.2.2.2.2.2.2.2.2.2.2.2.2.2.2.1)))))))))
    have k_xG4 : xG4 W := by
      rw [hW]
      exact (uxG4 rfl (uxG4 rfl (uxG4 rfl (uxG4 rfl (uxG4 rfl (uxG4 rfl (uxG4 rfl (uxG4 rfl (uxG4 rfl hI.2.2.2.2.2.2.2.2.2.2.2.2.2.2.2.2.2.2.1)))))))))
    have k_xG5 : xG5 W := by
      rw [hW]
      exact (uxG5 rfl (uxG5 rfl (uxG5 rfl (uxG5 rfl (uxG5 rfl (uxG5 rfl (uxG5 rfl (uxG5 rfl (uxG5 rfl hI.2.2.2.2.2.2.2.2.2.2.2.2.2.2.2.2.2.2.2.1)))))))))
    have k_xG6 : xG6 W := by
      rw [hW]
      exact (uxG6 rfl (uxG6 rfl (uxG6 rfl (uxG6 rfl (uxG6 rfl (uxG6 rfl (uxG6 rfl (uxG6 rfl (uxG6 rfl hI.2.2.2.2.2.2.2.2.2.2.2.2.2.2.2.2.2.2.2.2.1)))))))))
    have k_xS1 : xS1 W := by
      rw [hW]
      exact (uxS1 rfl (uxS1 rfl (uxS1 rfl (uxS1 rfl (uxS1 rfl (uxS1 rfl (uxS1 rfl (uxS1 rfl (uxS1 rfl hI.2.2.2.2.2.2.2.2.2.2.2.2.2.2.2.2.2.2.2.2.2.1)))))))))
    have k_xS2 : xS2 W := by
      rw [hW]
      exact (uxS2 rfl (uxS2 rfl (uxS2 rfl (uxS2 rfl (uxS2 rfl (uxS2 rfl (uxS2 rfl (uxS2 rfl (uxS2 rfl hI.2.2.2.2.2.2.2.2.2.2.2.2.2.2.2.2.2.2.2.2.2.2.1)))))))))
    have k_xS3 : xS3 W := by
      rw [hW]
      exact (uxS3 rfl (uxS3 rfl (uxS3 rfl (uxS3 rfl (uxS3 rfl (uxS3 rfl (uxS3 rfl (uxS3 rfl (uxS3 rfl hI.2.2.2.2.2.2.2.2.2.2.2.2.2.2.2.2.2.2.2.2.2.2.2.1)))))))))
    have k_xS4 : xS4 W := by
      rw [hW]
      exact (uxS4 rfl (uxS4 rfl (uxS4 rfl (uxS4 rfl (uxS4 rfl (uxS4 rfl (uxS4 rfl (uxS4 rfl (uxS4 rfl hI.2.2.2.2.2.2.2.2.2.2.2.2.2.2.2.2.2.2.2.2.2.2.2.2.1)))))))))
    have k_xS5 : xS5 W := by
      rw [hW]
      exact (uxS5 rfl (uxS5 rfl (uxS5 rfl (uxS5 rfl (uxS5 rfl (uxS5 rfl (uxS5 rfl (uxS5 rfl (uxS5 rfl hI.2.2.2.2.2.2.2.2.2.2.2.2.2.2.2.2.2.2.2.2.2.2.2.2.2.1)))))))))
    have k_xS6 : xS6 W := by
      rw [hW]
      exact (uxS6 rfl (uxS6 rfl (uxS6 rfl (uxS6 rfl (uxS6 rfl (uxS6 rfl (uxS6 rfl (uxS6 rfl (uxS6 rfl hI.2.2.2.2.2.2.2.2.2.2.2.2.2.2.2.2.2.2.2.2.2.2.2.2.2.2.1)))))))))
    have k_xS7 : xS7 W := by
      rw [hW]
      exact (uxS7 rfl (uxS7 rfl (uxS7 rfl (uxS7 rfl (uxS7 rfl (uxS7 rfl (uxS7 rfl (uxS7 rfl (uxS7 rfl hI.2.2.2.2.2.2.2.2.2.2.2.2.2.2.2.2.2.2.2.2.2.2.2.2.2.2.2.1)))))))))
    have k_xS8 : xS8 W := by
      rw [hW]
      exact (uxS8 rfl (uxS8 rfl (uxS8 rfl (uxS8 rfl (uxS8 rfl (uxS8 rfl (uxS8 rfl (uxS8 rfl (uxS8 rfl hI.2.2.2.2.2.2.2.2.2.2.2.2.2.2.2.2.2.2.2.2.2.2.2.2.2.2.2.2.1)))))))))
    have k_xS9 : xS9 W := by
      rw [hW]
      exact (uxS9 rfl (uxS9 rfl (uxS9 rfl (uxS9 rfl (uxS9 rfl (uxS9 rfl (uxS9 rfl (uxS9 rfl (uxS9 rfl hI.2.2.2.2.2.2.2.2.2.2.2.2.2.2.2.2.2.2.2.2.2.2.2.2.2.2.2.2.2.1)))))))))
    have k_xSA : xSA W := by
      rw [hW]
      exact (uxSA rfl (uxSA rfl (uxSA rfl (uxSA rfl (uxSA rfl (uxSA rfl (uxSA rfl (uxSA rfl (uxSA rfl hI.2.2.2.2.2.2.2.2.2.2.2.2.2.2.2.2.2.2.2.2.2.2.2.2.2.2.2.2.2.2.1)))))))))
    have k_xSG : xSG W := by
      rw [hW]
      exact (uxSG rfl (uxSG rfl (uxSG rfl (uxSG rfl (uxSG rfl (uxSG rfl (uxSG rfl (uxSG rfl (uxSG rfl hI.2.2.2.2.2.2.2.2.2.2.2.2.2.2.2.2.2.2.2.2.2.2.2.2.2.2.2.2.2.2.2.1)))))))))
    have k_xSF : xSF W := by
      rw [hW]
      exact (uxSF rfl (uxSF rfl (uxSF rfl (uxSF rfl (uxSF rfl (uxSF rfl (uxSF rfl (uxSF rfl (uxSF rfl hI.2.2.2.2.2.2.2.2.2.2.2.2.2.2.2.2.2.2.2.2.2.2.2.2.2.2.2.2.2.2.2.2.1)))))))))
    have k_xSB : xSB W := by
      rw [hW]
      exact (uxSB rfl (uxSB rfl (uxSB rfl (uxSB rfl (uxSB rfl (uxSB rfl (uxSB rfl (uxSB rfl (uxSB rfl hI.2.2.2.2.2.2.2.2.2.2.2.2.2.2.2.2.2.2.2.2.2.2.2.2.2.2.2.2.2.2.2.2.2.1)))))))))
    have k_xSC : xSC W := by
      rw [hW]
      exact (uxSC rfl (uxSC rfl (uxSC rfl (uxSC rfl (uxSC rfl (uxSC rfl (uxSC rfl (uxSC rfl (uxSC rfl hI.2.2.2.2.2.2.2.2.2.2.2.2.2.2.2.2.2.2.2.2.2.2.2.2.2.2.2.2.2.2.2.2.2.2.1)))))))))
    have k_xSD : xSD W := by
      have r91_240 : W 91 240 = 1 * ρ 0 + 0 := by rw [hW, sU_ne (fun z => by omega), sU_ne (fun z => by omega), sU_ne (fun z => by omega), sU_ne (fun z => by omega), sU_ne (fun z => by omega), sU_ne (fun z => by omega), sU_ne (fun z => by omega), sU_ne (fun z => by omega), sU_at]
      have r91_241 : W 91 241 = 1 * ρ 0 + 0 := by rw [hW, sU_ne (fun z => by omega), sU_ne (fun z => by omega), sU_ne (fun z => by omega), sU_ne (fun z => by omega), sU_ne (fun z => by omega), sU_ne (fun z => by omega), sU_ne (fun z => by omega), sU_at]
      have r91_242 : W 91 242 = 1 * ρ 0 + 0 := by rw [hW, sU_ne (fun z => by omega), sU_ne (fun z => by omega), sU_ne (fun z => by omega), sU_ne (fun z => by omega), sU_ne (fun z => by omega), sU_ne (fun z => by omega), sU_at]
      have r91_243 : W 91 243 = 2 * ρ 0 + 0 := by rw [hW, sU_ne (fun z => by omega), sU_ne (fun z => by omega), sU_ne (fun z => by omega), sU_ne (fun z => by omega), sU_ne (fun z => by omega), sU_at]
      have r91_244 : W 91 244 = 1 * (xop 5 (ρ 1) 2) + 0 := by rw [hW, sU_ne (fun z => by omega), sU_ne (fun z => by omega), sU_at]
      have r91_245 : W 91 245 = 0 := by rw [hW, sU_ne (fun z => by omega), sU_ne (fun z => by omega), sU_ne (fun z => by omega), sU_ne (fun z => by omega), sU_at]
      have r91_246 : W 91 246 = 1 * ρ 1 + 0 := by rw [hW, sU_ne (fun z => by omega), sU_ne (fun z => by omega), sU_ne (fun z => by omega), sU_at]
      have r91_247 : W 91 247 = 2 * ρ 0 + 0 := by rw [hW, sU_ne (fun z => by omega), sU_at]
      intro h
      rw [r91_241, r91_242, r91_243, r91_244, r91_245, r91_246, r91_247, h0]
      refine ⟨by decide, ?_, by decide⟩
      rw [show ((2 : Int) * 1 + 0) = 2 from rfl, show (1 * ρ 1 + 0 : Int) = ρ 1 by omega]
      omega
    have k_xSE : xSE W := by
      have r : W 91 249 = 0 := by
        have e := m0
        rw [hW, sU_ne (fun z => by omega), sU_ne (fun z => by omega), sU_ne (fun z => by omega), sU_ne (fun z => by omega), sU_ne (fun z => by omega), sU_ne (fun z => by omega), sU_ne (fun z => by omega), sU_ne (fun z => by omega), sU_ne (fun z => by omega)]
        omega
      intro h
      rw [r] at h
      omega
    have k_xSW : xSW W := by
      rw [hW]
      exact (uxSW rfl (uxSW rfl (uxSW rfl (uxSW rfl (uxSW rfl (uxSW rfl (uxSW rfl (uxSW rfl (uxSW rfl hI.2.2.2.2.2.2.2.2.2.2.2.2.2.2.2.2.2.2.2.2.2.2.2.2.2.2.2.2.2.2.2.2.2.2.2.2.2.1)))))))))
    have k_xST : xST W := by
      rw [hW]
      exact (uxST rfl (uxST rfl (uxST rfl (uxST rfl (uxST rfl (uxST rfl (uxST rfl (uxST rfl (uxST rfl hI.2.2.2.2.2.2.2.2.2.2.2.2.2.2.2.2.2.2.2.2.2.2.2.2.2.2.2.2.2.2.2.2.2.2.2.2.2.2.1)))))))))
    have k_xSP : xSP W := by
      rw [hW]
      exact (uxSP rfl (uxSP rfl (uxSP rfl (uxSP rfl (uxSP rfl (uxSP rfl (uxSP rfl (uxSP rfl (uxSP rfl hI.2.2.2.2.2.2.2.2.2.2.2.2.2.2.2.2.2.2.2.2.2.2.2.2.2.2.2.2.2.2.2.2.2.2.2.2.2.2.2.1)))))))))
    have k_xSL : xSL W := by
      rw [hW]
      exact (uxSL rfl (uxSL rfl (uxSL rfl (uxSL rfl (uxSL rfl (uxSL rfl (uxSL rfl (uxSL rfl (uxSL rfl hI.2.2.2.2.2.2.2.2.2.2.2.2.2.2.2.2.2.2.2.2.2.2.2.2.2.2.2.2.2.2.2.2.2.2.2.2.2.2.2.2.1)))))))))
    have k_xSM : xSM W := by
      rw [hW]
      exact (uxSM rfl (uxSM rfl (uxSM rfl (uxSM rfl (uxSM rfl (uxSM rfl (uxSM rfl (uxSM rfl (uxSM rfl hI.2.2.2.2.2.2.2.2.2.2.2.2.2.2.2.2.2.2.2.2.2.2.2.2.2.2.2.2.2.2.2.2.2.2.2.2.2.2.2.2.2.1)))))))))
    have k_xSI : xSI W := by
      rw [hW]
      exact (uxSI rfl (uxSI rfl (uxSI rfl (uxSI rfl (uxSI rfl (uxSI rfl (uxSI rfl (uxSI rfl (uxSI rfl hI.2.2.2.2.2.2.2.2.2.2.2.2.2.2.2.2.2.2.2.2.2.2.2.2.2.2.2.2.2.2.2.2.2.2.2.2.2.2.2.2.2.2)))))))))
    have k_XC : XC W := ⟨k_xS1, k_xS2, k_xS3, k_xS4, k_xS5, k_xS6, k_xS7, k_xS8, k_xS9, k_xSA, k_xSG, k_xSF, k_xSB, k_xSC, k_xSD, k_xSE, k_xSW, k_xST, k_xSP, k_xSL, k_xSM, k_xSI⟩
    have kXB : XB W := ⟨k_xN1, k_xN2, k_xN3, k_xN4, k_xN5, k_xN6, k_xH1, k_xK1, k_xC1, k_xRW, k_xWT, k_xCU, k_xG2, k_xG3, k_xG4, k_xG5, k_xG6, k_XC⟩
    exact ⟨base, k2, k3, kXA, kXB⟩
-- ro2
def xr_548 : qRu := (11, [[(1, 1), (-1, 2), (-32, 3), (-64, 4), (-128, 5), (-256, 6), (-512, 7), (-1024, 8), (-65536, 9), (-131072, 10)], [(-1, 1), (1, 2), (32, 3), (64, 4), (128, 5), (256, 6), (512, 7), (1024, 8), (65536, 9), (131072, 10)], [(1, 2)], [(31, 0), (-1, 2)], [(1, 8)], [(63, 0), (-1, 8)], [(1, 3)], [(1, 0), (-1, 3)], [(1, 4)], [(1, 0), (-1, 4)], [(1, 5)], [(1, 0), (-1, 5)], [(1, 6)], [(1, 0), (-1, 6)], [(1, 7)], [(1, 0), (-1, 7)], [(1, 9)], [(1, 0), (-1, 9)], [(1, 10)], [(1, 0), (-1, 10)]], [(91, 249, [])], [], [(91, 240, [(1, 0)]), (91, 241, [(1, 0)]), (91, 242, [(2, 0)]), (91, 243, [(4, 0)]), (91, 245, []), (91, 246, [(1, 1)]), (91, 244, [(1, 11)]), (91, 247, [(4, 0)]), (4, 291, [(1, 12)])], [[(-1, 1), (1, 2), (1, 11), (-1, 12)], [(1, 1), (-1, 2), (-1, 11), (1, 12)], [(1, 12)], [(31, 0), (-1, 12)]])
theorem xo_548 : qRok xr_548 := by
  intro ρ M h0 hf hm hI
  have f0 := hf [(1, 1), (-1, 2), (-32, 3), (-64, 4), (-128, 5), (-256, 6), (-512, 7), (-1024, 8), (-65536, 9), (-131072, 10)] (by decide)
  have f1 := hf [(-1, 1), (1, 2), (32, 3), (64, 4), (128, 5), (256, 6), (512, 7), (1024, 8), (65536, 9), (131072, 10)] (by decide)
  have f2 := hf [(1, 2)] (by decide)
  have f3 := hf [(31, 0), (-1, 2)] (by decide)
  have f4 := hf [(1, 8)] (by decide)
  have f5 := hf [(63, 0), (-1, 8)] (by decide)
  have f6 := hf [(1, 3)] (by decide)
  have f7 := hf [(1, 0), (-1, 3)] (by decide)
  have f8 := hf [(1, 4)] (by decide)
  have f9 := hf [(1, 0), (-1, 4)] (by decide)
  have f10 := hf [(1, 5)] (by decide)
  have f11 := hf [(1, 0), (-1, 5)] (by decide)
  have f12 := hf [(1, 6)] (by decide)
  have f13 := hf [(1, 0), (-1, 6)] (by decide)
  have f14 := hf [(1, 7)] (by decide)
  have f15 := hf [(1, 0), (-1, 7)] (by decide)
  have f16 := hf [(1, 9)] (by decide)
  have f17 := hf [(1, 0), (-1, 9)] (by decide)
  have f18 := hf [(1, 10)] (by decide)
  have f19 := hf [(1, 0), (-1, 10)] (by decide)
  simp only [qD, h0] at f0 f1 f2 f3 f4 f5 f6 f7 f8 f9 f10 f11 f12 f13 f14 f15 f16 f17 f18 f19
  have m0 : M 91 249 = 0 := hm (91, 249, []) (by decide)
  have qxSD := hI.2.2.2.2.2.2.2.2.2.2.2.2.2.2.2.2.2.2.2.2.2.2.2.2.2.2.2.2.2.2.2.2.2.2.2.1
  have xb := xbo2 (t := ρ 1) (by omega) (by omega)

  have xc : xop 5 (ρ 1) 4 - ρ 1 = 0 ∨ (xop 5 (ρ 1) 4 - ρ 1 = 4 ∧ (ρ 2 / 4) % 2 = 0) := by omega
  refine ⟨fun a => cond (Nat.blt a 11) (ρ a) (([xop 5 (ρ 1) 4, ((xop 5 (ρ 1) 4 - ρ 1) / 1 + ρ 2)] : List Int).getD (a - 11) 0), fun a ha => ?_, fun f h => ?_, ?_⟩
  · show cond (Nat.blt a 11) (ρ a) _ = ρ a
    rw [show Nat.blt a 11 = true from Nat.ble_eq_true_of_le ha]; rfl
  · have h : f ∈ ([[(-1, 1), (1, 2), (1, 11), (-1, 12)], [(1, 1), (-1, 2), (-1, 11), (1, 12)], [(1, 12)], [(31, 0), (-1, 12)]] : List qF) := h
    simp only [List.mem_cons, List.not_mem_nil, or_false] at h
    rcases h with rfl | rfl | rfl | rfl
    · show 0 ≤ -1 * ρ 1 + (1 * ρ 2 + (1 * (xop 5 (ρ 1) 4) + (-1 * (((xop 5 (ρ 1) 4 - ρ 1) / 1 + ρ 2)) + 0)))
      (try rw [h0]); omega
    · show 0 ≤ 1 * ρ 1 + (-1 * ρ 2 + (-1 * (xop 5 (ρ 1) 4) + (1 * (((xop 5 (ρ 1) 4 - ρ 1) / 1 + ρ 2)) + 0)))
      (try rw [h0]); omega
    · show 0 ≤ 1 * (((xop 5 (ρ 1) 4 - ρ 1) / 1 + ρ 2)) + 0
      (try rw [h0]); omega
    · show 0 ≤ 31 * ρ 0 + (-1 * (((xop 5 (ρ 1) 4 - ρ 1) / 1 + ρ 2)) + 0)
      (try rw [h0]); omega
  · show sI (sU (sU (sU (sU (sU (sU (sU (sU (sU M 91 240 (1 * ρ 0 + 0)) 91 241 (1 * ρ 0 + 0)) 91 242 (2 * ρ 0 + 0)) 91 243 (4 * ρ 0 + 0)) 91 245 (0)) 91 246 (1 * ρ 1 + 0)) 91 244 (1 * (xop 5 (ρ 1) 4) + 0)) 91 247 (4 * ρ 0 + 0)) 4 291 (1 * (((xop 5 (ρ 1) 4 - ρ 1) / 1 + ρ 2)) + 0))
    obtain ⟨W, hW⟩ : ∃ W, W = (sU (sU (sU (sU (sU (sU (sU (sU (sU M 91 240 (1 * ρ 0 + 0)) 91 241 (1 * ρ 0 + 0)) 91 242 (2 * ρ 0 + 0)) 91 243 (4 * ρ 0 + 0)) 91 245 (0)) 91 246 (1 * ρ 1 + 0)) 91 244 (1 * (xop 5 (ρ 1) 4) + 0)) 91 247 (4 * ρ 0 + 0)) 4 291 (1 * (((xop 5 (ρ 1) 4 - ρ 1) / 1 + ρ 2)) + 0)) := ⟨_, rfl⟩
    rw [← hW]
    have base : sI0 W := by
      rw [hW]
      exact (si_u0 (si_u0 (si_u0 (si_u0 (si_u0 (si_u0 (si_u0 (si_u0 (si_u0 hI.1 (fun r hr => by cases hr)) (fun r hr => by cases hr)) (fun r hr => by cases hr)) (fun r hr => by cases hr)) (fun r hr => by cases hr)) (fun r hr => by cases hr)) (fun r hr => by cases hr)) (fun r hr => by cases hr)) (fun r hr => by cases hr))
    have k2 : XI2 W := by
      rw [hW]
      exact (xi2_u rfl (xi2_u rfl (xi2_u rfl (xi2_u rfl (xi2_u rfl (xi2_u rfl (xi2_u rfl (xi2_u rfl (xi2_u rfl hI.2.1)))))))))
    have k3 : XI3 W := by
      rw [hW]
      exact (xi3_u rfl (xi3_u rfl (xi3_u rfl (xi3_u rfl (xi3_u rfl (xi3_u rfl (xi3_u rfl (xi3_u rfl (xi3_u rfl hI.2.2.1)))))))))
    have kXA : XA W := by
      rw [hW]
      exact (uXA rfl (uXA rfl (uXA rfl (uXA rfl (uXA rfl (uXA rfl (uXA rfl (uXA rfl (uXA rfl hI.2.2.2.1)))))))))
    have k_xN1 : xN1 W := by
      rw [hW]
      exact (uxN1 rfl (uxN1 rfl (uxN1 rfl (uxN1 rfl (uxN1 rfl (uxN1 rfl (uxN1 rfl (uxN1 rfl (uxN1 rfl hI.2.2.2.2.1)))))))))
    have k_xN2 : xN2 W := by
      rw [hW]
      exact (uxN2 rfl (uxN2 rfl (uxN2 rfl (uxN2 rfl (uxN2 rfl (uxN2 rfl (uxN2 rfl (uxN2 rfl (uxN2 rfl hI.2.2.2.2.2.1)))))))))
    have k_xN3 : xN3 W := by
      rw [hW]
      exact (uxN3 rfl (uxN3 rfl (uxN3 rfl (uxN3 rfl (uxN3 rfl (uxN3 rfl (uxN3 rfl (uxN3 rfl (uxN3 rfl hI.2.2.2.2.2.2.1)))))))))
    have k_xN4 : xN4 W := by
      rw [hW]
      exact (uxN4 rfl (uxN4 rfl (uxN4 rfl (uxN4 rfl (uxN4 rfl (uxN4 rfl (uxN4 rfl (uxN4 rfl (uxN4 rfl hI.2.2.2.2.2.2.2.1)))))))))
    have k_xN5 : xN5 W := by
      rw [hW]
      exact (uxN5 rfl (uxN5 rfl (uxN5 rfl (uxN5 rfl (uxN5 rfl (uxN5 rfl (uxN5 rfl (uxN5 rfl (uxN5 rfl hI.2.2.2.2.2.2.2.2.1)))))))))
    have k_xN6 : xN6 W := by
      rw [hW]
      exact (uxN6 rfl (uxN6 rfl (uxN6 rfl (uxN6 rfl (uxN6 rfl (uxN6 rfl (uxN6 rfl (uxN6 rfl (uxN6 rfl hI.2.2.2.2.2.2.2.2.2.1)))))))))
    have k_xH1 : xH1 W := by
      rw [hW]
      exact (uxH1 rfl (uxH1 rfl (uxH1 rfl (uxH1 rfl (uxH1 rfl (uxH1 rfl (uxH1 rfl (uxH1 rfl (uxH1 rfl hI.2.2.2.2.2.2.2.2.2.2.1)))))))))
    have k_xK1 : xK1 W := by
      rw [hW]
      exact (uxK1 rfl (uxK1 rfl (uxK1 rfl (uxK1 rfl (uxK1 rfl (uxK1 rfl (uxK1 rfl (uxK1 rfl (uxK1 rfl hI.2.2.2.2.2.2.2.2.2.2.2.1)))))))))
    have k_xC1 : xC1 W := by
      rw [hW]
      exact (uxC1 rfl (uxC1 rfl (uxC1 rfl (uxC1 rfl (uxC1 rfl (uxC1 rfl (uxC1 rfl (uxC1 rfl (uxC1 rfl hI.2.2.2.2.2.2.2.2.2.2.2.2.1)))))))))
    have k_xRW : xRW W := by
      rw [hW]
      exact (uxRW rfl (uxRW rfl (uxRW rfl (uxRW rfl (uxRW rfl (uxRW rfl (uxRW rfl (uxRW rfl (uxRW rfl hI.2.2.2.2.2.2.2.2.2.2.2.2.2.1)))))))))
    have k_xWT : xWT W := by
      rw [hW]
      exact (uxWT rfl (uxWT rfl (uxWT rfl (uxWT rfl (uxWT rfl (uxWT rfl (uxWT rfl (uxWT rfl (uxWT rfl hI.2.2.2.2.2.2.2.2.2.2.2.2.2.2.1)))))))))
    have k_xCU : xCU W := by
      rw [hW]
      exact (uxCU rfl (uxCU rfl (uxCU rfl (uxCU rfl (uxCU rfl (uxCU rfl (uxCU rfl (uxCU rfl (uxCU rfl hI.2.2.2.2.2.2.2.2.2.2.2.2.2.2.2.1)))))))))
    have k_xG2 : xG2 W := by
      rw [hW]
      exact (uxG2 rfl (uxG2 rfl (uxG2 rfl (uxG2 rfl (uxG2 rfl (uxG2 rfl (uxG2 rfl (uxG2 rfl (uxG2 rfl hI.2.2.2.2.2.2.2.2.2.2.2.2.2.2.2.2.1)))))))))
    have k_xG3 : xG3 W := by
      rw [hW]
      exact (uxG3 rfl (uxG3 rfl (uxG3 rfl (uxG3 rfl (uxG3 rfl (uxG3 rfl (uxG3 rfl (uxG3 rfl (uxG3 rfl hI.2.2.2.2.2.2.2.2.2.2.2.2.2.2.2.2.2.1)))))))))
    have k_xG4 : xG4 W := by
      rw [hW]
      exact (uxG4 rfl (uxG4 rfl (uxG4 rfl (uxG4 rfl (uxG4 rfl (uxG4 rfl (uxG4 rfl (uxG4 rfl (uxG4 rfl hI.2.2.2.2.2.2.2.2.2.2.2.2.2.2.2.2.2.2.1)))))))))
    have k_xG5 : xG5 W := by
      rw [hW]
      exact (uxG5 rfl (uxG5 rfl (uxG5 rfl (uxG5 rfl (uxG5 rfl (uxG5 rfl (uxG5 rfl (uxG5 rfl (uxG5 rfl hI.2.2.2.2.2.2.2.2.2.2.2.2.2.2.2.2.2.2.2.1)))))))))
    have k_xG6 : xG6 W := by
      rw [hW]
      exact (uxG6 rfl (uxG6 rfl (uxG6 rfl (uxG6 rfl (uxG6 rfl (uxG6 rfl (uxG6 rfl (uxG6 rfl (uxG6 rfl hI.2.2.2.2.2.2.2.2.2.2.2.2.2.2.2.2.2.2.2.2.1)))))))))
    have k_xS1 : xS1 W := by
      rw [hW]
      exact (uxS1 rfl (uxS1 rfl (uxS1 rfl (uxS1 rfl (uxS1 rfl (uxS1 rfl (uxS1 rfl (uxS1 rfl (uxS1 rfl hI.2.2.2.2.2.2.2.2.2.2.2.2.2.2.2.2.2.2.2.2.2.1)))))))))
    have k_xS2 : xS2 W := by
      rw [hW]
      exact (uxS2 rfl (uxS2 rfl (uxS2 rfl (uxS2 rfl (uxS2 rfl (uxS2 rfl (uxS2 rfl (uxS2 rfl (uxS2 rfl hI.2.2.2.2.2.2.2.2.2.2.2.2.2.2.2.2.2.2.2.2.2.2.1)))))))))
    have k_xS3 : xS3 W := by
      rw [hW]
      exact (uxS3 rfl (uxS3 rfl (uxS3 rfl (uxS3 rfl (uxS3 rfl (uxS3 rfl (uxS3 rfl (uxS3 rfl (uxS3 rfl hI.2.2.2.2.2.2.2.2.2.2.2.2.2.2.2.2.2.2.2.2.2.2.2.1)))))))))
    have k_xS4 : xS4 W := by
      rw [hW]
      exact (uxS4 rfl (uxS4 rfl (uxS4 rfl (uxS4 rfl (uxS4 rfl (uxS4 rfl (uxS4 rfl (uxS4 rfl (uxS4 rfl hI.2.2.2.2.2.2.2.2.2.2.2.2.2.2.2.2.2.2.2.2.2.2.2.2.1)))))))))
    have k_xS5 : xS5 W := by
      rw [hW]
      exact (uxS5 rfl (uxS5 rfl (uxS5 rfl (uxS5 rfl (uxS5 rfl (uxS5 rfl (uxS5 rfl (uxS5 rfl (uxS5 rfl hI.2.2.2.2.2.2.2.2.2.2.2.2.2.2.2.2.2.2.2.2.2.2.2.2.2.1)))))))))
    have k_xS6 : xS6 W := by
      rw [hW]
      exact (uxS6 rfl (uxS6 rfl (uxS6 rfl (uxS6 rfl (uxS6 rfl (uxS6 rfl (uxS6 rfl (uxS6 rfl (uxS6 rfl hI.2.2.2.2.2.2.2.2.2.2.2.2.2.2.2.2.2.2.2.2.2.2.2.2.2.2.1)))))))))
    have k_xS7 : xS7 W := by
      rw [hW]
      exact (uxS7 rfl (uxS7 rfl (uxS7 rfl (uxS7 rfl (uxS7 rfl (uxS7 rfl (uxS7 rfl (uxS7 rfl (uxS7 rfl hI.2.2.2.2.2.2.2.2.2.2.2.2.2.2.2.2.2.2.2.2.2.2.2.2.2.2.2.1)))))))))
    have k_xS8 : xS8 W := by
      rw [hW]
      exact (uxS8 rfl (uxS8 rfl (uxS8 rfl (uxS8 rfl (uxS8 rfl (uxS8 rfl (uxS8 rfl (uxS8 rfl (uxS8 rfl hI.2.2.2.2.2.2.2.2.2.2.2.2.2.2.2.2.2.2.2.2.2.2.2.2.2.2.2.2.1)))))))))
    have k_xS9 : xS9 W := by
      rw [hW]
      exact (uxS9 rfl (uxS9 rfl (uxS9 rfl (uxS9 rfl (uxS9 rfl (uxS9 rfl (uxS9 rfl (uxS9 rfl (uxS9 rfl hI.2.2.2.2.2.2.2.2.2.2.2.2.2.2.2.2.2.2.2.2.2.2.2.2.2.2.2.2.2.1)))))))))
    have k_xSA : xSA W := by
      rw [hW]
      exact (uxSA rfl (uxSA rfl (uxSA rfl (uxSA rfl (uxSA rfl (uxSA rfl (uxSA rfl (uxSA rfl (uxSA rfl hI.2.2.2.2.2.2.2.2.2.2.2.2.2.2.2.2.2.2.2.2.2.2.2.2.2.2.2.2.2.2.1)))))))))
    have k_xSG : xSG W := by
      rw [hW]
      exact (uxSG rfl (uxSG rfl (uxSG rfl (uxSG rfl (uxSG rfl (uxSG rfl (uxSG rfl (uxSG rfl (uxSG rfl hI.2.2.2.2.2.2.2.2.2.2.2.2.2.2.2.2.2.2.2.2.2.2.2.2.2.2.2.2.2.2.2.1)))))))))
    have k_xSF : xSF W := by
      rw [hW]
      exact (uxSF rfl (uxSF rfl (uxSF rfl (uxSF rfl (uxSF rfl (uxSF rfl (uxSF rfl (uxSF rfl (uxSF rfl hI.2.2.2.2.2.2.2.2.2.2.2.2.2.2.2.2.2.2.2.2.2.2.2.2.2.2.2.2.2.2.2.2.1)))))))))
    have k_xSB : xSB W := by
      rw [hW]
      exact (uxSB rfl (uxSB rfl (uxSB rfl (uxSB rfl (uxSB rfl (uxSB rfl (uxSB rfl (uxSB rfl (uxSB rfl hI.2.2.2.2.2.2.2.2.2.2.2.2.2.2.2.2.2.2.2.2.2.2.2.2.2.2.2.2.2.2.2.2.2.1)))))))))
    have k_xSC : xSC W := by
      rw [hW]
      exact (uxSC rfl (uxSC rfl (uxSC rfl (uxSC rfl (uxSC rfl (uxSC rfl (uxSC rfl (uxSC rfl (uxSC rfl hI.2.2.2.2.2.2.2.2.2.2.2.2.2.2.2.2.2.2.2.2.2.2.2.2.2.2.2.2.2.2.2.2.2.2.1)))))))))
    have k_xSD : xSD W := by
      have r91_240 : W 91 240 = 1 * ρ 0 + 0 := by rw [hW, sU_ne (fun z => by omega), sU_ne (fun z => by omega), sU_ne (fun z => by omega), sU_ne (fun z => by omega), sU_ne (fun z => by omega), sU_ne (fun z => by omega), sU_ne (fun z => by omega), sU_ne (fun z => by omega), sU_at]
      have r91_241 : W 91 241 = 1 * ρ 0 + 0 := by rw [hW, sU_ne (fun z => by omega), sU_ne (fun z => by omega), sU_ne (fun z => by omega), sU_ne (fun z => by omega), sU_ne (fun z => by omega), sU_ne (fun z => by omega), sU_ne (fun z => by omega), sU_at]
      have r91_242 : W 91 242 = 2 * ρ 0 + 0 := by rw [hW, sU_ne (fun z => by omega), sU_ne (fun z => by omega), sU_ne (fun z => by omega), sU_ne (fun z => by omega), sU_ne (fun z => by omega), sU_ne (fun z => by omega), sU_at]
      have r91_243 : W 91 243 = 4 * ρ 0 + 0 := by rw [hW, sU_ne (fun z => by omega), sU_ne (fun z => by omega), sU_ne (fun z => by omega), sU_ne (fun z => by omega), sU_ne (fun z => by omega), sU_at]
      have r91_244 : W 91 244 = 1 * (xop 5 (ρ 1) 4) + 0 := by rw [hW, sU_ne (fun z => by omega), sU_ne (fun z => by omega), sU_at]
      have r91_245 : W 91 245 = 0 := by rw [hW, sU_ne (fun z => by omega), sU_ne (fun z => by omega), sU_ne (fun z => by omega), sU_ne (fun z => by omega), sU_at]
      have r91_246 : W 91 246 = 1 * ρ 1 + 0 := by rw [hW, sU_ne (fun z => by omega), sU_ne (fun z => by omega), sU_ne (fun z => by omega), sU_at]
      have r91_247 : W 91 247 = 4 * ρ 0 + 0 := by rw [hW, sU_ne (fun z => by omega), sU_at]
      intro h
      rw [r91_241, r91_242, r91_243, r91_244, r91_245, r91_246, r91_247, h0]
      refine ⟨by decide, ?_, by decide⟩
      rw [show ((4 : Int) * 1 + 0) = 4 from rfl, show (1 * ρ 1 + 0 : Int) = ρ 1 by omega]
      omega
    have k_xSE : xSE W := by
      have r : W 91 249 = 0 := by
        have e := m0
        rw [hW, sU_ne (fun z => by omega), sU_ne (fun z => by omega), sU_ne (fun z => by omega), sU_ne (fun z => by omega), sU_ne (fun z => by omega), sU_ne (fun z => by omega), sU_ne (fun z => by omega), sU_ne (fun z => by omega), sU_ne (fun z => by omega)]
        omega
      intro h
      rw [r] at h
      omega
    have k_xSW : xSW W := by
      rw [hW]
      exact (uxSW rfl (uxSW rfl (uxSW rfl (uxSW rfl (uxSW rfl (uxSW rfl (uxSW rfl (uxSW rfl (uxSW rfl hI.2.2.2.2.2.2.2.2.2.2.2.2.2.2.2.2.2.2.2.2.2.2.2.2.2.2.2.2.2.2.2.2.2.2.2.2.2.1)))))))))
    have k_xST : xST W := by
      rw [hW]
      exact (uxST rfl (uxST rfl (uxST rfl (uxST rfl (uxST rfl (uxST rfl (uxST rfl (uxST rfl (uxST rfl hI.2.2.2.2.2.2.2.2.2.2.2.2.2.2.2.2.2.2.2.2.2.2.2.2.2.2.2.2.2.2.2.2.2.2.2.2.2.2.1)))))))))
    have k_xSP : xSP W := by
      rw [hW]
      exact (uxSP rfl (uxSP rfl (uxSP rfl (uxSP rfl (uxSP rfl (uxSP rfl (uxSP rfl (uxSP rfl (uxSP rfl hI.2.2.2.2.2.2.2.2.2.2.2.2.2.2.2.2.2.2.2.2.2.2.2.2.2.2.2.2.2.2.2.2.2.2.2.2.2.2.2.1)))))))))
    have k_xSL : xSL W := by
      rw [hW]
      exact (uxSL rfl (uxSL rfl (uxSL rfl (uxSL rfl (uxSL rfl (uxSL rfl (uxSL rfl (uxSL rfl (uxSL rfl hI.2.2.2.2.2.2.2.2.2.2.2.2.2.2.2.2.2.2.2.2.2.2.2.2.2.2.2.2.2.2.2.2.2.2.2.2.2.2.2.2.1)))))))))
    have k_xSM : xSM W := by
      rw [hW]
      exact (uxSM rfl (uxSM rfl (uxSM rfl (uxSM rfl (uxSM rfl (uxSM rfl (uxSM rfl (uxSM rfl (uxSM rfl hI.2.2.2.2.2.2.2.2.2.2.2.2.2.2.2.2.2.2.2.2.2.2.2.2.2.2.2.2.2.2.2.2.2.2.2.2.2.2.2.2.2.1)))))))))
    have k_xSI : xSI W := by
      rw [hW]
      exact (uxSI rfl (uxSI rfl (uxSI rfl (uxSI rfl (uxSI rfl (uxSI rfl (uxSI rfl (uxSI rfl (uxSI rfl hI.2.2.2.2.2.2.2.2.2.2.2.2.2.2.2.2.2.2.2.2.2.2.2.2.2.2.2.2.2.2.2.2.2.2.2.2.2.2.2.2.2.2)))))))))
    have k_XC : XC W := ⟨k_xS1, k_xS2, k_xS3, k_xS4, k_xS5, k_xS6, k_xS7, k_xS8, k_xS9, k_xSA, k_xSG, k_xSF, k_xSB, k_xSC, k_xSD, k_xSE, k_xSW, k_xST, k_xSP, k_xSL, k_xSM, k_xSI⟩
    have kXB : XB W := ⟨k_xN1, k_xN2, k_xN3, k_xN4, k_xN5, k_xN6, k_xH1, k_xK1, k_xC1, k_xRW, k_xWT, k_xCU, k_xG2, k_xG3, k_xG4, k_xG5, k_xG6, k_XC⟩
    exact ⟨base, k2, k3, kXA, kXB⟩
-- ro3
def xr_549 : qRu := (11, [[(1, 1), (-1, 2), (-32, 3), (-64, 4), (-128, 5), (-256, 6), (-512, 7), (-1024, 8), (-65536, 9), (-131072, 10)], [(-1, 1), (1, 2), (32, 3), (64, 4), (128, 5), (256, 6), (512, 7), (1024, 8), (65536, 9), (131072, 10)], [(1, 2)], [(31, 0), (-1, 2)], [(1, 8)], [(63, 0), (-1, 8)], [(1, 3)], [(1, 0), (-1, 3)], [(1, 4)], [(1, 0), (-1, 4)], [(1, 5)], [(1, 0), (-1, 5)], [(1, 6)], [(1, 0), (-1, 6)], [(1, 7)], [(1, 0), (-1, 7)], [(1, 9)], [(1, 0), (-1, 9)], [(1, 10)], [(1, 0), (-1, 10)]], [(91, 249, [])], [], [(91, 240, [(1, 0)]), (91, 241, [(1, 0)]), (91, 242, [(3, 0)]), (91, 243, [(8, 0)]), (91, 245, []), (91, 246, [(1, 1)]), (91, 244, [(1, 11)]), (91, 247, [(8, 0)]), (4, 291, [(1, 12)])], [[(-1, 1), (1, 2), (1, 11), (-1, 12)], [(1, 1), (-1, 2), (-1, 11), (1, 12)], [(1, 12)], [(31, 0), (-1, 12)]])
theorem xo_549 : qRok xr_549 := by
  intro ρ M h0 hf hm hI
  have f0 := hf [(1, 1), (-1, 2), (-32, 3), (-64, 4), (-128, 5), (-256, 6), (-512, 7), (-1024, 8), (-65536, 9), (-131072, 10)] (by decide)
  have f1 := hf [(-1, 1), (1, 2), (32, 3), (64, 4), (128, 5), (256, 6), (512, 7), (1024, 8), (65536, 9), (131072, 10)] (by decide)
  have f2 := hf [(1, 2)] (by decide)
  have f3 := hf [(31, 0), (-1, 2)] (by decide)
  have f4 := hf [(1, 8)] (by decide)
  have f5 := hf [(63, 0), (-1, 8)] (by decide)
  have f6 := hf [(1, 3)] (by decide)
  have f7 := hf [(1, 0), (-1, 3)] (by decide)
  have f8 := hf [(1, 4)] (by decide)
  have f9 := hf [(1, 0), (-1, 4)] (by decide)
  have f10 := hf [(1, 5)] (by decide)
  have f11 := hf [(1, 0), (-1, 5)] (by decide)
  have f12 := hf [(1, 6)] (by decide)
  have f13 := hf [(1, 0), (-1, 6)] (by decide)
  have f14 := hf [(1, 7)] (by decide)
  have f15 := hf [(1, 0), (-1, 7)] (by decide)
  have f16 := hf [(1, 9)] (by decide)
  have f17 := hf [(1, 0), (-1, 9)] (by decide)
  have f18 := hf [(1, 10)] (by decide)
  have f19 := hf [(1, 0), (-1, 10)] (by decide)
  simp only [qD, h0] at f0 f1 f2 f3 f4 f5 f6 f7 f8 f9 f10 f11 f12 f13 f14 f15 f16 f17 f18 f19
  have m0 : M 91 249 = 0 := hm (91, 249, []) (by decide)
  have qxSD := hI.2.2.2.2.2.2.2.2.2.2.2.2.2.2.2.2.2.2.2.2.2.2.2.2.2.2.2.2.2.2.2.2.2.2.2.1
  have xb := xbo3 (t := ρ 1) (by omega) (by omega)

  have xc : xop 5 (ρ 1) 8 - ρ 1 = 0 ∨ (xop 5 (ρ 1) 8 - ρ 1 = 8 ∧ (ρ 2 / 8) % 2 = 0) := by omega
  refine ⟨fun a => cond (Nat.blt a 11) (ρ a) (([xop 5 (ρ 1) 8, ((xop 5 (ρ 1) 8 - ρ 1) / 1 + ρ 2)] : List Int).getD (a - 11) 0), fun a ha => ?_, fun f h => ?_, ?_⟩
  · show cond (Nat.blt a 11) (ρ a) _ = ρ a
    rw [show Nat.blt a 11 = true from Nat.ble_eq_true_of_le ha]; rfl
  · have h : f ∈ ([[(-1, 1), (1, 2), (1, 11), (-1, 12)], [(1, 1), (-1, 2), (-1, 11), (1, 12)], [(1, 12)], [(31, 0), (-1, 12)]] : List qF) := h
    simp only [List.mem_cons, List.not_mem_nil, or_false] at h
    rcases h with rfl | rfl | rfl | rfl
    · show 0 ≤ -1 * ρ 1 + (1 * ρ 2 + (1 * (xop 5 (ρ 1) 8) + (-1 * (((xop 5 (ρ 1) 8 - ρ 1) / 1 + ρ 2)) + 0)))
      (try rw [h0]); omega
    · show 0 ≤ 1 * ρ 1 + (-1 * ρ 2 + (-1 * (xop 5 (ρ 1) 8) + (1 * (((xop 5 (ρ 1) 8 - ρ 1) / 1 + ρ 2)) + 0)))
      (try rw [h0]); omega
    · show 0 ≤ 1 * (((xop 5 (ρ 1) 8 - ρ 1) / 1 + ρ 2)) + 0
      (try rw [h0]); omega
    · show 0 ≤ 31 * ρ 0 + (-1 * (((xop 5 (ρ 1) 8 - ρ 1) / 1 + ρ 2)) + 0)
      (try rw [h0]); omega
  · show sI (sU (sU (sU (sU (sU (sU (sU (sU (sU M 91 240 (1 * ρ 0 + 0)) 91 241 (1 * ρ 0 + 0)) 91 242 (3 * ρ 0 + 0)) 91 243 (8 * ρ 0 + 0)) 91 245 (0)) 91 246 (1 * ρ 1 + 0)) 91 244 (1 * (xop 5 (ρ 1) 8) + 0)) 91 247 (8 * ρ 0 + 0)) 4 291 (1 * (((xop 5 (ρ 1) 8 - ρ 1) / 1 + ρ 2)) + 0))
    obtain ⟨W, hW⟩ : ∃ W, W = (sU (sU (sU (sU (sU (sU (sU (sU (sU M 91 240 (1 * ρ 0 + 0)) 91 241 (1 * ρ 0 + 0)) 91 242 (3 * ρ 0 + 0)) 91 243 (8 * ρ 0 + 0)) 91 245 (0)) 91 246 (1 * ρ 1 + 0)) 91 244 (1 * (xop 5 (ρ 1) 8) + 0)) 91 247 (8 * ρ 0 + 0)) 4 291 (1 * (((xop 5 (ρ 1) 8 - ρ 1) / 1 + ρ 2)) + 0)) := ⟨_, rfl⟩
    rw [← hW]
    have base : sI0 W := by
      rw [hW]
      exact (si_u0 (si_u0 (si_u0 (si_u0 (si_u0 (si_u0 (si_u0 (si_u0 (si_u0 hI.1 (fun r hr => by cases hr)) (fun r hr => by cases hr)) (fun r hr => by cases hr)) (fun r hr => by cases hr)) (fun r hr => by cases hr)) (fun r hr => by cases hr)) (fun r hr => by cases hr)) (fun r hr => by cases hr)) (fun r hr => by cases hr))
    have k2 : XI2 W := by
      rw [hW]
      exact (xi2_u rfl (xi2_u rfl (xi2_u rfl (xi2_u rfl (xi2_u rfl (xi2_u rfl (xi2_u rfl (xi2_u rfl (xi2_u rfl hI.2.1)))))))))
    have k3 : XI3 W := by
      rw [hW]
      exact (xi3_u rfl (xi3_u rfl (xi3_u rfl (xi3_u rfl (xi3_u rfl (xi3_u rfl (xi3_u rfl (xi3_u rfl (xi3_u rfl hI.2.2.1)))))))))
    have kXA : XA W := by
      rw [hW]
      exact (uXA rfl (uXA rfl (uXA rfl (uXA rfl (uXA rfl (uXA rfl (uXA rfl (uXA rfl (uXA rfl hI.2.2.2.1)))))))))
    have k_xN1 : xN1 W := by
      rw [hW]
      exact (uxN1 rfl (uxN1 rfl (uxN1 rfl (uxN1 rfl (uxN1 rfl (uxN1 rfl (uxN1 rfl (uxN1 rfl (uxN1 rfl hI.2.2.2.2.1)))))))))
    have k_xN2 : xN2 W := by
      rw [hW]
      exact (uxN2 rfl (uxN2 rfl (uxN2 rfl (uxN2 rfl (uxN2 rfl (uxN2 rfl (uxN2 rfl (uxN2 rfl (uxN2 rfl hI.2.2.2.2.2.1)))))))))
    have k_xN3 : xN3 W := by
      rw [hW]
      exact (uxN3 rfl (uxN3 rfl (uxN3 rfl (uxN3 rfl (uxN3 rfl (uxN3 rfl (uxN3 rfl (uxN3 rfl (uxN3 rfl hI.2.2.2.2.2.2.1)))))))))
    have k_xN4 : xN4 W := by
      rw [hW]
      exact (uxN4 rfl (uxN4 rfl (uxN4 rfl (uxN4 rfl (uxN4 rfl (uxN4 rfl (uxN4 rfl (uxN4 rfl (uxN4 rfl hI.2.2.2.2.2.2.2.1)))))))))
    have k_xN5 : xN5 W := by
      rw [hW]
      exact (uxN5 rfl (uxN5 rfl (uxN5 rfl (uxN5 rfl (uxN5 rfl (uxN5 rfl (uxN5 rfl (uxN5 rfl (uxN5 rfl hI.2.2.2.2.2.2.2.2.1)))))))))
    have k_xN6 : xN6 W := by
      rw [hW]
      exact (uxN6 rfl (uxN6 rfl (uxN6 rfl (uxN6 rfl (uxN6 rfl (uxN6 rfl (uxN6 rfl (uxN6 rfl (uxN6 rfl hI.2.2.2.2.2.2.2.2.2.1)))))))))
    have k_xH1 : xH1 W := by
      rw [hW]
      exact (uxH1 rfl (uxH1 rfl (uxH1 rfl (uxH1 rfl (uxH1 rfl (uxH1 rfl (uxH1 rfl (uxH1 rfl (uxH1 rfl hI.2.2.2.2.2.2.2.2.2.2.1)))))))))
    have k_xK1 : xK1 W := by
      rw [hW]
      exact (uxK1 rfl (uxK1 rfl (uxK1 rfl (uxK1 rfl (uxK1 rfl (uxK1 rfl (uxK1 rfl (uxK1 rfl (uxK1 rfl hI.2.2.2.2.2.2.2.2.2.2.2.1)))))))))
    have k_xC1 : xC1 W := by
      rw [hW]
      exact (uxC1 rfl (uxC1 rfl (uxC1 rfl (uxC1 rfl (uxC1 rfl (uxC1 rfl (uxC1 rfl (uxC1 rfl (uxC1 rfl hI.2.2.2.2.2.2.2.2.2.2.2.2.1)))))))))
    have k_xRW : xRW W := by
      rw [hW]
      exact (uxRW rfl (uxRW rfl (uxRW rfl (uxRW rfl (uxRW rfl (uxRW rfl (uxRW rfl (uxRW rfl (uxRW rfl hI.2.2.2.2.2.2.2.2.2.2.2.2.2.1)))))))))
    have k_xWT : xWT W := by
      rw [hW]
      exact (uxWT rfl (uxWT rfl (uxWT rfl (uxWT rfl (uxWT rfl (uxWT rfl (uxWT rfl (uxWT rfl (uxWT rfl hI.2.2.2.2.2.2.2.2.2.2.2.2.2.2.1)))))))))
    have k_xCU : xCU W := by
      rw [hW]
      exact (uxCU rfl (uxCU rfl (uxCU rfl (uxCU rfl (uxCU rfl (uxCU rfl (uxCU rfl (uxCU rfl (uxCU rfl hI.2.2.2.2.2.2.2.2.2.2.2.2.2.2.2.1)))))))))
    have k_xG2 : xG2 W := by
      rw [hW]
      exact (uxG2 rfl (uxG2 rfl (uxG2 rfl (uxG2 rfl (uxG2 rfl (uxG2 rfl (uxG2 rfl (uxG2 rfl (uxG2 rfl hI.2.2.2.2.2.2.2.2.2.2.2.2.2.2.2.2.1)))))))))
    have k_xG3 : xG3 W := by
      rw [hW]
      exact (uxG3 rfl (uxG3 rfl (uxG3 rfl (uxG3 rfl (uxG3 rfl (uxG3 rfl (uxG3 rfl (uxG3 rfl (uxG3 rfl hI.2.2.2.2.2.2.2.2.2.2.2.2.2.2.2.2.2.1)))))))))
    have k_xG4 : xG4 W := by
      rw [hW]
      exact (uxG4 rfl (uxG4 rfl (uxG4 rfl (uxG4 rfl (uxG4 rfl (uxG4 rfl (uxG4 rfl (uxG4 rfl (uxG4 rfl hI.2.2.2.2.2.2.2.2.2.2.2.2.2.2.2.2.2.2.1)))))))))
    have k_xG5 : xG5 W := by
      rw [hW]
      exact (uxG5 rfl (uxG5 rfl (uxG5 rfl (uxG5 rfl (uxG5 rfl (uxG5 rfl (uxG5 rfl (uxG5 rfl (uxG5 rfl hI.2.2.2.2.2.2.2.2.2.2.2.2.2.2.2.2.2.2.2.1)))))))))
    have k_xG6 : xG6 W := by
      rw [hW]
      exact (uxG6 rfl (uxG6 rfl (uxG6 rfl (uxG6 rfl (uxG6 rfl (uxG6 rfl (uxG6 rfl (uxG6 rfl (uxG6 rfl hI.2.2.2.2.2.2.2.2.2.2.2.2.2.2.2.2.2.2.2.2.1)))))))))
    have k_xS1 : xS1 W := by
      rw [hW]
      exact (uxS1 rfl (uxS1 rfl (uxS1 rfl (uxS1 rfl (uxS1 rfl (uxS1 rfl (uxS1 rfl (uxS1 rfl (uxS1 rfl hI.2.2.2.2.2.2.2.2.2.2.2.2.2.2.2.2.2.2.2.2.2.1)))))))))
    have k_xS2 : xS2 W := by
      rw [hW]
      exact (uxS2 rfl (uxS2 rfl (uxS2 rfl (uxS2 rfl (uxS2 rfl (uxS2 rfl (uxS2 rfl (uxS2 rfl (uxS2 rfl hI.2.2.2.2.2.2.2.2.2.2.2.2.2.2.2.2.2.2.2.2.2.2.1)))))))))
    have k_xS3 : xS3 W := by
      rw [hW]
      exact (uxS3 rfl (uxS3 rfl (uxS3 rfl (uxS3 rfl (uxS3 rfl (uxS3 rfl (uxS3 rfl (uxS3 rfl (uxS3 rfl hI.2.2.2.2.2.2.2.2.2.2.2.2.2.2.2.2.2.2.2.2.2.2.2.1)))))))))
    have k_xS4 : xS4 W := by
      rw [hW]
      exact (uxS4 rfl (uxS4 rfl (uxS4 rfl (uxS4 rfl (uxS4 rfl (uxS4 rfl (uxS4 rfl (uxS4 rfl (uxS4 rfl hI.2.2.2.2.2.2.2.2.2.2.2.2.2.2.2.2.2.2.2.2.2.2.2.2.1)))))))))
    have k_xS5 : xS5 W := by
      rw [hW]
      exact (uxS5 rfl (uxS5 rfl (uxS5 rfl (uxS5 rfl (uxS5 rfl (uxS5 rfl (uxS5 rfl (uxS5 rfl (uxS5 rfl hI.2.2.2.2.2.2.2.2.2.2.2.2.2.2.2.2.2.2.2.2.2.2.2.2.2.1)))))))))
    have k_xS6 : xS6 W := by
      rw [hW]
      exact (uxS6 rfl (uxS6 rfl (uxS6 rfl (uxS6 rfl (uxS6 rfl (uxS6 rfl (uxS6 rfl (uxS6 rfl (uxS6 rfl hI.2.2.2.2.2.2.2.2.2.2.2.2.2.2.2.2.2.2.2.2.2.2.2.2.2.2.1)))))))))
    have k_xS7 : xS7 W := by
      rw [hW]
      exact (uxS7 rfl (uxS7 rfl (uxS7 rfl (uxS7 rfl (uxS7 rfl (uxS7 rfl (uxS7 rfl (uxS7 rfl (uxS7 rfl hI.2.2.2.2.2.2.2.2.2.2.2.2.2.2.2.2.2.2.2.2.2.2.2.2.2.2.2.1)))))))))
    have k_xS8 : xS8 W := by
      rw [hW]
      exact (uxS8 rfl (uxS8 rfl (uxS8 rfl (uxS8 rfl (uxS8 rfl (uxS8 rfl (uxS8 rfl (uxS8 rfl (uxS8 rfl hI.2.2.2.2.2.2.2.2.2.2.2.2.2.2.2.2.2.2.2.2.2.2.2.2.2.2.2.2.1)))))))))
    have k_xS9 : xS9 W := by
      rw [hW]
      exact (uxS9 rfl (uxS9 rfl (uxS9 rfl (uxS9 rfl (uxS9 rfl (uxS9 rfl (uxS9 rfl (uxS9 rfl (uxS9 rfl hI.2.2.2.2.2.2.2.2.2.2.2.2.2.2.2.2.2.2.2.2.2.2.2.2.2.2.2.2.2.1)))))))))
    have k_xSA : xSA W := by
      rw [hW]
      exact (uxSA rfl (uxSA rfl (uxSA rfl (uxSA rfl (uxSA rfl (uxSA rfl (uxSA rfl (uxSA rfl (uxSA rfl hI.2.2.2.2.2.2.2.2.2.2.2.2.2.2.2.2.2.2.2.2.2.2.2.2.2.2.2.2.2.2.1)))))))))
    have k_xSG : xSG W := by
      rw [hW]
      exact (uxSG rfl (uxSG rfl (uxSG rfl (uxSG rfl (uxSG rfl (uxSG rfl (uxSG rfl (uxSG rfl (uxSG rfl hI.2.2.2.2.2.2.2.2.2.2.2.2.2.2.2.2.2.2.2.2.2.2.2.2.2.2.2.2.2.2.2.1)))))))))
    have k_xSF : xSF W := by
      rw [hW]
      exact (uxSF rfl (uxSF rfl (uxSF rfl (uxSF rfl (uxSF rfl (uxSF rfl (uxSF rfl (uxSF rfl (uxSF rfl hI.2.2.2.2.2.2.2.2.2.2.2.2.2.2.2.2.2.2.2.2.2.2.2.2.2.2.2.2.2.2.2.2.1)))))))))
    have k_xSB : xSB W := by
      rw [hW]
      exact (uxSB rfl (uxSB rfl (uxSB rfl (uxSB rfl (uxSB rfl (uxSB rfl (uxSB rfl (uxSB rfl (uxSB rfl hI.2.2.2.2.2.2.2.2.2.2.2.2.2.2.2.2.2.2.2.2.2.2.2.2.2.2.2.2.2.2.2.2.2.1)))))))))
    have k_xSC : xSC W := by
      rw [hW]
      exact (uxSC rfl (uxSC rfl (uxSC rfl (uxSC rfl (uxSC rfl (uxSC rfl (uxSC rfl (uxSC rfl (uxSC rfl hI.2.2.2.2.2.2.2.2.2.2.2.2.2.2.2.2.2.2.2.2.2.2.2.2.2.2.2.2.2.2.2.2.2.2.1)))))))))
    have k_xSD : xSD W := by
      have r91_240 : W 91 240 = 1 * ρ 0 + 0 := by rw [hW, sU_ne (fun z => by omega), sU_ne (fun z => by omega), sU_ne (fun z => by omega), sU_ne (fun z => by omega), sU_ne (fun z => by omega), sU_ne (fun z => by omega), sU_ne (fun z => by omega), sU_ne (fun z => by omega), sU_at]
      have r91_241 : W 91 241 = 1 * ρ 0 + 0 := by rw [hW, sU_ne (fun z => by omega), sU_ne (fun z => by omega), sU_ne (fun z => by omega), sU_ne (fun z => by omega), sU_ne (fun z => by omega), sU_ne (fun z => by omega), sU_ne (fun z => by omega), sU_at]
      have r91_242 : W 91 242 = 3 * ρ 0 + 0 := by rw [hW, sU_ne (fun z => by omega), sU_ne (fun z => by omega), sU_ne (fun z => by omega), sU_ne (fun z => by omega), sU_ne (fun z => by omega), sU_ne (fun z => by omega), sU_at]
      have r91_243 : W 91 243 = 8 * ρ 0 + 0 := by rw [hW, sU_ne (fun z => by omega), sU_ne (fun z => by omega), sU_ne (fun z => by omega), sU_ne (fun z => by omega), sU_ne (fun z => by omega), sU_at]
      have r91_244 : W 91 244 = 1 * (xop 5 (ρ 1) 8) + 0 := by rw [hW, sU_ne (fun z => by omega), sU_ne (fun z => by omega), sU_at]
      have r91_245 : W 91 245 = 0 := by rw [hW, sU_ne (fun z => by omega), sU_ne (fun z => by omega), sU_ne (fun z => by omega), sU_ne (fun z => by omega), sU_at]
      have r91_246 : W 91 246 = 1 * ρ 1 + 0 := by rw [hW, sU_ne (fun z => by omega), sU_ne (fun z => by omega), sU_ne (fun z => by omega), sU_at]
      have r91_247 : W 91 247 = 8 * ρ 0 + 0 := by rw [hW, sU_ne (fun z => by omega), sU_at]
      intro h
      rw [r91_241, r91_242, r91_243, r91_244, r91_245, r91_246, r91_247, h0]
      refine ⟨by decide, ?_, by decide⟩
      rw [show ((8 : Int) * 1 + 0) = 8 from rfl, show (1 * ρ 1 + 0 : Int) = ρ 1 by omega]
      omega
    have k_xSE : xSE W := by
      have r : W 91 249 = 0 := by
        have e := m0
        rw [hW, sU_ne (fun z => by omega), sU_ne (fun z => by omega), sU_ne (fun z => by omega), sU_ne (fun z => by omega), sU_ne (fun z => by omega), sU_ne (fun z => by omega), sU_ne (fun z => by omega), sU_ne (fun z => by omega), sU_ne (fun z => by omega)]
        omega
      intro h
      rw [r] at h
      omega
    have k_xSW : xSW W := by
      rw [hW]
      exact (uxSW rfl (uxSW rfl (uxSW rfl (uxSW rfl (uxSW rfl (uxSW rfl (uxSW rfl (uxSW rfl (uxSW rfl hI.2.2.2.2.2.2.2.2.2.2.2.2.2.2.2.2.2.2.2.2.2.2.2.2.2.2.2.2.2.2.2.2.2.2.2.2.2.1)))))))))
    have k_xST : xST W := by
      rw [hW]
      exact (uxST rfl (uxST rfl (uxST rfl (uxST rfl (uxST rfl (uxST rfl (uxST rfl (uxST rfl (uxST rfl hI.2.2.2.2.2.2.2.2.2.2.2.2.2.2.2.2.2.2.2.2.2.2.2.2.2.2.2.2.2.2.2.2.2.2.2.2.2.2.1)))))))))
    have k_xSP : xSP W := by
      rw [hW]
      exact (uxSP rfl (uxSP rfl (uxSP rfl (uxSP rfl (uxSP rfl (uxSP rfl (uxSP rfl (uxSP rfl (uxSP rfl hI.2.2.2.2.2.2.2.2.2.2.2.2.2.2.2.2.2.2.2.2.2.2.2.2.2.2.2.2.2.2.2.2.2.2.2.2.2.2.2.1)))))))))
    have k_xSL : xSL W := by
      rw [hW]
      exact (uxSL rfl (uxSL rfl (uxSL rfl (uxSL rfl (uxSL rfl (uxSL rfl (uxSL rfl (uxSL rfl (uxSL rfl hI.2.2.2.2.2.2.2.2.2.2.2.2.2.2.2.2.2.2.2.2.2.2.2.2.2.2.2.2.2.2.2.2.2.2.2.2.2.2.2.2.1)))))))))
    have k_xSM : xSM W := by
      rw [hW]
      exact (uxSM rfl (uxSM rfl (uxSM rfl (uxSM rfl (uxSM rfl (uxSM rfl (uxSM rfl (uxSM rfl (uxSM rfl hI.2.2.2.2.2.2.2.2.2.2.2.2.2.2.2.2.2.2.2.2.2.2.2.2.2.2.2.2.2.2.2.2.2.2.2.2.2.2.2.2.2.1)))))))))
    have k_xSI : xSI W := by
      rw [hW]
      exact (uxSI rfl (uxSI rfl (uxSI rfl (uxSI rfl (uxSI rfl (uxSI rfl (uxSI rfl (uxSI rfl (uxSI rfl hI.2.2.2.2.2.2.2.2.2.2.2.2.2.2.2.2.2.2.2.2.2.2.2.2.2.2.2.2.2.2.2.2.2.2.2.2.2.2.2.2.2.2)))))))))
    have k_XC : XC W := ⟨k_xS1, k_xS2, k_xS3, k_xS4, k_xS5, k_xS6, k_xS7, k_xS8, k_xS9, k_xSA, k_xSG, k_xSF, k_xSB, k_xSC, k_xSD, k_xSE, k_xSW, k_xST, k_xSP, k_xSL, k_xSM, k_xSI⟩
    have kXB : XB W := ⟨k_xN1, k_xN2, k_xN3, k_xN4, k_xN5, k_xN6, k_xH1, k_xK1, k_xC1, k_xRW, k_xWT, k_xCU, k_xG2, k_xG3, k_xG4, k_xG5, k_xG6, k_XC⟩
    exact ⟨base, k2, k3, kXA, kXB⟩
-- ro4
def xr_550 : qRu := (11, [[(1, 1), (-1, 2), (-32, 3), (-64, 4), (-128, 5), (-256, 6), (-512, 7), (-1024, 8), (-65536, 9), (-131072, 10)], [(-1, 1), (1, 2), (32, 3), (64, 4), (128, 5), (256, 6), (512, 7), (1024, 8), (65536, 9), (131072, 10)], [(1, 2)], [(31, 0), (-1, 2)], [(1, 8)], [(63, 0), (-1, 8)], [(1, 3)], [(1, 0), (-1, 3)], [(1, 4)], [(1, 0), (-1, 4)], [(1, 5)], [(1, 0), (-1, 5)], [(1, 6)], [(1, 0), (-1, 6)], [(1, 7)], [(1, 0), (-1, 7)], [(1, 9)], [(1, 0), (-1, 9)], [(1, 10)], [(1, 0), (-1, 10)]], [(91, 249, [])], [], [(91, 240, [(1, 0)]), (91, 241, [(1, 0)]), (91, 242, [(4, 0)]), (91, 243, [(16, 0)]), (91, 245, []), (91, 246, [(1, 1)]), (91, 244, [(1, 11)]), (91, 247, [(16, 0)]), (4, 291, [(1, 12)])], [[(-1, 1), (1, 2), (1, 11), (-1, 12)], [(1, 1), (-1, 2), (-1, 11), (1, 12)], [(1, 12)], [(31, 0), (-1, 12)]])
theorem xo_550 : qRok xr_550 := by
  intro ρ M h0 hf hm hI
  have f0 := hf [(1, 1), (-1, 2), (-32, 3), (-64, 4), (-128, 5), (-256, 6), (-512, 7), (-1024, 8), (-65536, 9), (-131072, 10)] (by decide)
  have f1 := hf [(-1, 1), (1, 2), (32, 3), (64, 4), (128, 5), (256, 6), (512, 7), (1024, 8), (65536, 9), (131072, 10)] (by decide)
  have f2 := hf [(1, 2)] (by decide)
  have f3 := hf [(31, 0), (-1, 2)] (by decide)
  have f4 := hf [(1, 8)] (by decide)
  have f5 := hf [(63, 0), (-1, 8)] (by decide)
  have f6 := hf [(1, 3)] (by decide)
  have f7 := hf [(1, 0), (-1, 3)] (by decide)
  have f8 := hf [(1, 4)] (by decide)
  have f9 := hf [(1, 0), (-1, 4)] (by decide)
  have f10 := hf [(1, 5)] (by decide)
  have f11 := hf [(1, 0), (-1, 5)] (by decide)
  have f12 := hf [(1, 6)] (by decide)
  have f13 := hf [(1, 0), (-1, 6)] (by decide)
  have f14 := hf [(1, 7)] (by decide)
  have f15 := hf [(1, 0), (-1, 7)] (by decide)
  have f16 := hf [(1, 9)] (by decide)
  have f17 := hf [(1, 0), (-1, 9)] (by decide)
  have f18 := hf [(1, 10)] (by decide)
  have f19 := hf [(1, 0), (-1, 10)] (by decide)
  simp only [qD, h0] at f0 f1 f2 f3 f4 f5 f6 f7 f8 f9 f10 f11 f12 f13 f14 f15 f16 f17 f18 f19
  have m0 : M 91 249 = 0 := hm (91, 249, []) (by decide)
  have qxSD := hI.2.2.2.2.2.2.2.2.2.2.2.2.2.2.2.2.2.2.2.2.2.2.2.2.2.2.2.2.2.2.2.2.2.2.2.1
  have xb := xbo4 (t := ρ 1) (by omega) (by omega)

  have xc : xop 5 (ρ 1) 16 - ρ 1 = 0 ∨ (xop 5 (ρ 1) 16 - ρ 1 = 16 ∧ (ρ 2 / 16) % 2 = 0) := by omega
  refine ⟨fun a => cond (Nat.blt a 11) (ρ a) (([xop 5 (ρ 1) 16, ((xop 5 (ρ 1) 16 - ρ 1) / 1 + ρ 2)] : List Int).getD (a - 11) 0), fun a ha => ?_, fun f h => ?_, ?_⟩
  · show cond (Nat.blt a 11) (ρ a) _ = ρ a
    rw [show Nat.blt a 11 = true from Nat.ble_eq_true_of_le ha]; rfl
  · have h : f ∈ ([[(-1, 1), (1, 2), (1, 11), (-1, 12)], [(1, 1), (-1, 2), (-1, 11), (1, 12)], [(1, 12)], [(31, 0), (-1, 12)]] : List qF) := h
    simp only [List.mem_cons, List.not_mem_nil, or_false] at h
    rcases h with rfl | rfl | rfl | rfl
    · show 0 ≤ -1 * ρ 1 + (1 * ρ 2 + (1 * (xop 5 (ρ 1) 16) + (-1 * (((xop 5 (ρ 1) 16 - ρ 1) / 1 + ρ 2)) + 0)))
      (try rw [h0]); omega
    · show 0 ≤ 1 * ρ 1 + (-1 * ρ 2 + (-1 * (xop 5 (ρ 1) 16) + (1 * (((xop 5 (ρ 1) 16 - ρ 1) / 1 + ρ 2)) + 0)))
      (try rw [h0]); omega
    · show 0 ≤ 1 * (((xop 5 (ρ 1) 16 - ρ 1) / 1 + ρ 2)) + 0
      (try rw [h0]); omega
    · show 0 ≤ 31 * ρ 0 + (-1 * (((xop 5 (ρ 1) 16 - ρ 1) / 1 + ρ 2)) + 0)
      (try rw [h0]); omega
  · show sI (sU (sU (sU (sU (sU (sU (sU (sU (sU M 91 240 (1 * ρ 0 + 0)) 91 241 (1 * ρ 0 + 0)) 91 242 (4 * ρ 0 + 0)) 91 243 (16 * ρ 0 + 0)) 91 245 (0)) 91 246 (1 * ρ 1 + 0)) 91 244 (1 * (xop 5 (ρ 1) 16) + 0)) 91 247 (16 * ρ 0 + 0)) 4 291 (1 * (((xop 5 (ρ 1) 16 - ρ 1) / 1 + ρ 2)) + 0))
    obtain ⟨W, hW⟩ : ∃ W, W = (sU (sU (sU (sU (sU (sU (sU (sU (sU M 91 240 (1 * ρ 0 + 0)) 91 241 (1 * ρ 0 + 0)) 91 242 (4 * ρ 0 + 0)) 91 243 (16 * ρ 0 + 0)) 91 245 (0)) 91 246 (1 * ρ 1 + 0)) 91 244 (1 * (xop 5 (ρ 1) 16) + 0)) 91 247 (16 * ρ 0 + 0)) 4 291 (1 * (((xop 5 (ρ 1) 16 - ρ 1) / 1 + ρ 2)) + 0)) := ⟨_, rfl⟩
    rw [← hW]
    have base : sI0 W := by
      rw [hW]
      exact (si_u0 (si_u0 (si_u0 (si_u0 (si_u0 (si_u0 (si_u0 (si_u0 (si_u0 hI.1 (fun r hr => by cases hr)) (fun r hr => by cases hr)) (fun r hr => by cases hr)) (fun r hr => by cases hr)) (fun r hr => by cases hr)) (fun r hr => by cases hr)) (fun r hr => by cases hr)) (fun r hr => by cases hr)) (fun r hr => by cases hr))
    have k2 : XI2 W := by
      rw [hW]
      exact (xi2_u rfl (xi2_u rfl (xi2_u rfl (xi2_u rfl (xi2_u rfl (xi2_u rfl (xi2_u rfl (xi2_u rfl (xi2_u rfl hI.2.1)))))))))
    have k3 : XI3 W := by
      rw [hW]
      exact (xi3_u rfl (xi3_u rfl (xi3_u rfl (xi3_u rfl (xi3_u rfl (xi3_u rfl (xi3_u rfl (xi3_u rfl (xi3_u rfl hI.2.2.1)))))))))
    have kXA : XA W := by
      rw [hW]
      exact (uXA rfl (uXA rfl (uXA rfl (uXA rfl (uXA rfl (uXA rfl (uXA rfl (uXA rfl (uXA rfl hI.2.2.2.1)))))))))
    have k_xN1 : xN1 W := by
      rw [hW]
      exact (uxN1 rfl (uxN1 rfl (uxN1 rfl (uxN1 rfl (uxN1 rfl (uxN1 rfl (uxN1 rfl (uxN1 rfl (uxN1 rfl hI.2.2.2.2.1)))))))))
    have k_xN2 : xN2 W := by
      rw [hW]
      exact (uxN2 rfl (uxN2 rfl (uxN2 rfl (uxN2 rfl (uxN2 rfl (uxN2 rfl (uxN2 rfl (uxN2 rfl (uxN2 rfl hI.2.2.2.2.2.1)))))))))
    have k_xN3 : xN3 W := by
      rw [hW]
      exact (uxN3 rfl (uxN3 rfl (uxN3 rfl (uxN3 rfl (uxN3 rfl (uxN3 rfl (uxN3 rfl (uxN3 rfl (uxN3 rfl hI.2.2.2.2.2.2.1)))))))))
    have k_xN4 : xN4 W := by
      rw [hW]
      exact (uxN4 rfl (uxN4 rfl (uxN4 rfl (uxN4 rfl (uxN4 rfl (uxN4 rfl (uxN4 rfl (uxN4 rfl (uxN4 rfl hI.2.2.2.2.2.2.2.1)))))))))
    have k_xN5 : xN5 W := by
      rw [hW]
      exact (uxN5 rfl (uxN5 rfl (uxN5 rfl (uxN5 rfl (uxN5 rfl (uxN5 rfl (uxN5 rfl (uxN5 rfl (uxN5 rfl hI.2.2.2.2.2.2.2.2.1)))))))))
    have k_xN6 : xN6 W := by
      rw [hW]
      exact (uxN6 rfl (uxN6 rfl (uxN6 rfl (uxN6 rfl (uxN6 rfl (uxN6 rfl (uxN6 rfl (uxN6 rfl (uxN6 rfl hI.2.2.2.2.2.2.2.2.2.1)))))))))
    have k_xH1 : xH1 W := by
      rw [hW]
      exact (uxH1 rfl (uxH1 rfl (uxH1 rfl (uxH1 rfl (uxH1 rfl (uxH1 rfl (uxH1 rfl (uxH1 rfl (uxH1 rfl hI.2.2.2.2.2.2.2.2.2.2.1)))))))))
    have k_xK1 : xK1 W := by
      rw [hW]
      exact (uxK1 rfl (uxK1 rfl (uxK1 rfl (uxK1 rfl (uxK1 rfl (uxK1 rfl (uxK1 rfl (uxK1 rfl (uxK1 rfl hI.2.2.2.2.2.2.2.2.2.2.2.1)))))))))
    have k_xC1 : xC1 W := by
      rw [hW]
      exact (uxC1 rfl (uxC1 rfl (uxC1 rfl (uxC1 rfl (uxC1 rfl (uxC1 rfl (uxC1 rfl (uxC1 rfl (uxC1 rfl hI.2.2.2.2.2.2.2.2.2.2.2.2.1)))))))))
    have k_xRW : xRW W := by
      rw [hW]
      exact (uxRW rfl (uxRW rfl (uxRW rfl (uxRW rfl (uxRW rfl (uxRW rfl (uxRW rfl (uxRW rfl (uxRW rfl hI.2.2.2.2.2.2.2.2.2.2.2.2.2.1)))))))))
    have k_xWT : xWT W := by
      rw [hW]
      exact (uxWT rfl (uxWT rfl (uxWT rfl (uxWT rfl (uxWT rfl (uxWT rfl (uxWT rfl (uxWT rfl (uxWT rfl hI.2.2.2.2.2.2.2.2.2.2.2.2.2.2.1)))))))))
    have k_xCU : xCU W := by
      rw [hW]
      exact (uxCU rfl (uxCU rfl (uxCU rfl (uxCU rfl (uxCU rfl (uxCU rfl (uxCU rfl (uxCU rfl (uxCU rfl hI.2.2.2.2.2.2.2.2.2.2.2.2.2.2.2.1)))))))))
    have k_xG2 : xG2 W := by
      rw [hW]
      exact (uxG2 rfl (uxG2 rfl (uxG2 rfl (uxG2 rfl (uxG2 rfl (uxG2 rfl (uxG2 rfl (uxG2 rfl (uxG2 rfl hI.2.2.2.2.2.2.2.2.2.2.2.2.2.2.2.2.1)))))))))
    have k_xG3 : xG3 W := by
      rw [hW]
      exact (uxG3 rfl (uxG3 rfl (uxG3 rfl (uxG3 rfl (uxG3 rfl (uxG3 rfl (uxG3 rfl (uxG3 rfl (uxG3 rfl hI.2.2.2.2.2.2.2.2.2.2.2.2.2.2.2.2.2.1)))))))))
    have k_xG4 : xG4 W := by
      rw [hW]
      exact (uxG4 rfl (uxG4 rfl (uxG4 rfl (uxG4 rfl (uxG4 rfl (uxG4 rfl (uxG4 rfl (uxG4 rfl (uxG4 rfl hI.2.2.2.2.2.2.2.2.2.2.2.2.2.2.2.2.2.2.1)))))))))
    have k_xG5 : xG5 W := by
      rw [hW]
      exact (uxG5 rfl (uxG5 rfl (uxG5 rfl (uxG5 rfl (uxG5 rfl (uxG5 rfl (uxG5 rfl (uxG5 rfl (uxG5 rfl hI.2.2.2.2.2.2.2.2.2.2.2.2.2.2.2.2.2.2.2.1)))))))))
    have k_xG6 : xG6 W := by
      rw [hW]
      exact (uxG6 rfl (uxG6 rfl (uxG6 rfl (uxG6 rfl (uxG6 rfl (uxG6 rfl (uxG6 rfl (uxG6 rfl (uxG6 rfl hI.2.2.2.2.2.2.2.2.2.2.2.2.2.2.2.2.2.2.2.2.1)))))))))
    have k_xS1 : xS1 W := by
      rw [hW]
      exact (uxS1 rfl (uxS1 rfl (uxS1 rfl (uxS1 rfl (uxS1 rfl (uxS1 rfl (uxS1 rfl (uxS1 rfl (uxS1 rfl hI.2.2.2.2.2.2.2.2.2.2.2.2.2.2.2.2.2.2.2.2.2.1)))))))))
    have k_xS2 : xS2 W := by
      rw [hW]
      exact (uxS2 rfl (uxS2 rfl (uxS2 rfl (uxS2 rfl (uxS2 rfl (uxS2 rfl (uxS2 rfl (uxS2 rfl (uxS2 rfl hI.2.2.2.2.2.2.2.2.2.2.2.2.2.2.2.2.2.2.2.2.2.2.1)))))))))
    have k_xS3 : xS3 W := by
      rw [hW]
      exact (uxS3 rfl (uxS3 rfl (uxS3 rfl (uxS3 rfl (uxS3 rfl (uxS3 rfl (uxS3 rfl (uxS3 rfl (uxS3 rfl hI.2.2.2.2.2.2.2.2.2.2.2.2.2.2.2.2.2.2.2.2.2.2.2.1)))))))))
    have k_xS4 : xS4 W := by
      rw [hW]
      exact (uxS4 rfl (uxS4 rfl (uxS4 rfl (uxS4 rfl (uxS4 rfl (uxS4 rfl (uxS4 rfl (uxS4 rfl (uxS4 rfl hI.2.2.2.2.2.2.2.2.2.2.2.2.2.2.2.2.2.2.2.2.2.2.2.2.1)))))))))
    have k_xS5 : xS5 W := by
      rw [hW]
      exact (uxS5 rfl (uxS5 rfl (uxS5 rfl (uxS5 rfl (uxS5 rfl (uxS5 rfl (uxS5 rfl (uxS5 rfl (uxS5 rfl hI.2.2.2.2.2.2.2.2.2.2.2.2.2.2.2.2.2.2.2.2.2.2.2.2.2.1)))))))))
    have k_xS6 : xS6 W := by
      rw [hW]
      exact (uxS6 rfl (uxS6 rfl (uxS6 rfl (uxS6 rfl (uxS6 rfl (uxS6 rfl (uxS6 rfl (uxS6 rfl (uxS6 rfl hI.2.2.2.2.2.2.2.2.2.2.2.2.2.2.2.2.2.2.2.2.2.2.2.2.2.2.1)))))))))
    have k_xS7 : xS7 W := by
      rw [hW]
      exact (uxS7 rfl (uxS7 rfl (uxS7 rfl (uxS7 rfl (uxS7 rfl (uxS7 rfl (uxS7 rfl (uxS7 rfl (uxS7 rfl hI.2.2.2.2.2.2.2.2.2.2.2.2.2.2.2.2.2.2.2.2.2.2.2.2.2.2.2.1)))))))))
    have k_xS8 : xS8 W := by
      rw [hW]
      exact (uxS8 rfl (uxS8 rfl (uxS8 rfl (uxS8 rfl (uxS8 rfl (uxS8 rfl (uxS8 rfl (uxS8 rfl (uxS8 rfl hI.2.2.2.2.2.2.2.2.2.2.2.2.2.2.2.2.2.2.2.2.2.2.2.2.2.2.2.2.1)))))))))
    have k_xS9 : xS9 W := by
      rw [hW]
      exact (uxS9 rfl (uxS9 rfl (uxS9 rfl (uxS9 rfl (uxS9 rfl (uxS9 rfl (uxS9 rfl (uxS9 rfl (uxS9 rfl hI.2.2.2.2.2.2.2.2.2.2.2.2.2.2.2.2.2.2.2.2.2.2.2.2.2.2.2.2.2.1)))))))))
    have k_xSA : xSA W := by
      rw [hW]
      exact (uxSA rfl (uxSA rfl (uxSA rfl (uxSA rfl (uxSA rfl (uxSA rfl (uxSA rfl (uxSA rfl (uxSA rfl hI.2.2.2.2.2.2.2.2.2.2.2.2.2.2.2.2.2.2.2.2.2.2.2.2.2.2.2.2.2.2.1)))))))))
    have k_xSG : xSG W := by
      rw [hW]
      exact (uxSG rfl (uxSG rfl (uxSG rfl (uxSG rfl (uxSG rfl (uxSG rfl (uxSG rfl (uxSG rfl (uxSG rfl hI.2.2.2.2.2.2.2.2.2.2.2.2.2.2.2.2.2.2.2.2.2.2.2.2.2.2.2.2.2.2.2.1)))))))))
    have k_xSF : xSF W := by
      rw [hW]
      exact (uxSF rfl (uxSF rfl (uxSF rfl (uxSF rfl (uxSF rfl (uxSF rfl (uxSF rfl (uxSF rfl (uxSF rfl hI.2.2.2.2.2.2.2.2.2.2.2.2.2.2.2.2.2.2.2.2.2.2.2.2.2.2.2.2.2.2.2.2.1)))))))))
    have k_xSB : xSB W := by
      rw [hW]
      exact (uxSB rfl (uxSB rfl (uxSB rfl (uxSB rfl (uxSB rfl (uxSB rfl (uxSB rfl (uxSB rfl (uxSB rfl hI.2.2.2.2.2.2.2.2.2.2.2.2.2.2.2.2.2.2.2.2.2.2.2.2.2.2.2.2.2.2.2.2.2.1)))))))))
    have k_xSC : xSC W := by
      rw [hW]
      exact (uxSC rfl (uxSC rfl (uxSC rfl (uxSC rfl (uxSC rfl (uxSC rfl (uxSC rfl (uxSC rfl (uxSC rfl hI.2.2.2.2.2.2.2.2.2.2.2.2.2.2.2.2.2.2.2.2.2.2.2.2.2.2.2.2.2.2.2.2.2.2.1)))))))))
    have k_xSD : xSD W := by
      have r91_240 : W 91 240 = 1 * ρ 0 + 0 := by rw [hW, sU_ne (fun z => by omega), sU_ne (fun z => by omega), sU_ne (fun z => by omega), sU_ne (fun z => by omega), sU_ne (fun z => by omega), sU_ne (fun z => by omega), sU_ne (fun z => by omega), sU_ne (fun z => by omega), sU_at]
      have r91_241 : W 91 241 = 1 * ρ 0 + 0 := by rw [hW, sU_ne (fun z => by omega), sU_ne (fun z => by omega), sU_ne (fun z => by omega), sU_ne (fun z => by omega), sU_ne (fun z => by omega), sU_ne (fun z => by omega), sU_ne (fun z => by omega), sU_at]
      have r91_242 : W 91 242 = 4 * ρ 0 + 0 := by rw [hW, sU_ne (fun z => by omega), sU_ne (fun z => by omega), sU_ne (fun z => by omega), sU_ne (fun z => by omega), sU_ne (fun z => by omega), sU_ne (fun z => by omega), sU_at]
      have r91_243 : W 91 243 = 16 * ρ 0 + 0 := by rw [hW, sU_ne (fun z => by omega), sU_ne (fun z => by omega), sU_ne (fun z => by omega), sU_ne (fun z => by omega), sU_ne (fun z => by omega), sU_at]
      have r91_244 : W 91 244 = 1 * (xop 5 (ρ 1) 16) + 0 := by rw [hW, sU_ne (fun z => by omega), sU_ne (fun z => by omega), sU_at]
      have r91_245 : W 91 245 = 0 := by rw [hW, sU_ne (fun z => by omega), sU_ne (fun z => by omega), sU_ne (fun z => by omega), sU_ne (fun z => by omega), sU_at]
      have r91_246 : W 91 246 = 1 * ρ 1 + 0 := by rw [hW, sU_ne (fun z => by omega), sU_ne (fun z => by omega), sU_ne (fun z => by omega), sU_at]
      have r91_247 : W 91 247 = 16 * ρ 0 + 0 := by rw [hW, sU_ne (fun z => by omega), sU_at]
      intro h
      rw [r91_241, r91_242, r91_243, r91_244, r91_245, r91_246, r91_247, h0]
      refine ⟨by decide, ?_, by decide⟩
      rw [show ((16 : Int) * 1 + 0) = 16 from rfl, show (1 * ρ 1 + 0 : Int) = ρ 1 by omega]
      omega
    have k_xSE : xSE W := by
      have r : W 91 249 = 0 := by
        have e := m0
        rw [hW, sU_ne (fun z => by omega), sU_ne (fun z => by omega), sU_ne (fun z => by omega), sU_ne (fun z => by omega), sU_ne (fun z => by omega), sU_ne (fun z => by omega), sU_ne (fun z => by omega), sU_ne (fun z => by omega), sU_ne (fun z => by omega)]
        omega
      intro h
      rw [r] at h
      omega
    have k_xSW : xSW W := by
      rw [hW]
      exact (uxSW rfl (uxSW rfl (uxSW rfl (uxSW rfl (uxSW rfl (uxSW rfl (uxSW rfl (uxSW rfl (uxSW rfl hI.2.2.2.2.2.2.2.2.2.2.2.2.2.2.2.2.2.2.2.2.2.2.2.2.2.2.2.2.2.2.2.2.2.2.2.2.2.1)))))))))
    have k_xST : xST W := by
      rw [hW]
      exact (uxST rfl (uxST rfl (uxST rfl (uxST rfl (uxST rfl (uxST rfl (uxST rfl (uxST rfl (uxST rfl hI.2.2.2.2.2.2.2.2.2.2.2.2.2.2.2.2.2.2.2.2.2.2.2.2.2.2.2.2.2.2.2.2.2.2.2.2.2.2.1)))))))))
    have k_xSP : xSP W := by
      rw [hW]
      exact (uxSP rfl (uxSP rfl (uxSP rfl (uxSP rfl (uxSP rfl (uxSP rfl (uxSP rfl (uxSP rfl (uxSP rfl hI.2.2.2.2.2.2.2.2.2.2.2.2.2.2.2.2.2.2.2.2.2.2.2.2.2.2.2.2.2.2.2.2.2.2.2.2.2.2.2.1)))))))))
    have k_xSL : xSL W := by
      rw [hW]
      exact (uxSL rfl (uxSL rfl (uxSL rfl (uxSL rfl (uxSL rfl (uxSL rfl (uxSL rfl (uxSL rfl (uxSL rfl hI.2.2.2.2.2.2.2.2.2.2.2.2.2.2.2.2.2.2.2.2.2.2.2.2.2.2.2.2.2.2.2.2.2.2.2.2.2.2.2.2.1)))))))))
    have k_xSM : xSM W := by
      rw [hW]
      exact (uxSM rfl (uxSM rfl (uxSM rfl (uxSM rfl (uxSM rfl (uxSM rfl (uxSM rfl (uxSM rfl (uxSM rfl hI.2.2.2.2.2.2.2.2.2.2.2.2.2.2.2.2.2.2.2.2.2.2.2.2.2.2.2.2.2.2.2.2.2.2.2.2.2.2.2.2.2.1)))))))))
    have k_xSI : xSI W := by
      rw [hW]
      exact (uxSI rfl (uxSI rfl (uxSI rfl (uxSI rfl (uxSI rfl (uxSI rfl (uxSI rfl (uxSI rfl (uxSI rfl hI.2.2.2.2.2.2.2.2.2.2.2.2.2.2.2.2.2.2.2.2.2.2.2.2.2.2.2.2.2.2.2.2.2.2.2.2.2.2.2.2.2.2)))))))))
    have k_XC : XC W := ⟨k_xS1, k_xS2, k_xS3, k_xS4, k_xS5, k_xS6, k_xS7, k_xS8, k_xS9, k_xSA, k_xSG, k_xSF, k_xSB, k_xSC, k_xSD, k_xSE, k_xSW, k_xST, k_xSP, k_xSL, k_xSM, k_xSI⟩
    have kXB : XB W := ⟨k_xN1, k_xN2, k_xN3, k_xN4, k_xN5, k_xN6, k_xH1, k_xK1, k_xC1, k_xRW, k_xWT, k_xCU, k_xG2, k_xG3, k_xG4, k_xG5, k_xG6, k_XC⟩
    exact ⟨base, k2, k3, kXA, kXB⟩
-- ro10
def xr_551 : qRu := (11, [[(1, 1), (-1, 2), (-32, 3), (-64, 4), (-128, 5), (-256, 6), (-512, 7), (-1024, 8), (-65536, 9), (-131072, 10)], [(-1, 1), (1, 2), (32, 3), (64, 4), (128, 5), (256, 6), (512, 7), (1024, 8), (65536, 9), (131072, 10)], [(1, 2)], [(31, 0), (-1, 2)], [(1, 8)], [(63, 0), (-1, 8)], [(1, 3)], [(1, 0), (-1, 3)], [(1, 4)], [(1, 0), (-1, 4)], [(1, 5)], [(1, 0), (-1, 5)], [(1, 6)], [(1, 0), (-1, 6)], [(1, 7)], [(1, 0), (-1, 7)], [(1, 9)], [(1, 0), (-1, 9)], [(1, 10)], [(1, 0), (-1, 10)]], [(91, 249, [])], [], [(91, 240, [(1, 0)]), (91, 241, [(1, 0)]), (91, 242, [(10, 0)]), (91, 243, [(1024, 0)]), (91, 245, []), (91, 246, [(1, 1)]), (91, 244, [(1, 11)]), (91, 247, [(1024, 0)]), (4, 292, [(1, 12)])], [[(-1, 1), (1024, 8), (1, 11), (-1024, 12)], [(1, 1), (-1024, 8), (-1, 11), (1024, 12)], [(1, 12)], [(63, 0), (-1, 12)]])
theorem xo_551 : qRok xr_551 := by
  intro ρ M h0 hf hm hI
  have f0 := hf [(1, 1), (-1, 2), (-32, 3), (-64, 4), (-128, 5), (-256, 6), (-512, 7), (-1024, 8), (-65536, 9), (-131072, 10)] (by decide)
  have f1 := hf [(-1, 1), (1, 2), (32, 3), (64, 4), (128, 5), (256, 6), (512, 7), (1024, 8), (65536, 9), (131072, 10)] (by decide)
  have f2 := hf [(1, 2)] (by decide)
  have f3 := hf [(31, 0), (-1, 2)] (by decide)
  have f4 := hf [(1, 8)] (by decide)
  have f5 := hf [(63, 0), (-1, 8)] (by decide)
  have f6 := hf [(1, 3)] (by decide)
  have f7 := hf [(1, 0), (-1, 3)] (by decide)
  have f8 := hf [(1, 4)] (by decide)
  have f9 := hf [(1, 0), (-1, 4)] (by decide)
  have f10 := hf [(1, 5)] (by decide)
  have f11 := hf [(1, 0), (-1, 5)] (by decide)
  have f12 := hf [(1, 6)] (by decide)
  have f13 := hf [(1, 0), (-1, 6)] (by decide)
  have f14 := hf [(1, 7)] (by decide)
  have f15 := hf [(1, 0), (-1, 7)] (by decide)
  have f16 := hf [(1, 9)] (by decide)
  have f17 := hf [(1, 0), (-1, 9)] (by decide)
  have f18 := hf [(1, 10)] (by decide)
  have f19 := hf [(1, 0), (-1, 10)] (by decide)
  simp only [qD, h0] at f0 f1 f2 f3 f4 f5 f6 f7 f8 f9 f10 f11 f12 f13 f14 f15 f16 f17 f18 f19
  have m0 : M 91 249 = 0 := hm (91, 249, []) (by decide)
  have qxSD := hI.2.2.2.2.2.2.2.2.2.2.2.2.2.2.2.2.2.2.2.2.2.2.2.2.2.2.2.2.2.2.2.2.2.2.2.1
  have xb := xbo10 (t := ρ 1) (by omega) (by omega)

  have xc : xop 5 (ρ 1) 1024 - ρ 1 = 0 ∨ (xop 5 (ρ 1) 1024 - ρ 1 = 1024 ∧ (ρ 8 / 1) % 2 = 0) := by omega
  refine ⟨fun a => cond (Nat.blt a 11) (ρ a) (([xop 5 (ρ 1) 1024, ((xop 5 (ρ 1) 1024 - ρ 1) / 1024 + ρ 8)] : List Int).getD (a - 11) 0), fun a ha => ?_, fun f h => ?_, ?_⟩
  · show cond (Nat.blt a 11) (ρ a) _ = ρ a
    rw [show Nat.blt a 11 = true from Nat.ble_eq_true_of_le ha]; rfl
  · have h : f ∈ ([[(-1, 1), (1024, 8), (1, 11), (-1024, 12)], [(1, 1), (-1024, 8), (-1, 11), (1024, 12)], [(1, 12)], [(63, 0), (-1, 12)]] : List qF) := h
    simp only [List.mem_cons, List.not_mem_nil, or_false] at h
    rcases h with rfl | rfl | rfl | rfl
    · show 0 ≤ -1 * ρ 1 + (1024 * ρ 8 + (1 * (xop 5 (ρ 1) 1024) + (-1024 * (((xop 5 (ρ 1) 1024 - ρ 1) / 1024 + ρ 8)) + 0)))
      (try rw [h0]); omega
    · show 0 ≤ 1 * ρ 1 + (-1024 * ρ 8 + (-1 * (xop 5 (ρ 1) 1024) + (1024 * (((xop 5 (ρ 1) 1024 - ρ 1) / 1024 + ρ 8)) + 0)))
      (try rw [h0]); omega
    · show 0 ≤ 1 * (((xop 5 (ρ 1) 1024 - ρ 1) / 1024 + ρ 8)) + 0
      (try rw [h0]); omega
    · show 0 ≤ 63 * ρ 0 + (-1 * (((xop 5 (ρ 1) 1024 - ρ 1) / 1024 + ρ 8)) + 0)
      (try rw [h0]); omega
  · show sI (sU (sU (sU (sU (sU (sU (sU (sU (sU M 91 240 (1 * ρ 0 + 0)) 91 241 (1 * ρ 0 + 0)) 91 242 (10 * ρ 0 + 0)) 91 243 (1024 * ρ 0 + 0)) 91 245 (0)) 91 246 (1 * ρ 1 + 0)) 91 244 (1 * (xop 5 (ρ 1) 1024) + 0)) 91 247 (1024 * ρ 0 + 0)) 4 292 (1 * (((xop 5 (ρ 1) 1024 - ρ 1) / 1024 + ρ 8)) + 0))
    obtain ⟨W, hW⟩ : ∃ W, W = (sU (sU (sU (sU (sU (sU (sU (sU (sU M 91 240 (1 * ρ 0 + 0)) 91 241 (1 * ρ 0 + 0)) 91 242 (10 * ρ 0 + 0)) 91 243 (1024 * ρ 0 + 0)) 91 245 (0)) 91 246 (1 * ρ 1 + 0)) 91 244 (1 * (xop 5 (ρ 1) 1024) + 0)) 91 247 (1024 * ρ 0 + 0)) 4 292 (1 * (((xop 5 (ρ 1) 1024 - ρ 1) / 1024 + ρ 8)) + 0)) := ⟨_, rfl⟩
    rw [← hW]
    have base : sI0 W := by
      rw [hW]
      exact (si_u0 (si_u0 (si_u0 (si_u0 (si_u0 (si_u0 (si_u0 (si_u0 (si_u0 hI.1 (fun r hr => by cases hr)) (fun r hr => by cases hr)) (fun r hr => by cases hr)) (fun r hr => by cases hr)) (fun r hr => by cases hr)) (fun r hr => by cases hr)) (fun r hr => by cases hr)) (fun r hr => by cases hr)) (fun r hr => by cases hr))
    have k2 : XI2 W := by
      rw [hW]
      exact (xi2_u rfl (xi2_u rfl (xi2_u rfl (xi2_u rfl (xi2_u rfl (xi2_u rfl (xi2_u rfl (xi2_u rfl (xi2_u rfl hI.2.1)))))))))
    have k3 : XI3 W := by
      rw [hW]
      exact (xi3_u rfl (xi3_u rfl (xi3_u rfl (xi3_u rfl (xi3_u rfl (xi3_u rfl (xi3_u rfl (xi3_u rfl (xi3_u rfl hI.2.2.1)))))))))
    have kXA : XA W := by
      rw [hW]
      exact (uXA rfl (uXA rfl (uXA rfl (uXA rfl (uXA rfl (uXA rfl (uXA rfl (uXA rfl (uXA rfl hI.2.2.2.1)))))))))
    have k_xN1 : xN1 W := by
      rw [hW]
      exact (uxN1 rfl (uxN1 rfl (uxN1 rfl (uxN1 rfl (uxN1 rfl (uxN1 rfl (uxN1 rfl (uxN1 rfl (uxN1 rfl hI.2.2.2.2.1)))))))))
    have k_xN2 : xN2 W := by
      rw [hW]
      exact (uxN2 rfl (uxN2 rfl (uxN2 rfl (uxN2 rfl (uxN2 rfl (uxN2 rfl (uxN2 rfl (uxN2 rfl (uxN2 rfl hI.2.2.2.2.2.1)))))))))
    have k_xN3 : xN3 W := by
      rw [hW]
      exact (uxN3 rfl (uxN3 rfl (uxN3 rfl (uxN3 rfl (uxN3 rfl (uxN3 rfl (uxN3 rfl (uxN3 rfl (uxN3 rfl hI.2.2.2.2.2.2.1)))))))))
    have k_xN4 : xN4 W := by
      rw [hW]
      exact (uxN4 rfl (uxN4 rfl (uxN4 rfl (uxN4 rfl (uxN4 rfl (uxN4 rfl (uxN4 rfl (uxN4 rfl (uxN4 rfl hI.2.2.2.2.2.2.2.1)))))))))
    have k_xN5 : xN5 W := by
      rw [hW]
      exact (uxN5 rfl (uxN5 rfl (uxN5 rfl (uxN5 rfl (uxN5 rfl (uxN5 rfl (uxN5 rfl (uxN5 rfl (uxN5 rfl hI.2.2.2.2.2.2.2.2.1)))))))))
    have k_xN6 : xN6 W := by
      rw [hW]
      exact (uxN6 rfl (uxN6 rfl (uxN6 rfl (uxN6 rfl (uxN6 rfl (uxN6 rfl (uxN6 rfl (uxN6 rfl (uxN6 rfl hI.2.2.2.2.2.2.2.2.2.1)))))))))
    have k_xH1 : xH1 W := by
      rw [hW]
      exact (uxH1 rfl (uxH1 rfl (uxH1 rfl (uxH1 rfl (uxH1 rfl (uxH1 rfl (uxH1 rfl (uxH1 rfl (uxH1 rfl hI.2.2.2.2.2.2.2.2.2.2.1)))))))))
    have k_xK1 : xK1 W := by
      rw [hW]
      exact (uxK1 rfl (uxK1 rfl (uxK1 rfl (uxK1 rfl (uxK1 rfl (uxK1 rfl (uxK1 rfl (uxK1 rfl (uxK1 rfl hI.2.2.2.2.2.2.2.2.2.2.2.1)))))))))
    have k_xC1 : xC1 W := by
      rw [hW]
      exact (uxC1 rfl (uxC1 rfl (uxC1 rfl (uxC1 rfl (uxC1 rfl (uxC1 rfl (uxC1 rfl (uxC1 rfl (uxC1 rfl hI.2.2.2.2.2.2.2.2.2.2.2.2.1)))))))))
    have k_xRW : xRW W := by
      rw [hW]
      exact (uxRW rfl (uxRW rfl (uxRW rfl (uxRW rfl (uxRW rfl (uxRW rfl (uxRW rfl (uxRW rfl (uxRW rfl hI.2.2.2.2.2.2.2.2.2.2.2.2.2.1)))))))))
    have k_xWT : xWT W := by
      rw [hW]
      exact (uxWT rfl (uxWT rfl (uxWT rfl (uxWT rfl (uxWT rfl (uxWT rfl (uxWT rfl (uxWT rfl (uxWT rfl hI.2.2.2.2.2.2.2.2.2.2.2.2.2.2.1)))))))))
    have k_xCU : xCU W := by
      rw [hW]
      exact (uxCU rfl (uxCU rfl (uxCU rfl (uxCU rfl (uxCU rfl (uxCU rfl (uxCU rfl (uxCU rfl (uxCU rfl hI.2.2.2.2.2.2.2.2.2.2.2.2.2.2.2.1)))))))))
    have k_xG2 : xG2 W := by
      rw [hW]
      exact (uxG2 rfl (uxG2 rfl (uxG2 rfl (uxG2 rfl (uxG2 rfl (uxG2 rfl (uxG2 rfl (uxG2 rfl (uxG2 rfl hI.2.2.2.2.2.2.2.2.2.2.2.2.2.2.2.2.1)))))))))
    have k_xG3 : xG3 W := by
      rw [hW]
      exact (uxG3 rfl (uxG3 rfl (uxG3 rfl (uxG3 rfl (uxG3 rfl (uxG3 rfl (uxG3 rfl (uxG3 rfl (uxG3 rfl hI.2.2.2.2.2.2.2.2.2.2.2.2.2.2.2.2.2.1)))))))))
    have k_xG4 : xG4 W := by
      rw [hW]
      exact (uxG4 rfl (uxG4 rfl (uxG4 rfl (uxG4 rfl (uxG4 rfl (uxG4 rfl (uxG4 rfl (uxG4 rfl (uxG4 rfl hI.2.2.2.2.2.2.2.2.2.2.2.2.2.2.2.2.2.2.1)))))))))
    have k_xG5 : xG5 W := by
      rw [hW]
      exact (uxG5 rfl (uxG5 rfl (uxG5 rfl (uxG5 rfl (uxG5 rfl (uxG5 rfl (uxG5 rfl (uxG5 rfl (uxG5 rfl hI.2.2.2.2.2.2.2.2.2.2.2.2.2.2.2.2.2.2.2.1)))))))))
    have k_xG6 : xG6 W := by
      rw [hW]
      exact (uxG6 rfl (uxG6 rfl (uxG6 rfl (uxG6 rfl (uxG6 rfl (uxG6 rfl (uxG6 rfl (uxG6 rfl (uxG6 rfl hI.2.2.2.2.2.2.2.2.2.2.2.2.2.2.2.2.2.2.2.2.1)))))))))
    have k_xS1 : xS1 W := by
      rw [hW]
      exact (uxS1 rfl (uxS1 rfl (uxS1 rfl (uxS1 rfl (uxS1 rfl (uxS1 rfl (uxS1 rfl (uxS1 rfl (uxS1 rfl hI.2.2.2.2.2.2.2.2.2.2.2.2.2.2.2.2.2.2.2.2.2.1)))))))))
    have k_xS2 : xS2 W := by
      rw [hW]
      exact (uxS2 rfl (uxS2 rfl (uxS2 rfl (uxS2 rfl (uxS2 rfl (uxS2 rfl (uxS2 rfl (uxS2 rfl (uxS2 rfl hI.2.2.2.2.2.2.2.2.2.2.2.2.2.2.2.2.2.2.2.2.2.2.1)))))))))
    have k_xS3 : xS3 W := by
      rw [hW]
      exact (uxS3 rfl (uxS3 rfl (uxS3 rfl (uxS3 rfl (uxS3 rfl (uxS3 rfl (uxS3 rfl (uxS3 rfl (uxS3 rfl hI.2.2.2.2.2.2.2.2.2.2.2.2.2.2.2.2.2.2.2.2.2.2.2.1)))))))))
    have k_xS4 : xS4 W := by
      rw [hW]
      exact (uxS4 rfl (uxS4 rfl (uxS4 rfl (uxS4 rfl (uxS4 rfl (uxS4 rfl (uxS4 rfl (uxS4 rfl (uxS4 rfl hI.2.2.2.2.2.2.2.2.2.2.2.2.2.2.2.2.2.2.2.2.2.2.2.2.1)))))))))
    have k_xS5 : xS5 W := by
      rw [hW]
      exact (uxS5 rfl (uxS5 rfl (uxS5 rfl (uxS5 rfl (uxS5 rfl (uxS5 rfl (uxS5 rfl (uxS5 rfl (uxS5 rfl hI.2.2.2.2.2.2.2.2.2.2.2.2.2.2.2.2.2.2.2.2.2.2.2.2.2.1)))))))))
    have k_xS6 : xS6 W := by
      rw [hW]
      exact (uxS6 rfl (uxS6 rfl (uxS6 rfl (uxS6 rfl (uxS6 rfl (uxS6 rfl (uxS6 rfl (uxS6 rfl (uxS6 rfl hI.2.2.2.2.2.2.2.2.2.2.2.2.2.2.2.2.2.2.2.2.2.2.2.2.2.2.1)))))))))
    have k_xS7 : xS7 W := by
      rw [hW]
      exact (uxS7 rfl (uxS7 rfl (uxS7 rfl (uxS7 rfl (uxS7 rfl (uxS7 rfl (uxS7 rfl (uxS7 rfl (uxS7 rfl hI.2.2.2.2.2.2.2.2.2.2.2.2.2.2.2.2.2.2.2.2.2.2.2.2.2.2.2.1)))))))))
    have k_xS8 : xS8 W := by
      rw [hW]
      exact (uxS8 rfl (uxS8 rfl (uxS8 rfl (uxS8 rfl (uxS8 rfl (uxS8 rfl (uxS8 rfl (uxS8 rfl (uxS8 rfl hI.2.2.2.2.2.2.2.2.2.2.2.2.2.2.2.2.2.2.2.2.2.2.2.2.2.2.2.2.1)))))))))
    have k_xS9 : xS9 W := by
      rw [hW]
      exact (uxS9 rfl (uxS9 rfl (uxS9 rfl (uxS9 rfl (uxS9 rfl (uxS9 rfl (uxS9 rfl (uxS9 rfl (uxS9 rfl hI.2.2.2.2.2.2.2.2.2.2.2.2.2.2.2.2.2.2.2.2.2.2.2.2.2.2.2.2.2.1)))))))))
    have k_xSA : xSA W := by
      rw [hW]
      exact (uxSA rfl (uxSA rfl (uxSA rfl (uxSA rfl (uxSA rfl (uxSA rfl (uxSA rfl (uxSA rfl (uxSA rfl hI.2.2.2.2.2.2.2.2.2.2.2.2.2.2.2.2.2.2.2.2.2.2.2.2.2.2.2.2.2.2.1)))))))))
    have k_xSG : xSG W := by
      rw [hW]
      exact (uxSG rfl (uxSG rfl (uxSG rfl (uxSG rfl (uxSG rfl (uxSG rfl (uxSG rfl (uxSG rfl (uxSG rfl hI.2.2.2.2.2.2.2.2.2.2.2.2.2.2.2.2.2.2.2.2.2.2.2.2.2.2.2.2.2.2.2.1)))))))))
    have k_xSF : xSF W := by
      rw [hW]
      exact (uxSF rfl (uxSF rfl (uxSF rfl (uxSF rfl (uxSF rfl (uxSF rfl (uxSF rfl (uxSF rfl (uxSF rfl hI.2.2.2.2.2.2.2.2.2.2.2.2.2.2.2.2.2.2.2.2.2.2.2.2.2.2.2.2.2.2.2.2.1)))))))))
    have k_xSB : xSB W := by
      rw [hW]
      exact (uxSB rfl (uxSB rfl (uxSB rfl (uxSB rfl (uxSB rfl (uxSB rfl (uxSB rfl (uxSB rfl (uxSB rfl hI.2.2.2.2.2.2.2.2.2.2.2.2.2.2.2.2.2.2.2.2.2.2.2.2.2.2.2.2.2.2.2.2.2.1)))))))))
    have k_xSC : xSC W := by
      rw [hW]
      exact (uxSC rfl (uxSC rfl (uxSC rfl (uxSC rfl (uxSC rfl (uxSC rfl (uxSC rfl (uxSC rfl (uxSC rfl hI.2.2.2.2.2.2.2.2.2.2.2.2.2.2.2.2.2.2.2.2.2.2.2.2.2.2.2.2.2.2.2.2.2.2.1)))))))))
    have k_xSD : xSD W := by
      have r91_240 : W 91 240 = 1 * ρ 0 + 0 := by rw [hW, sU_ne (fun z => by omega), sU_ne (fun z => by omega), sU_ne (fun z => by omega), sU_ne (fun z => by omega), sU_ne (fun z => by omega), sU_ne (fun z => by omega), sU_ne (fun z => by omega), sU_ne (fun z => by omega), sU_at]
      have r91_241 : W 91 241 = 1 * ρ 0 + 0 := by rw [hW, sU_ne (fun z => by omega), sU_ne (fun z => by omega), sU_ne (fun z => by omega), sU_ne (fun z => by omega), sU_ne (fun z => by omega), sU_ne (fun z => by omega), sU_ne (fun z => by omega), sU_at]
      have r91_242 : W 91 242 = 10 * ρ 0 + 0 := by rw [hW, sU_ne (fun z => by omega), sU_ne (fun z => by omega), sU_ne (fun z => by omega), sU_ne (fun z => by omega), sU_ne (fun z => by omega), sU_ne (fun z => by omega), sU_at]
      have r91_243 : W 91 243 = 1024 * ρ 0 + 0 := by rw [hW, sU_ne (fun z => by omega), sU_ne (fun z => by omega), sU_ne (fun z => by omega), sU_ne (fun z => by omega), sU_ne (fun z => by omega), sU_at]
      have r91_244 : W 91 244 = 1 * (xop 5 (ρ 1) 1024) + 0 := by rw [hW, sU_ne (fun z => by omega), sU_ne (fun z => by omega), sU_at]
      have r91_245 : W 91 245 = 0 := by rw [hW, sU_ne (fun z => by omega), sU_ne (fun z => by omega), sU_ne (fun z => by omega), sU_ne (fun z => by omega), sU_at]
      have r91_246 : W 91 246 = 1 * ρ 1 + 0 := by rw [hW, sU_ne (fun z => by omega), sU_ne (fun z => by omega), sU_ne (fun z => by omega), sU_at]
      have r91_247 : W 91 247 = 1024 * ρ 0 + 0 := by rw [hW, sU_ne (fun z => by omega), sU_at]
      intro h
      rw [r91_241, r91_242, r91_243, r91_244, r91_245, r91_246, r91_247, h0]
      refine ⟨by decide, ?_, by decide⟩
      rw [show ((1024 : Int) * 1 + 0) = 1024 from rfl, show (1 * ρ 1 + 0 : Int) = ρ 1 by omega]
      omega
    have k_xSE : xSE W := by
      have r : W 91 249 = 0 := by
        have e := m0
        rw [hW, sU_ne (fun z => by omega), sU_ne (fun z => by omega), sU_ne (fun z => by omega), sU_ne (fun z => by omega), sU_ne (fun z => by omega), sU_ne (fun z => by omega), sU_ne (fun z => by omega), sU_ne (fun z => by omega), sU_ne (fun z => by omega)]
        omega
      intro h
      rw [r] at h
      omega
    have k_xSW : xSW W := by
      rw [hW]
      exact (uxSW rfl (uxSW rfl (uxSW rfl (uxSW rfl (uxSW rfl (uxSW rfl (uxSW rfl (uxSW rfl (uxSW rfl hI.2.2.2.2.2.2.2.2.2.2.2.2.2.2.2.2.2.2.2.2.2.2.2.2.2.2.2.2.2.2.2.2.2.2.2.2.2.1)))))))))
    have k_xST : xST W := by
      rw [hW]
      exact (uxST rfl (uxST rfl (uxST rfl (uxST rfl (uxST rfl (uxST rfl (uxST rfl (uxST rfl (uxST rfl hI.2.2.2.2.2.2.2.2.2.2.2.2.2.2.2.2.2.2.2.2.2.2.2.2.2.2.2.2.2.2.2.2.2.2.2.2.2.2.1)))))))))
    have k_xSP : xSP W := by
      rw [hW]
      exact (uxSP rfl (uxSP rfl (uxSP rfl (uxSP rfl (uxSP rfl (uxSP rfl (uxSP rfl (uxSP rfl (uxSP rfl hI.2.2.2.2.2.2.2.2.2.2.2.2.2.2.2.2.2.2.2.2.2.2.2.2.2.2.2.2.2.2.2.2.2.2.2.2.2.2.2.1)))))))))
    have k_xSL : xSL W := by
      rw [hW]
      exact (uxSL rfl (uxSL rfl (uxSL rfl (uxSL rfl (uxSL rfl (uxSL rfl (uxSL rfl (uxSL rfl (uxSL rfl hI.2.2.2.2.2.2.2.2.2.2.2.2.2.2.2.2.2.2.2.2.2.2.2.2.2.2.2.2.2.2.2.2.2.2.2.2.2.2.2.2.1)))))))))
    have k_xSM : xSM W := by
      rw [hW]
      exact (uxSM rfl (uxSM rfl (uxSM rfl (uxSM rfl (uxSM rfl (uxSM rfl (uxSM rfl (uxSM rfl (uxSM rfl hI.2.2.2.2.2.2.2.2.2.2.2.2.2.2.2.2.2.2.2.2.2.2.2.2.2.2.2.2.2.2.2.2.2.2.2.2.2.2.2.2.2.1)))))))))
    have k_xSI : xSI W := by
      rw [hW]
      exact (uxSI rfl (uxSI rfl (uxSI rfl (uxSI rfl (uxSI rfl (uxSI rfl (uxSI rfl (uxSI rfl (uxSI rfl hI.2.2.2.2.2.2.2.2.2.2.2.2.2.2.2.2.2.2.2.2.2.2.2.2.2.2.2.2.2.2.2.2.2.2.2.2.2.2.2.2.2.2)))))))))
    have k_XC : XC W := ⟨k_xS1, k_xS2, k_xS3, k_xS4, k_xS5, k_xS6, k_xS7, k_xS8, k_xS9, k_xSA, k_xSG, k_xSF, k_xSB, k_xSC, k_xSD, k_xSE, k_xSW, k_xST, k_xSP, k_xSL, k_xSM, k_xSI⟩
    have kXB : XB W := ⟨k_xN1, k_xN2, k_xN3, k_xN4, k_xN5, k_xN6, k_xH1, k_xK1, k_xC1, k_xRW, k_xWT, k_xCU, k_xG2, k_xG3, k_xG4, k_xG5, k_xG6, k_XC⟩
    exact ⟨base, k2, k3, kXA, kXB⟩
-- nmTieR94_0
def xr_552 : qRu := (4, [[(-1, 0), (1, 3)]], [(4, 100, [(2, 0)]), (4, 104, [(1, 3)]), (94, 9, [(1, 1)]), (3, 60, [(1, 2)])], [], [], [[(1, 1), (-1, 2)], [(-1, 1), (1, 2)]])
theorem xo_552 : qRok xr_552 := by
  intro ρ M h0 hf hm hI
  have f0 := hf [(-1, 0), (1, 3)] (by decide)
  simp only [qD, h0] at f0
  have m0 : M 4 100 = 2 * ρ 0 + 0 := hm (4, 100, [(2, 0)]) (by decide)
  have m1 : M 4 104 = 1 * ρ 3 + 0 := hm (4, 104, [(1, 3)]) (by decide)
  have m2 : M 94 9 = 1 * ρ 1 + 0 := hm (94, 9, [(1, 1)]) (by decide)
  have m3 : M 3 60 = 1 * ρ 2 + 0 := hm (3, 60, [(1, 2)]) (by decide)
  simp only [h0] at m0
  obtain ⟨a0, a1, a2⟩ := gx_xS5 hI (by omega)
  have t := a0 0 (by omega) (by omega)
  have t : M 94 9 = M 3 60 := t
  refine ⟨ρ, fun _ _ => rfl, fun f h => ?_, ?_⟩
  · have h : f ∈ ([[(1, 1), (-1, 2)], [(-1, 1), (1, 2)]] : List qF) := h
    simp only [List.mem_cons, List.not_mem_nil, or_false] at h
    rcases h with rfl | rfl
    · show 0 ≤ 1 * ρ 1 + (-1 * ρ 2 + 0)
      (try rw [h0]); omega
    · show 0 ≤ -1 * ρ 1 + (1 * ρ 2 + 0)
      (try rw [h0]); omega
  · show sI M
    exact hI
-- nmUpR94_0
def xr_553 : qRu := (3, [[(1, 1), (-1, 2)], [(-1, 1), (1, 2)]], [(4, 100, [(2, 0)]), (4, 104, []), (94, 9, [(1, 1)]), (3, 60, [(1, 2)])], [], [(4, 104, [(1, 0)])], [])
theorem xo_553 : qRok xr_553 := by
  intro ρ M h0 hf hm hI
  have f0 := hf [(1, 1), (-1, 2)] (by decide)
  have f1 := hf [(-1, 1), (1, 2)] (by decide)
  simp only [qD, h0] at f0 f1
  have m0 : M 4 100 = 2 * ρ 0 + 0 := hm (4, 100, [(2, 0)]) (by decide)
  have m1 : M 4 104 = 0 := hm (4, 104, []) (by decide)
  have m2 : M 94 9 = 1 * ρ 1 + 0 := hm (94, 9, [(1, 1)]) (by decide)
  have m3 : M 3 60 = 1 * ρ 2 + 0 := hm (3, 60, [(1, 2)]) (by decide)
  simp only [h0] at m0
  have qxS5 := hI.2.2.2.2.2.2.2.2.2.2.2.2.2.2.2.2.2.2.2.2.2.2.2.2.2.1
  refine ⟨ρ, fun _ _ => rfl, fun f h => ?_, ?_⟩
  · exact nomatch h
  · show sI (sU M 4 104 (1 * ρ 0 + 0))
    obtain ⟨W, hW⟩ : ∃ W, W = (sU M 4 104 (1 * ρ 0 + 0)) := ⟨_, rfl⟩
    rw [← hW]
    have base : sI0 W := by
      rw [hW]
      exact (si_u0 hI.1 (fun r hr => by cases hr))
    have k2 : XI2 W := by
      rw [hW]
      exact (xi2_u rfl hI.2.1)
    have k3 : XI3 W := by
      rw [hW]
      exact (xi3_u rfl hI.2.2.1)
    have kXA : XA W := by
      rw [hW]
      exact (uXA rfl hI.2.2.2.1)
    have k_xN1 : xN1 W := by
      rw [hW]
      exact (uxN1 rfl hI.2.2.2.2.1)
    have k_xN2 : xN2 W := by
      rw [hW]
      exact (uxN2 rfl hI.2.2.2.2.2.1)
    have k_xN3 : xN3 W := by
      rw [hW]
      exact (uxN3 rfl hI.2.2.2.2.2.2.1)
    have k_xN4 : xN4 W := by
      rw [hW]
      exact (uxN4 rfl hI.2.2.2.2.2.2.2.1)
    have k_xN5 : xN5 W := by
      rw [hW]
      exact (uxN5 rfl hI.2.2.2.2.2.2.2.2.1)
    have k_xN6 : xN6 W := by
      rw [hW]
      exact (uxN6 rfl hI.2.2.2.2.2.2.2.2.2.1)
    have k_xH1 : xH1 W := by
      rw [hW]
      exact (uxH1 rfl hI.2.2.2.2.2.2.2.2.2.2.1)
    have k_xK1 : xK1 W := by
      rw [hW]
      exact (uxK1 rfl hI.2.2.2.2.2.2.2.2.2.2.2.1)
    have k_xC1 : xC1 W := by
      rw [hW]
      exact (uxC1 rfl hI.2.2.2.2.2.2.2.2.2.2.2.2.1)
    have k_xRW : xRW W := by
      rw [hW]
      exact (uxRW rfl hI.2.2.2.2.2.2.2.2.2.2.2.2.2.1)
    have k_xWT : xWT W := by
      rw [hW]
      exact (uxWT rfl hI.2.2.2.2.2.2.2.2.2.2.2.2.2.2.1)
    have k_xCU : xCU W := by
      rw [hW]
      exact (uxCU rfl hI.2.2.2.2.2.2.2.2.2.2.2.2.2.2.2.1)
    have k_xG2 : xG2 W := by
      rw [hW]
      exact (uxG2 rfl hI.2.2.2.2.2.2.2.2.2.2.2.2.2.2.2.2.1)
    have k_xG3 : xG3 W := by
      rw [hW]
      exact (uxG3 rfl hI.2.2.2.2.2.2.2.2.2.2.2.2.2.2.2.2.2.1)
    have k_xG4 : xG4 W := by
      rw [hW]
      exact (uxG4 rfl hI.2.2.2.2.2.2.2.2.2.2.2.2.2.2.2.2.2.2.1)
    have k_xG5 : xG5 W := by
      rw [hW]
      exact (uxG5 rfl hI.2.2.2.2.2.2.2.2.2.2.2.2.2.2.2.2.2.2.2.1)
    have k_xG6 : xG6 W := by
      rw [hW]
      exact (uxG6 rfl hI.2.2.2.2.2.2.2.2.2.2.2.2.2.2.2.2.2.2.2.2.1)
    have k_xS1 : xS1 W := by
      rw [hW]
      exact (uxS1 rfl hI.2.2.2.2.2.2.2.2.2.2.2.2.2.2.2.2.2.2.2.2.2.1)
    have k_xS2 : xS2 W := by
      rw [hW]
      exact (uxS2 rfl hI.2.2.2.2.2.2.2.2.2.2.2.2.2.2.2.2.2.2.2.2.2.2.1)
    have k_xS3 : xS3 W := by
      rw [hW]
      exact (uxS3 rfl hI.2.2.2.2.2.2.2.2.2.2.2.2.2.2.2.2.2.2.2.2.2.2.2.1)
    have k_xS4 : xS4 W := by
      have r : W 4 100 = 2 := by
        have e := m0
        rw [hW, sU_ne (fun z => by omega)]
        omega
      intro h
      rw [r] at h
      omega
    have k_xS5 : xS5 W := by
      have r4_100 : W 4 100 = M 4 100 := by rw [hW, sU_ne (fun z => by omega)]
      have r4_104 : W 4 104 = 1 * ρ 0 + 0 := by rw [hW, sU_at]
      have r4_105 : W 4 105 = M 4 105 := by rw [hW, sU_ne (fun z => by omega)]
      have r4_106 : W 4 106 = M 4 106 := by rw [hW, sU_ne (fun z => by omega)]
      have c3 : ∀ k, W 3 k = M 3 k := fun k => by rw [hW, sU_ne (fun z => by omega)]
      have e3 : W 3 = M 3 := funext c3
      have c94 : ∀ k, W 94 k = M 94 k := fun k => by rw [hW, sU_ne (fun z => by omega)]
      have e94 : W 94 = M 94 := funext c94
      have c100 : ∀ k, W 100 k = M 100 k := fun k => by rw [hW, sU_ne (fun z => by omega)]
      have e100 : W 100 = M 100 := funext c100
      have c104 : ∀ k, W 104 k = M 104 k := fun k => by rw [hW, sU_ne (fun z => by omega)]
      have e104 : W 104 = M 104 := funext c104
      intro h
      obtain ⟨a0, a1, a2⟩ := gx_xS5 hI (by omega)
      rw [r4_104, r4_105, r4_106, e3, e94, e100, e104]
      refine ⟨fun j hj ht => ?_, fun j hj ht => ?_, fun j hj ht => ?_⟩
      · by_cases hJ : j = 0
        · subst hJ
          show M 94 9 = M 3 60
          omega
        · exact a0 j hj (by (try rw [h0] at ht); omega)
      · exact a1 j hj (by omega)
      · exact a2 j hj (by omega)
    have k_xS6 : xS6 W := by
      rw [hW]
      exact (uxS6 rfl hI.2.2.2.2.2.2.2.2.2.2.2.2.2.2.2.2.2.2.2.2.2.2.2.2.2.2.1)
    have k_xS7 : xS7 W := by
      rw [hW]
      exact (uxS7 rfl hI.2.2.2.2.2.2.2.2.2.2.2.2.2.2.2.2.2.2.2.2.2.2.2.2.2.2.2.1)
    have k_xS8 : xS8 W := by
      rw [hW]
      exact (uxS8 rfl hI.2.2.2.2.2.2.2.2.2.2.2.2.2.2.2.2.2.2.2.2.2.2.2.2.2.2.2.2.1)
    have k_xS9 : xS9 W := by
      rw [hW]
      exact (uxS9 rfl hI.2.2.2.2.2.2.2.2.2.2.2.2.2.2.2.2.2.2.2.2.2.2.2.2.2.2.2.2.2.1)
    have k_xSA : xSA W := by
      rw [hW]
      exact (uxSA rfl hI.2.2.2.2.2.2.2.2.2.2.2.2.2.2.2.2.2.2.2.2.2.2.2.2.2.2.2.2.2.2.1)
    have k_xSG : xSG W := by
      rw [hW]
      exact (uxSG rfl hI.2.2.2.2.2.2.2.2.2.2.2.2.2.2.2.2.2.2.2.2.2.2.2.2.2.2.2.2.2.2.2.1)
    have k_xSF : xSF W := by
      rw [hW]
      exact (uxSF rfl hI.2.2.2.2.2.2.2.2.2.2.2.2.2.2.2.2.2.2.2.2.2.2.2.2.2.2.2.2.2.2.2.2.1)
    have k_xSB : xSB W := by
      rw [hW]
      exact (uxSB rfl hI.2.2.2.2.2.2.2.2.2.2.2.2.2.2.2.2.2.2.2.2.2.2.2.2.2.2.2.2.2.2.2.2.2.1)
    have k_xSC : xSC W := by
      rw [hW]
      exact (uxSC rfl hI.2.2.2.2.2.2.2.2.2.2.2.2.2.2.2.2.2.2.2.2.2.2.2.2.2.2.2.2.2.2.2.2.2.2.1)
    have k_xSD : xSD W := by
      rw [hW]
      exact (uxSD rfl hI.2.2.2.2.2.2.2.2.2.2.2.2.2.2.2.2.2.2.2.2.2.2.2.2.2.2.2.2.2.2.2.2.2.2.2.1)
    have k_xSE : xSE W := by
      rw [hW]
      exact (uxSE rfl hI.2.2.2.2.2.2.2.2.2.2.2.2.2.2.2.2.2.2.2.2.2.2.2.2.2.2.2.2.2.2.2.2.2.2.2.2.1)
    have k_xSW : xSW W := by
      rw [hW]
      exact (uxSW rfl hI.2.2.2.2.2.2.2.2.2.2.2.2.2.2.2.2.2.2.2.2.2.2.2.2.2.2.2.2.2.2.2.2.2.2.2.2.2.1)
    have k_xST : xST W := by
      rw [hW]
      exact (uxST rfl hI.2.2.2.2.2.2.2.2.2.2.2.2.2.2.2.2.2.2.2.2.2.2.2.2.2.2.2.2.2.2.2.2.2.2.2.2.2.2.1)
    have k_xSP : xSP W := by
      rw [hW]
      exact (uxSP rfl hI.2.2.2.2.2.2.2.2.2.2.2.2.2.2.2.2.2.2.2.2.2.2.2.2.2.2.2.2.2.2.2.2.2.2.2.2.2.2.2.1)
    have k_xSL : xSL W := by
      rw [hW]
      exact (uxSL rfl hI.2.2.2.2.2.2.2.2.2.2.2.2.2.2.2.2.2.2.2.2.2.2.2.2.2.2.2.2.2.2.2.2.2.2.2.2.2.2.2.2.1)
    have k_xSM : xSM W := by
      rw [hW]
      exact (uxSM rfl hI.2.2.2.2.2.2.2.2.2.2.2.2.2.2.2.2.2.2.2.2.2.2.2.2.2.2.2.2.2.2.2.2.2.2.2.2.2.2.2.2.2.1)
    have k_xSI : xSI W := by
      rw [hW]
      exact (uxSI rfl hI.2.2.2.2.2.2.2.2.2.2.2.2.2.2.2.2.2.2.2.2.2.2.2.2.2.2.2.2.2.2.2.2.2.2.2.2.2.2.2.2.2.2)
    have k_XC : XC W := ⟨k_xS1, k_xS2, k_xS3, k_xS4, k_xS5, k_xS6, k_xS7, k_xS8, k_xS9, k_xSA, k_xSG, k_xSF, k_xSB, k_xSC, k_xSD, k_xSE, k_xSW, k_xST, k_xSP, k_xSL, k_xSM, k_xSI⟩
    have kXB : XB W := ⟨k_xN1, k_xN2, k_xN3, k_xN4, k_xN5, k_xN6, k_xH1, k_xK1, k_xC1, k_xRW, k_xWT, k_xCU, k_xG2, k_xG3, k_xG4, k_xG5, k_xG6, k_XC⟩
    exact ⟨base, k2, k3, kXA, kXB⟩
-- nmTieR94_1
def xr_554 : qRu := (4, [[(-2, 0), (1, 3)]], [(4, 100, [(2, 0)]), (4, 104, [(1, 3)]), (94, 10, [(1, 1)]), (3, 61, [(1, 2)])], [], [], [[(1, 1), (-1, 2)], [(-1, 1), (1, 2)]])
theorem xo_554 : qRok xr_554 := by
  intro ρ M h0 hf hm hI
  have f0 := hf [(-2, 0), (1, 3)] (by decide)
  simp only [qD, h0] at f0
  have m0 : M 4 100 = 2 * ρ 0 + 0 := hm (4, 100, [(2, 0)]) (by decide)
  have m1 : M 4 104 = 1 * ρ 3 + 0 := hm (4, 104, [(1, 3)]) (by decide)
  have m2 : M 94 10 = 1 * ρ 1 + 0 := hm (94, 10, [(1, 1)]) (by decide)
  have m3 : M 3 61 = 1 * ρ 2 + 0 := hm (3, 61, [(1, 2)]) (by decide)
  simp only [h0] at m0
  obtain ⟨a0, a1, a2⟩ := gx_xS5 hI (by omega)
  have t := a0 1 (by omega) (by omega)
  have t : M 94 10 = M 3 61 := t
  refine ⟨ρ, fun _ _ => rfl, fun f h => ?_, ?_⟩
  · have h : f ∈ ([[(1, 1), (-1, 2)], [(-1, 1), (1, 2)]] : List qF) := h
    simp only [List.mem_cons, List.not_mem_nil, or_false] at h
    rcases h with rfl | rfl
    · show 0 ≤ 1 * ρ 1 + (-1 * ρ 2 + 0)
      (try rw [h0]); omega
    · show 0 ≤ -1 * ρ 1 + (1 * ρ 2 + 0)
      (try rw [h0]); omega
  · show sI M
    exact hI
-- nmUpR94_1
def xr_555 : qRu := (3, [[(1, 1), (-1, 2)], [(-1, 1), (1, 2)]], [(4, 100, [(2, 0)]), (4, 104, [(1, 0)]), (94, 10, [(1, 1)]), (3, 61, [(1, 2)])], [], [(4, 104, [(2, 0)])], [])
theorem xo_555 : qRok xr_555 := by
  intro ρ M h0 hf hm hI
  have f0 := hf [(1, 1), (-1, 2)] (by decide)
  have f1 := hf [(-1, 1), (1, 2)] (by decide)
  simp only [qD, h0] at f0 f1
  have m0 : M 4 100 = 2 * ρ 0 + 0 := hm (4, 100, [(2, 0)]) (by decide)
  have m1 : M 4 104 = 1 * ρ 0 + 0 := hm (4, 104, [(1, 0)]) (by decide)
  have m2 : M 94 10 = 1 * ρ 1 + 0 := hm (94, 10, [(1, 1)]) (by decide)
  have m3 : M 3 61 = 1 * ρ 2 + 0 := hm (3, 61, [(1, 2)]) (by decide)
  simp only [h0] at m0 m1
  have qxS5 := hI.2.2.2.2.2.2.2.2.2.2.2.2.2.2.2.2.2.2.2.2.2.2.2.2.2.1
  refine ⟨ρ, fun _ _ => rfl, fun f h => ?_, ?_⟩
  · exact nomatch h
  · show sI (sU M 4 104 (2 * ρ 0 + 0))
    obtain ⟨W, hW⟩ : ∃ W, W = (sU M 4 104 (2 * ρ 0 + 0)) := ⟨_, rfl⟩
    rw [← hW]
    have base : sI0 W := by
      rw [hW]
      exact (si_u0 hI.1 (fun r hr => by cases hr))
    have k2 : XI2 W := by
      rw [hW]
      exact (xi2_u rfl hI.2.1)
    have k3 : XI3 W := by
      rw [hW]
      exact (xi3_u rfl hI.2.2.1)
    have kXA : XA W := by
      rw [hW]
      exact (uXA rfl hI.2.2.2.1)
    have k_xN1 : xN1 W := by
      rw [hW]
      exact (uxN1 rfl hI.2.2.2.2.1)
    have k_xN2 : xN2 W := by
      rw [hW]
      exact (uxN2 rfl hI.2.2.2.2.2.1)
    have k_xN3 : xN3 W := by
      rw [hW]
      exact (uxN3 rfl hI.2.2.2.2.2.2.1)
    have k_xN4 : xN4 W := by
      rw [hW]
      exact (uxN4 rfl hI.2.2.2.2.2.2.2.1)
    have k_xN5 : xN5 W := by
      rw [hW]
      exact (uxN5 rfl hI.2.2.2.2.2.2.2.2.1)
    have k_xN6 : xN6 W := by
      rw [hW]
      exact (uxN6 rfl hI.2.2.2.2.2.2.2.2.2.1)
    have k_xH1 : xH1 W := by
      rw [hW]
      exact (uxH1 rfl hI.2.2.2.2.2.2.2.2.2.2.1)
    have k_xK1 : xK1 W := by
      rw [hW]
      exact (uxK1 rfl hI.2.2.2.2.2.2.2.2.2.2.2.1)
    have k_xC1 : xC1 W := by
      rw [hW]
      exact (uxC1 rfl hI.2.2.2.2.2.2.2.2.2.2.2.2.1)
    have k_xRW : xRW W := by
      rw [hW]
      exact (uxRW rfl hI.2.2.2.2.2.2.2.2.2.2.2.2.2.1)
    have k_xWT : xWT W := by
      rw [hW]
      exact (uxWT rfl hI.2.2.2.2.2.2.2.2.2.2.2.2.2.2.1)
    have k_xCU : xCU W := by
      rw [hW]
      exact (uxCU rfl hI.2.2.2.2.2.2.2.2.2.2.2.2.2.2.2.1)
    have k_xG2 : xG2 W := by
      rw [hW]
      exact (uxG2 rfl hI.2.2.2.2.2.2.2.2.2.2.2.2.2.2.2.2.1)
    have k_xG3 : xG3 W := by
      rw [hW]
      exact (uxG3 rfl hI.2.2.2.2.2.2.2.2.2.2.2.2.2.2.2.2.2.1)
    have k_xG4 : xG4 W := by
      rw [hW]
      exact (uxG4 rfl hI.2.2.2.2.2.2.2.2.2.2.2.2.2.2.2.2.2.2.1)
    have k_xG5 : xG5 W := by
      rw [hW]
      exact (uxG5 rfl hI.2.2.2.2.2.2.2.2.2.2.2.2.2.2.2.2.2.2.2.1)
    have k_xG6 : xG6 W := by
      rw [hW]
      exact (uxG6 rfl hI.2.2.2.2.2.2.2.2.2.2.2.2.2.2.2.2.2.2.2.2.1)
    have k_xS1 : xS1 W := by
      rw [hW]
      exact (uxS1 rfl hI.2.2.2.2.2.2.2.2.2.2.2.2.2.2.2.2.2.2.2.2.2.1)
    have k_xS2 : xS2 W := by
      rw [hW]
      exact (uxS2 rfl hI.2.2.2.2.2.2.2.2.2.2.2.2.2.2.2.2.2.2.2.2.2.2.1)
    have k_xS3 : xS3 W := by
      rw [hW]
      exact (uxS3 rfl hI.2.2.2.2.2.2.2.2.2.2.2.2.2.2.2.2.2.2.2.2.2.2.2.1)
    have k_xS4 : xS4 W := by
      have r : W 4 100 = 2 := by
        have e := m0
        rw [hW, sU_ne (fun z => by omega)]
        omega
      intro h
      rw [r] at h
      omega
    have k_xS5 : xS5 W := by
      have r4_100 : W 4 100 = M 4 100 := by rw [hW, sU_ne (fun z => by omega)]
      have r4_104 : W 4 104 = 2 * ρ 0 + 0 := by rw [hW, sU_at]
      have r4_105 : W 4 105 = M 4 105 := by rw [hW, sU_ne (fun z => by omega)]
      have r4_106 : W 4 106 = M 4 106 := by rw [hW, sU_ne (fun z => by omega)]
      have c3 : ∀ k, W 3 k = M 3 k := fun k => by rw [hW, sU_ne (fun z => by omega)]
      have e3 : W 3 = M 3 := funext c3
      have c94 : ∀ k, W 94 k = M 94 k := fun k => by rw [hW, sU_ne (fun z => by omega)]
      have e94 : W 94 = M 94 := funext c94
      have c100 : ∀ k, W 100 k = M 100 k := fun k => by rw [hW, sU_ne (fun z => by omega)]
      have e100 : W 100 = M 100 := funext c100
      have c104 : ∀ k, W 104 k = M 104 k := fun k => by rw [hW, sU_ne (fun z => by omega)]
      have e104 : W 104 = M 104 := funext c104
      intro h
      obtain ⟨a0, a1, a2⟩ := gx_xS5 hI (by omega)
      rw [r4_104, r4_105, r4_106, e3, e94, e100, e104]
      refine ⟨fun j hj ht => ?_, fun j hj ht => ?_, fun j hj ht => ?_⟩
      · by_cases hJ : j = 1
        · subst hJ
          show M 94 10 = M 3 61
          omega
        · exact a0 j hj (by (try rw [h0] at ht); omega)
      · exact a1 j hj (by omega)
      · exact a2 j hj (by omega)
    have k_xS6 : xS6 W := by
      rw [hW]
      exact (uxS6 rfl hI.2.2.2.2.2.2.2.2.2.2.2.2.2.2.2.2.2.2.2.2.2.2.2.2.2.2.1)
    have k_xS7 : xS7 W := by
      rw [hW]
      exact (uxS7 rfl hI.2.2.2.2.2.2.2.2.2.2.2.2.2.2.2.2.2.2.2.2.2.2.2.2.2.2.2.1)
    have k_xS8 : xS8 W := by
      rw [hW]
      exact (uxS8 rfl hI.2.2.2.2.2.2.2.2.2.2.2.2.2.2.2.2.2.2.2.2.2.2.2.2.2.2.2.2.1)
    have k_xS9 : xS9 W := by
      rw [hW]
      exact (uxS9 rfl hI.2.2.2.2.2.2.2.2.2.2.2.2.2.2.2.2.2.2.2.2.2.2.2.2.2.2.2.2.2.1)
    have k_xSA : xSA W := by
      rw [hW]
      exact (uxSA rfl hI.2.2.2.2.2.2.2.2.2.2.2.2.2.2.2.2.2.2.2.2.2.2.2.2.2.2.2.2.2.2.1)
    have k_xSG : xSG W := by
      rw [hW]
      exact (uxSG rfl hI.2.2.2.2.2.2.2.2.2.2.2.2.2.2.2.2.2.2.2.2.2.2.2.2.2.2.2.2.2.2.2.1)
    have k_xSF : xSF W := by
      rw [hW]
      exact (uxSF rfl hI.2.2.2.2.2.2.2.2.2.2.2.2.2.2.2.2.2.2.2.2.2.2.2.2.2.2.2.2.2.2.2.2.1)
    have k_xSB : xSB W := by
      rw [hW]
      exact (uxSB rfl hI.2.2.2.2.2.2.2.2.2.2.2.2.2.2.2.2.2.2.2.2.2.2.2.2.2.2.2.2.2.2.2.2.2.1)
    have k_xSC : xSC W := by
      rw [hW]
      exact (uxSC rfl hI.2.2.2.2.2.2.2.2.2.2.2.2.2.2.2.2.2.2.2.2.2.2.2.2.2.2.2.2.2.2.2.2.2.2.1)
    have k_xSD : xSD W := by
      rw [hW]
      exact (uxSD rfl hI.2.2.2.2.2.2.2.2.2.2.2.2.2.2.2.2.2.2.2.2.2.2.2.2.2.2.2.2.2.2.2.2.2.2.2.1)
    have k_xSE : xSE W := by
      rw [hW]
      exact (uxSE rfl hI.2.2.2.2.2.2.2.2.2.2.2.2.2.2.2.2.2.2.2.2.2.2.2.2.2.2.2.2.2.2.2.2.2.2.2.2.1)
    have k_xSW : xSW W := by
      rw [hW]
      exact (uxSW rfl hI.2.2.2.2.2.2.2.2.2.2.2.2.2.2.2.2.2.2.2.2.2.2.2.2.2.2.2.2.2.2.2.2.2.2.2.2.2.1)
    have k_xST : xST W := by
      rw [hW]
      exact (uxST rfl hI.2.2.2.2.2.2.2.2.2.2.2.2.2.2.2.2.2.2.2.2.2.2.2.2.2.2.2.2.2.2.2.2.2.2.2.2.2.2.1)
    have k_xSP : xSP W := by
      rw [hW]
      exact (uxSP rfl hI.2.2.2.2.2.2.2.2.2.2.2.2.2.2.2.2.2.2.2.2.2.2.2.2.2.2.2.2.2.2.2.2.2.2.2.2.2.2.2.1)
    have k_xSL : xSL W := by
      rw [hW]
      exact (uxSL rfl hI.2.2.2.2.2.2.2.2.2.2.2.2.2.2.2.2.2.2.2.2.2.2.2.2.2.2.2.2.2.2.2.2.2.2.2.2.2.2.2.2.1)
    have k_xSM : xSM W := by
      rw [hW]
      exact (uxSM rfl hI.2.2.2.2.2.2.2.2.2.2.2.2.2.2.2.2.2.2.2.2.2.2.2.2.2.2.2.2.2.2.2.2.2.2.2.2.2.2.2.2.2.1)
    have k_xSI : xSI W := by
      rw [hW]
      exact (uxSI rfl hI.2.2.2.2.2.2.2.2.2.2.2.2.2.2.2.2.2.2.2.2.2.2.2.2.2.2.2.2.2.2.2.2.2.2.2.2.2.2.2.2.2.2)
    have k_XC : XC W := ⟨k_xS1, k_xS2, k_xS3, k_xS4, k_xS5, k_xS6, k_xS7, k_xS8, k_xS9, k_xSA, k_xSG, k_xSF, k_xSB, k_xSC, k_xSD, k_xSE, k_xSW, k_xST, k_xSP, k_xSL, k_xSM, k_xSI⟩
    have kXB : XB W := ⟨k_xN1, k_xN2, k_xN3, k_xN4, k_xN5, k_xN6, k_xH1, k_xK1, k_xC1, k_xRW, k_xWT, k_xCU, k_xG2, k_xG3, k_xG4, k_xG5, k_xG6, k_XC⟩
    exact ⟨base, k2, k3, kXA, kXB⟩
-- nmTieR94_2
def xr_556 : qRu := (4, [[(-3, 0), (1, 3)]], [(4, 100, [(2, 0)]), (4, 104, [(1, 3)]), (94, 11, [(1, 1)]), (3, 62, [(1, 2)])], [], [], [[(1, 1), (-1, 2)], [(-1, 1), (1, 2)]])
theorem xo_556 : qRok xr_556 := by
  intro ρ M h0 hf hm hI
  have f0 := hf [(-3, 0), (1, 3)] (by decide)
  simp only [qD, h0] at f0
  have m0 : M 4 100 = 2 * ρ 0 + 0 := hm (4, 100, [(2, 0)]) (by decide)
  have m1 : M 4 104 = 1 * ρ 3 + 0 := hm (4, 104, [(1, 3)]) (by decide)
  have m2 : M 94 11 = 1 * ρ 1 + 0 := hm (94, 11, [(1, 1)]) (by decide)
  have m3 : M 3 62 = 1 * ρ 2 + 0 := hm (3, 62, [(1, 2)]) (by decide)
  simp only [h0] at m0
  obtain ⟨a0, a1, a2⟩ := gx_xS5 hI (by omega)
  have t := a0 2 (by omega) (by omega)
  have t : M 94 11 = M 3 62 := t
  refine ⟨ρ, fun _ _ => rfl, fun f h => ?_, ?_⟩
  · have h : f ∈ ([[(1, 1), (-1, 2)], [(-1, 1), (1, 2)]] : List qF) := h
    simp only [List.mem_cons, List.not_mem_nil, or_false] at h
    rcases h with rfl | rfl
    · show 0 ≤ 1 * ρ 1 + (-1 * ρ 2 + 0)
      (try rw [h0]); omega
    · show 0 ≤ -1 * ρ 1 + (1 * ρ 2 + 0)
      (try rw [h0]); omega
  · show sI M
    exact hI
-- nmUpR94_2
def xr_557 : qRu := (3, [[(1, 1), (-1, 2)], [(-1, 1), (1, 2)]], [(4, 100, [(2, 0)]), (4, 104, [(2, 0)]), (94, 11, [(1, 1)]), (3, 62, [(1, 2)])], [], [(4, 104, [(3, 0)])], [])
theorem xo_557 : qRok xr_557 := by
  intro ρ M h0 hf hm hI
  have f0 := hf [(1, 1), (-1, 2)] (by decide)
  have f1 := hf [(-1, 1), (1, 2)] (by decide)
  simp only [qD, h0] at f0 f1
  have m0 : M 4 100 = 2 * ρ 0 + 0 := hm (4, 100, [(2, 0)]) (by decide)
  have m1 : M 4 104 = 2 * ρ 0 + 0 := hm (4, 104, [(2, 0)]) (by decide)
  have m2 : M 94 11 = 1 * ρ 1 + 0 := hm (94, 11, [(1, 1)]) (by decide)
  have m3 : M 3 62 = 1 * ρ 2 + 0 := hm (3, 62, [(1, 2)]) (by decide)
  simp only [h0] at m0 m1
  have qxS5 := hI.2.2.2.2.2.2.2.2.2.2.2.2.2.2.2.2.2.2.2.2.2.2.2.2.2.1
  refine ⟨ρ, fun _ _ => rfl, fun f h => ?_, ?_⟩
  · exact nomatch h
  · show sI (sU M 4 104 (3 * ρ 0 + 0))
    obtain ⟨W, hW⟩ : ∃ W, W = (sU M 4 104 (3 * ρ 0 + 0)) := ⟨_, rfl⟩
    rw [← hW]
    have base : sI0 W := by
      rw [hW]
      exact (si_u0 hI.1 (fun r hr => by cases hr))
    have k2 : XI2 W := by
      rw [hW]
      exact (xi2_u rfl hI.2.1)
    have k3 : XI3 W := by
      rw [hW]
      exact (xi3_u rfl hI.2.2.1)
    have kXA : XA W := by
      rw [hW]
      exact (uXA rfl hI.2.2.2.1)
    have k_xN1 : xN1 W := by
      rw [hW]
      exact (uxN1 rfl hI.2.2.2.2.1)
    have k_xN2 : xN2 W := by
      rw [hW]
      exact (uxN2 rfl hI.2.2.2.2.2.1)
    have k_xN3 : xN3 W := by
      rw [hW]
      exact (uxN3 rfl hI.2.2.2.2.2.2.1)
    have k_xN4 : xN4 W := by
      rw [hW]
      exact (uxN4 rfl hI.2.2.2.2.2.2.2.1)
    have k_xN5 : xN5 W := by
      rw [hW]
      exact (uxN5 rfl hI.2.2.2.2.2.2.2.2.1)
    have k_xN6 : xN6 W := by
      rw [hW]
      exact (uxN6 rfl hI.2.2.2.2.2.2.2.2.2.1)
    have k_xH1 : xH1 W := by
      rw [hW]
      exact (uxH1 rfl hI.2.2.2.2.2.2.2.2.2.2.1)
    have k_xK1 : xK1 W := by
      rw [hW]
      exact (uxK1 rfl hI.2.2.2.2.2.2.2.2.2.2.2.1)
    have k_xC1 : xC1 W := by
      rw [hW]
      exact (uxC1 rfl hI.2.2.2.2.2.2.2.2.2.2.2.2.1)
    have k_xRW : xRW W := by
      rw [hW]
      exact (uxRW rfl hI.2.2.2.2.2.2.2.2.2.2.2.2.2.1)
    have k_xWT : xWT W := by
      rw [hW]
      exact (uxWT rfl hI.2.2.2.2.2.2.2.2.2.2.2.2.2.2.1)
    have k_xCU : xCU W := by
      rw [hW]
      exact (uxCU rfl hI.2.2.2.2.2.2.2.2.2.2.2.2.2.2.2.1)
    have k_xG2 : xG2 W := by
      rw [hW]
      exact (uxG2 rfl hI.2.2.2.2.2.2.2.2.2.2.2.2.2.2.2.2.1)
    have k_xG3 : xG3 W := by
      rw [hW]
      exact (uxG3 rfl hI.2.2.2.2.2.2.2.2.2.2.2.2.2.2.2.2.2.1)
    have k_xG4 : xG4 W := by
      rw [hW]
      exact (uxG4 rfl hI.2.2.2.2.2.2.2.2.2.2.2.2.2.2.2.2.2.2.1)
    have k_xG5 : xG5 W := by
      rw [hW]
      exact (uxG5 rfl hI.2.2.2.2.2.2.2.2.2.2.2.2.2.2.2.2.2.2.2.1)
    have k_xG6 : xG6 W := by
      rw [hW]
      exact (uxG6 rfl hI.2.2.2.2.2.2.2.2.2.2.2.2.2.2.2.2.2.2.2.2.1)
    have k_xS1 : xS1 W := by
      rw [hW]
      exact (uxS1 rfl hI.2.2.2.2.2.2.2.2.2.2.2.2.2.2.2.2.2.2.2.2.2.1)
    have k_xS2 : xS2 W := by
      rw [hW]
      exact (uxS2 rfl hI.2.2.2.2.2.2.2.2.2.2.2.2.2.2.2.2.2.2.2.2.2.2.1)
    have k_xS3 : xS3 W := by
      rw [hW]
      exact (uxS3 rfl hI.2.2.2.2.2.2.2.2.2.2.2.2.2.2.2.2.2.2.2.2.2.2.2.1)
    have k_xS4 : xS4 W := by
      have r : W 4 100 = 2 := by
        have e := m0
        rw [hW, sU_ne (fun z => by omega)]
        omega
      intro h
      rw [r] at h
      omega
    have k_xS5 : xS5 W := by
      have r4_100 : W 4 100 = M 4 100 := by rw [hW, sU_ne (fun z => by omega)]
      have r4_104 : W 4 104 = 3 * ρ 0 + 0 := by rw [hW, sU_at]
      have r4_105 : W 4 105 = M 4 105 := by rw [hW, sU_ne (fun z => by omega)]
      have r4_106 : W 4 106 = M 4 106 := by rw [hW, sU_ne (fun z => by omega)]
      have c3 : ∀ k, W 3 k = M 3 k := fun k => by rw [hW, sU_ne (fun z => by omega)]
      have e3 : W 3 = M 3 := funext c3
      have c94 : ∀ k, W 94 k = M 94 k := fun k => by rw [hW, sU_ne (fun z => by omega)]
      have e94 : W 94 = M 94 := funext c94
      have c100 : ∀ k, W 100 k = M 100 k := fun k => by rw [hW, sU_ne (fun z => by omega)]
      have e100 : W 100 = M 100 := funext c100
      have c104 : ∀ k, W 104 k = M 104 k := fun k => by rw [hW, sU_ne (fun z => by omega)]
      have e104 : W 104 = M 104 := funext c104
      intro h
      obtain ⟨a0, a1, a2⟩ := gx_xS5 hI (by omega)
      rw [r4_104, r4_105, r4_106, e3, e94, e100, e104]
      refine ⟨fun j hj ht => ?_, fun j hj ht => ?_, fun j hj ht => ?_⟩
      · by_cases hJ : j = 2
        · subst hJ
          show M 94 11 = M 3 62
          omega
        · exact a0 j hj (by (try rw [h0] at ht); omega)
      · exact a1 j hj (by omega)
      · exact a2 j hj (by omega)
    have k_xS6 : xS6 W := by
      rw [hW]
      exact (uxS6 rfl hI.2.2.2.2.2.2.2.2.2.2.2.2.2.2.2.2.2.2.2.2.2.2.2.2.2.2.1)
    have k_xS7 : xS7 W := by
      rw [hW]
      exact (uxS7 rfl hI.2.2.2.2.2.2.2.2.2.2.2.2.2.2.2.2.2.2.2.2.2.2.2.2.2.2.2.1)
    have k_xS8 : xS8 W := by
      rw [hW]
      exact (uxS8 rfl hI.2.2.2.2.2.2.2.2.2.2.2.2.2.2.2.2.2.2.2.2.2.2.2.2.2.2.2.2.1)
    have k_xS9 : xS9 W := by
      rw [hW]
      exact (uxS9 rfl hI.2.2.2.2.2.2.2.2.2.2.2.2.2.2.2.2.2.2.2.2.2.2.2.2.2.2.2.2.2.1)
    have k_xSA : xSA W := by
      rw [hW]
      exact (uxSA rfl hI.2.2.2.2.2.2.2.2.2.2.2.2.2.2.2.2.2.2.2.2.2.2.2.2.2.2.2.2.2.2.1)
    have k_xSG : xSG W := by
      rw [hW]
      exact (uxSG rfl hI.2.2.2.2.2.2.2.2.2.2.2.2.2.2.2.2.2.2.2.2.2.2.2.2.2.2.2.2.2.2.2.1)
    have k_xSF : xSF W := by
      rw [hW]
      exact (uxSF rfl hI.2.2.2.2.2.2.2.2.2.2.2.2.2.2.2.2.2.2.2.2.2.2.2.2.2.2.2.2.2.2.2.2.1)
    have k_xSB : xSB W := by
      rw [hW]
      exact (uxSB rfl hI.2.2.2.2.2.2.2.2.2.2.2.2.2.2.2.2.2.2.2.2.2.2.2.2.2.2.2.2.2.2.2.2.2.1)
    have k_xSC : xSC W := by
      rw [hW]
      exact (uxSC rfl hI.2.2.2.2.2.2.2.2.2.2.2.2.2.2.2.2.2.2.2.2.2.2.2.2.2.2.2.2.2.2.2.2.2.2.1)
    have k_xSD : xSD W := by
      rw [hW]
      exact (uxSD rfl hI.2.2.2.2.2.2.2.2.2.2.2.2.2.2.2.2.2.2.2.2.2.2.2.2.2.2.2.2.2.2.2.2.2.2.2.1)
    have k_xSE : xSE W := by
      rw [hW]
      exact (uxSE rfl hI.2.2.2.2.2.2.2.2.2.2.2.2.2.2.2.2.2.2.2.2.2.2.2.2.2.2.2.2.2.2.2.2.2.2.2.2.1)
    have k_xSW : xSW W := by
      rw [hW]
      exact (uxSW rfl hI.2.2.2.2.2.2.2.2.2.2.2.2.2.2.2.2.2.2.2.2.2.2.2.2.2.2.2.2.2.2.2.2.2.2.2.2.2.1)
    have k_xST : xST W := by
      rw [hW]
      exact (uxST rfl hI.2.2.2.2.2.2.2.2.2.2.2.2.2.2.2.2.2.2.2.2.2.2.2.2.2.2.2.2.2.2.2.2.2.2.2.2.2.2.1)
    have k_xSP : xSP W := by
      rw [hW]
      exact (uxSP rfl hI.2.2.2.2.2.2.2.2.2.2.2.2.2.2.2.2.2.2.2.2.2.2.2.2.2.2.2.2.2.2.2.2.2.2.2.2.2.2.2.1)
    have k_xSL : xSL W := by
      rw [hW]
      exact (uxSL rfl hI.2.2.2.2.2.2.2.2.2.2.2.2.2.2.2.2.2.2.2.2.2.2.2.2.2.2.2.2.2.2.2.2.2.2.2.2.2.2.2.2.1)
    have k_xSM : xSM W := by
      rw [hW]
      exact (uxSM rfl hI.2.2.2.2.2.2.2.2.2.2.2.2.2.2.2.2.2.2.2.2.2.2.2.2.2.2.2.2.2.2.2.2.2.2.2.2.2.2.2.2.2.1)
    have k_xSI : xSI W := by
      rw [hW]
      exact (uxSI rfl hI.2.2.2.2.2.2.2.2.2.2.2.2.2.2.2.2.2.2.2.2.2.2.2.2.2.2.2.2.2.2.2.2.2.2.2.2.2.2.2.2.2.2)
    have k_XC : XC W := ⟨k_xS1, k_xS2, k_xS3, k_xS4, k_xS5, k_xS6, k_xS7, k_xS8, k_xS9, k_xSA, k_xSG, k_xSF, k_xSB, k_xSC, k_xSD, k_xSE, k_xSW, k_xST, k_xSP, k_xSL, k_xSM, k_xSI⟩
    have kXB : XB W := ⟨k_xN1, k_xN2, k_xN3, k_xN4, k_xN5, k_xN6, k_xH1, k_xK1, k_xC1, k_xRW, k_xWT, k_xCU, k_xG2, k_xG3, k_xG4, k_xG5, k_xG6, k_XC⟩
    exact ⟨base, k2, k3, kXA, kXB⟩
-- nmTieR94_3
def xr_558 : qRu := (4, [[(-4, 0), (1, 3)]], [(4, 100, [(2, 0)]), (4, 104, [(1, 3)]), (94, 12, [(1, 1)]), (3, 63, [(1, 2)])], [], [], [[(1, 1), (-1, 2)], [(-1, 1), (1, 2)]])
theorem xo_558 : qRok xr_558 := by
  intro ρ M h0 hf hm hI
  have f0 := hf [(-4, 0), (1, 3)] (by decide)
  simp only [qD, h0] at f0
  have m0 : M 4 100 = 2 * ρ 0 + 0 := hm (4, 100, [(2, 0)]) (by decide)
  have m1 : M 4 104 = 1 * ρ 3 + 0 := hm (4, 104, [(1, 3)]) (by decide)
  have m2 : M 94 12 = 1 * ρ 1 + 0 := hm (94, 12, [(1, 1)]) (by decide)
  have m3 : M 3 63 = 1 * ρ 2 + 0 := hm (3, 63, [(1, 2)]) (by decide)
  simp only [h0] at m0
  obtain ⟨a0, a1, a2⟩ := gx_xS5 hI (by omega)
  have t := a0 3 (by omega) (by omega)
  have t : M 94 12 = M 3 63 := t
  refine ⟨ρ, fun _ _ => rfl, fun f h => ?_, ?_⟩
  · have h : f ∈ ([[(1, 1), (-1, 2)], [(-1, 1), (1, 2)]] : List qF) := h
    simp only [List.mem_cons, List.not_mem_nil, or_false] at h
    rcases h with rfl | rfl
    · show 0 ≤ 1 * ρ 1 + (-1 * ρ 2 + 0)
      (try rw [h0]); omega
    · show 0 ≤ -1 * ρ 1 + (1 * ρ 2 + 0)
      (try rw [h0]); omega
  · show sI M
    exact hI
-- nmUpR94_3
def xr_559 : qRu := (3, [[(1, 1), (-1, 2)], [(-1, 1), (1, 2)]], [(4, 100, [(2, 0)]), (4, 104, [(3, 0)]), (94, 12, [(1, 1)]), (3, 63, [(1, 2)])], [], [(4, 104, [(4, 0)])], [])
theorem xo_559 : qRok xr_559 := by
  intro ρ M h0 hf hm hI
  have f0 := hf [(1, 1), (-1, 2)] (by decide)
  have f1 := hf [(-1, 1), (1, 2)] (by decide)
  simp only [qD, h0] at f0 f1
  have m0 : M 4 100 = 2 * ρ 0 + 0 := hm (4, 100, [(2, 0)]) (by decide)
  have m1 : M 4 104 = 3 * ρ 0 + 0 := hm (4, 104, [(3, 0)]) (by decide)
  have m2 : M 94 12 = 1 * ρ 1 + 0 := hm (94, 12, [(1, 1)]) (by decide)
  have m3 : M 3 63 = 1 * ρ 2 + 0 := hm (3, 63, [(1, 2)]) (by decide)
  simp only [h0] at m0 m1
  have qxS5 := hI.2.2.2.2.2.2.2.2.2.2.2.2.2.2.2.2.2.2.2.2.2.2.2.2.2.1
  refine ⟨ρ, fun _ _ => rfl, fun f h => ?_, ?_⟩
  · exact nomatch h
  · show sI (sU M 4 104 (4 * ρ 0 + 0))
    obtain ⟨W, hW⟩ : ∃ W, W = (sU M 4 104 (4 * ρ 0 + 0)) := ⟨_, rfl⟩
    rw [← hW]
    have base : sI0 W := by
      rw [hW]
      exact (si_u0 hI.1 (fun r hr => by cases hr))
    have k2 : XI2 W := by
      rw [hW]
      exact (xi2_u rfl hI.2.1)
    have k3 : XI3 W := by
      rw [hW]
      exact (xi3_u rfl hI.2.2.1)
    have kXA : XA W := by
      rw [hW]
      exact (uXA rfl hI.2.2.2.1)
    have k_xN1 : xN1 W := by
      rw [hW]
      exact (uxN1 rfl hI.2.2.2.2.1)
    have k_xN2 : xN2 W := by
      rw [hW]
      exact (uxN2 rfl hI.2.2.2.2.2.1)
    have k_xN3 : xN3 W := by
      rw [hW]
      exact (uxN3 rfl hI.2.2.2.2.2.2.1)
    have k_xN4 : xN4 W := by
      rw [hW]
      exact (uxN4 rfl hI.2.2.2.2.2.2.2.1)
    have k_xN5 : xN5 W := by
      rw [hW]
      exact (uxN5 rfl hI.2.2.2.2.2.2.2.2.1)
    have k_xN6 : xN6 W := by
      rw [hW]
      exact (uxN6 rfl hI.2.2.2.2.2.2.2.2.2.1)
    have k_xH1 : xH1 W := by
      rw [hW]
      exact (uxH1 rfl hI.2.2.2.2.2.2.2.2.2.2.1)
    have k_xK1 : xK1 W := by
      rw [hW]
      exact (uxK1 rfl hI.2.2.2.2.2.2.2.2.2.2.2.1)
    have k_xC1 : xC1 W := by
      rw [hW]
      exact (uxC1 rfl hI.2.2.2.2.2.2.2.2.2.2.2.2.1)
    have k_xRW : xRW W := by
      rw [hW]
      exact (uxRW rfl hI.2.2.2.2.2.2.2.2.2.2.2.2.2.1)
    have k_xWT : xWT W := by
      rw [hW]
      exact (uxWT rfl hI.2.2.2.2.2.2.2.2.2.2.2.2.2.2.1)
    have k_xCU : xCU W := by
      rw [hW]
      exact (uxCU rfl hI.2.2.2.2.2.2.2.2.2.2.2.2.2.2.2.1)
    have k_xG2 : xG2 W := by
      rw [hW]
      exact (uxG2 rfl hI.2.2.2.2.2.2.2.2.2.2.2.2.2.2.2.2.1)
    have k_xG3 : xG3 W := by
      rw [hW]
      exact (uxG3 rfl hI.2.2.2.2.2.2.2.2.2.2.2.2.2.2.2.2.2.1)
    have k_xG4 : xG4 W := by
      rw [hW]
      exact (uxG4 rfl hI.2.2.2.2.2.2.2.2.2.2.2.2.2.2.2.2.2.2.1)
    have k_xG5 : xG5 W := by
      rw [hW]
      exact (uxG5 rfl hI.2.2.2.2.2.2.2.2.2.2.2.2.2.2.2.2.2.2.2.1)
    have k_xG6 : xG6 W := by
      rw [hW]
      exact (uxG6 rfl hI.2.2.2.2.2.2.2.2.2.2.2.2.2.2.2.2.2.2.2.2.1)
    have k_xS1 : xS1 W := by
      rw [hW]
      exact (uxS1 rfl hI.2.2.2.2.2.2.2.2.2.2.2.2.2.2.2.2.2.2.2.2.2.1)
    have k_xS2 : xS2 W := by
      rw [hW]
      exact (uxS2 rfl hI.2.2.2.2.2.2.2.2.2.2.2.2.2.2.2.2.2.2.2.2.2.2.1)
    have k_xS3 : xS3 W := by
      rw [hW]
      exact (uxS3 rfl hI.2.2.2.2.2.2.2.2.2.2.2.2.2.2.2.2.2.2.2.2.2.2.2.1)
    have k_xS4 : xS4 W := by
      have r : W 4 100 = 2 := by
        have e := m0
        rw [hW, sU_ne (fun z => by omega)]
        omega
      intro h
      rw [r] at h
      omega
    have k_xS5 : xS5 W := by
      have r4_100 : W 4 100 = M 4 100 := by rw [hW, sU_ne (fun z => by omega)]
      have r4_104 : W 4 104 = 4 * ρ 0 + 0 := by rw [hW, sU_at]
      have r4_105 : W 4 105 = M 4 105 := by rw [hW, sU_ne (fun z => by omega)]
      have r4_106 : W 4 106 = M 4 106 := by rw [hW, sU_ne (fun z => by omega)]
      have c3 : ∀ k, W 3 k = M 3 k := fun k => by rw [hW, sU_ne (fun z => by omega)]
      have e3 : W 3 = M 3 := funext c3
      have c94 : ∀ k, W 94 k = M 94 k := fun k => by rw [hW, sU_ne (fun z => by omega)]
      have e94 : W 94 = M 94 := funext c94
      have c100 : ∀ k, W 100 k = M 100 k := fun k => by rw [hW, sU_ne (fun z => by omega)]
      have e100 : W 100 = M 100 := funext c100
      have c104 : ∀ k, W 104 k = M 104 k := fun k => by rw [hW, sU_ne (fun z => by omega)]
      have e104 : W 104 = M 104 := funext c104
      intro h
      obtain ⟨a0, a1, a2⟩ := gx_xS5 hI (by omega)
      rw [r4_104, r4_105, r4_106, e3, e94, e100, e104]
      refine ⟨fun j hj ht => ?_, fun j hj ht => ?_, fun j hj ht => ?_⟩
      · by_cases hJ : j = 3
        · subst hJ
          show M 94 12 = M 3 63
          omega
        · exact a0 j hj (by (try rw [h0] at ht); omega)
      · exact a1 j hj (by omega)
      · exact a2 j hj (by omega)
    have k_xS6 : xS6 W := by
      rw [hW]
      exact (uxS6 rfl hI.2.2.2.2.2.2.2.2.2.2.2.2.2.2.2.2.2.2.2.2.2.2.2.2.2.2.1)
    have k_xS7 : xS7 W := by
      rw [hW]
      exact (uxS7 rfl hI.2.2.2.2.2.2.2.2.2.2.2.2.2.2.2.2.2.2.2.2.2.2.2.2.2.2.2.1)
    have k_xS8 : xS8 W := by
      rw [hW]
      exact (uxS8 rfl hI.2.2.2.2.2.2.2.2.2.2.2.2.2.2.2.2.2.2.2.2.2.2.2.2.2.2.2.2.1)
    have k_xS9 : xS9 W := by
      rw [hW]
      exact (uxS9 rfl hI.2.2.2.2.2.2.2.2.2.2.2.2.2.2.2.2.2.2.2.2.2.2.2.2.2.2.2.2.2.1)
    have k_xSA : xSA W := by
      rw [hW]
      exact (uxSA rfl hI.2.2.2.2.2.2.2.2.2.2.2.2.2.2.2.2.2.2.2.2.2.2.2.2.2.2.2.2.2.2.1)
    have k_xSG : xSG W := by
      rw [hW]
      exact (uxSG rfl hI.2.2.2.2.2.2.2.2.2.2.2.2.2.2.2.2.2.2.2.2.2.2.2.2.2.2.2.2.2.2.2.1)
    have k_xSF : xSF W := by
      rw [hW]
      exact (uxSF rfl hI.2.2.2.2.2.2.2.2.2.2.2.2.2.2.2.2.2.2.2.2.2.2.2.2.2.2.2.2.2.2.2.2.1)
    have k_xSB : xSB W := by
      rw [hW]
      exact (uxSB rfl hI.2.2.2.2.2.2.2.2.2.2.2.2.2.2.2.2.2.2.2.2.2.2.2.2.2.2.2.2.2.2.2.2.2.1)
    have k_xSC : xSC W := by
      rw [hW]
      exact (uxSC rfl hI.2.2.2.2.2.2.2.2.2.2.2.2.2.2.2.2.2.2.2.2.2.2.2.2.2.2.2.2.2.2.2.2.2.2.1)
    have k_xSD : xSD W := by
      rw [hW]
      exact (uxSD rfl hI.2.2.2.2.2.2.2.2.2.2.2.2.2.2.2.2.2.2.2.2.2.2.2.2.2.2.2.2.2.2.2.2.2.2.2.1)
    have k_xSE : xSE W := by
      rw [hW]
      exact (uxSE rfl hI.2.2.2.2.2.2.2.2.2.2.2.2.2.2.2.2.2.2.2.2.2.2.2.2.2.2.2.2.2.2.2.2.2.2.2.2.1)
    have k_xSW : xSW W := by
      rw [hW]
      exact (uxSW rfl hI.2.2.2.2.2.2.2.2.2.2.2.2.2.2.2.2.2.2.2.2.2.2.2.2.2.2.2.2.2.2.2.2.2.2.2.2.2.1)
    have k_xST : xST W := by
      rw [hW]
      exact (uxST rfl hI.2.2.2.2.2.2.2.2.2.2.2.2.2.2.2.2.2.2.2.2.2.2.2.2.2.2.2.2.2.2.2.2.2.2.2.2.2.2.1)
    have k_xSP : xSP W := by
      rw [hW]
      exact (uxSP rfl hI.2.2.2.2.2.2.2.2.2.2.2.2.2.2.2.2.2.2.2.2.2.2.2.2.2.2.2.2.2.2.2.2.2.2.2.2.2.2.2.1)
    have k_xSL : xSL W := by
      rw [hW]
      exact (uxSL rfl hI.2.2.2.2.2.2.2.2.2.2.2.2.2.2.2.2.2.2.2.2.2.2.2.2.2.2.2.2.2.2.2.2.2.2.2.2.2.2.2.2.1)
    have k_xSM : xSM W := by
      rw [hW]
      exact (uxSM rfl hI.2.2.2.2.2.2.2.2.2.2.2.2.2.2.2.2.2.2.2.2.2.2.2.2.2.2.2.2.2.2.2.2.2.2.2.2.2.2.2.2.2.1)
    have k_xSI : xSI W := by
      rw [hW]
      exact (uxSI rfl hI.2.2.2.2.2.2.2.2.2.2.2.2.2.2.2.2.2.2.2.2.2.2.2.2.2.2.2.2.2.2.2.2.2.2.2.2.2.2.2.2.2.2)
    have k_XC : XC W := ⟨k_xS1, k_xS2, k_xS3, k_xS4, k_xS5, k_xS6, k_xS7, k_xS8, k_xS9, k_xSA, k_xSG, k_xSF, k_xSB, k_xSC, k_xSD, k_xSE, k_xSW, k_xST, k_xSP, k_xSL, k_xSM, k_xSI⟩
    have kXB : XB W := ⟨k_xN1, k_xN2, k_xN3, k_xN4, k_xN5, k_xN6, k_xH1, k_xK1, k_xC1, k_xRW, k_xWT, k_xCU, k_xG2, k_xG3, k_xG4, k_xG5, k_xG6, k_XC⟩
    exact ⟨base, k2, k3, kXA, kXB⟩
-- nmTieR94_4
def xr_560 : qRu := (4, [[(-5, 0), (1, 3)]], [(4, 100, [(2, 0)]), (4, 104, [(1, 3)]), (94, 13, [(1, 1)]), (3, 64, [(1, 2)])], [], [], [[(1, 1), (-1, 2)], [(-1, 1), (1, 2)]])
theorem xo_560 : qRok xr_560 := by
  intro ρ M h0 hf hm hI
  have f0 := hf [(-5, 0), (1, 3)] (by decide)
  simp only [qD, h0] at f0
  have m0 : M 4 100 = 2 * ρ 0 + 0 := hm (4, 100, [(2, 0)]) (by decide)
  have m1 : M 4 104 = 1 * ρ 3 + 0 := hm (4, 104, [(1, 3)]) (by decide)
  have m2 : M 94 13 = 1 * ρ 1 + 0 := hm (94, 13, [(1, 1)]) (by decide)
  have m3 : M 3 64 = 1 * ρ 2 + 0 := hm (3, 64, [(1, 2)]) (by decide)
  simp only [h0] at m0
  obtain ⟨a0, a1, a2⟩ := gx_xS5 hI (by omega)
  have t := a0 4 (by omega) (by omega)
  have t : M 94 13 = M 3 64 := t
  refine ⟨ρ, fun _ _ => rfl, fun f h => ?_, ?_⟩
  · have h : f ∈ ([[(1, 1), (-1, 2)], [(-1, 1), (1, 2)]] : List qF) := h
    simp only [List.mem_cons, List.not_mem_nil, or_false] at h
    rcases h with rfl | rfl
    · show 0 ≤ 1 * ρ 1 + (-1 * ρ 2 + 0)
      (try rw [h0]); omega
    · show 0 ≤ -1 * ρ 1 + (1 * ρ 2 + 0)
      (try rw [h0]); omega
  · show sI M
    exact hI
-- nmUpR94_4
def xr_561 : qRu := (3, [[(1, 1), (-1, 2)], [(-1, 1), (1, 2)]], [(4, 100, [(2, 0)]), (4, 104, [(4, 0)]), (94, 13, [(1, 1)]), (3, 64, [(1, 2)])], [], [(4, 104, [(5, 0)])], [])
theorem xo_561 : qRok xr_561 := by
  intro ρ M h0 hf hm hI
  have f0 := hf [(1, 1), (-1, 2)] (by decide)
  have f1 := hf [(-1, 1), (1, 2)] (by decide)
  simp only [qD, h0] at f0 f1
  have m0 : M 4 100 = 2 * ρ 0 + 0 := hm (4, 100, [(2, 0)]) (by decide)
  have m1 : M 4 104 = 4 * ρ 0 + 0 := hm (4, 104, [(4, 0)]) (by decide)
  have m2 : M 94 13 = 1 * ρ 1 + 0 := hm (94, 13, [(1, 1)]) (by decide)
  have m3 : M 3 64 = 1 * ρ 2 + 0 := hm (3, 64, [(1, 2)]) (by decide)
  simp only [h0] at m0 m1
  have qxS5 := hI.2.2.2.2.2.2.2.2.2.2.2.2.2.2.2.2.2.2.2.2.2.2.2.2.2.1
  refine ⟨ρ, fun _ _ => rfl, fun f h => ?_, ?_⟩
  · exact nomatch h
  · show sI (sU M 4 104 (5 * ρ 0 + 0))
    obtain ⟨W, hW⟩ : ∃ W, W = (sU M 4 104 (5 * ρ 0 + 0)) := ⟨_, rfl⟩
    rw [← hW]
    have base : sI0 W := by
      rw [hW]
      exact (si_u0 hI.1 (fun r hr => by cases hr))
    have k2 : XI2 W := by
      rw [hW]
      exact (xi2_u rfl hI.2.1)
    have k3 : XI3 W := by
      rw [hW]
      exact (xi3_u rfl hI.2.2.1)
    have kXA : XA W := by
      rw [hW]
      exact (uXA rfl hI.2.2.2.1)
    have k_xN1 : xN1 W := by
      rw [hW]
      exact (uxN1 rfl hI.2.2.2.2.1)
    have k_xN2 : xN2 W := by
      rw [hW]
      exact (uxN2 rfl hI.2.2.2.2.2.1)
    have k_xN3 : xN3 W := by
      rw [hW]
      exact (uxN3 rfl hI.2.2.2.2.2.2.1)
    have k_xN4 : xN4 W := by
      rw [hW]
      exact (uxN4 rfl hI.2.2.2.2.2.2.2.1)
    have k_xN5 : xN5 W := by
      rw [hW]
      exact (uxN5 rfl hI.2.2.2.2.2.2.2.2.1)
    have k_xN6 : xN6 W := by
      rw [hW]
      exact (uxN6 rfl hI.2.2.2.2.2.2.2.2.2.1)
    have k_xH1 : xH1 W := by
      rw [hW]
      exact (uxH1 rfl hI.2.2.2.2.2.2.2.2.2.2.1)
    have k_xK1 : xK1 W := by
      rw [hW]
      exact (uxK1 rfl hI.2.2.2.2.2.2.2.2.2.2.2.1)
    have k_xC1 : xC1 W := by
      rw [hW]
      exact (uxC1 rfl hI.2.2.2.2.2.2.2.2.2.2.2.2.1)
    have k_xRW : xRW W := by
      rw [hW]
      exact (uxRW rfl hI.2.2.2.2.2.2.2.2.2.2.2.2.2.1)
    have k_xWT : xWT W := by
      rw [hW]
      exact (uxWT rfl hI.2.2.2.2.2.2.2.2.2.2.2.2.2.2.1)
    have k_xCU : xCU W := by
      rw [hW]
      exact (uxCU rfl hI.2.2.2.2.2.2.2.2.2.2.2.2.2.2.2.1)
    have k_xG2 : xG2 W := by
      rw [hW]
      exact (uxG2 rfl hI.2.2.2.2.2.2.2.2.2.2.2.2.2.2.2.2.1)
    have k_xG3 : xG3 W := by
      rw [hW]
      exact (uxG3 rfl hI.2.2.2.2.2.2.2.2.2.2.2.2.2.2.2.2.2.1)
    have k_xG4 : xG4 W := by
      rw [hW]
      exact (uxG4 rfl hI.2.2.2.2.2.2.2.2.2.2.2.2.2.2.2.2.2.2.1)
    have k_xG5 : xG5 W := by
      rw [hW]
      exact (uxG5 rfl hI.2.2.2.2.2.2.2.2.2.2.2.2.2.2.2.2.2.2.2.1)
    have k_xG6 : xG6 W := by
      rw [hW]
      exact (uxG6 rfl hI.2.2.2.2.2.2.2.2.2.2.2.2.2.2.2.2.2.2.2.2.1)
    have k_xS1 : xS1 W := by
      rw [hW]
      exact (uxS1 rfl hI.2.2.2.2.2.2.2.2.2.2.2.2.2.2.2.2.2.2.2.2.2.1)
    have k_xS2 : xS2 W := by
      rw [hW]
      exact (uxS2 rfl hI.2.2.2.2.2.2.2.2.2.2.2.2.2.2.2.2.2.2.2.2.2.2.1)
    have k_xS3 : xS3 W := by
      rw [hW]
      exact (uxS3 rfl hI.2.2.2.2.2.2.2.2.2.2.2.2.2.2.2.2.2.2.2.2.2.2.2.1)
    have k_xS4 : xS4 W := by
      have r : W 4 100 = 2 := by
        have e := m0
        rw [hW, sU_ne (fun z => by omega)]
        omega
      intro h
      rw [r] at h
      omega
    have k_xS5 : xS5 W := by
      have r4_100 : W 4 100 = M 4 100 := by rw [hW, sU_ne (fun z => by omega)]
      have r4_104 : W 4 104 = 5 * ρ 0 + 0 := by rw [hW, sU_at]
      have r4_105 : W 4 105 = M 4 105 := by rw [hW, sU_ne (fun z => by omega)]
      have r4_106 : W 4 106 = M 4 106 := by rw [hW, sU_ne (fun z => by omega)]
      have c3 : ∀ k, W 3 k = M 3 k := fun k => by rw [hW, sU_ne (fun z => by omega)]
      have e3 : W 3 = M 3 := funext c3
      have c94 : ∀ k, W 94 k = M 94 k := fun k => by rw [hW, sU_ne (fun z => by omega)]
      have e94 : W 94 = M 94 := funext c94
      have c100 : ∀ k, W 100 k = M 100 k := fun k => by rw [hW, sU_ne (fun z => by omega)]
      have e100 : W 100 = M 100 := funext c100
      have c104 : ∀ k, W 104 k = M 104 k := fun k => by rw [hW, sU_ne (fun z => by omega)]
      have e104 : W 104 = M 104 := funext c104
      intro h
      obtain ⟨a0, a1, a2⟩ := gx_xS5 hI (by omega)
      rw [r4_104, r4_105, r4_106, e3, e94, e100, e104]
      refine ⟨fun j hj ht => ?_, fun j hj ht => ?_, fun j hj ht => ?_⟩
      · by_cases hJ : j = 4
        · subst hJ
          show M 94 13 = M 3 64
          omega
        · exact a0 j hj (by (try rw [h0] at ht); omega)
      · exact a1 j hj (by omega)
      · exact a2 j hj (by omega)
    have k_xS6 : xS6 W := by
      rw [hW]
      exact (uxS6 rfl hI.2.2.2.2.2.2.2.2.2.2.2.2.2.2.2.2.2.2.2.2.2.2.2.2.2.2.1)
    have k_xS7 : xS7 W := by
      rw [hW]
      exact (uxS7 rfl hI.2.2.2.2.2.2.2.2.2.2.2.2.2.2.2.2.2.2.2.2.2.2.2.2.2.2.2.1)
    have k_xS8 : xS8 W := by
      rw [hW]
      exact (uxS8 rfl hI.2.2.2.2.2.2.2.2.2.2.2.2.2.2.2.2.2.2.2.2.2.2.2.2.2.2.2.2.1)
    have k_xS9 : xS9 W := by
      rw [hW]
      exact (uxS9 rfl hI.2.2.2.2.2.2.2.2.2.2.2.2.2.2.2.2.2.2.2.2.2.2.2.2.2.2.2.2.2.1)
    have k_xSA : xSA W := by
      rw [hW]
      exact (uxSA rfl hI.2.2.2.2.2.2.2.2.2.2.2.2.2.2.2.2.2.2.2.2.2.2.2.2.2.2.2.2.2.2.1)
    have k_xSG : xSG W := by
      rw [hW]
      exact (uxSG rfl hI.2.2.2.2.2.2.2.2.2.2.2.2.2.2.2.2.2.2.2.2.2.2.2.2.2.2.2.2.2.2.2.1)
    have k_xSF : xSF W := by
      rw [hW]
      exact (uxSF rfl hI.2.2.2.2.2.2.2.2.2.2.2.2.2.2.2.2.2.2.2.2.2.2.2.2.2.2.2.2.2.2.2.2.1)
    have k_xSB : xSB W := by
      rw [hW]
      exact (uxSB rfl hI.2.2.2.2.2.2.2.2.2.2.2.2.2.2.2.2.2.2.2.2.2.2.2.2.2.2.2.2.2.2.2.2.2.1)
    have k_xSC : xSC W := by
      rw [hW]
      exact (uxSC rfl hI.2.2.2.2.2.2.2.2.2.2.2.2.2.2.2.2.2.2.2.2.2.2.2.2.2.2.2.2.2.2.2.2.2.2.1)
    have k_xSD : xSD W := by
      rw [hW]
      exact (uxSD rfl hI.2.2.2.2.2.2.2.2.2.2.2.2.2.2.2.2.2.2.2.2.2.2.2.2.2.2.2.2.2.2.2.2.2.2.2.1)
    have k_xSE : xSE W := by
      rw [hW]
      exact (uxSE rfl hI.2.2.2.2.2.2.2.2.2.2.2.2.2.2.2.2.2.2.2.2.2.2.2.2.2.2.2.2.2.2.2.2.2.2.2.2.1)
    have k_xSW : xSW W := by
      rw [hW]
      exact (uxSW rfl hI.2.2.2.2.2.2.2.2.2.2.2.2.2.2.2.2.2.2.2.2.2.2.2.2.2.2.2.2.2.2.2.2.2.2.2.2.2.1)
    have k_xST : xST W := by
      rw [hW]
      exact (uxST rfl hI.2.2.2.2.2.2.2.2.2.2.2.2.2.2.2.2.2.2.2.2.2.2.2.2.2.2.2.2.2.2.2.2.2.2.2.2.2.2.1)
    have k_xSP : xSP W := by
      rw [hW]
      exact (uxSP rfl hI.2.2.2.2.2.2.2.2.2.2.2.2.2.2.2.2.2.2.2.2.2.2.2.2.2.2.2.2.2.2.2.2.2.2.2.2.2.2.2.1)
    have k_xSL : xSL W := by
      rw [hW]
      exact (uxSL rfl hI.2.2.2.2.2.2.2.2.2.2.2.2.2.2.2.2.2.2.2.2.2.2.2.2.2.2.2.2.2.2.2.2.2.2.2.2.2.2.2.2.1)
    have k_xSM : xSM W := by
      rw [hW]
      exact (uxSM rfl hI.2.2.2.2.2.2.2.2.2.2.2.2.2.2.2.2.2.2.2.2.2.2.2.2.2.2.2.2.2.2.2.2.2.2.2.2.2.2.2.2.2.1)
    have k_xSI : xSI W := by
      rw [hW]
      exact (uxSI rfl hI.2.2.2.2.2.2.2.2.2.2.2.2.2.2.2.2.2.2.2.2.2.2.2.2.2.2.2.2.2.2.2.2.2.2.2.2.2.2.2.2.2.2)
    have k_XC : XC W := ⟨k_xS1, k_xS2, k_xS3, k_xS4, k_xS5, k_xS6, k_xS7, k_xS8, k_xS9, k_xSA, k_xSG, k_xSF, k_xSB, k_xSC, k_xSD, k_xSE, k_xSW, k_xST, k_xSP, k_xSL, k_xSM, k_xSI⟩
    have kXB : XB W := ⟨k_xN1, k_xN2, k_xN3, k_xN4, k_xN5, k_xN6, k_xH1, k_xK1, k_xC1, k_xRW, k_xWT, k_xCU, k_xG2, k_xG3, k_xG4, k_xG5, k_xG6, k_XC⟩
    exact ⟨base, k2, k3, kXA, kXB⟩
-- nmTieR94_5
def xr_562 : qRu := (4, [[(-6, 0), (1, 3)]], [(4, 100, [(2, 0)]), (4, 104, [(1, 3)]), (94, 14, [(1, 1)]), (3, 65, [(1, 2)])], [], [], [[(1, 1), (-1, 2)], [(-1, 1), (1, 2)]])
theorem xo_562 : qRok xr_562 := by
  intro ρ M h0 hf hm hI
  have f0 := hf [(-6, 0), (1, 3)] (by decide)
  simp only [qD, h0] at f0
  have m0 : M 4 100 = 2 * ρ 0 + 0 := hm (4, 100, [(2, 0)]) (by decide)
  have m1 : M 4 104 = 1 * ρ 3 + 0 := hm (4, 104, [(1, 3)]) (by decide)
  have m2 : M 94 14 = 1 * ρ 1 + 0 := hm (94, 14, [(1, 1)]) (by decide)
  have m3 : M 3 65 = 1 * ρ 2 + 0 := hm (3, 65, [(1, 2)]) (by decide)
  simp only [h0] at m0
  obtain ⟨a0, a1, a2⟩ := gx_xS5 hI (by omega)
  have t := a0 5 (by omega) (by omega)
  have t : M 94 14 = M 3 65 := t
  refine ⟨ρ, fun _ _ => rfl, fun f h => ?_, ?_⟩
  · have h : f ∈ ([[(1, 1), (-1, 2)], [(-1, 1), (1, 2)]] : List qF) := h
    simp only [List.mem_cons, List.not_mem_nil, or_false] at h
    rcases h with rfl | rfl
    · show 0 ≤ 1 * ρ 1 + (-1 * ρ 2 + 0)
      (try rw [h0]); omega
    · show 0 ≤ -1 * ρ 1 + (1 * ρ 2 + 0)
      (try rw [h0]); omega
  · show sI M
    exact hI
-- nmUpR94_5
def xr_563 : qRu := (3, [[(1, 1), (-1, 2)], [(-1, 1), (1, 2)]], [(4, 100, [(2, 0)]), (4, 104, [(5, 0)]), (94, 14, [(1, 1)]), (3, 65, [(1, 2)])], [], [(4, 104, [(6, 0)])], [])
theorem xo_563 : qRok xr_563 := by
  intro ρ M h0 hf hm hI
  have f0 := hf [(1, 1), (-1, 2)] (by decide)
  have f1 := hf [(-1, 1), (1, 2)] (by decide)
  simp only [qD, h0] at f0 f1
  have m0 : M 4 100 = 2 * ρ 0 + 0 := hm (4, 100, [(2, 0)]) (by decide)
  have m1 : M 4 104 = 5 * ρ 0 + 0 := hm (4, 104, [(5, 0)]) (by decide)
  have m2 : M 94 14 = 1 * ρ 1 + 0 := hm (94, 14, [(1, 1)]) (by decide)
  have m3 : M 3 65 = 1 * ρ 2 + 0 := hm (3, 65, [(1, 2)]) (by decide)
  simp only [h0] at m0 m1
  have qxS5 := hI.2.2.2.2.2.2.2.2.2.2.2.2.2.2.2.2.2.2.2.2.2.2.2.2.2.1
  refine ⟨ρ, fun _ _ => rfl, fun f h => ?_, ?_⟩
  · exact nomatch h
  · show sI (sU M 4 104 (6 * ρ 0 + 0))
    obtain ⟨W, hW⟩ : ∃ W, W = (sU M 4 104 (6 * ρ 0 + 0)) := ⟨_, rfl⟩
    rw [← hW]
    have base : sI0 W := by
      rw [hW]
      exact (si_u0 hI.1 (fun r hr => by cases hr))
    have k2 : XI2 W := by
      rw [hW]
      exact (xi2_u rfl hI.2.1)
    have k3 : XI3 W := by
      rw [hW]
      exact (xi3_u rfl hI.2.2.1)
    have kXA : XA W := by
      rw [hW]
      exact (uXA rfl hI.2.2.2.1)
    have k_xN1 : xN1 W := by
      rw [hW]
      exact (uxN1 rfl hI.2.2.2.2.1)
    have k_xN2 : xN2 W := by
      rw [hW]
      exact (uxN2 rfl hI.2.2.2.2.2.1)
    have k_xN3 : xN3 W := by
      rw [hW]
      exact (uxN3 rfl hI.2.2.2.2.2.2.1)
    have k_xN4 : xN4 W := by
      rw [hW]
      exact (uxN4 rfl hI.2.2.2.2.2.2.2.1)
    have k_xN5 : xN5 W := by
      rw [hW]
      exact (uxN5 rfl hI.2.2.2.2.2.2.2.2.1)
    have k_xN6 : xN6 W := by
      rw [hW]
      exact (uxN6 rfl hI.2.2.2.2.2.2.2.2.2.1)
    have k_xH1 : xH1 W := by
      rw [hW]
      exact (uxH1 rfl hI.2.2.2.2.2.2.2.2.2.2.1)
    have k_xK1 : xK1 W := by
      rw [hW]
      exact (uxK1 rfl hI.2.2.2.2.2.2.2.2.2.2.2.1)
    have k_xC1 : xC1 W := by
      rw [hW]
      exact (uxC1 rfl hI.2.2.2.2.2.2.2.2.2.2.2.2.1)
    have k_xRW : xRW W := by
      rw [hW]
      exact (uxRW rfl hI.2.2.2.2.2.2.2.2.2.2.2.2.2.1)
    have k_xWT : xWT W := by
      rw [hW]
      exact (uxWT rfl hI.2.2.2.2.2.2.2.2.2.2.2.2.2.2.1)
    have k_xCU : xCU W := by
      rw [hW]
      exact (uxCU rfl hI.2.2.2.2.2.2.2.2.2.2.2.2.2.2.2.1)
    have k_xG2 : xG2 W := by
      rw [hW]
      exact (uxG2 rfl hI.2.2.2.2.2.2.2.2.2.2.2.2.2.2.2.2.1)
    have k_xG3 : xG3 W := by
      rw [hW]
      exact (uxG3 rfl hI.2.2.2.2.2.2.2.2.2.2.2.2.2.2.2.2.2.1)
    have k_xG4 : xG4 W := by
      rw [hW]
      exact (uxG4 rfl hI.2.2.2.2.2.2.2.2.2.2.2.2.2.2.2.2.2.2.1)
    have k_xG5 : xG5 W := by
      rw [hW]
      exact (uxG5 rfl hI.2.2.2.2.2.2.2.2.2.2.2.2.2.2.2.2.2.2.2.1)
    have k_xG6 : xG6 W := by
      rw [hW]
      exact (uxG6 rfl hI.2.2.2.2.2.2.2.2.2.2.2.2.2.2.2.2.2.2.2.2.1)
    have k_xS1 : xS1 W := by
      rw [hW]
      exact (uxS1 rfl hI.2.2.2.2.2.2.2.2.2.2.2.2.2.2.2.2.2.2.2.2.2.1)
    have k_xS2 : xS2 W := by
      rw [hW]
      exact (uxS2 rfl hI.2.2.2.2.2.2.2.2.2.2.2.2.2.2.2.2.2.2.2.2.2.2.1)
    have k_xS3 : xS3 W := by
      rw [hW]
      exact (uxS3 rfl hI.2.2.2.2.2.2.2.2.2.2.2.2.2.2.2.2.2.2.2.2.2.2.2.1)
    have k_xS4 : xS4 W := by
      have r : W 4 100 = 2 := by
        have e := m0
        rw [hW, sU_ne (fun z => by omega)]
        omega
      intro h
      rw [r] at h
      omega
    have k_xS5 : xS5 W := by
      have r4_100 : W 4 100 = M 4 100 := by rw [hW, sU_ne (fun z => by omega)]
      have r4_104 : W 4 104 = 6 * ρ 0 + 0 := by rw [hW, sU_at]
      have r4_105 : W 4 105 = M 4 105 := by rw [hW, sU_ne (fun z => by omega)]
      have r4_106 : W 4 106 = M 4 106 := by rw [hW, sU_ne (fun z => by omega)]
      have c3 : ∀ k, W 3 k = M 3 k := fun k => by rw [hW, sU_ne (fun z => by omega)]
      have e3 : W 3 = M 3 := funext c3
      have c94 : ∀ k, W 94 k = M 94 k := fun k => by rw [hW, sU_ne (fun z => by omega)]
      have e94 : W 94 = M 94 := funext c94
      have c100 : ∀ k, W 100 k = M 100 k := fun k => by rw [hW, sU_ne (fun z => by omega)]
      have e100 : W 100 = M 100 := funext c100
      have c104 : ∀ k, W 104 k = M 104 k := fun k => by rw [hW, sU_ne (fun z => by omega)]
      have e104 : W 104 = M 104 := funext c104
      intro h
      obtain ⟨a0, a1, a2⟩ := gx_xS5 hI (by omega)
      rw [r4_104, r4_105, r4_106, e3, e94, e100, e104]
      refine ⟨fun j hj ht => ?_, fun j hj ht => ?_, fun j hj ht => ?_⟩
      · by_cases hJ : j = 5
        · subst hJ
          show M 94 14 = M 3 65
          omega
        · exact a0 j hj (by (try rw [h0] at ht); omega)
      · exact a1 j hj (by omega)
      · exact a2 j hj (by omega)
    have k_xS6 : xS6 W := by
      rw [hW]
      exact (uxS6 rfl hI.2.2.2.2.2.2.2.2.2.2.2.2.2.2.2.2.2.2.2.2.2.2.2.2.2.2.1)
    have k_xS7 : xS7 W := by
      rw [hW]
      exact (uxS7 rfl hI.2.2.2.2.2.2.2.2.2.2.2.2.2.2.2.2.2.2.2.2.2.2.2.2.2.2.2.1)
    have k_xS8 : xS8 W := by
      rw [hW]
      exact (uxS8 rfl hI.2.2.2.2.2.2.2.2.2.2.2.2.2.2.2.2.2.2.2.2.2.2.2.2.2.2.2.2.1)
    have k_xS9 : xS9 W := by
      rw [hW]
      exact (uxS9 rfl hI.2.2.2.2.2.2.2.2.2.2.2.2.2.2.2.2.2.2.2.2.2.2.2.2.2.2.2.2.2.1)
    have k_xSA : xSA W := by
      rw [hW]
      exact (uxSA rfl hI.2.2.2.2.2.2.2.2.2.2.2.2.2.2.2.2.2.2.2.2.2.2.2.2.2.2.2.2.2.2.1)
    have k_xSG : xSG W := by
      rw [hW]
      exact (uxSG rfl hI.2.2.2.2.2.2.2.2.2.2.2.2.2.2.2.2.2.2.2.2.2.2.2.2.2.2.2.2.2.2.2.1)
    have k_xSF : xSF W := by
      rw [hW]
      exact (uxSF rfl hI.2.2.2.2.2.2.2.2.2.2.2.2.2.2.2.2.2.2.2.2.2.2.2.2.2.2.2.2.2.2.2.2.1)
    have k_xSB : xSB W := by
      rw [hW]
      exact (uxSB rfl hI.2.2.2.2.2.2.2.2.2.2.2.2.2.2.2.2.2.2.2.2.2.2.2.2.2.2.2.2.2.2.2.2.2.1)
    have k_xSC : xSC W := by
      rw [hW]
      exact (uxSC rfl hI.2.2.2.2.2.2.2.2.2.2.2.2.2.2.2.2.2.2.2.2.2.2.2.2.2.2.2.2.2.2.2.2.2.2.1)
    have k_xSD : xSD W := by
      rw [hW]
      exact (uxSD rfl hI.2.2.2.2.2.2.2.2.2.2.2.2.2.2.2.2.2.2.2.2.2.2.2.2.2.2.2.2.2.2.2.2.2.2.2.1)
    have k_xSE : xSE W := by
      rw [hW]
      exact (uxSE rfl hI.2.2.2.2.2.2.2.2.2.2.2.2.2.2.2.2.2.2.2.2.2.2.2.2.2.2.2.2.2.2.2.2.2.2.2.2.1)
    have k_xSW : xSW W := by
      rw [hW]
      exact (uxSW rfl hI.2.2.2.2.2.2.2.2.2.2.2.2.2.2.2.2.2.2.2.2.2.2.2.2.2.2.2.2.2.2.2.2.2.2.2.2.2.1)
    have k_xST : xST W := by
      rw [hW]
      exact (uxST rfl hI.2.2.2.2.2.2.2.2.2.2.2.2.2.2.2.2.2.2.2.2.2.2.2.2.2.2.2.2.2.2.2.2.2.2.2.2.2.2.1)
    have k_xSP : xSP W := by
      rw [hW]
      exact (uxSP rfl hI.2.2.2.2.2.2.2.2.2.2.2.2.2.2.2.2.2.2.2.2.2.2.2.2.2.2.2.2.2.2.2.2.2.2.2.2.2.2.2.1)
    have k_xSL : xSL W := by
      rw [hW]
      exact (uxSL rfl hI.2.2.2.2.2.2.2.2.2.2.2.2.2.2.2.2.2.2.2.2.2.2.2.2.2.2.2.2.2.2.2.2.2.2.2.2.2.2.2.2.1)
    have k_xSM : xSM W := by
      rw [hW]
      exact (uxSM rfl hI.2.2.2.2.2.2.2.2.2.2.2.2.2.2.2.2.2.2.2.2.2.2.2.2.2.2.2.2.2.2.2.2.2.2.2.2.2.2.2.2.2.1)
    have k_xSI : xSI W := by
      rw [hW]
      exact (uxSI rfl hI.2.2.2.2.2.2.2.2.2.2.2.2.2.2.2.2.2.2.2.2.2.2.2.2.2.2.2.2.2.2.2.2.2.2.2.2.2.2.2.2.2.2)
    have k_XC : XC W := ⟨k_xS1, k_xS2, k_xS3, k_xS4, k_xS5, k_xS6, k_xS7, k_xS8, k_xS9, k_xSA, k_xSG, k_xSF, k_xSB, k_xSC, k_xSD, k_xSE, k_xSW, k_xST, k_xSP, k_xSL, k_xSM, k_xSI⟩
    have kXB : XB W := ⟨k_xN1, k_xN2, k_xN3, k_xN4, k_xN5, k_xN6, k_xH1, k_xK1, k_xC1, k_xRW, k_xWT, k_xCU, k_xG2, k_xG3, k_xG4, k_xG5, k_xG6, k_XC⟩
    exact ⟨base, k2, k3, kXA, kXB⟩
-- nmTieR94_6
def xr_564 : qRu := (4, [[(-7, 0), (1, 3)]], [(4, 100, [(2, 0)]), (4, 104, [(1, 3)]), (94, 15, [(1, 1)]), (3, 66, [(1, 2)])], [], [], [[(1, 1), (-1, 2)], [(-1, 1), (1, 2)]])
theorem xo_564 : qRok xr_564 := by
  intro ρ M h0 hf hm hI
  have f0 := hf [(-7, 0), (1, 3)] (by decide)
  simp only [qD, h0] at f0
  have m0 : M 4 100 = 2 * ρ 0 + 0 := hm (4, 100, [(2, 0)]) (by decide)
  have m1 : M 4 104 = 1 * ρ 3 + 0 := hm (4, 104, [(1, 3)]) (by decide)
  have m2 : M 94 15 = 1 * ρ 1 + 0 := hm (94, 15, [(1, 1)]) (by decide)
  have m3 : M 3 66 = 1 * ρ 2 + 0 := hm (3, 66, [(1, 2)]) (by decide)
  simp only [h0] at m0
  obtain ⟨a0, a1, a2⟩ := gx_xS5 hI (by omega)
  have t := a0 6 (by omega) (by omega)
  have t : M 94 15 = M 3 66 := t
  refine ⟨ρ, fun _ _ => rfl, fun f h => ?_, ?_⟩
  · have h : f ∈ ([[(1, 1), (-1, 2)], [(-1, 1), (1, 2)]] : List qF) := h
    simp only [List.mem_cons, List.not_mem_nil, or_false] at h
    rcases h with rfl | rfl
    · show 0 ≤ 1 * ρ 1 + (-1 * ρ 2 + 0)
      (try rw [h0]); omega
    · show 0 ≤ -1 * ρ 1 + (1 * ρ 2 + 0)
      (try rw [h0]); omega
  · show sI M
    exact hI
-- nmUpR94_6
def xr_565 : qRu := (3, [[(1, 1), (-1, 2)], [(-1, 1), (1, 2)]], [(4, 100, [(2, 0)]), (4, 104, [(6, 0)]), (94, 15, [(1, 1)]), (3, 66, [(1, 2)])], [], [(4, 104, [(7, 0)])], [])
theorem xo_565 : qRok xr_565 := by
  intro ρ M h0 hf hm hI
  have f0 := hf [(1, 1), (-1, 2)] (by decide)
  have f1 := hf [(-1, 1), (1, 2)] (by decide)
  simp only [qD, h0] at f0 f1
  have m0 : M 4 100 = 2 * ρ 0 + 0 := hm (4, 100, [(2, 0)]) (by decide)
  have m1 : M 4 104 = 6 * ρ 0 + 0 := hm (4, 104, [(6, 0)]) (by decide)
  have m2 : M 94 15 = 1 * ρ 1 + 0 := hm (94, 15, [(1, 1)]) (by decide)
  have m3 : M 3 66 = 1 * ρ 2 + 0 := hm (3, 66, [(1, 2)]) (by decide)
  simp only [h0] at m0 m1
  have qxS5 := hI.2.2.2.2.2.2.2.2.2.2.2.2.2.2.2.2.2.2.2.2.2.2.2.2.2.1
  refine ⟨ρ, fun _ _ => rfl, fun f h => ?_, ?_⟩
  · exact nomatch h
  · show sI (sU M 4 104 (7 * ρ 0 + 0))
    obtain ⟨W, hW⟩ : ∃ W, W = (sU M 4 104 (7 * ρ 0 + 0)) := ⟨_, rfl⟩
    rw [← hW]
    have base : sI0 W := by
      rw [hW]
      exact (si_u0 hI.1 (fun r hr => by cases hr))
    have k2 : XI2 W := by
      rw [hW]
      exact (xi2_u rfl hI.2.1)
    have k3 : XI3 W := by
      rw [hW]
      exact (xi3_u rfl hI.2.2.1)
    have kXA : XA W := by
      rw [hW]
      exact (uXA rfl hI.2.2.2.1)
    have k_xN1 : xN1 W := by
      rw [hW]
      exact (uxN1 rfl hI.2.2.2.2.1)
    have k_xN2 : xN2 W := by
      rw [hW]
      exact (uxN2 rfl hI.2.2.2.2.2.1)
    have k_xN3 : xN3 W := by
      rw [hW]
      exact (uxN3 rfl hI.2.2.2.2.2.2.1)
    have k_xN4 : xN4 W := by
      rw [hW]
      exact (uxN4 rfl hI.2.2.2.2.2.2.2.1)
    have k_xN5 : xN5 W := by
      rw [hW]
      exact (uxN5 rfl hI.2.2.2.2.2.2.2.2.1)
    have k_xN6 : xN6 W := by
      rw [hW]
      exact (uxN6 rfl hI.2.2.2.2.2.2.2.2.2.1)
    have k_xH1 : xH1 W := by
      rw [hW]
      exact (uxH1 rfl hI.2.2.2.2.2.2.2.2.2.2.1)
    have k_xK1 : xK1 W := by
      rw [hW]
      exact (uxK1 rfl hI.2.2.2.2.2.2.2.2.2.2.2.1)
    have k_xC1 : xC1 W := by
      rw [hW]
      exact (uxC1 rfl hI.2.2.2.2.2.2.2.2.2.2.2.2.1)
    have k_xRW : xRW W := by
      rw [hW]
      exact (uxRW rfl hI.2.2.2.2.2.2.2.2.2.2.2.2.2.1)
    have k_xWT : xWT W := by
      rw [hW]
      exact (uxWT rfl hI.2.2.2.2.2.2.2.2.2.2.2.2.2.2.1)
    have k_xCU : xCU W := by
      rw [hW]
      exact (uxCU rfl hI.2.2.2.2.2.2.2.2.2.2.2.2.2.2.2.1)
    have k_xG2 : xG2 W := by
      rw [hW]
      exact (uxG2 rfl hI.2.2.2.2.2.2.2.2.2.2.2.2.2.2.2.2.1)
    have k_xG3 : xG3 W := by
      rw [hW]
      exact (uxG3 rfl hI.2.2.2.2.2.2.2.2.2.2.2.2.2.2.2.2.2.1)
    have k_xG4 : xG4 W := by
      rw [hW]
      exact (uxG4 rfl hI.2.2.2.2.2.2.2.2.2.2.2.2.2.2.2.2.2.2.1)
    have k_xG5 : xG5 W := by
      rw [hW]
      exact (uxG5 rfl hI.2.2.2.2.2.2.2.2.2.2.2.2.2.2.2.2.2.2.2.1)
    have k_xG6 : xG6 W := by
      rw [hW]
      exact (uxG6 rfl hI.2.2.2.2.2.2.2.2.2.2.2.2.2.2.2.2.2.2.2.2.1)
    have k_xS1 : xS1 W := by
      rw [hW]
      exact (uxS1 rfl hI.2.2.2.2.2.2.2.2.2.2.2.2.2.2.2.2.2.2.2.2.2.1)
    have k_xS2 : xS2 W := by
      rw [hW]
      exact (uxS2 rfl hI.2.2.2.2.2.2.2.2.2.2.2.2.2.2.2.2.2.2.2.2.2.2.1)
    have k_xS3 : xS3 W := by
      rw [hW]
      exact (uxS3 rfl hI.2.2.2.2.2.2.2.2.2.2.2.2.2.2.2.2.2.2.2.2.2.2.2.1)
    have k_xS4 : xS4 W := by
      have r : W 4 100 = 2 := by
        have e := m0
        rw [hW, sU_ne (fun z => by omega)]
        omega
      intro h
      rw [r] at h
      omega
    have k_xS5 : xS5 W := by
      have r4_100 : W 4 100 = M 4 100 := by rw [hW, sU_ne (fun z => by omega)]
      have r4_104 : W 4 104 = 7 * ρ 0 + 0 := by rw [hW, sU_at]
      have r4_105 : W 4 105 = M 4 105 := by rw [hW, sU_ne (fun z => by omega)]
      have r4_106 : W 4 106 = M 4 106 := by rw [hW, sU_ne (fun z => by omega)]
      have c3 : ∀ k, W 3 k = M 3 k := fun k => by rw [hW, sU_ne (fun z => by omega)]
      have e3 : W 3 = M 3 := funext c3
      have c94 : ∀ k, W 94 k = M 94 k := fun k => by rw [hW, sU_ne (fun z => by omega)]
      have e94 : W 94 = M 94 := funext c94
      have c100 : ∀ k, W 100 k = M 100 k := fun k => by rw [hW, sU_ne (fun z => by omega)]
      have e100 : W 100 = M 100 := funext c100
      have c104 : ∀ k, W 104 k = M 104 k := fun k => by rw [hW, sU_ne (fun z => by omega)]
      have e104 : W 104 = M 104 := funext c104
      intro h
      obtain ⟨a0, a1, a2⟩ := gx_xS5 hI (by omega)
      rw [r4_104, r4_105, r4_106, e3, e94, e100, e104]
      refine ⟨fun j hj ht => ?_, fun j hj ht => ?_, fun j hj ht => ?_⟩
      · by_cases hJ : j = 6
        · subst hJ
          show M 94 15 = M 3 66
          omega
        · exact a0 j hj (by (try rw [h0] at ht); omega)
      · exact a1 j hj (by omega)
      · exact a2 j hj (by omega)
    have k_xS6 : xS6 W := by
      rw [hW]
      exact (uxS6 rfl hI.2.2.2.2.2.2.2.2.2.2.2.2.2.2.2.2.2.2.2.2.2.2.2.2.2.2.1)
    have k_xS7 : xS7 W := by
      rw [hW]
      exact (uxS7 rfl hI.2.2.2.2.2.2.2.2.2.2.2.2.2.2.2.2.2.2.2.2.2.2.2.2.2.2.2.1)
    have k_xS8 : xS8 W := by
      rw [hW]
      exact (uxS8 rfl hI.2.2.2.2.2.2.2.2.2.2.2.2.2.2.2.2.2.2.2.2.2.2.2.2.2.2.2.2.1)
    have k_xS9 : xS9 W := by
      rw [hW]
      exact (uxS9 rfl hI.2.2.2.2.2.2.2.2.2.2.2.2.2.2.2.2.2.2.2.2.2.2.2.2.2.2.2.2.2.1)
    have k_xSA : xSA W := by
      rw [hW]
      exact (uxSA rfl hI.2.2.2.2.2.2.2.2.2.2.2.2.2.2.2.2.2.2.2.2.2.2.2.2.2.2.2.2.2.2.1)
    have k_xSG : xSG W := by
      rw [hW]
      exact (uxSG rfl hI.2.2.2.2.2.2.2.2.2.2.2.2.2.2.2.2.2.2.2.2.2.2.2.2.2.2.2.2.2.2.2.1)
    have k_xSF : xSF W := by
      rw [hW]
      exact (uxSF rfl hI.2.2.2.2.2.2.2.2.2.2.2.2.2.2.2.2.2.2.2.2.2.2.2.2.2.2.2.2.2.2.2.2.1)
    have k_xSB : xSB W := by
      rw [hW]
      exact (uxSB rfl hI.2.2.2.2.2.2.2.2.2.2.2.2.2.2.2.2.2.2.2.2.2.2.2.2.2.2.2.2.2.2.2.2.2.1)
    have k_xSC : xSC W := by
      rw [hW]
      exact (uxSC rfl hI.2.2.2.2.2.2.2.2.2.2.2.2.2.2.2.2.2.2.2.2.2.2.2.2.2.2.2.2.2.2.2.2.2.2.1)
    have k_xSD : xSD W := by
      rw [hW]
      exact (uxSD rfl hI.2.2.2.2.2.2.2.2.2.2.2.2.2.2.2.2.2.2.2.2.2.2.2.2.2.2.2.2.2.2.2.2.2.2.2.1)
    have k_xSE : xSE W := by
      rw [hW]
      exact (uxSE rfl hI.2.2.2.2.2.2.2.2.2.2.2.2.2.2.2.2.2.2.2.2.2.2.2.2.2.2.2.2.2.2.2.2.2.2.2.2.1)
    have k_xSW : xSW W := by
      rw [hW]
      exact (uxSW rfl hI.2.2.2.2.2.2.2.2.2.2.2.2.2.2.2.2.2.2.2.2.2.2.2.2.2.2.2.2.2.2.2.2.2.2.2.2.2.1)
    have k_xST : xST W := by
      rw [hW]
      exact (uxST rfl hI.2.2.2.2.2.2.2.2.2.2.2.2.2.2.2.2.2.2.2.2.2.2.2.2.2.2.2.2.2.2.2.2.2.2.2.2.2.2.1)
    have k_xSP : xSP W := by
      rw [hW]
      exact (uxSP rfl hI.2.2.2.2.2.2.2.2.2.2.2.2.2.2.2.2.2.2.2.2.2.2.2.2.2.2.2.2.2.2.2.2.2.2.2.2.2.2.2.1)
    have k_xSL : xSL W := by
      rw [hW]
      exact (uxSL rfl hI.2.2.2.2.2.2.2.2.2.2.2.2.2.2.2.2.2.2.2.2.2.2.2.2.2.2.2.2.2.2.2.2.2.2.2.2.2.2.2.2.1)
    have k_xSM : xSM W := by
      rw [hW]
      exact (uxSM rfl hI.2.2.2.2.2.2.2.2.2.2.2.2.2.2.2.2.2.2.2.2.2.2.2.2.2.2.2.2.2.2.2.2.2.2.2.2.2.2.2.2.2.1)
    have k_xSI : xSI W := by
      rw [hW]
      exact (uxSI rfl hI.2.2.2.2.2.2.2.2.2.2.2.2.2.2.2.2.2.2.2.2.2.2.2.2.2.2.2.2.2.2.2.2.2.2.2.2.2.2.2.2.2.2)
    have k_XC : XC W := ⟨k_xS1, k_xS2, k_xS3, k_xS4, k_xS5, k_xS6, k_xS7, k_xS8, k_xS9, k_xSA, k_xSG, k_xSF, k_xSB, k_xSC, k_xSD, k_xSE, k_xSW, k_xST, k_xSP, k_xSL, k_xSM, k_xSI⟩
    have kXB : XB W := ⟨k_xN1, k_xN2, k_xN3, k_xN4, k_xN5, k_xN6, k_xH1, k_xK1, k_xC1, k_xRW, k_xWT, k_xCU, k_xG2, k_xG3, k_xG4, k_xG5, k_xG6, k_XC⟩
    exact ⟨base, k2, k3, kXA, kXB⟩
-- nmTieR94_7
def xr_566 : qRu := (4, [[(-8, 0), (1, 3)]], [(4, 100, [(2, 0)]), (4, 104, [(1, 3)]), (94, 16, [(1, 1)]), (3, 67, [(1, 2)])], [], [], [[(1, 1), (-1, 2)], [(-1, 1), (1, 2)]])
theorem xo_566 : qRok xr_566 := by
  intro ρ M h0 hf hm hI
  have f0 := hf [(-8, 0), (1, 3)] (by decide)
  simp only [qD, h0] at f0
  have m0 : M 4 100 = 2 * ρ 0 + 0 := hm (4, 100, [(2, 0)]) (by decide)
  have m1 : M 4 104 = 1 * ρ 3 + 0 := hm (4, 104, [(1, 3)]) (by decide)
  have m2 : M 94 16 = 1 * ρ 1 + 0 := hm (94, 16, [(1, 1)]) (by decide)
  have m3 : M 3 67 = 1 * ρ 2 + 0 := hm (3, 67, [(1, 2)]) (by decide)
  simp only [h0] at m0
  obtain ⟨a0, a1, a2⟩ := gx_xS5 hI (by omega)
  have t := a0 7 (by omega) (by omega)
  have t : M 94 16 = M 3 67 := t
  refine ⟨ρ, fun _ _ => rfl, fun f h => ?_, ?_⟩
  · have h : f ∈ ([[(1, 1), (-1, 2)], [(-1, 1), (1, 2)]] : List qF) := h
    simp only [List.mem_cons, List.not_mem_nil, or_false] at h
    rcases h with rfl | rfl
    · show 0 ≤ 1 * ρ 1 + (-1 * ρ 2 + 0)
      (try rw [h0]); omega
    · show 0 ≤ -1 * ρ 1 + (1 * ρ 2 + 0)
      (try rw [h0]); omega
  · show sI M
    exact hI
-- nmUpR94_7
def xr_567 : qRu := (3, [[(1, 1), (-1, 2)], [(-1, 1), (1, 2)]], [(4, 100, [(2, 0)]), (4, 104, [(7, 0)]), (94, 16, [(1, 1)]), (3, 67, [(1, 2)])], [], [(4, 104, [(8, 0)])], [])
theorem xo_567 : qRok xr_567 := by
  intro ρ M h0 hf hm hI
  have f0 := hf [(1, 1), (-1, 2)] (by decide)
  have f1 := hf [(-1, 1), (1, 2)] (by decide)
  simp only [qD, h0] at f0 f1
  have m0 : M 4 100 = 2 * ρ 0 + 0 := hm (4, 100, [(2, 0)]) (by decide)
  have m1 : M 4 104 = 7 * ρ 0 + 0 := hm (4, 104, [(7, 0)]) (by decide)
  have m2 : M 94 16 = 1 * ρ 1 + 0 := hm (94, 16, [(1, 1)]) (by decide)
  have m3 : M 3 67 = 1 * ρ 2 + 0 := hm (3, 67, [(1, 2)]) (by decide)
  simp only [h0] at m0 m1
  have qxS5 := hI.2.2.2.2.2.2.2.2.2.2.2.2.2.2.2.2.2.2.2.2.2.2.2.2.2.1
  refine ⟨ρ, fun _ _ => rfl, fun f h => ?_, ?_⟩
  · exact nomatch h
  · show sI (sU M 4 104 (8 * ρ 0 + 0))
    obtain ⟨W, hW⟩ : ∃ W, W = (sU M 4 104 (8 * ρ 0 + 0)) := ⟨_, rfl⟩
    rw [← hW]
    have base : sI0 W := by
      rw [hW]
      exact (si_u0 hI.1 (fun r hr => by cases hr))
    have k2 : XI2 W := by
      rw [hW]
      exact (xi2_u rfl hI.2.1)
    have k3 : XI3 W := by
      rw [hW]
      exact (xi3_u rfl hI.2.2.1)
    have kXA : XA W := by
      rw [hW]
      exact (uXA rfl hI.2.2.2.1)
    have k_xN1 : xN1 W := by
      rw [hW]
      exact (uxN1 rfl hI.2.2.2.2.1)
    have k_xN2 : xN2 W := by
      rw [hW]
      exact (uxN2 rfl hI.2.2.2.2.2.1)
    have k_xN3 : xN3 W := by
      rw [hW]
      exact (uxN3 rfl hI.2.2.2.2.2.2.1)
    have k_xN4 : xN4 W := by
      rw [hW]
      exact (uxN4 rfl hI.2.2.2.2.2.2.2.1)
    have k_xN5 : xN5 W := by
      rw [hW]
      exact (uxN5 rfl hI.2.2.2.2.2.2.2.2.1)
    have k_xN6 : xN6 W := by
      rw [hW]
      exact (uxN6 rfl hI.2.2.2.2.2.2.2.2.2.1)
    have k_xH1 : xH1 W := by
      rw [hW]
      exact (uxH1 rfl hI.2.2.2.2.2.2.2.2.2.2.1)
    have k_xK1 : xK1 W := by
      rw [hW]
      exact (uxK1 rfl hI.2.2.2.2.2.2.2.2.2.2.2.1)
    have k_xC1 : xC1 W := by
      rw [hW]
      exact (uxC1 rfl hI.2.2.2.2.2.2.2.2.2.2.2.2.1)
    have k_xRW : xRW W := by
      rw [hW]
      exact (uxRW rfl hI.2.2.2.2.2.2.2.2.2.2.2.2.2.1)
    have k_xWT : xWT W := by
      rw [hW]
      exact (uxWT rfl hI.2.2.2.2.2.2.2.2.2.2.2.2.2.2.1)
    have k_xCU : xCU W := by
      rw [hW]
      exact (uxCU rfl hI.2.2.2.2.2.2.2.2.2.2.2.2.2.2.2.1)
    have k_xG2 : xG2 W := by
      rw [hW]
      exact (uxG2 rfl hI.2.2.2.2.2.2.2.2.2.2.2.2.2.2.2.2.1)
    have k_xG3 : xG3 W := by
      rw [hW]
      exact (uxG3 rfl hI.2.2.2.2.2.2.2.2.2.2.2.2.2.2.2.2.2.1)
    have k_xG4 : xG4 W := by
      rw [hW]
      exact (uxG4 rfl hI.2.2.2.2.2.2.2.2.2.2.2.2.2.2.2.2.2.2.1)
    have k_xG5 : xG5 W := by
      rw [hW]
      exact (uxG5 rfl hI.2.2.2.2.2.2.2.2.2.2.2.2.2.2.2.2.2.2.2.1)
    have k_xG6 : xG6 W := by
      rw [hW]
      exact (uxG6 rfl hI.2.2.2.2.2.2.2.2.2.2.2.2.2.2.2.2.2.2.2.2.1)
    have k_xS1 : xS1 W := by
      rw [hW]
      exact (uxS1 rfl hI.2.2.2.2.2.2.2.2.2.2.2.2.2.2.2.2.2.2.2.2.2.1)
    have k_xS2 : xS2 W := by
      rw [hW]
      exact (uxS2 rfl hI.2.2.2.2.2.2.2.2.2.2.2.2.2.2.2.2.2.2.2.2.2.2.1)
    have k_xS3 : xS3 W := by
      rw [hW]
      exact (uxS3 rfl hI.2.2.2.2.2.2.2.2.2.2.2.2.2.2.2.2.2.2.2.2.2.2.2.1)
    have k_xS4 : xS4 W := by
      have r : W 4 100 = 2 := by
        have e := m0
        rw [hW, sU_ne (fun z => by omega)]
        omega
      intro h
      rw [r] at h
      omega
    have k_xS5 : xS5 W := by
      have r4_100 : W 4 100 = M 4 100 := by rw [hW, sU_ne (fun z => by omega)]
      have r4_104 : W 4 104 = 8 * ρ 0 + 0 := by rw [hW, sU_at]
      have r4_105 : W 4 105 = M 4 105 := by rw [hW, sU_ne (fun z => by omega)]
      have r4_106 : W 4 106 = M 4 106 := by rw [hW, sU_ne (fun z => by omega)]
      have c3 : ∀ k, W 3 k = M 3 k := fun k => by rw [hW, sU_ne (fun z => by omega)]
      have e3 : W 3 = M 3 := funext c3
      have c94 : ∀ k, W 94 k = M 94 k := fun k => by rw [hW, sU_ne (fun z => by omega)]
      have e94 : W 94 = M 94 := funext c94
      have c100 : ∀ k, W 100 k = M 100 k := fun k => by rw [hW, sU_ne (fun z => by omega)]
      have e100 : W 100 = M 100 := funext c100
      have c104 : ∀ k, W 104 k = M 104 k := fun k => by rw [hW, sU_ne (fun z => by omega)]
      have e104 : W 104 = M 104 := funext c104
      intro h
      obtain ⟨a0, a1, a2⟩ := gx_xS5 hI (by omega)
      rw [r4_104, r4_105, r4_106, e3, e94, e100, e104]
      refine ⟨fun j hj ht => ?_, fun j hj ht => ?_, fun j hj ht => ?_⟩
      · by_cases hJ : j = 7
        · subst hJ
          show M 94 16 = M 3 67
          omega
        · exact a0 j hj (by (try rw [h0] at ht); omega)
      · exact a1 j hj (by omega)
      · exact a2 j hj (by omega)
    have k_xS6 : xS6 W := by
      rw [hW]
      exact (uxS6 rfl hI.2.2.2.2.2.2.2.2.2.2.2.2.2.2.2.2.2.2.2.2.2.2.2.2.2.2.1)
    have k_xS7 : xS7 W := by
      rw [hW]
      exact (uxS7 rfl hI.2.2.2.2.2.2.2.2.2.2.2.2.2.2.2.2.2.2.2.2.2.2.2.2.2.2.2.1)
    have k_xS8 : xS8 W := by
      rw [hW]
      exact (uxS8 rfl hI.2.2.2.2.2.2.2.2.2.2.2.2.2.2.2.2.2.2.2.2.2.2.2.2.2.2.2.2.1)
    have k_xS9 : xS9 W := by
      rw [hW]
      exact (uxS9 rfl hI.2.2.2.2.2.2.2.2.2.2.2.2.2.2.2.2.2.2.2.2.2.2.2.2.2.2.2.2.2.1)
    have k_xSA : xSA W := by
      rw [hW]
      exact (uxSA rfl hI.2.2.2.2.2.2.2.2.2.2.2.2.2.2.2.2.2.2.2.2.2.2.2.2.2.2.2.2.2.2.1)
    have k_xSG : xSG W := by
      rw [hW]
      exact (uxSG rfl hI.2.2.2.2.2.2.2.2.2.2.2.2.2.2.2.2.2.2.2.2.2.2.2.2.2.2.2.2.2.2.2.1)
    have k_xSF : xSF W := by
      rw [hW]
      exact (uxSF rfl hI.2.2.2.2.2.2.2.2.2.2.2.2.2.2.2.2.2.2.2.2.2.2.2.2.2.2.2.2.2.2.2.2.1)
    have k_xSB : xSB W := by
      rw [hW]
      exact (uxSB rfl hI.2.2.2.2.2.2.2.2.2.2.2.2.2.2.2.2.2.2.2.2.2.2.2.2.2.2.2.2.2.2.2.2.2.1)
    have k_xSC : xSC W := by
      rw [hW]
      exact (uxSC rfl hI.2.2.2.2.2.2.2.2.2.2.2.2.2.2.2.2.2.2.2.2.2.2.2.2.2.2.2.2.2.2.2.2.2.2.1)
    have k_xSD : xSD W := by
      rw [hW]
      exact (uxSD rfl hI.2.2.2.2.2.2.2.2.2.2.2.2.2.2.2.2.2.2.2.2.2.2.2.2.2.2.2.2.2.2.2.2.2.2.2.1)
    have k_xSE : xSE W := by
      rw [hW]
      exact (uxSE rfl hI.2.2.2.2.2.2.2.2.2.2.2.2.2.2.2.2.2.2.2.2.2.2.2.2.2.2.2.2.2.2.2.2.2.2.2.2.1)
    have k_xSW : xSW W := by
      rw [hW]
      exact (uxSW rfl hI.2.2.2.2.2.2.2.2.2.2.2.2.2.2.2.2.2.2.2.2.2.2.2.2.2.2.2.2.2.2.2.2.2.2.2.2.2.1)
    have k_xST : xST W := by
      rw [hW]
      exact (uxST rfl hI.2.2.2.2.2.2.2.2.2.2.2.2.2.2.2.2.2.2.2.2.2.2.2.2.2.2.2.2.2.2.2.2.2.2.2.2.2.2.1)
    have k_xSP : xSP W := by
      rw [hW]
      exact (uxSP rfl hI.2.2.2.2.2.2.2.2.2.2.2.2.2.2.2.2.2.2.2.2.2.2.2.2.2.2.2.2.2.2.2.2.2.2.2.2.2.2.2.1)
    have k_xSL : xSL W := by
      rw [hW]
      exact (uxSL rfl hI.2.2.2.2.2.2.2.2.2.2.2.2.2.2.2.2.2.2.2.2.2.2.2.2.2.2.2.2.2.2.2.2.2.2.2.2.2.2.2.2.1)
    have k_xSM : xSM W := by
      rw [hW]
      exact (uxSM rfl hI.2.2.2.2.2.2.2.2.2.2.2.2.2.2.2.2.2.2.2.2.2.2.2.2.2.2.2.2.2.2.2.2.2.2.2.2.2.2.2.2.2.1)
    have k_xSI : xSI W := by
      rw [hW]
      exact (uxSI rfl hI.2.2.2.2.2.2.2.2.2.2.2.2.2.2.2.2.2.2.2.2.2.2.2.2.2.2.2.2.2.2.2.2.2.2.2.2.2.2.2.2.2.2)
    have k_XC : XC W := ⟨k_xS1, k_xS2, k_xS3, k_xS4, k_xS5, k_xS6, k_xS7, k_xS8, k_xS9, k_xSA, k_xSG, k_xSF, k_xSB, k_xSC, k_xSD, k_xSE, k_xSW, k_xST, k_xSP, k_xSL, k_xSM, k_xSI⟩
    have kXB : XB W := ⟨k_xN1, k_xN2, k_xN3, k_xN4, k_xN5, k_xN6, k_xH1, k_xK1, k_xC1, k_xRW, k_xWT, k_xCU, k_xG2, k_xG3, k_xG4, k_xG5, k_xG6, k_XC⟩
    exact ⟨base, k2, k3, kXA, kXB⟩
-- nmTieR94_8
def xr_568 : qRu := (4, [[(-9, 0), (1, 3)]], [(4, 100, [(2, 0)]), (4, 104, [(1, 3)]), (94, 17, [(1, 1)]), (3, 68, [(1, 2)])], [], [], [[(1, 1), (-1, 2)], [(-1, 1), (1, 2)]])
theorem xo_568 : qRok xr_568 := by
  intro ρ M h0 hf hm hI
  have f0 := hf [(-9, 0), (1, 3)] (by decide)
  simp only [qD, h0] at f0
  have m0 : M 4 100 = 2 * ρ 0 + 0 := hm (4, 100, [(2, 0)]) (by decide)
  have m1 : M 4 104 = 1 * ρ 3 + 0 := hm (4, 104, [(1, 3)]) (by decide)
  have m2 : M 94 17 = 1 * ρ 1 + 0 := hm (94, 17, [(1, 1)]) (by decide)
  have m3 : M 3 68 = 1 * ρ 2 + 0 := hm (3, 68, [(1, 2)]) (by decide)
  simp only [h0] at m0
  obtain ⟨a0, a1, a2⟩ := gx_xS5 hI (by omega)
  have t := a0 8 (by omega) (by omega)
  have t : M 94 17 = M 3 68 := t
  refine ⟨ρ, fun _ _ => rfl, fun f h => ?_, ?_⟩
  · have h : f ∈ ([[(1, 1), (-1, 2)], [(-1, 1), (1, 2)]] : List qF) := h
    simp only [List.mem_cons, List.not_mem_nil, or_false] at h
    rcases h with rfl | rfl
    · show 0 ≤ 1 * ρ 1 + (-1 * ρ 2 + 0)
      (try rw [h0]); omega
    · show 0 ≤ -1 * ρ 1 + (1 * ρ 2 + 0)
      (try rw [h0]); omega
  · show sI M
    exact hI
-- nmUpR94_8
def xr_569 : qRu := (3, [[(1, 1), (-1, 2)], [(-1, 1), (1, 2)]], [(4, 100, [(2, 0)]), (4, 104, [(8, 0)]), (94, 17, [(1, 1)]), (3, 68, [(1, 2)])], [], [(4, 104, [(9, 0)])], [])
theorem xo_569 : qRok xr_569 := by
  intro ρ M h0 hf hm hI
  have f0 := hf [(1, 1), (-1, 2)] (by decide)
  have f1 := hf [(-1, 1), (1, 2)] (by decide)
  simp only [qD, h0] at f0 f1
  have m0 : M 4 100 = 2 * ρ 0 + 0 := hm (4, 100, [(2, 0)]) (by decide)
  have m1 : M 4 104 = 8 * ρ 0 + 0 := hm (4, 104, [(8, 0)]) (by decide)
  have m2 : M 94 17 = 1 * ρ 1 + 0 := hm (94, 17, [(1, 1)]) (by decide)
  have m3 : M 3 68 = 1 * ρ 2 + 0 := hm (3, 68, [(1, 2)]) (by decide)
  simp only [h0] at m0 m1
  have qxS5 := hI.2.2.2.2.2.2.2.2.2.2.2.2.2.2.2.2.2.2.2.2.2.2.2.2.2.1
  refine ⟨ρ, fun _ _ => rfl, fun f h => ?_, ?_⟩
  · exact nomatch h
  · show sI (sU M 4 104 (9 * ρ 0 + 0))
    obtain ⟨W, hW⟩ : ∃ W, W = (sU M 4 104 (9 * ρ 0 + 0)) := ⟨_, rfl⟩
    rw [← hW]
    have base : sI0 W := by
      rw [hW]
      exact (si_u0 hI.1 (fun r hr => by cases hr))
    have k2 : XI2 W := by
      rw [hW]
      exact (xi2_u rfl hI.2.1)
    have k3 : XI3 W := by
      rw [hW]
      exact (xi3_u rfl hI.2.2.1)
    have kXA : XA W := by
      rw [hW]
      exact (uXA rfl hI.2.2.2.1)
    have k_xN1 : xN1 W := by
      rw [hW]
      exact (uxN1 rfl hI.2.2.2.2.1)
    have k_xN2 : xN2 W := by
      rw [hW]
      exact (uxN2 rfl hI.2.2.2.2.2.1)
    have k_xN3 : xN3 W := by
      rw [hW]
      exact (uxN3 rfl hI.2.2.2.2.2.2.1)
    have k_xN4 : xN4 W := by
      rw [hW]
      exact (uxN4 rfl hI.2.2.2.2.2.2.2.1)
    have k_xN5 : xN5 W := by
      rw [hW]
      exact (uxN5 rfl hI.2.2.2.2.2.2.2.2.1)
    have k_xN6 : xN6 W := by
      rw [hW]
      exact (uxN6 rfl hI.2.2.2.2.2.2.2.2.2.1)
    have k_xH1 : xH1 W := by
      rw [hW]
      exact (uxH1 rfl hI.2.2.2.2.2.2.2.2.2.2.1)
    have k_xK1 : xK1 W := by
      rw [hW]
      exact (uxK1 rfl hI.2.2.2.2.2.2.2.2.2.2.2.1)
    have k_xC1 : xC1 W := by
      rw [hW]
      exact (uxC1 rfl hI.2.2.2.2.2.2.2.2.2.2.2.2.1)
    have k_xRW : xRW W := by
      rw [hW]
      exact (uxRW rfl hI.2.2.2.2.2.2.2.2.2.2.2.2.2.1)
    have k_xWT : xWT W := by
      rw [hW]
      exact (uxWT rfl hI.2.2.2.2.2.2.2.2.2.2.2.2.2.2.1)
    have k_xCU : xCU W := by
      rw [hW]
      exact (uxCU rfl hI.2.2.2.2.2.2.2.2.2.2.2.2.2.2.2.1)
    have k_xG2 : xG2 W := by
      rw [hW]
      exact (uxG2 rfl hI.2.2.2.2.2.2.2.2.2.2.2.2.2.2.2.2.1)
    have k_xG3 : xG3 W := by
      rw [hW]
      exact (uxG3 rfl hI.2.2.2.2.2.2.2.2.2.2.2.2.2.2.2.2.2.1)
    have k_xG4 : xG4 W := by
      rw [hW]
      exact (uxG4 rfl hI.2.2.2.2.2.2.2.2.2.2.2.2.2.2.2.2.2.2.1)
    have k_xG5 : xG5 W := by
      rw [hW]
      exact (uxG5 rfl hI.2.2.2.2.2.2.2.2.2.2.2.2.2.2.2.2.2.2.2.1)
    have k_xG6 : xG6 W := by
      rw [hW]
      exact (uxG6 rfl hI.2.2.2.2.2.2.2.2.2.2.2.2.2.2.2.2.2.2.2.2.1)
    have k_xS1 : xS1 W := by
      rw [hW]
      exact (uxS1 rfl hI.2.2.2.2.2.2.2.2.2.2.2.2.2.2.2.2.2.2.2.2.2.1)
    have k_xS2 : xS2 W := by
      rw [hW]
      exact (uxS2 rfl hI.2.2.2.2.2.2.2.2.2.2.2.2.2.2.2.2.2.2.2.2.2.2.1)
    have k_xS3 : xS3 W := by
      rw [hW]
      exact (uxS3 rfl hI.2.2.2.2.2.2.2.2.2.2.2.2.2.2.2.2.2.2.2.2.2.2.2.1)
    have k_xS4 : xS4 W := by
      have r : W 4 100 = 2 := by
        have e := m0
        rw [hW, sU_ne (fun z => by omega)]
        omega
      intro h
      rw [r] at h
      omega
    have k_xS5 : xS5 W := by
      have r4_100 : W 4 100 = M 4 100 := by rw [hW, sU_ne (fun z => by omega)]
      have r4_104 : W 4 104 = 9 * ρ 0 + 0 := by rw [hW, sU_at]
      have r4_105 : W 4 105 = M 4 105 := by rw [hW, sU_ne (fun z => by omega)]
      have r4_106 : W 4 106 = M 4 106 := by rw [hW, sU_ne (fun z => by omega)]
      have c3 : ∀ k, W 3 k = M 3 k := fun k => by rw [hW, sU_ne (fun z => by omega)]
      have e3 : W 3 = M 3 := funext c3
      have c94 : ∀ k, W 94 k = M 94 k := fun k => by rw [hW, sU_ne (fun z => by omega)]
      have e94 : W 94 = M 94 := funext c94
      have c100 : ∀ k, W 100 k = M 100 k := fun k => by rw [hW, sU_ne (fun z => by omega)]
      have e100 : W 100 = M 100 := funext c100
      have c104 : ∀ k, W 104 k = M 104 k := fun k => by rw [hW, sU_ne (fun z => by omega)]
      have e104 : W 104 = M 104 := funext c104
      intro h
      obtain ⟨a0, a1, a2⟩ := gx_xS5 hI (by omega)
      rw [r4_104, r4_105, r4_106, e3, e94, e100, e104]
      refine ⟨fun j hj ht => ?_, fun j hj ht => ?_, fun j hj ht => ?_⟩
      · by_cases hJ : j = 8
        · subst hJ
          show M 94 17 = M 3 68
          omega
        · exact a0 j hj (by (try rw [h0] at ht); omega)
      · exact a1 j hj (by omega)
      · exact a2 j hj (by omega)
    have k_xS6 : xS6 W := by
      rw [hW]
      exact (uxS6 rfl hI.2.2.2.2.2.2.2.2.2.2.2.2.2.2.2.2.2.2.2.2.2.2.2.2.2.2.1)
    have k_xS7 : xS7 W := by
      rw [hW]
      exact (uxS7 rfl hI.2.2.2.2.2.2.2.2.2.2.2.2.2.2.2.2.2.2.2.2.2.2.2.2.2.2.2.1)
    have k_xS8 : xS8 W := by
      rw [hW]
      exact (uxS8 rfl hI.2.2.2.2.2.2.2.2.2.2.2.2.2.2.2.2.2.2.2.2.2.2.2.2.2.2.2.2.1)
    have k_xS9 : xS9 W := by
      rw [hW]
      exact (uxS9 rfl hI.2.2.2.2.2.2.2.2.2.2.2.2.2.2.2.2.2.2.2.2.2.2.2.2.2.2.2.2.2.1)
    have k_xSA : xSA W := by
      rw [hW]
      exact (uxSA rfl hI.2.2.2.2.2.2.2.2.2.2.2.2.2.2.2.2.2.2.2.2.2.2.2.2.2.2.2.2.2.2.1)
    have k_xSG : xSG W := by
      rw [hW]
      exact (uxSG rfl hI.2.2.2.2.2.2.2.2.2.2.2.2.2.2.2.2.2.2.2.2.2.2.2.2.2.2.2.2.2.2.2.1)
    have k_xSF : xSF W := by
      rw [hW]
      exact (uxSF rfl hI.2.2.2.2.2.2.2.2.2.2.2.2.2.2.2.2.2.2.2.2.2.2.2.2.2.2.2.2.2.2.2.2.1)
    have k_xSB : xSB W := by
      rw [hW]
      exact (uxSB rfl hI.2.2.2.2.2.2.2.2.2.2.2.2.2.2.2.2.2.2.2.2.2.2.2.2.2.2.2.2.2.2.2.2.2.1)
    have k_xSC : xSC W := by
      rw [hW]
      exact (uxSC rfl hI.2.2.2.2.2.2.2.2.2.2.2.2.2.2.2.2.2.2.2.2.2.2.2.2.2.2.2.2.2.2.2.2.2.2.1)
    have k_xSD : xSD W := by
      rw [hW]
      exact (uxSD rfl hI.2.2.2.2.2.2.2.2.2.2.2.2.2.2.2.2.2.2.2.2.2.2.2.2.2.2.2.2.2.2.2.2.2.2.2.1)
    have k_xSE : xSE W := by
      rw [hW]
      exact (uxSE rfl hI.2.2.2.2.2.2.2.2.2.2.2.2.2.2.2.2.2.2.2.2.2.2.2.2.2.2.2.2.2.2.2.2.2.2.2.2.1)
    have k_xSW : xSW W := by
      rw [hW]
      exact (uxSW rfl hI.2.2.2.2.2.2.2.2.2.2.2.2.2.2.2.2.2.2.2.2.2.2.2.2.2.2.2.2.2.2.2.2.2.2.2.2.2.1)
    have k_xST : xST W := by
      rw [hW]
      exact (uxST rfl hI.2.2.2.2.2.2.2.2.2.2.2.2.2.2.2.2.2.2.2.2.2.2.2.2.2.2.2.2.2.2.2.2.2.2.2.2.2.2.1)
    have k_xSP : xSP W := by
      rw [hW]
      exact (uxSP rfl hI.2.2.2.2.2.2.2.2.2.2.2.2.2.2.2.2.2.2.2.2.2.2.2.2.2.2.2.2.2.2.2.2.2.2.2.2.2.2.2.1)
    have k_xSL : xSL W := by
      rw [hW]
      exact (uxSL rfl hI.2.2.2.2.2.2.2.2.2.2.2.2.2.2.2.2.2.2.2.2.2.2.2.2.2.2.2.2.2.2.2.2.2.2.2.2.2.2.2.2.1)
    have k_xSM : xSM W := by
      rw [hW]
      exact (uxSM rfl hI.2.2.2.2.2.2.2.2.2.2.2.2.2.2.2.2.2.2.2.2.2.2.2.2.2.2.2.2.2.2.2.2.2.2.2.2.2.2.2.2.2.1)
    have k_xSI : xSI W := by
      rw [hW]
      exact (uxSI rfl hI.2.2.2.2.2.2.2.2.2.2.2.2.2.2.2.2.2.2.2.2.2.2.2.2.2.2.2.2.2.2.2.2.2.2.2.2.2.2.2.2.2.2)
    have k_XC : XC W := ⟨k_xS1, k_xS2, k_xS3, k_xS4, k_xS5, k_xS6, k_xS7, k_xS8, k_xS9, k_xSA, k_xSG, k_xSF, k_xSB, k_xSC, k_xSD, k_xSE, k_xSW, k_xST, k_xSP, k_xSL, k_xSM, k_xSI⟩
    have kXB : XB W := ⟨k_xN1, k_xN2, k_xN3, k_xN4, k_xN5, k_xN6, k_xH1, k_xK1, k_xC1, k_xRW, k_xWT, k_xCU, k_xG2, k_xG3, k_xG4, k_xG5, k_xG6, k_XC⟩
    exact ⟨base, k2, k3, kXA, kXB⟩
-- nmWR94
def xr_570 : qRu := (4, [[(-9, 0), (1, 1), (-1, 3)], [(17, 0), (-1, 1)], [(1, 3)], [(2147483648, 0), (1, 2)], [(2147483647, 0), (-1, 2)]], [(4, 104, [(1, 3)])], [(94, [(1, 1)], [(1, 2)])], [], [])
theorem xo_570 : qRok xr_570 := by
  intro ρ M h0 hf hm hI
  have f0 := hf [(-9, 0), (1, 1), (-1, 3)] (by decide)
  have f1 := hf [(17, 0), (-1, 1)] (by decide)
  have f2 := hf [(1, 3)] (by decide)
  have f3 := hf [(2147483648, 0), (1, 2)] (by decide)
  have f4 := hf [(2147483647, 0), (-1, 2)] (by decide)
  simp only [qD, h0] at f0 f1 f2 f3 f4
  have m0 : M 4 104 = 1 * ρ 3 + 0 := hm (4, 104, [(1, 3)]) (by decide)
  have qxS5 := hI.2.2.2.2.2.2.2.2.2.2.2.2.2.2.2.2.2.2.2.2.2.2.2.2.2.1
  refine ⟨ρ, fun _ _ => rfl, fun f h => ?_, ?_⟩
  · exact nomatch h
  · show sI (sU M 94 (1 * ρ 1 + 0 : Int).toNat (1 * ρ 2 + 0))
    obtain ⟨W, hW⟩ : ∃ W, W = (sU M 94 (1 * ρ 1 + 0).toNat (1 * ρ 2 + 0)) := ⟨_, rfl⟩
    rw [← hW]
    have base : sI0 W := by
      rw [hW]
      exact (si_u0 hI.1 (fun r hr => by rw [xt_94 hr]; exact ⟨by show (-2147483648 : Int) ≤ _; omega, by show _ ≤ (2147483647 : Int); omega⟩))
    have k2 : XI2 W := by
      rw [hW]
      exact (xi2_u (sinc_ok rfl _) hI.2.1)
    have k3 : XI3 W := by
      rw [hW]
      exact (xi3_u (sinc_ok rfl _) hI.2.2.1)
    have kXA : XA W := by
      rw [hW]
      exact (uXA (sinc_ok rfl _) hI.2.2.2.1)
    have k_xN1 : xN1 W := by
      rw [hW]
      exact (uxN1 (sinc_ok rfl _) hI.2.2.2.2.1)
    have k_xN2 : xN2 W := by
      rw [hW]
      exact (uxN2 (sinc_ok rfl _) hI.2.2.2.2.2.1)
    have k_xN3 : xN3 W := by
      rw [hW]
      exact (uxN3 (sinc_ok rfl _) hI.2.2.2.2.2.2.1)
    have k_xN4 : xN4 W := by
      rw [hW]
      exact (uxN4 (sinc_ok rfl _) hI.2.2.2.2.2.2.2.1)
    have k_xN5 : xN5 W := by
      rw [hW]
      exact (uxN5 (sinc_ok rfl _) hI.2.2.2.2.2.2.2.2.1)
    have k_xN6 : xN6 W := by
      rw [hW]
      exact (uxN6 (sinc_ok rfl _) hI.2.2.2.2.2.2.2.2.2.1)
    have k_xH1 : xH1 W := by
      rw [hW]
      exact (uxH1 (sinc_ok rfl _) hI.2.2.2.2.2.2.2.2.2.2.1)
    have k_xK1 : xK1 W := by
      rw [hW]
      exact (uxK1 (sinc_ok rfl _) hI.2.2.2.2.2.2.2.2.2.2.2.1)
    have k_xC1 : xC1 W := by
      rw [hW]
      exact (uxC1 (sinc_ok rfl _) hI.2.2.2.2.2.2.2.2.2.2.2.2.1)
    have k_xRW : xRW W := by
      rw [hW]
      exact (uxRW (sinc_ok rfl _) hI.2.2.2.2.2.2.2.2.2.2.2.2.2.1)
    have k_xWT : xWT W := by
      rw [hW]
      exact (uxWT (sinc_ok rfl _) hI.2.2.2.2.2.2.2.2.2.2.2.2.2.2.1)
    have k_xCU : xCU W := by
      rw [hW]
      exact (uxCU (sinc_ok rfl _) hI.2.2.2.2.2.2.2.2.2.2.2.2.2.2.2.1)
    have k_xG2 : xG2 W := by
      rw [hW]
      exact (uxG2 (sinc_ok rfl _) hI.2.2.2.2.2.2.2.2.2.2.2.2.2.2.2.2.1)
    have k_xG3 : xG3 W := by
      rw [hW]
      exact (uxG3 (sinc_ok rfl _) hI.2.2.2.2.2.2.2.2.2.2.2.2.2.2.2.2.2.1)
    have k_xG4 : xG4 W := by
      rw [hW]
      exact (uxG4 (sinc_ok rfl _) hI.2.2.2.2.2.2.2.2.2.2.2.2.2.2.2.2.2.2.1)
    have k_xG5 : xG5 W := by
      rw [hW]
      exact (uxG5 (sinc_ok rfl _) hI.2.2.2.2.2.2.2.2.2.2.2.2.2.2.2.2.2.2.2.1)
    have k_xG6 : xG6 W := by
      rw [hW]
      exact (uxG6 (sinc_ok rfl _) hI.2.2.2.2.2.2.2.2.2.2.2.2.2.2.2.2.2.2.2.2.1)
    have k_xS1 : xS1 W := by
      rw [hW]
      exact (uxS1 (sinc_ok rfl _) hI.2.2.2.2.2.2.2.2.2.2.2.2.2.2.2.2.2.2.2.2.2.1)
    have k_xS2 : xS2 W := by
      rw [hW]
      exact (uxS2 (sinc_ok rfl _) hI.2.2.2.2.2.2.2.2.2.2.2.2.2.2.2.2.2.2.2.2.2.2.1)
    have k_xS3 : xS3 W := by
      rw [hW]
      exact (uxS3 (sinc_ok rfl _) hI.2.2.2.2.2.2.2.2.2.2.2.2.2.2.2.2.2.2.2.2.2.2.2.1)
    have k_xS4 : xS4 W := by
      rw [hW]
      exact (uxS4 (sinc_ok rfl _) hI.2.2.2.2.2.2.2.2.2.2.2.2.2.2.2.2.2.2.2.2.2.2.2.2.1)
    have k_xS5 : xS5 W := by
      have r4_100 : W 4 100 = M 4 100 := by rw [hW, sU_ne (fun z => by omega)]
      have r4_104 : W 4 104 = M 4 104 := by rw [hW, sU_ne (fun z => by omega)]
      have r4_105 : W 4 105 = M 4 105 := by rw [hW, sU_ne (fun z => by omega)]
      have r4_106 : W 4 106 = M 4 106 := by rw [hW, sU_ne (fun z => by omega)]
      have c3 : ∀ k, W 3 k = M 3 k := fun k => by rw [hW, sU_ne (fun z => by omega)]
      have e3 : W 3 = M 3 := funext c3
      have c94 : ∀ k : Nat, k ≠ (1 * ρ 1 + 0).toNat → W 94 k = M 94 k := fun k hk => by rw [hW, sU_ne (fun z => by omega)]
      have a94 : W 94 (1 * ρ 1 + 0).toNat = 1 * ρ 2 + 0 := by rw [hW, sU_at]
      have c100 : ∀ k, W 100 k = M 100 k := fun k => by rw [hW, sU_ne (fun z => by omega)]
      have e100 : W 100 = M 100 := funext c100
      have c104 : ∀ k, W 104 k = M 104 k := fun k => by rw [hW, sU_ne (fun z => by omega)]
      have e104 : W 104 = M 104 := funext c104
      intro h
      rw [r4_100] at h
      obtain ⟨a0, a1, a2⟩ := gx_xS5 hI h
      rw [r4_104, r4_105, r4_106, e3]
      refine ⟨fun j hj ht => ?_, fun j hj ht => ?_, fun j hj ht => ?_⟩
      · rw [c94 _ (by omega)]
        exact a0 j hj (by omega)
      · rw [e100]
        exact a1 j hj (by omega)
      · rw [e104]
        exact a2 j hj (by omega)
    have k_xS6 : xS6 W := by
      rw [hW]
      exact (uxS6 (sinc_ok rfl _) hI.2.2.2.2.2.2.2.2.2.2.2.2.2.2.2.2.2.2.2.2.2.2.2.2.2.2.1)
    have k_xS7 : xS7 W := by
      rw [hW]
      exact (uxS7 (sinc_ok rfl _) hI.2.2.2.2.2.2.2.2.2.2.2.2.2.2.2.2.2.2.2.2.2.2.2.2.2.2.2.1)
    have k_xS8 : xS8 W := by
      rw [hW]
      exact (uxS8 (sinc_ok rfl _) hI.2.2.2.2.2.2.2.2.2.2.2.2.2.2.2.2.2.2.2.2.2.2.2.2.2.2.2.2.1)
    have k_xS9 : xS9 W := by
      rw [hW]
      exact (uxS9 (sinc_ok rfl _) hI.2.2.2.2.2.2.2.2.2.2.2.2.2.2.2.2.2.2.2.2.2.2.2.2.2.2.2.2.2.1)
    have k_xSA : xSA W := by
      rw [hW]
      exact (uxSA (sinc_ok rfl _) hI.2.2.2.2.2.2.2.2.2.2.2.2.2.2.2.2.2.2.2.2.2.2.2.2.2.2.2.2.2.2.1)
    have k_xSG : xSG W := by
      rw [hW]
      exact (uxSG (sinc_ok rfl _) hI.2.2.2.2.2.2.2.2.2.2.2.2.2.2.2.2.2.2.2.2.2.2.2.2.2.2.2.2.2.2.2.1)
    have k_xSF : xSF W := by
      rw [hW]
      exact (uxSF (sinc_ok rfl _) hI.2.2.2.2.2.2.2.2.2.2.2.2.2.2.2.2.2.2.2.2.2.2.2.2.2.2.2.2.2.2.2.2.1)
    have k_xSB : xSB W := by
      rw [hW]
      exact (uxSB (sinc_ok rfl _) hI.2.2.2.2.2.2.2.2.2.2.2.2.2.2.2.2.2.2.2.2.2.2.2.2.2.2.2.2.2.2.2.2.2.1)
    have k_xSC : xSC W := by
      rw [hW]
      exact (uxSC (sinc_ok rfl _) hI.2.2.2.2.2.2.2.2.2.2.2.2.2.2.2.2.2.2.2.2.2.2.2.2.2.2.2.2.2.2.2.2.2.2.1)
    have k_xSD : xSD W := by
      rw [hW]
      exact (uxSD (sinc_ok rfl _) hI.2.2.2.2.2.2.2.2.2.2.2.2.2.2.2.2.2.2.2.2.2.2.2.2.2.2.2.2.2.2.2.2.2.2.2.1)
    have k_xSE : xSE W := by
      rw [hW]
      exact (uxSE (sinc_ok rfl _) hI.2.2.2.2.2.2.2.2.2.2.2.2.2.2.2.2.2.2.2.2.2.2.2.2.2.2.2.2.2.2.2.2.2.2.2.2.1)
    have k_xSW : xSW W := by
      rw [hW]
      exact (uxSW (sinc_ok rfl _) hI.2.2.2.2.2.2.2.2.2.2.2.2.2.2.2.2.2.2.2.2.2.2.2.2.2.2.2.2.2.2.2.2.2.2.2.2.2.1)
    have k_xST : xST W := by
      rw [hW]
      exact (uxST (sinc_ok rfl _) hI.2.2.2.2.2.2.2.2.2.2.2.2.2.2.2.2.2.2.2.2.2.2.2.2.2.2.2.2.2.2.2.2.2.2.2.2.2.2.1)
    have k_xSP : xSP W := by
      rw [hW]
      exact (uxSP (sinc_ok rfl _) hI.2.2.2.2.2.2.2.2.2.2.2.2.2.2.2.2.2.2.2.2.2.2.2.2.2.2.2.2.2.2.2.2.2.2.2.2.2.2.2.1)
    have k_xSL : xSL W := by
      rw [hW]
      exact (uxSL (sinc_ok rfl _) hI.2.2.2.2.2.2.2.2.2.2.2.2.2.2.2.2.2.2.2.2.2.2.2.2.2.2.2.2.2.2.2.2.2.2.2.2.2.2.2.2.1)
    have k_xSM : xSM W := by
      rw [hW]
      exact (uxSM (sinc_ok rfl _) hI.2.2.2.2.2.2.2.2.2.2.2.2.2.2.2.2.2.2.2.2.2.2.2.2.2.2.2.2.2.2.2.2.2.2.2.2.2.2.2.2.2.1)
    have k_xSI : xSI W := by
      rw [hW]
      exact (uxSI (sinc_ok rfl _) hI.2.2.2.2.2.2.2.2.2.2.2.2.2.2.2.2.2.2.2.2.2.2.2.2.2.2.2.2.2.2.2.2.2.2.2.2.2.2.2.2.2.2)
    have k_XC : XC W := ⟨k_xS1, k_xS2, k_xS3, k_xS4, k_xS5, k_xS6, k_xS7, k_xS8, k_xS9, k_xSA, k_xSG, k_xSF, k_xSB, k_xSC, k_xSD, k_xSE, k_xSW, k_xST, k_xSP, k_xSL, k_xSM, k_xSI⟩
    have kXB : XB W := ⟨k_xN1, k_xN2, k_xN3, k_xN4, k_xN5, k_xN6, k_xH1, k_xK1, k_xC1, k_xRW, k_xWT, k_xCU, k_xG2, k_xG3, k_xG4, k_xG5, k_xG6, k_XC⟩
    exact ⟨base, k2, k3, kXA, kXB⟩
-- nmLR94
def xr_571 : qRu := (3, [[(1, 1)], [(8, 0), (-1, 1)], [(2147483648, 0), (1, 2)], [(2147483647, 0), (-1, 2)]], [], [(94, [(1, 1)], [(1, 2)])], [], [])
theorem xo_571 : qRok xr_571 := by
  intro ρ M h0 hf hm hI
  have f0 := hf [(1, 1)] (by decide)
  have f1 := hf [(8, 0), (-1, 1)] (by decide)
  have f2 := hf [(2147483648, 0), (1, 2)] (by decide)
  have f3 := hf [(2147483647, 0), (-1, 2)] (by decide)
  simp only [qD, h0] at f0 f1 f2 f3
  have qxS5 := hI.2.2.2.2.2.2.2.2.2.2.2.2.2.2.2.2.2.2.2.2.2.2.2.2.2.1
  refine ⟨ρ, fun _ _ => rfl, fun f h => ?_, ?_⟩
  · exact nomatch h
  · show sI (sU M 94 (1 * ρ 1 + 0 : Int).toNat (1 * ρ 2 + 0))
    obtain ⟨W, hW⟩ : ∃ W, W = (sU M 94 (1 * ρ 1 + 0).toNat (1 * ρ 2 + 0)) := ⟨_, rfl⟩
    rw [← hW]
    have base : sI0 W := by
      rw [hW]
      exact (si_u0 hI.1 (fun r hr => by rw [xt_94 hr]; exact ⟨by show (-2147483648 : Int) ≤ _; omega, by show _ ≤ (2147483647 : Int); omega⟩))
    have k2 : XI2 W := by
      rw [hW]
      exact (xi2_u (sinc_ok rfl _) hI.2.1)
    have k3 : XI3 W := by
      rw [hW]
      exact (xi3_u (sinc_ok rfl _) hI.2.2.1)
    have kXA : XA W := by
      rw [hW]
      exact (uXA (sinc_ok rfl _) hI.2.2.2.1)
    have k_xN1 : xN1 W := by
      rw [hW]
      exact (uxN1 (sinc_ok rfl _) hI.2.2.2.2.1)
    have k_xN2 : xN2 W := by
      rw [hW]
      exact (uxN2 (sinc_ok rfl _) hI.2.2.2.2.2.1)
    have k_xN3 : xN3 W := by
      rw [hW]
      exact (uxN3 (sinc_ok rfl _) hI.2.2.2.2.2.2.1)
    have k_xN4 : xN4 W := by
      rw [hW]
      exact (uxN4 (sinc_ok rfl _) hI.2.2.2.2.2.2.2.1)
    have k_xN5 : xN5 W := by
      rw [hW]
      exact (uxN5 (sinc_ok rfl _) hI.2.2.2.2.2.2.2.2.1)
    have k_xN6 : xN6 W := by
      rw [hW]
      exact (uxN6 (sinc_ok rfl _) hI.2.2.2.2.2.2.2.2.2.1)
    have k_xH1 : xH1 W := by
      rw [hW]
      exact (uxH1 (sinc_ok rfl _) hI.2.2.2.2.2.2.2.2.2.2.1)
    have k_xK1 : xK1 W := by
      rw [hW]
      exact (uxK1 (sinc_ok rfl _) hI.2.2.2.2.2.2.2.2.2.2.2.1)
    have k_xC1 : xC1 W := by
      rw [hW]
      exact (uxC1 (sinc_ok rfl _) hI.2.2.2.2.2.2.2.2.2.2.2.2.1)
    have k_xRW : xRW W := by
      rw [hW]
      exact (uxRW (sinc_ok rfl _) hI.2.2.2.2.2.2.2.2.2.2.2.2.2.1)
    have k_xWT : xWT W := by
      rw [hW]
      exact (uxWT (sinc_ok rfl _) hI.2.2.2.2.2.2.2.2.2.2.2.2.2.2.1)
    have k_xCU : xCU W := by
      rw [hW]
      exact (uxCU (sinc_ok rfl _) hI.2.2.2.2.2.2.2.2.2.2.2.2.2.2.2.1)
    have k_xG2 : xG2 W := by
      rw [hW]
      exact (uxG2 (sinc_ok rfl _) hI.2.2.2.2.2.2.2.2.2.2.2.2.2.2.2.2.1)
    have k_xG3 : xG3 W := by
      rw [hW]
      exact (uxG3 (sinc_ok rfl _) hI.2.2.2.2.2.2.2.2.2.2.2.2.2.2.2.2.2.1)
    have k_xG4 : xG4 W := by
      rw [hW]
      exact (uxG4 (sinc_ok rfl _) hI.2.2.2.2.2.2.2.2.2.2.2.2.2.2.2.2.2.2.1)
    have k_xG5 : xG5 W := by
      rw [hW]
      exact (uxG5 (sinc_ok rfl _) hI.2.2.2.2.2.2.2.2.2.2.2.2.2.2.2.2.2.2.2.1)
    have k_xG6 : xG6 W := by
      rw [hW]
      exact (uxG6 (sinc_ok rfl _) hI.2.2.2.2.2.2.2.2.2.2.2.2.2.2.2.2.2.2.2.2.1)
    have k_xS1 : xS1 W := by
      rw [hW]
      exact (uxS1 (sinc_ok rfl _) hI.2.2.2.2.2.2.2.2.2.2.2.2.2.2.2.2.2.2.2.2.2.1)
    have k_xS2 : xS2 W := by
      rw [hW]
      exact (uxS2 (sinc_ok rfl _) hI.2.2.2.2.2.2.2.2.2.2.2.2.2.2.2.2.2.2.2.2.2.2.1)
    have k_xS3 : xS3 W := by
      rw [hW]
      exact (uxS3 (sinc_ok rfl _) hI.2.2.2.2.2.2.2.2.2.2.2.2.2.2.2.2.2.2.2.2.2.2.2.1)
    have k_xS4 : xS4 W := by
      rw [hW]
      exact (uxS4 (sinc_ok rfl _) hI.2.2.2.2.2.2.2.2.2.2.2.2.2.2.2.2.2.2.2.2.2.2.2.2.1)
    have k_xS5 : xS5 W := by
      have r4_100 : W 4 100 = M 4 100 := by rw [hW, sU_ne (fun z => by omega)]
      have r4_104 : W 4 104 = M 4 104 := by rw [hW, sU_ne (fun z => by omega)]
      have r4_105 : W 4 105 = M 4 105 := by rw [hW, sU_ne (fun z => by omega)]
      have r4_106 : W 4 106 = M 4 106 := by rw [hW, sU_ne (fun z => by omega)]
      have c3 : ∀ k, W 3 k = M 3 k := fun k => by rw [hW, sU_ne (fun z => by omega)]
      have e3 : W 3 = M 3 := funext c3
      have c94 : ∀ k : Nat, k ≠ (1 * ρ 1 + 0).toNat → W 94 k = M 94 k := fun k hk => by rw [hW, sU_ne (fun z => by omega)]
      have a94 : W 94 (1 * ρ 1 + 0).toNat = 1 * ρ 2 + 0 := by rw [hW, sU_at]
      have c100 : ∀ k, W 100 k = M 100 k := fun k => by rw [hW, sU_ne (fun z => by omega)]
      have e100 : W 100 = M 100 := funext c100
      have c104 : ∀ k, W 104 k = M 104 k := fun k => by rw [hW, sU_ne (fun z => by omega)]
      have e104 : W 104 = M 104 := funext c104
      intro h
      rw [r4_100] at h
      obtain ⟨a0, a1, a2⟩ := gx_xS5 hI h
      rw [r4_104, r4_105, r4_106, e3]
      refine ⟨fun j hj ht => ?_, fun j hj ht => ?_, fun j hj ht => ?_⟩
      · rw [c94 _ (by omega)]
        exact a0 j hj (by omega)
      · rw [e100]
        exact a1 j hj (by omega)
      · rw [e104]
        exact a2 j hj (by omega)
    have k_xS6 : xS6 W := by
      rw [hW]
      exact (uxS6 (sinc_ok rfl _) hI.2.2.2.2.2.2.2.2.2.2.2.2.2.2.2.2.2.2.2.2.2.2.2.2.2.2.1)
    have k_xS7 : xS7 W := by
      rw [hW]
      exact (uxS7 (sinc_ok rfl _) hI.2.2.2.2.2.2.2.2.2.2.2.2.2.2.2.2.2.2.2.2.2.2.2.2.2.2.2.1)
    have k_xS8 : xS8 W := by
      rw [hW]
      exact (uxS8 (sinc_ok rfl _) hI.2.2.2.2.2.2.2.2.2.2.2.2.2.2.2.2.2.2.2.2.2.2.2.2.2.2.2.2.1)
    have k_xS9 : xS9 W := by
      rw [hW]
      exact (uxS9 (sinc_ok rfl _) hI.2.2.2.2.2.2.2.2.2.2.2.2.2.2.2.2.2.2.2.2.2.2.2.2.2.2.2.2.2.1)
    have k_xSA : xSA W := by
      rw [hW]
      exact (uxSA (sinc_ok rfl _) hI.2.2.2.2.2.2.2.2.2.2.2.2.2.2.2.2.2.2.2.2.2.2.2.2.2.2.2.2.2.2.1)
    have k_xSG : xSG W := by
      rw [hW]
      exact (uxSG (sinc_ok rfl _) hI.2.2.2.2.2.2.2.2.2.2.2.2.2.2.2.2.2.2.2.2.2.2.2.2.2.2.2.2.2.2.2.1)
    have k_xSF : xSF W := by
      rw [hW]
      exact (uxSF (sinc_ok rfl _) hI.2.2.2.2.2.2.2.2.2.2.2.2.2.2.2.2.2.2.2.2.2.2.2.2.2.2.2.2.2.2.2.2.1)
    have k_xSB : xSB W := by
      rw [hW]
      exact (uxSB (sinc_ok rfl _) hI.2.2.2.2.2.2.2.2.2.2.2.2.2.2.2.2.2.2.2.2.2.2.2.2.2.2.2.2.2.2.2.2.2.1)
    have k_xSC : xSC W := by
      rw [hW]
      exact (uxSC (sinc_ok rfl _) hI.2.2.2.2.2.2.2.2.2.2.2.2.2.2.2.2.2.2.2.2.2.2.2.2.2.2.2.2.2.2.2.2.2.2.1)
    have k_xSD : xSD W := by
      rw [hW]
      exact (uxSD (sinc_ok rfl _) hI.2.2.2.2.2.2.2.2.2.2.2.2.2.2.2.2.2.2.2.2.2.2.2.2.2.2.2.2.2.2.2.2.2.2.2.1)
    have k_xSE : xSE W := by
      rw [hW]
      exact (uxSE (sinc_ok rfl _) hI.2.2.2.2.2.2.2.2.2.2.2.2.2.2.2.2.2.2.2.2.2.2.2.2.2.2.2.2.2.2.2.2.2.2.2.2.1)
    have k_xSW : xSW W := by
      rw [hW]
      exact (uxSW (sinc_ok rfl _) hI.2.2.2.2.2.2.2.2.2.2.2.2.2.2.2.2.2.2.2.2.2.2.2.2.2.2.2.2.2.2.2.2.2.2.2.2.2.1)
    have k_xST : xST W := by
      rw [hW]
      exact (uxST (sinc_ok rfl _) hI.2.2.2.2.2.2.2.2.2.2.2.2.2.2.2.2.2.2.2.2.2.2.2.2.2.2.2.2.2.2.2.2.2.2.2.2.2.2.1)
    have k_xSP : xSP W := by
      rw [hW]
      exact (uxSP (sinc_ok rfl _) hI.2.2.2.2.2.2.2.2.2.2.2.2.2.2.2.2.2.2.2.2.2.2.2.2.2.2.2.2.2.2.2.2.2.2.2.2.2.2.2.1)
    have k_xSL : xSL W := by
      rw [hW]
      exact (uxSL (sinc_ok rfl _) hI.2.2.2.2.2.2.2.2.2.2.2.2.2.2.2.2.2.2.2.2.2.2.2.2.2.2.2.2.2.2.2.2.2.2.2.2.2.2.2.2.1)
    have k_xSM : xSM W := by
      rw [hW]
      exact (uxSM (sinc_ok rfl _) hI.2.2.2.2.2.2.2.2.2.2.2.2.2.2.2.2.2.2.2.2.2.2.2.2.2.2.2.2.2.2.2.2.2.2.2.2.2.2.2.2.2.1)
    have k_xSI : xSI W := by
      rw [hW]
      exact (uxSI (sinc_ok rfl _) hI.2.2.2.2.2.2.2.2.2.2.2.2.2.2.2.2.2.2.2.2.2.2.2.2.2.2.2.2.2.2.2.2.2.2.2.2.2.2.2.2.2.2)
    have k_XC : XC W := ⟨k_xS1, k_xS2, k_xS3, k_xS4, k_xS5, k_xS6, k_xS7, k_xS8, k_xS9, k_xSA, k_xSG, k_xSF, k_xSB, k_xSC, k_xSD, k_xSE, k_xSW, k_xST, k_xSP, k_xSL, k_xSM, k_xSI⟩
    have kXB : XB W := ⟨k_xN1, k_xN2, k_xN3, k_xN4, k_xN5, k_xN6, k_xH1, k_xK1, k_xC1, k_xRW, k_xWT, k_xCU, k_xG2, k_xG3, k_xG4, k_xG5, k_xG6, k_XC⟩
    exact ⟨base, k2, k3, kXA, kXB⟩
-- nm0R94
def xr_572 : qRu := (3, [[(1, 1)], [(17, 0), (-1, 1)], [(2147483648, 0), (1, 2)], [(2147483647, 0), (-1, 2)]], [(4, 100, [])], [(94, [(1, 1)], [(1, 2)])], [], [])
theorem xo_572 : qRok xr_572 := by
  intro ρ M h0 hf hm hI
  have f0 := hf [(1, 1)] (by decide)
  have f1 := hf [(17, 0), (-1, 1)] (by decide)
  have f2 := hf [(2147483648, 0), (1, 2)] (by decide)
  have f3 := hf [(2147483647, 0), (-1, 2)] (by decide)
  simp only [qD, h0] at f0 f1 f2 f3
  have m0 : M 4 100 = 0 := hm (4, 100, []) (by decide)
  refine ⟨ρ, fun _ _ => rfl, fun f h => ?_, ?_⟩
  · exact nomatch h
  · show sI (sU M 94 (1 * ρ 1 + 0 : Int).toNat (1 * ρ 2 + 0))
    obtain ⟨W, hW⟩ : ∃ W, W = (sU M 94 (1 * ρ 1 + 0).toNat (1 * ρ 2 + 0)) := ⟨_, rfl⟩
    rw [← hW]
    have base : sI0 W := by
      rw [hW]
      exact (si_u0 hI.1 (fun r hr => by rw [xt_94 hr]; exact ⟨by show (-2147483648 : Int) ≤ _; omega, by show _ ≤ (2147483647 : Int); omega⟩))
    have k2 : XI2 W := by
      rw [hW]
      exact (xi2_u (sinc_ok rfl _) hI.2.1)
    have k3 : XI3 W := by
      rw [hW]
      exact (xi3_u (sinc_ok rfl _) hI.2.2.1)
    have kXA : XA W := by
      rw [hW]
      exact (uXA (sinc_ok rfl _) hI.2.2.2.1)
    have k_xN1 : xN1 W := by
      rw [hW]
      exact (uxN1 (sinc_ok rfl _) hI.2.2.2.2.1)
    have k_xN2 : xN2 W := by
      rw [hW]
      exact (uxN2 (sinc_ok rfl _) hI.2.2.2.2.2.1)
    have k_xN3 : xN3 W := by
      rw [hW]
      exact (uxN3 (sinc_ok rfl _) hI.2.2.2.2.2.2.1)
    have k_xN4 : xN4 W := by
      rw [hW]
      exact (uxN4 (sinc_ok rfl _) hI.2.2.2.2.2.2.2.1)
    have k_xN5 : xN5 W := by
      rw [hW]
      exact (uxN5 (sinc_ok rfl _) hI.2.2.2.2.2.2.2.2.1)
    have k_xN6 : xN6 W := by
      rw [hW]
      exact (uxN6 (sinc_ok rfl _) hI.2.2.2.2.2.2.2.2.2.1)
    have k_xH1 : xH1 W := by
      rw [hW]
      exact (uxH1 (sinc_ok rfl _) hI.2.2.2.2.2.2.2.2.2.2.1)
    have k_xK1 : xK1 W := by
      rw [hW]
      exact (uxK1 (sinc_ok rfl _) hI.2.2.2.2.2.2.2.2.2.2.2.1)
    have k_xC1 : xC1 W := by
      rw [hW]
      exact (uxC1 (sinc_ok rfl _) hI.2.2.2.2.2.2.2.2.2.2.2.2.1)
    have k_xRW : xRW W := by
      rw [hW]
      exact (uxRW (sinc_ok rfl _) hI.2.2.2.2.2.2.2.2.2.2.2.2.2.1)
    have k_xWT : xWT W := by
      rw [hW]
      exact (uxWT (sinc_ok rfl _) hI.2.2.2.2.2.2.2.2.2.2.2.2.2.2.1)
    have k_xCU : xCU W := by
      rw [hW]
      exact (uxCU (sinc_ok rfl _) hI.2.2.2.2.2.2.2.2.2.2.2.2.2.2.2.1)
    have k_xG2 : xG2 W := by
      rw [hW]
      exact (uxG2 (sinc_ok rfl _) hI.2.2.2.2.2.2.2.2.2.2.2.2.2.2.2.2.1)
    have k_xG3 : xG3 W := by
      rw [hW]
      exact (uxG3 (sinc_ok rfl _) hI.2.2.2.2.2.2.2.2.2.2.2.2.2.2.2.2.2.1)
    have k_xG4 : xG4 W := by
      rw [hW]
      exact (uxG4 (sinc_ok rfl _) hI.2.2.2.2.2.2.2.2.2.2.2.2.2.2.2.2.2.2.1)
    have k_xG5 : xG5 W := by
      rw [hW]
      exact (uxG5 (sinc_ok rfl _) hI.2.2.2.2.2.2.2.2.2.2.2.2.2.2.2.2.2.2.2.1)
    have k_xG6 : xG6 W := by
      rw [hW]
      exact (uxG6 (sinc_ok rfl _) hI.2.2.2.2.2.2.2.2.2.2.2.2.2.2.2.2.2.2.2.2.1)
    have k_xS1 : xS1 W := by
      rw [hW]
      exact (uxS1 (sinc_ok rfl _) hI.2.2.2.2.2.2.2.2.2.2.2.2.2.2.2.2.2.2.2.2.2.1)
    have k_xS2 : xS2 W := by
      rw [hW]
      exact (uxS2 (sinc_ok rfl _) hI.2.2.2.2.2.2.2.2.2.2.2.2.2.2.2.2.2.2.2.2.2.2.1)
    have k_xS3 : xS3 W := by
      rw [hW]
      exact (uxS3 (sinc_ok rfl _) hI.2.2.2.2.2.2.2.2.2.2.2.2.2.2.2.2.2.2.2.2.2.2.2.1)
    have k_xS4 : xS4 W := by
      rw [hW]
      exact (uxS4 (sinc_ok rfl _) hI.2.2.2.2.2.2.2.2.2.2.2.2.2.2.2.2.2.2.2.2.2.2.2.2.1)
    have k_xS5 : xS5 W := by
      have r : W 4 100 = 0 := by
        have e := m0
        rw [hW, sU_ne (fun z => by omega)]
        omega
      intro h
      rw [r] at h
      omega
    have k_xS6 : xS6 W := by
      rw [hW]
      exact (uxS6 (sinc_ok rfl _) hI.2.2.2.2.2.2.2.2.2.2.2.2.2.2.2.2.2.2.2.2.2.2.2.2.2.2.1)
    have k_xS7 : xS7 W := by
      rw [hW]
      exact (uxS7 (sinc_ok rfl _) hI.2.2.2.2.2.2.2.2.2.2.2.2.2.2.2.2.2.2.2.2.2.2.2.2.2.2.2.1)
    have k_xS8 : xS8 W := by
      rw [hW]
      exact (uxS8 (sinc_ok rfl _) hI.2.2.2.2.2.2.2.2.2.2.2.2.2.2.2.2.2.2.2.2.2.2.2.2.2.2.2.2.1)
    have k_xS9 : xS9 W := by
      rw [hW]
      exact (uxS9 (sinc_ok rfl _) hI.2.2.2.2.2.2.2.2.2.2.2.2.2.2.2.2.2.2.2.2.2.2.2.2.2.2.2.2.2.1)
    have k_xSA : xSA W := by
      rw [hW]
      exact (uxSA (sinc_ok rfl _) hI.2.2.2.2.2.2.2.2.2.2.2.2.2.2.2.2.2.2.2.2.2.2.2.2.2.2.2.2.2.2.1)
    have k_xSG : xSG W := by
      rw [hW]
      exact (uxSG (sinc_ok rfl _) hI.2.2.2.2.2.2.2.2.2.2.2.2.2.2.2.2.2.2.2.2.2.2.2.2.2.2.2.2.2.2.2.1)
    have k_xSF : xSF W := by
      rw [hW]
      exact (uxSF (sinc_ok rfl _) hI.2.2.2.2.2.2.2.2.2.2.2.2.2.2.2.2.2.2.2.2.2.2.2.2.2.2.2.2.2.2.2.2.1)
    have k_xSB : xSB W := by
      rw [hW]
      exact (uxSB (sinc_ok rfl _) hI.2.2.2.2.2.2.2.2.2.2.2.2.2.2.2.2.2.2.2.2.2.2.2.2.2.2.2.2.2.2.2.2.2.1)
    have k_xSC : xSC W := by
      rw [hW]
      exact (uxSC (sinc_ok rfl _) hI.2.2.2.2.2.2.2.2.2.2.2.2.2.2.2.2.2.2.2.2.2.2.2.2.2.2.2.2.2.2.2.2.2.2.1)
    have k_xSD : xSD W := by
      rw [hW]
      exact (uxSD (sinc_ok rfl _) hI.2.2.2.2.2.2.2.2.2.2.2.2.2.2.2.2.2.2.2.2.2.2.2.2.2.2.2.2.2.2.2.2.2.2.2.1)
    have k_xSE : xSE W := by
      rw [hW]
      exact (uxSE (sinc_ok rfl _) hI.2.2.2.2.2.2.2.2.2.2.2.2.2.2.2.2.2.2.2.2.2.2.2.2.2.2.2.2.2.2.2.2.2.2.2.2.1)
    have k_xSW : xSW W := by
      rw [hW]
      exact (uxSW (sinc_ok rfl _) hI.2.2.2.2.2.2.2.2.2.2.2.2.2.2.2.2.2.2.2.2.2.2.2.2.2.2.2.2.2.2.2.2.2.2.2.2.2.1)
    have k_xST : xST W := by
      rw [hW]
      exact (uxST (sinc_ok rfl _) hI.2.2.2.2.2.2.2.2.2.2.2.2.2.2.2.2.2.2.2.2.2.2.2.2.2.2.2.2.2.2.2.2.2.2.2.2.2.2.1)
    have k_xSP : xSP W := by
      rw [hW]
      exact (uxSP (sinc_ok rfl _) hI.2.2.2.2.2.2.2.2.2.2.2.2.2.2.2.2.2.2.2.2.2.2.2.2.2.2.2.2.2.2.2.2.2.2.2.2.2.2.2.1)
    have k_xSL : xSL W := by
      rw [hW]
      exact (uxSL (sinc_ok rfl _) hI.2.2.2.2.2.2.2.2.2.2.2.2.2.2.2.2.2.2.2.2.2.2.2.2.2.2.2.2.2.2.2.2.2.2.2.2.2.2.2.2.1)
    have k_xSM : xSM W := by
      rw [hW]
      exact (uxSM (sinc_ok rfl _) hI.2.2.2.2.2.2.2.2.2.2.2.2.2.2.2.2.2.2.2.2.2.2.2.2.2.2.2.2.2.2.2.2.2.2.2.2.2.2.2.2.2.1)
    have k_xSI : xSI W := by
      rw [hW]
      exact (uxSI (sinc_ok rfl _) hI.2.2.2.2.2.2.2.2.2.2.2.2.2.2.2.2.2.2.2.2.2.2.2.2.2.2.2.2.2.2.2.2.2.2.2.2.2.2.2.2.2.2)
    have k_XC : XC W := ⟨k_xS1, k_xS2, k_xS3, k_xS4, k_xS5, k_xS6, k_xS7, k_xS8, k_xS9, k_xSA, k_xSG, k_xSF, k_xSB, k_xSC, k_xSD, k_xSE, k_xSW, k_xST, k_xSP, k_xSL, k_xSM, k_xSI⟩
    have kXB : XB W := ⟨k_xN1, k_xN2, k_xN3, k_xN4, k_xN5, k_xN6, k_xH1, k_xK1, k_xC1, k_xRW, k_xWT, k_xCU, k_xG2, k_xG3, k_xG4, k_xG5, k_xG6, k_XC⟩
    exact ⟨base, k2, k3, kXA, kXB⟩
-- nmTieR100_0
def xr_573 : qRu := (4, [[(-1, 0), (1, 3)]], [(4, 100, [(2, 0)]), (4, 105, [(1, 3)]), (100, 6, [(1, 1)]), (3, 70, [(1, 2)])], [], [], [[(1, 1), (-1, 2)], [(-1, 1), (1, 2)]])
theorem xo_573 : qRok xr_573 := by
  intro ρ M h0 hf hm hI
  have f0 := hf [(-1, 0), (1, 3)] (by decide)
  simp only [qD, h0] at f0
  have m0 : M 4 100 = 2 * ρ 0 + 0 := hm (4, 100, [(2, 0)]) (by decide)
  have m1 : M 4 105 = 1 * ρ 3 + 0 := hm (4, 105, [(1, 3)]) (by decide)
  have m2 : M 100 6 = 1 * ρ 1 + 0 := hm (100, 6, [(1, 1)]) (by decide)
  have m3 : M 3 70 = 1 * ρ 2 + 0 := hm (3, 70, [(1, 2)]) (by decide)
  simp only [h0] at m0
  obtain ⟨a0, a1, a2⟩ := gx_xS5 hI (by omega)
  have t := a1 0 (by omega) (by omega)
  have t : M 100 6 = M 3 70 := t
  refine ⟨ρ, fun _ _ => rfl, fun f h => ?_, ?_⟩
  · have h : f ∈ ([[(1, 1), (-1, 2)], [(-1, 1), (1, 2)]] : List qF) := h
    simp only [List.mem_cons, List.not_mem_nil, or_false] at h
    rcases h with rfl | rfl
    · show 0 ≤ 1 * ρ 1 + (-1 * ρ 2 + 0)
      (try rw [h0]); omega
    · show 0 ≤ -1 * ρ 1 + (1 * ρ 2 + 0)
      (try rw [h0]); omega
  · show sI M
    exact hI
-- nmUpR100_0
def xr_574 : qRu := (3, [[(1, 1), (-1, 2)], [(-1, 1), (1, 2)]], [(4, 100, [(2, 0)]), (4, 105, []), (100, 6, [(1, 1)]), (3, 70, [(1, 2)])], [], [(4, 105, [(1, 0)])], [])
theorem xo_574 : qRok xr_574 := by
  intro ρ M h0 hf hm hI
  have f0 := hf [(1, 1), (-1, 2)] (by decide)
  have f1 := hf [(-1, 1), (1, 2)] (by decide)
  simp only [qD, h0] at f0 f1
  have m0 : M 4 100 = 2 * ρ 0 + 0 := hm (4, 100, [(2, 0)]) (by decide)
  have m1 : M 4 105 = 0 := hm (4, 105, []) (by decide)
  have m2 : M 100 6 = 1 * ρ 1 + 0 := hm (100, 6, [(1, 1)]) (by decide)
  have m3 : M 3 70 = 1 * ρ 2 + 0 := hm (3, 70, [(1, 2)]) (by decide)
  simp only [h0] at m0
  have qxS5 := hI.2.2.2.2.2.2.2.2.2.2.2.2.2.2.2.2.2.2.2.2.2.2.2.2.2.1
  refine ⟨ρ, fun _ _ => rfl, fun f h => ?_, ?_⟩
  · exact nomatch h
  · show sI (sU M 4 105 (1 * ρ 0 + 0))
    obtain ⟨W, hW⟩ : ∃ W, W = (sU M 4 105 (1 * ρ 0 + 0)) := ⟨_, rfl⟩
    rw [← hW]
    have base : sI0 W := by
      rw [hW]
      exact (si_u0 hI.1 (fun r hr => by cases hr))
    have k2 : XI2 W := by
      rw [hW]
      exact (xi2_u rfl hI.2.1)
    have k3 : XI3 W := by
      rw [hW]
      exact (xi3_u rfl hI.2.2.1)
    have kXA : XA W := by
      rw [hW]
      exact (uXA rfl hI.2.2.2.1)
    have k_xN1 : xN1 W := by
      rw [hW]
      exact (uxN1 rfl hI.2.2.2.2.1)
    have k_xN2 : xN2 W := by
      rw [hW]
      exact (uxN2 rfl hI.2.2.2.2.2.1)
    have k_xN3 : xN3 W := by
      rw [hW]
      exact (uxN3 rfl hI.2.2.2.2.2.2.1)
    have k_xN4 : xN4 W := by
      rw [hW]
      exact (uxN4 rfl hI.2.2.2.2.2.2.2.1)
    have k_xN5 : xN5 W := by
      rw [hW]
      exact (uxN5 rfl hI.2.2.2.2.2.2.2.2.1)
    have k_xN6 : xN6 W := by
      rw [hW]
      exact (uxN6 rfl hI.2.2.2.2.2.2.2.2.2.1)
    have k_xH1 : xH1 W := by
      rw [hW]
      exact (uxH1 rfl hI.2.2.2.2.2.2.2.2.2.2.1)
    have k_xK1 : xK1 W := by
      rw [hW]
      exact (uxK1 rfl hI.2.2.2.2.2.2.2.2.2.2.2.1)
    have k_xC1 : xC1 W := by
      rw [hW]
      exact (uxC1 rfl hI.2.2.2.2.2.2.2.2.2.2.2.2.1)
    have k_xRW : xRW W := by
      rw [hW]
      exact (uxRW rfl hI.2.2.2.2.2.2.2.2.2.2.2.2.2.1)
    have k_xWT : xWT W := by
      rw [hW]
      exact (uxWT rfl hI.2.2.2.2.2.2.2.2.2.2.2.2.2.2.1)
    have k_xCU : xCU W := by
      rw [hW]
      exact (uxCU rfl hI.2.2.2.2.2.2.2.2.2.2.2.2.2.2.2.1)
    have k_xG2 : xG2 W := by
      rw [hW]
      exact (uxG2 rfl hI.2.2.2.2.2.2.2.2.2.2.2.2.2.2.2.2.1)
    have k_xG3 : xG3 W := by
      rw [hW]
      exact (uxG3 rfl hI.2.2.2.2.2.2.2.2.2.2.2.2.2.2.2.2.2.1)
    have k_xG4 : xG4 W := by
      rw [hW]
      exact (uxG4 rfl hI.2.2.2.2.2.2.2.2.2.2.2.2.2.2.2.2.2.2.1)
    have k_xG5 : xG5 W := by
      rw [hW]
      exact (uxG5 rfl hI.2.2.2.2.2.2.2.2.2.2.2.2.2.2.2.2.2.2.2.1)
    have k_xG6 : xG6 W := by
      rw [hW]
      exact (uxG6 rfl hI.2.2.2.2.2.2.2.2.2.2.2.2.2.2.2.2.2.2.2.2.1)
    have k_xS1 : xS1 W := by
      rw [hW]
      exact (uxS1 rfl hI.2.2.2.2.2.2.2.2.2.2.2.2.2.2.2.2.2.2.2.2.2.1)
    have k_xS2 : xS2 W := by
      rw [hW]
      exact (uxS2 rfl hI.2.2.2.2.2.2.2.2.2.2.2.2.2.2.2.2.2.2.2.2.2.2.1)
    have k_xS3 : xS3 W := by
      rw [hW]
      exact (uxS3 rfl hI.2.2.2.2.2.2.2.2.2.2.2.2.2.2.2.2.2.2.2.2.2.2.2.1)
    have k_xS4 : xS4 W := by
      have r : W 4 100 = 2 := by
        have e := m0
        rw [hW, sU_ne (fun z => by omega)]
        omega
      intro h
      rw [r] at h
      omega
    have k_xS5 : xS5 W := by
      have r4_100 : W 4 100 = M 4 100 := by rw [hW, sU_ne (fun z => by omega)]
      have r4_104 : W 4 104 = M 4 104 := by rw [hW, sU_ne (fun z => by omega)]
      have r4_105 : W 4 105 = 1 * ρ 0 + 0 := by rw [hW, sU_at]
      have r4_106 : W 4 106 = M 4 106 := by rw [hW, sU_ne (fun z => by omega)]
      have c3 : ∀ k, W 3 k = M 3 k := fun k => by rw [hW, sU_ne (fun z => by omega)]
      have e3 : W 3 = M 3 := funext c3
      have c94 : ∀ k, W 94 k = M 94 k := fun k => by rw [hW, sU_ne (fun z => by omega)]
      have e94 : W 94 = M 94 := funext c94
      have c100 : ∀ k, W 100 k = M 100 k := fun k => by rw [hW, sU_ne (fun z => by omega)]
      have e100 : W 100 = M 100 := funext c100
      have c104 : ∀ k, W 104 k = M 104 k := fun k => by rw [hW, sU_ne (fun z => by omega)]
      have e104 : W 104 = M 104 := funext c104
      intro h
      obtain ⟨a0, a1, a2⟩ := gx_xS5 hI (by omega)
      rw [r4_104, r4_105, r4_106, e3, e94, e100, e104]
      refine ⟨fun j hj ht => ?_, fun j hj ht => ?_, fun j hj ht => ?_⟩
      · exact a0 j hj (by omega)
      · by_cases hJ : j = 0
        · subst hJ
          show M 100 6 = M 3 70
          omega
        · exact a1 j hj (by (try rw [h0] at ht); omega)
      · exact a2 j hj (by omega)
    have k_xS6 : xS6 W := by
      rw [hW]
      exact (uxS6 rfl hI.2.2.2.2.2.2.2.2.2.2.2.2.2.2.2.2.2.2.2.2.2.2.2.2.2.2.1)
    have k_xS7 : xS7 W := by
      rw [hW]
      exact (uxS7 rfl hI.2.2.2.2.2.2.2.2.2.2.2.2.2.2.2.2.2.2.2.2.2.2.2.2.2.2.2.1)
    have k_xS8 : xS8 W := by
      rw [hW]
      exact (uxS8 rfl hI.2.2.2.2.2.2.2.2.2.2.2.2.2.2.2.2.2.2.2.2.2.2.2.2.2.2.2.2.1)
    have k_xS9 : xS9 W := by
      rw [hW]
      exact (uxS9 rfl hI.2.2.2.2.2.2.2.2.2.2.2.2.2.2.2.2.2.2.2.2.2.2.2.2.2.2.2.2.2.1)
    have k_xSA : xSA W := by
      rw [hW]
      exact (uxSA rfl hI.2.2.2.2.2.2.2.2.2.2.2.2.2.2.2.2.2.2.2.2.2.2.2.2.2.2.2.2.2.2.1)
    have k_xSG : xSG W := by
      rw [hW]
      exact (uxSG rfl hI.2.2.2.2.2.2.2.2.2.2.2.2.2.2.2.2.2.2.2.2.2.2.2.2.2.2.2.2.2.2.2.1)
    have k_xSF : xSF W := by
      rw [hW]
      exact (uxSF rfl hI.2.2.2.2.2.2.2.2.2.2.2.2.2.2.2.2.2.2.2.2.2.2.2.2.2.2.2.2.2.2.2.2.1)
    have k_xSB : xSB W := by
      rw [hW]
      exact (uxSB rfl hI.2.2.2.2.2.2.2.2.2.2.2.2.2.2.2.2.2.2.2.2.2.2.2.2.2.2.2.2.2.2.2.2.2.1)
    have k_xSC : xSC W := by
      rw [hW]
      exact (uxSC rfl hI.2.2.2.2.2.2.2.2.2.2.2.2.2.2.2.2.2.2.2.2.2.2.2.2.2.2.2.2.2.2.2.2.2.2.1)
    have k_xSD : xSD W := by
      rw [hW]
      exact (uxSD rfl hI.2.2.2.2.2.2.2.2.2.2.2.2.2.2.2.2.2.2.2.2.2.2.2.2.2.2.2.2.2.2.2.2.2.2.2.1)
    have k_xSE : xSE W := by
      rw [hW]
      exact (uxSE rfl hI.2.2.2.2.2.2.2.2.2.2.2.2.2.2.2.2.2.2.2.2.2.2.2.2.2.2.2.2.2.2.2.2.2.2.2.2.1)
    have k_xSW : xSW W := by
      rw [hW]
      exact (uxSW rfl hI.2.2.2.2.2.2.2.2.2.2.2.2.2.2.2.2.2.2.2.2.2.2.2.2.2.2.2.2.2.2.2.2.2.2.2.2.2.1)
    have k_xST : xST W := by
      rw [hW]
      exact (uxST rfl hI.2.2.2.2.2.2.2.2.2.2.2.2.2.2.2.2.2.2.2.2.2.2.2.2.2.2.2.2.2.2.2.2.2.2.2.2.2.2.1)
    have k_xSP : xSP W := by
      rw [hW]
      exact (uxSP rfl hI.2.2.2.2.2.2.2.2.2.2.2.2.2.2.2.2.2.2.2.2.2.2.2.2.2.2.2.2.2.2.2.2.2.2.2.2.2.2.2.1)
    have k_xSL : xSL W := by
      rw [hW]
      exact (uxSL rfl hI.2.2.2.2.2.2.2.2.2.2.2.2.2.2.2.2.2.2.2.2.2.2.2.2.2.2.2.2.2.2.2.2.2.2.2.2.2.2.2.2.1)
    have k_xSM : xSM W := by
      rw [hW]
      exact (uxSM rfl hI.2.2.2.2.2.2.2.2.2.2.2.2.2.2.2.2.2.2.2.2.2.2.2.2.2.2.2.2.2.2.2.2.2.2.2.2.2.2.2.2.2.1)
    have k_xSI : xSI W := by
      rw [hW]
      exact (uxSI rfl hI.2.2.2.2.2.2.2.2.2.2.2.2.2.2.2.2.2.2.2.2.2.2.2.2.2.2.2.2.2.2.2.2.2.2.2.2.2.2.2.2.2.2)
    have k_XC : XC W := ⟨k_xS1, k_xS2, k_xS3, k_xS4, k_xS5, k_xS6, k_xS7, k_xS8, k_xS9, k_xSA, k_xSG, k_xSF, k_xSB, k_xSC, k_xSD, k_xSE, k_xSW, k_xST, k_xSP, k_xSL, k_xSM, k_xSI⟩
    have kXB : XB W := ⟨k_xN1, k_xN2, k_xN3, k_xN4, k_xN5, k_xN6, k_xH1, k_xK1, k_xC1, k_xRW, k_xWT, k_xCU, k_xG2, k_xG3, k_xG4, k_xG5, k_xG6, k_XC⟩
    exact ⟨base, k2, k3, kXA, kXB⟩
-- nmTieR100_1
def xr_575 : qRu := (4, [[(-2, 0), (1, 3)]], [(4, 100, [(2, 0)]), (4, 105, [(1, 3)]), (100, 7, [(1, 1)]), (3, 71, [(1, 2)])], [], [], [[(1, 1), (-1, 2)], [(-1, 1), (1, 2)]])
theorem xo_575 : qRok xr_575 := by
  intro ρ M h0 hf hm hI
  have f0 := hf [(-2, 0), (1, 3)] (by decide)
  simp only [qD, h0] at f0
  have m0 : M 4 100 = 2 * ρ 0 + 0 := hm (4, 100, [(2, 0)]) (by decide)
  have m1 : M 4 105 = 1 * ρ 3 + 0 := hm (4, 105, [(1, 3)]) (by decide)
  have m2 : M 100 7 = 1 * ρ 1 + 0 := hm (100, 7, [(1, 1)]) (by decide)
  have m3 : M 3 71 = 1 * ρ 2 + 0 := hm (3, 71, [(1, 2)]) (by decide)
  simp only [h0] at m0
  obtain ⟨a0, a1, a2⟩ := gx_xS5 hI (by omega)
  have t := a1 1 (by omega) (by omega)
  have t : M 100 7 = M 3 71 := t
  refine ⟨ρ, fun _ _ => rfl, fun f h => ?_, ?_⟩
  · have h : f ∈ ([[(1, 1), (-1, 2)], [(-1, 1), (1, 2)]] : List qF) := h
    simp only [List.mem_cons, List.not_mem_nil, or_false] at h
    rcases h with rfl | rfl
    · show 0 ≤ 1 * ρ 1 + (-1 * ρ 2 + 0)
      (try rw [h0]); omega
    · show 0 ≤ -1 * ρ 1 + (1 * ρ 2 + 0)
      (try rw [h0]); omega
  · show sI M
    exact hI
-- nmUpR100_1
def xr_576 : qRu := (3, [[(1, 1), (-1, 2)], [(-1, 1), (1, 2)]], [(4, 100, [(2, 0)]), (4, 105, [(1, 0)]), (100, 7, [(1, 1)]), (3, 71, [(1, 2)])], [], [(4, 105, [(2, 0)])], [])
theorem xo_576 : qRok xr_576 := by
  intro ρ M h0 hf hm hI
  have f0 := hf [(1, 1), (-1, 2)] (by decide)
  have f1 := hf [(-1, 1), (1, 2)] (by decide)
  simp only [qD, h0] at f0 f1
  have m0 : M 4 100 = 2 * ρ 0 + 0 := hm (4, 100, [(2, 0)]) (by decide)
  have m1 : M 4 105 = 1 * ρ 0 + 0 := hm (4, 105, [(1, 0)]) (by decide)
  have m2 : M 100 7 = 1 * ρ 1 + 0 := hm (100, 7, [(1, 1)]) (by decide)
  have m3 : M 3 71 = 1 * ρ 2 + 0 := hm (3, 71, [(1, 2)]) (by decide)
  simp only [h0] at m0 m1
  have qxS5 := hI.2.2.2.2.2.2.2.2.2.2.2.2.2.2.2.2.2.2.2.2.2.2.2.2.2.1
  refine ⟨ρ, fun _ _ => rfl, fun f h => ?_, ?_⟩
  · exact nomatch h
  · show sI (sU M 4 105 (2 * ρ 0 + 0))
    obtain ⟨W, hW⟩ : ∃ W, W = (sU M 4 105 (2 * ρ 0 + 0)) := ⟨_, rfl⟩
    rw [← hW]
    have base : sI0 W := by
      rw [hW]
      exact (si_u0 hI.1 (fun r hr => by cases hr))
    have k2 : XI2 W := by
      rw [hW]
      exact (xi2_u rfl hI.2.1)
    have k3 : XI3 W := by
      rw [hW]
      exact (xi3_u rfl hI.2.2.1)
    have kXA : XA W := by
      rw [hW]
      exact (uXA rfl hI.2.2.2.1)
    have k_xN1 : xN1 W := by
      rw [hW]
      exact (uxN1 rfl hI.2.2.2.2.1)
    have k_xN2 : xN2 W := by
      rw [hW]
      exact (uxN2 rfl hI.2.2.2.2.2.1)
    have k_xN3 : xN3 W := by
      rw [hW]
      exact (uxN3 rfl hI.2.2.2.2.2.2.1)
    have k_xN4 : xN4 W := by
      rw [hW]
      exact (uxN4 rfl hI.2.2.2.2.2.2.2.1)
    have k_xN5 : xN5 W := by
      rw [hW]
      exact (uxN5 rfl hI.2.2.2.2.2.2.2.2.1)
    have k_xN6 : xN6 W := by
      rw [hW]
      exact (uxN6 rfl hI.2.2.2.2.2.2.2.2.2.1)
    have k_xH1 : xH1 W := by
      rw [hW]
      exact (uxH1 rfl hI.2.2.2.2.2.2.2.2.2.2.1)
    have k_xK1 : xK1 W := by
      rw [hW]
      exact (uxK1 rfl hI.2.2.2.2.2.2.2.2.2.2.2.1)
    have k_xC1 : xC1 W := by
      rw [hW]
      exact (uxC1 rfl hI.2.2.2.2.2.2.2.2.2.2.2.2.1)
    have k_xRW : xRW W := by
      rw [hW]
      exact (uxRW rfl hI.2.2.2.2.2.2.2.2.2.2.2.2.2.1)
    have k_xWT : xWT W := by
      rw [hW]
      exact (uxWT rfl hI.2.2.2.2.2.2.2.2.2.2.2.2.2.2.1)
    have k_xCU : xCU W := by
      rw [hW]
      exact (uxCU rfl hI.2.2.2.2.2.2.2.2.2.2.2.2.2.2.2.1)
    have k_xG2 : xG2 W := by
      rw [hW]
      exact (uxG2 rfl hI.2.2.2.2.2.2.2.2.2.2.2.2.2.2.2.2.1)
    have k_xG3 : xG3 W := by
      rw [hW]
      exact (uxG3 rfl hI.2.2.2.2.2.2.2.2.2.2.2.2.2.2.2.2.2.1)
    have k_xG4 : xG4 W := by
      rw [hW]
      exact (uxG4 rfl hI.2.2.2.2.2.2.2.2.2.2.2.2.2.2.2.2.2.2.1)
    have k_xG5 : xG5 W := by
      rw [hW]
      exact (uxG5 rfl hI.2.2.2.2.2.2.2.2.2.2.2.2.2.2.2.2.2.2.2.1)
    have k_xG6 : xG6 W := by
      rw [hW]
      exact (uxG6 rfl hI.2.2.2.2.2.2.2.2.2.2.2.2.2.2.2.2.2.2.2.2.1)
    have k_xS1 : xS1 W := by
      rw [hW]
      exact (uxS1 rfl hI.2.2.2.2.2.2.2.2.2.2.2.2.2.2.2.2.2.2.2.2.2.1)
    have k_xS2 : xS2 W := by
      rw [hW]
      exact (uxS2 rfl hI.2.2.2.2.2.2.2.2.2.2.2.2.2.2.2.2.2.2.2.2.2.2.1)
    have k_xS3 : xS3 W := by
      rw [hW]
      exact (uxS3 rfl hI.2.2.2.2.2.2.2.2.2.2.2.2.2.2.2.2.2.2.2.2.2.2.2.1)
    have k_xS4 : xS4 W := by
      have r : W 4 100 = 2 := by
        have e := m0
        rw [hW, sU_ne (fun z => by omega)]
        omega
      intro h
      rw [r] at h
      omega
    have k_xS5 : xS5 W := by
      have r4_100 : W 4 100 = M 4 100 := by rw [hW, sU_ne (fun z => by omega)]
      have r4_104 : W 4 104 = M 4 104 := by rw [hW, sU_ne (fun z => by omega)]
      have r4_105 : W 4 105 = 2 * ρ 0 + 0 := by rw [hW, sU_at]
      have r4_106 : W 4 106 = M 4 106 := by rw [hW, sU_ne (fun z => by omega)]
      have c3 : ∀ k, W 3 k = M 3 k := fun k => by rw [hW, sU_ne (fun z => by omega)]
      have e3 : W 3 = M 3 := funext c3
      have c94 : ∀ k, W 94 k = M 94 k := fun k => by rw [hW, sU_ne (fun z => by omega)]
      have e94 : W 94 = M 94 := funext c94
      have c100 : ∀ k, W 100 k = M 100 k := fun k => by rw [hW, sU_ne (fun z => by omega)]
      have e100 : W 100 = M 100 := funext c100
      have c104 : ∀ k, W 104 k = M 104 k := fun k => by rw [hW, sU_ne (fun z => by omega)]
      have e104 : W 104 = M 104 := funext c104
      intro h
      obtain ⟨a0, a1, a2⟩ := gx_xS5 hI (by omega)
      rw [r4_104, r4_105, r4_106, e3, e94, e100, e104]
      refine ⟨fun j hj ht => ?_, fun j hj ht => ?_, fun j hj ht => ?_⟩
      · exact a0 j hj (by omega)
      · by_cases hJ : j = 1
        · subst hJ
          show M 100 7 = M 3 71
          omega
        · exact a1 j hj (by (try rw [h0] at ht); omega)
      · exact a2 j hj (by omega)
    have k_xS6 : xS6 W := by
      rw [hW]
      exact (uxS6 rfl hI.2.2.2.2.2.2.2.2.2.2.2.2.2.2.2.2.2.2.2.2.2.2.2.2.2.2.1)
    have k_xS7 : xS7 W := by
      rw [hW]
      exact (uxS7 rfl hI.2.2.2.2.2.2.2.2.2.2.2.2.2.2.2.2.2.2.2.2.2.2.2.2.2.2.2.1)
    have k_xS8 : xS8 W := by
      rw [hW]
      exact (uxS8 rfl hI.2.2.2.2.2.2.2.2.2.2.2.2.2.2.2.2.2.2.2.2.2.2.2.2.2.2.2.2.1)
    have k_xS9 : xS9 W := by
      rw [hW]
      exact (uxS9 rfl hI.2.2.2.2.2.2.2.2.2.2.2.2.2.2.2.2.2.2.2.2.2.2.2.2.2.2.2.2.2.1)
    have k_xSA : xSA W := by
      rw [hW]
      exact (uxSA rfl hI.2.2.2.2.2.2.2.2.2.2.2.2.2.2.2.2.2.2.2.2.2.2.2.2.2.2.2.2.2.2.1)
    have k_xSG : xSG W := by
      rw [hW]
      exact (uxSG rfl hI.2.2.2.2.2.2.2.2.2.2.2.2.2.2.2.2.2.2.2.2.2.2.2.2.2.2.2.2.2.2.2.1)
    have k_xSF : xSF W := by
      rw [hW]
      exact (uxSF rfl hI.2.2.2.2.2.2.2.2.2.2.2.2.2.2.2.2.2.2.2.2.2.2.2.2.2.2.2.2.2.2.2.2.1)
    have k_xSB : xSB W := by
      rw [hW]
      exact (uxSB rfl hI.2.2.2.2.2.2.2.2.2.2.2.2.2.2.2.2.2.2.2.2.2.2.2.2.2.2.2.2.2.2.2.2.2.1)
    have k_xSC : xSC W := by
      rw [hW]
      exact (uxSC rfl hI.2.2.2.2.2.2.2.2.2.2.2.2.2.2.2.2.2.2.2.2.2.2.2.2.2.2.2.2.2.2.2.2.2.2.1)
    have k_xSD : xSD W := by
      rw [hW]
      exact (uxSD rfl hI.2.2.2.2.2.2.2.2.2.2.2.2.2.2.2.2.2.2.2.2.2.2.2.2.2.2.2.2.2.2.2.2.2.2.2.1)
    have k_xSE : xSE W := by
      rw [hW]
      exact (uxSE rfl hI.2.2.2.2.2.2.2.2.2.2.2.2.2.2.2.2.2.2.2.2.2.2.2.2.2.2.2.2.2.2.2.2.2.2.2.2.1)
    have k_xSW : xSW W := by
      rw [hW]
      exact (uxSW rfl hI.2.2.2.2.2.2.2.2.2.2.2.2.2.2.2.2.2.2.2.2.2.2.2.2.2.2.2.2.2.2.2.2.2.2.2.2.2.1)
    have k_xST : xST W := by
      rw [hW]
      exact (uxST rfl hI.2.2.2.2.2.2.2.2.2.2.2.2.2.2.2.2.2.2.2.2.2.2.2.2.2.2.2.2.2.2.2.2.2.2.2.2.2.2.1)
    have k_xSP : xSP W := by
      rw [hW]
      exact (uxSP rfl hI.2.2.2.2.2.2.2.2.2.2.2.2.2.2.2.2.2.2.2.2.2.2.2.2.2.2.2.2.2.2.2.2.2.2.2.2.2.2.2.1)
    have k_xSL : xSL W := by
      rw [hW]
      exact (uxSL rfl hI.2.2.2.2.2.2.2.2.2.2.2.2.2.2.2.2.2.2.2.2.2.2.2.2.2.2.2.2.2.2.2.2.2.2.2.2.2.2.2.2.1)
    have k_xSM : xSM W := by
      rw [hW]
      exact (uxSM rfl hI.2.2.2.2.2.2.2.2.2.2.2.2.2.2.2.2.2.2.2.2.2.2.2.2.2.2.2.2.2.2.2.2.2.2.2.2.2.2.2.2.2.1)
    have k_xSI : xSI W := by
      rw [hW]
      exact (uxSI rfl hI.2.2.2.2.2.2.2.2.2.2.2.2.2.2.2.2.2.2.2.2.2.2.2.2.2.2.2.2.2.2.2.2.2.2.2.2.2.2.2.2.2.2)
    have k_XC : XC W := ⟨k_xS1, k_xS2, k_xS3, k_xS4, k_xS5, k_xS6, k_xS7, k_xS8, k_xS9, k_xSA, k_xSG, k_xSF, k_xSB, k_xSC, k_xSD, k_xSE, k_xSW, k_xST, k_xSP, k_xSL, k_xSM, k_xSI⟩
    have kXB : XB W := ⟨k_xN1, k_xN2, k_xN3, k_xN4, k_xN5, k_xN6, k_xH1, k_xK1, k_xC1, k_xRW, k_xWT, k_xCU, k_xG2, k_xG3, k_xG4, k_xG5, k_xG6, k_XC⟩
    exact ⟨base, k2, k3, kXA, kXB⟩
-- nmTieR100_2
def xr_577 : qRu := (4, [[(-3, 0), (1, 3)]], [(4, 100, [(2, 0)]), (4, 105, [(1, 3)]), (100, 8, [(1, 1)]), (3, 72, [(1, 2)])], [], [], [[(1, 1), (-1, 2)], [(-1, 1), (1, 2)]])
theorem xo_577 : qRok xr_577 := by
  intro ρ M h0 hf hm hI
  have f0 := hf [(-3, 0), (1, 3)] (by decide)
  simp only [qD, h0] at f0
  have m0 : M 4 100 = 2 * ρ 0 + 0 := hm (4, 100, [(2, 0)]) (by decide)
  have m1 : M 4 105 = 1 * ρ 3 + 0 := hm (4, 105, [(1, 3)]) (by decide)
  have m2 : M 100 8 = 1 * ρ 1 + 0 := hm (100, 8, [(1, 1)]) (by decide)
  have m3 : M 3 72 = 1 * ρ 2 + 0 := hm (3, 72, [(1, 2)]) (by decide)
  simp only [h0] at m0
  obtain ⟨a0, a1, a2⟩ := gx_xS5 hI (by omega)
  have t := a1 2 (by omega) (by omega)
  have t : M 100 8 = M 3 72 := t
  refine ⟨ρ, fun _ _ => rfl, fun f h => ?_, ?_⟩
  · have h : f ∈ ([[(1, 1), (-1, 2)], [(-1, 1), (1, 2)]] : List qF) := h
    simp only [List.mem_cons, List.not_mem_nil, or_false] at h
    rcases h with rfl | rfl
    · show 0 ≤ 1 * ρ 1 + (-1 * ρ 2 + 0)
      (try rw [h0]); omega
    · show 0 ≤ -1 * ρ 1 + (1 * ρ 2 + 0)
      (try rw [h0]); omega
  · show sI M
    exact hI
-- nmUpR100_2
def xr_578 : qRu := (3, [[(1, 1), (-1, 2)], [(-1, 1), (1, 2)]], [(4, 100, [(2, 0)]), (4, 105, [(2, 0)]), (100, 8, [(1, 1)]), (3, 72, [(1, 2)])], [], [(4, 105, [(3, 0)])], [])
theorem xo_578 : qRok xr_578 := by
  intro ρ M h0 hf hm hI
  have f0 := hf [(1, 1), (-1, 2)] (by decide)
  have f1 := hf [(-1, 1), (1, 2)] (by decide)
  simp only [qD, h0] at f0 f1
  have m0 : M 4 100 = 2 * ρ 0 + 0 := hm (4, 100, [(2, 0)]) (by decide)
  have m1 : M 4 105 = 2 * ρ 0 + 0 := hm (4, 105, [(2, 0)]) (by decide)
  have m2 : M 100 8 = 1 * ρ 1 + 0 := hm (100, 8, [(1, 1)]) (by decide)
  have m3 : M 3 72 = 1 * ρ 2 + 0 := hm (3, 72, [(1, 2)]) (by decide)
  simp only [h0] at m0 m1
  have qxS5 := hI.2.2.2.2.2.2.2.2.2.2.2.2.2.2.2.2.2.2.2.2.2.2.2.2.2.1
  refine ⟨ρ, fun _ _ => rfl, fun f h => ?_, ?_⟩
  · exact nomatch h
  · show sI (sU M 4 105 (3 * ρ 0 + 0))
    obtain ⟨W, hW⟩ : ∃ W, W = (sU M 4 105 (3 * ρ 0 + 0)) := ⟨_, rfl⟩
    rw [← hW]
    have base : sI0 W := by
      rw [hW]
      exact (si_u0 hI.1 (fun r hr => by cases hr))
    have k2 : XI2 W := by
      rw [hW]
      exact (xi2_u rfl hI.2.1)
    have k3 : XI3 W := by
      rw [hW]
      exact (xi3_u rfl hI.2.2.1)
    have kXA : XA W := by
      rw [hW]
      exact (uXA rfl hI.2.2.2.1)
    have k_xN1 : xN1 W := by
      rw [hW]
      exact (uxN1 rfl hI.2.2.2.2.1)
    have k_xN2 : xN2 W := by
      rw [hW]
      exact (uxN2 rfl hI.2.2.2.2.2.1)
    have k_xN3 : xN3 W := by
      rw [hW]
      exact (uxN3 rfl hI.2.2.2.2.2.2.1)
    have k_xN4 : xN4 W := by
      rw [hW]
      exact (uxN4 rfl hI.2.2.2.2.2.2.2.1)
    have k_xN5 : xN5 W := by
      rw [hW]
      exact (uxN5 rfl hI.2.2.2.2.2.2.2.2.1)
    have k_xN6 : xN6 W := by
      rw [hW]
      exact (uxN6 rfl hI.2.2.2.2.2.2.2.2.2.1)
    have k_xH1 : xH1 W := by
      rw [hW]
      exact (uxH1 rfl hI.2.2.2.2.2.2.2.2.2.2.1)
    have k_xK1 : xK1 W := by
      rw [hW]
      exact (uxK1 rfl hI.2.2.2.2.2.2.2.2.2.2.2.1)
    have k_xC1 : xC1 W := by
      rw [hW]
      exact (uxC1 rfl hI.2.2.2.2.2.2.2.2.2.2.2.2.1)
    have k_xRW : xRW W := by
      rw [hW]
      exact (uxRW rfl hI.2.2.2.2.2.2.2.2.2.2.2.2.2.1)
    have k_xWT : xWT W := by
      rw [hW]
      exact (uxWT rfl hI.2.2.2.2.2.2.2.2.2.2.2.2.2.2.1)
    have k_xCU : xCU W := by
      rw [hW]
      exact (uxCU rfl hI.2.2.2.2.2.2.2.2.2.2.2.2.2.2.2.1)
    have k_xG2 : xG2 W := by
      rw [hW]
      exact (uxG2 rfl hI.2.2.2.2.2.2.2.2.2.2.2.2.2.2.2.2.1)
    have k_xG3 : xG3 W := by
      rw [hW]
      exact (uxG3 rfl hI.2.2.2.2.2.2.2.2.2.2.2.2.2.2.2.2.2.1)
    have k_xG4 : xG4 W := by
      rw [hW]
      exact (uxG4 rfl hI.2.2.2.2.2.2.2.2.2.2.2.2.2.2.2.2.2.2.1)
    have k_xG5 : xG5 W := by
      rw [hW]
      exact (uxG5 rfl hI.2.2.2.2.2.2.2.2.2.2.2.2.2.2.2.2.2.2.2.1)
    have k_xG6 : xG6 W := by
      rw [hW]
      exact (uxG6 rfl hI.2.2.2.2.2.2.2.2.2.2.2.2.2.2.2.2.2.2.2.2.1)
    have k_xS1 : xS1 W := by
      rw [hW]
      exact (uxS1 rfl hI.2.2.2.2.2.2.2.2.2.2.2.2.2.2.2.2.2.2.2.2.2.1)
    have k_xS2 : xS2 W := by
      rw [hW]
      exact (uxS2 rfl hI.2.2.2.2.2.2.2.2.2.2.2.2.2.2.2.2.2.2.2.2.2.2.1)
    have k_xS3 : xS3 W := by
      rw [hW]
      exact (uxS3 rfl hI.2.2.2.2.2.2.2.2.2.2.2.2.2.2.2.2.2.2.2.2.2.2.2.1)
    have k_xS4 : xS4 W := by
      have r : W 4 100 = 2 := by
        have e := m0
        rw [hW, sU_ne (fun z => by omega)]
        omega
      intro h
      rw [r] at h
      omega
    have k_xS5 : xS5 W := by
      have r4_100 : W 4 100 = M 4 100 := by rw [hW, sU_ne (fun z => by omega)]
      have r4_104 : W 4 104 = M 4 104 := by rw [hW, sU_ne (fun z => by omega)]
      have r4_105 : W 4 105 = 3 * ρ 0 + 0 := by rw [hW, sU_at]
      have r4_106 : W 4 106 = M 4 106 := by rw [hW, sU_ne (fun z => by omega)]
      have c3 : ∀ k, W 3 k = M 3 k := fun k => by rw [hW, sU_ne (fun z => by omega)]
      have e3 : W 3 = M 3 := funext c3
      have c94 : ∀ k, W 94 k = M 94 k := fun k => by rw [hW, sU_ne (fun z => by omega)]
      have e94 : W 94 = M 94 := funext c94
      have c100 : ∀ k, W 100 k = M 100 k := fun k => by rw [hW, sU_ne (fun z => by omega)]
      have e100 : W 100 = M 100 := funext c100
      have c104 : ∀ k, W 104 k = M 104 k := fun k => by rw [hW, sU_ne (fun z => by omega)]
      have e104 : W 104 = M 104 := funext c104
      intro h
      obtain ⟨a0, a1, a2⟩ := gx_xS5 hI (by omega)
      rw [r4_104, r4_105, r4_106, e3, e94, e100, e104]
      refine ⟨fun j hj ht => ?_, fun j hj ht => ?_, fun j hj ht => ?_⟩
      · exact a0 j hj (by omega)
      · by_cases hJ : j = 2
        · subst hJ
          show M 100 8 = M 3 72
          omega
        · exact a1 j hj (by (try rw [h0] at ht); omega)
      · exact a2 j hj (by omega)
    have k_xS6 : xS6 W := by
      rw [hW]
      exact (uxS6 rfl hI.2.2.2.2.2.2.2.2.2.2.2.2.2.2.2.2.2.2.2.2.2.2.2.2.2.2.1)
    have k_xS7 : xS7 W := by
      rw [hW]
      exact (uxS7 rfl hI.2.2.2.2.2.2.2.2.2.2.2.2.2.2.2.2.2.2.2.2.2.2.2.2.2.2.2.1)
    have k_xS8 : xS8 W := by
      rw [hW]
      exact (uxS8 rfl hI.2.2.2.2.2.2.2.2.2.2.2.2.2.2.2.2.2.2.2.2.2.2.2.2.2.2.2.2.1)
    have k_xS9 : xS9 W := by
      rw [hW]
      exact (uxS9 rfl hI.2.2.2.2.2.2.2.2.2.2.2.2.2.2.2.2.2.2.2.2.2.2.2.2.2.2.2.2.2.1)
    have k_xSA : xSA W := by
      rw [hW]
      exact (uxSA rfl hI.2.2.2.2.2.2.2.2.2.2.2.2.2.2.2.2.2.2.2.2.2.2.2.2.2.2.2.2.2.2.1)
    have k_xSG : xSG W := by
      rw [hW]
      exact (uxSG rfl hI.2.2.2.2.2.2.2.2.2.2.2.2.2.2.2.2.2.2.2.2.2.2.2.2.2.2.2.2.2.2.2.1)
    have k_xSF : xSF W := by
      rw [hW]
      exact (uxSF rfl hI.2.2.2.2.2.2.2.2.2.2.2.2.2.2.2.2.2.2.2.2.2.2.2.2.2.2.2.2.2.2.2.2.1)
    have k_xSB : xSB W := by
      rw [hW]
      exact (uxSB rfl hI.2.2.2.2.2.2.2.2.2.2.2.2.2.2.2.2.2.2.2.2.2.2.2.2.2.2.2.2.2.2.2.2.2.1)
    have k_xSC : xSC W := by
      rw [hW]
      exact (uxSC rfl hI.2.2.2.2.2.2.2.2.2.2.2.2.2.2.2.2.2.2.2.2.2.2.2.2.2.2.2.2.2.2.2.2.2.2.1)
    have k_xSD : xSD W := by
      rw [hW]
      exact (uxSD rfl hI.2.2.2.2.2.2.2.2.2.2.2.2.2.2.2.2.2.2.2.2.2.2.2.2.2.2.2.2.2.2.2.2.2.2.2.1)
    have k_xSE : xSE W := by
      rw [hW]
      exact (uxSE rfl hI.2.2.2.2.2.2.2.2.2.2.2.2.2.2.2.2.2.2.2.2.2.2.2.2.2.2.2.2.2.2.2.2.2.2.2.2.1)
    have k_xSW : xSW W := by
      rw [hW]
      exact (uxSW rfl hI.2.2.2.2.2.2.2.2.2.2.2.2.2.2.2.2.2.2.2.2.2.2.2.2.2.2.2.2.2.2.2.2.2.2.2.2.2.1)
    have k_xST : xST W := by
      rw [hW]
      exact (uxST rfl hI.2.2.2.2.2.2.2.2.2.2.2.2.2.2.2.2.2.2.2.2.2.2.2.2.2.2.2.2.2.2.2.2.2.2.2.2.2.2.1)
    have k_xSP : xSP W := by
      rw [hW]
      exact (uxSP rfl hI.2.2.2.2.2.2.2.2.2.2.2.2.2.2.2.2.2.2.2.2.2.2.2.2.2.2.2.2.2.2.2.2.2.2.2.2.2.2.2.1)
    have k_xSL : xSL W := by
      rw [hW]
      exact (uxSL rfl hI.2.2.2.2.2.2.2.2.2.2.2.2.2.2.2.2.2.2.2.2.2.2.2.2.2.2.2.2.2.2.2.2.2.2.2.2.2.2.2.2.1)
    have k_xSM : xSM W := by
      rw [hW]
      exact (uxSM rfl hI.2.2.2.2.2.2.2.2.2.2.2.2.2.2.2.2.2.2.2.2.2.2.2.2.2.2.2.2.2.2.2.2.2.2.2.2.2.2.2.2.2.1)
    have k_xSI : xSI W := by
      rw [hW]
      exact (uxSI rfl hI.2.2.2.2.2.2.2.2.2.2.2.2.2.2.2.2.2.2.2.2.2.2.2.2.2.2.2.2.2.2.2.2.2.2.2.2.2.2.2.2.2.2)
    have k_XC : XC W := ⟨k_xS1, k_xS2, k_xS3, k_xS4, k_xS5, k_xS6, k_xS7, k_xS8, k_xS9, k_xSA, k_xSG, k_xSF, k_xSB, k_xSC, k_xSD, k_xSE, k_xSW, k_xST, k_xSP, k_xSL, k_xSM, k_xSI⟩
    have kXB : XB W := ⟨k_xN1, k_xN2, k_xN3, k_xN4, k_xN5, k_xN6, k_xH1, k_xK1, k_xC1, k_xRW, k_xWT, k_xCU, k_xG2, k_xG3, k_xG4, k_xG5, k_xG6, k_XC⟩
    exact ⟨base, k2, k3, kXA, kXB⟩
-- nmTieR100_3
def xr_579 : qRu := (4, [[(-4, 0), (1, 3)]], [(4, 100, [(2, 0)]), (4, 105, [(1, 3)]), (100, 9, [(1, 1)]), (3, 73, [(1, 2)])], [], [], [[(1, 1), (-1, 2)], [(-1, 1), (1, 2)]])
theorem xo_579 : qRok xr_579 := by
  intro ρ M h0 hf hm hI
  have f0 := hf [(-4, 0), (1, 3)] (by decide)
  simp only [qD, h0] at f0
  have m0 : M 4 100 = 2 * ρ 0 + 0 := hm (4, 100, [(2, 0)]) (by decide)
  have m1 : M 4 105 = 1 * ρ 3 + 0 := hm (4, 105, [(1, 3)]) (by decide)
  have m2 : M 100 9 = 1 * ρ 1 + 0 := hm (100, 9, [(1, 1)]) (by decide)
  have m3 : M 3 73 = 1 * ρ 2 + 0 := hm (3, 73, [(1, 2)]) (by decide)
  simp only [h0] at m0
  obtain ⟨a0, a1, a2⟩ := gx_xS5 hI (by omega)
  have t := a1 3 (by omega) (by omega)
  have t : M 100 9 = M 3 73 := t
  refine ⟨ρ, fun _ _ => rfl, fun f h => ?_, ?_⟩
  · have h : f ∈ ([[(1, 1), (-1, 2)], [(-1, 1), (1, 2)]] : List qF) := h
    simp only [List.mem_cons, List.not_mem_nil, or_false] at h
    rcases h with rfl | rfl
    · show 0 ≤ 1 * ρ 1 + (-1 * ρ 2 + 0)
      (try rw [h0]); omega
    · show 0 ≤ -1 * ρ 1 + (1 * ρ 2 + 0)
      (try rw [h0]); omega
  · show sI M
    exact hI
-- nmUpR100_3
def xr_580 : qRu := (3, [[(1, 1), (-1, 2)], [(-1, 1), (1, 2)]], [(4, 100, [(2, 0)]), (4, 105, [(3, 0)]), (100, 9, [(1, 1)]), (3, 73, [(1, 2)])], [], [(4, 105, [(4, 0)])], [])
theorem xo_580 : qRok xr_580 := by
  intro ρ M h0 hf hm hI
  have f0 := hf [(1, 1), (-1, 2)] (by decide)
  have f1 := hf [(-1, 1), (1, 2)] (by decide)
  simp only [qD, h0] at f0 f1
  have m0 : M 4 100 = 2 * ρ 0 + 0 := hm (4, 100, [(2, 0)]) (by decide)
  have m1 : M 4 105 = 3 * ρ 0 + 0 := hm (4, 105, [(3, 0)]) (by decide)
  have m2 : M 100 9 = 1 * ρ 1 + 0 := hm (100, 9, [(1, 1)]) (by decide)
  have m3 : M 3 73 = 1 * ρ 2 + 0 := hm (3, 73, [(1, 2)]) (by decide)
  simp only [h0] at m0 m1
  have qxS5 := hI.2.2.2.2.2.2.2.2.2.2.2.2.2.2.2.2.2.2.2.2.2.2.2.2.2.1
  refine ⟨ρ, fun _ _ => rfl, fun f h => ?_, ?_⟩
  · exact nomatch h
  · show sI (sU M 4 105 (4 * ρ 0 + 0))
    obtain ⟨W, hW⟩ : ∃ W, W = (sU M 4 105 (4 * ρ 0 + 0)) := ⟨_, rfl⟩
    rw [← hW]
    have base : sI0 W := by
      rw [hW]
      exact (si_u0 hI.1 (fun r hr => by cases hr))
    have k2 : XI2 W := by
      rw [hW]
      exact (xi2_u rfl hI.2.1)
    have k3 : XI3 W := by
      rw [hW]
      exact (xi3_u rfl hI.2.2.1)
    have kXA : XA W := by
      rw [hW]
      exact (uXA rfl hI.2.2.2.1)
    have k_xN1 : xN1 W := by
      rw [hW]
      exact (uxN1 rfl hI.2.2.2.2.1)
    have k_xN2 : xN2 W := by
      rw [hW]
      exact (uxN2 rfl hI.2.2.2.2.2.1)
    have k_xN3 : xN3 W := by
      rw [hW]
      exact (uxN3 rfl hI.2.2.2.2.2.2.1)
    have k_xN4 : xN4 W := by
      rw [hW]
      exact (uxN4 rfl hI.2.2.2.2.2.2.2.1)
    have k_xN5 : xN5 W := by
      rw [hW]
      exact (uxN5 rfl hI.2.2.2.2.2.2.2.2.1)
    have k_xN6 : xN6 W := by
      rw [hW]
      exact (uxN6 rfl hI.2.2.2.2.2.2.2.2.2.1)
    have k_xH1 : xH1 W := by
      rw [hW]
      exact (uxH1 rfl hI.2.2.2.2.2.2.2.2.2.2.1)
    have k_xK1 : xK1 W := by
      rw [hW]
      exact (uxK1 rfl hI.2.2.2.2.2.2.2.2.2.2.2.1)
    have k_xC1 : xC1 W := by
      rw [hW]
      exact (uxC1 rfl hI.2.2.2.2.2.2.2.2.2.2.2.2.1)
    have k_xRW : xRW W := by
      rw [hW]
      exact (uxRW rfl hI.2.2.2.2.2.2.2.2.2.2.2.2.2.1)
    have k_xWT : xWT W := by
      rw [hW]
      exact (uxWT rfl hI.2.2.2.2.2.2.2.2.2.2.2.2.2.2.1)
    have k_xCU : xCU W := by
      rw [hW]
      exact (uxCU rfl hI.2.2.2.2.2.2.2.2.2.2.2.2.2.2.2.1)
    have k_xG2 : xG2 W := by
      rw [hW]
      exact (uxG2 rfl hI.2.2.2.2.2.2.2.2.2.2.2.2.2.2.2.2.1)
    have k_xG3 : xG3 W := by
      rw [hW]
      exact (uxG3 rfl hI.2.2.2.2.2.2.2.2.2.2.2.2.2.2.2.2.2.1)
    have k_xG4 : xG4 W := by
      rw [hW]
      exact (uxG4 rfl hI.2.2.2.2.2.2.2.2.2.2.2.2.2.2.2.2.2.2.1)
    have k_xG5 : xG5 W := by
      rw [hW]
      exact (uxG5 rfl hI.2.2.2.2.2.2.2.2.2.2.2.2.2.2.2.2.2.2.2.1)
    have k_xG6 : xG6 W := by
      rw [hW]
      exact (uxG6 rfl hI.2.2.2.2.2.2.2.2.2.2.2.2.2.2.2.2.2.2.2.2.1)
    have k_xS1 : xS1 W := by
      rw [hW]
      exact (uxS1 rfl hI.2.2.2.2.2.2.2.2.2.2.2.2.2.2.2.2.2.2.2.2.2.1)
    have k_xS2 : xS2 W := by
      rw [hW]
      exact (uxS2 rfl hI.2.2.2.2.2.2.2.2.2.2.2.2.2.2.2.2.2.2.2.2.2.2.1)
    have k_xS3 : xS3 W := by
      rw [hW]
      exact (uxS3 rfl hI.2.2.2.2.2.2.2.2.2.2.2.2.2.2.2.2.2.2.2.2.2.2.2.1)
    have k_xS4 : xS4 W := by
      have r : W 4 100 = 2 := by
        have e := m0
        rw [hW, sU_ne (fun z => by omega)]
        omega
      intro h
      rw [r] at h
      omega
    have k_xS5 : xS5 W := by
      have r4_100 : W 4 100 = M 4 100 := by rw [hW, sU_ne (fun z => by omega)]
      have r4_104 : W 4 104 = M 4 104 := by rw [hW, sU_ne (fun z => by omega)]
      have r4_105 : W 4 105 = 4 * ρ 0 + 0 := by rw [hW, sU_at]
      have r4_106 : W 4 106 = M 4 106 := by rw [hW, sU_ne (fun z => by omega)]
      have c3 : ∀ k, W 3 k = M 3 k := fun k => by rw [hW, sU_ne (fun z => by omega)]
      have e3 : W 3 = M 3 := funext c3
      have c94 : ∀ k, W 94 k = M 94 k := fun k => by rw [hW, sU_ne (fun z => by omega)]
      have e94 : W 94 = M 94 := funext c94
      have c100 : ∀ k, W 100 k = M 100 k := fun k => by rw [hW, sU_ne (fun z => by omega)]
      have e100 : W 100 = M 100 := funext c100
      have c104 : ∀ k, W 104 k = M 104 k := fun k => by rw [hW, sU_ne (fun z => by omega)]
      have e104 : W 104 = M 104 := funext c104
      intro h
      obtain ⟨a0, a1, a2⟩ := gx_xS5 hI (by omega)
      rw [r4_104, r4_105, r4_106, e3, e94, e100, e104]
      refine ⟨fun j hj ht => ?_, fun j hj ht => ?_, fun j hj ht => ?_⟩
      · exact a0 j hj (by omega)
      · by_cases hJ : j = 3
        · subst hJ
          show M 100 9 = M 3 73
          omega
        · exact a1 j hj (by (try rw [h0] at ht); omega)
      · exact a2 j hj (by omega)
    have k_xS6 : xS6 W := by
      rw [hW]
      exact (uxS6 rfl hI.2.2.2.2.2.2.2.2.2.2.2.2.2.2.2.2.2.2.2.2.2.2.2.2.2.2.1)
    have k_xS7 : xS7 W := by
      rw [hW]
      exact (uxS7 rfl hI.2.2.2.2.2.2.2.2.2.2.2.2.2.2.2.2.2.2.2.2.2.2.2.2.2.2.2.1)
    have k_xS8 : xS8 W := by
      rw [hW]
      exact (uxS8 rfl hI.2.2.2.2.2.2.2.2.2.2.2.2.2.2.2.2.2.2.2.2.2.2.2.2.2.2.2.2.1)
    have k_xS9 : xS9 W := by
      rw [hW]
      exact (uxS9 rfl hI.2.2.2.2.2.2.2.2.2.2.2.2.2.2.2.2.2.2.2.2.2.2.2.2.2.2.2.2.2.1)
    have k_xSA : xSA W := by
      rw [hW]
      exact (uxSA rfl hI.2.2.2.2.2.2.2.2.2.2.2.2.2.2.2.2.2.2.2.2.2.2.2.2.2.2.2.2.2.2.1)
    have k_xSG : xSG W := by
      rw [hW]
      exact (uxSG rfl hI.2.2.2.2.2.2.2.2.2.2.2.2.2.2.2.2.2.2.2.2.2.2.2.2.2.2.2.2.2.2.2.1)
    have k_xSF : xSF W := by
      rw [hW]
      exact (uxSF rfl hI.2.2.2.2.2.2.2.2.2.2.2.2.2.2.2.2.2.2.2.2.2.2.2.2.2.2.2.2.2.2.2.2.1)
    have k_xSB : xSB W := by
      rw [hW]
      exact (uxSB rfl hI.2.2.2.2.2.2.2.2.2.2.2.2.2.2.2.2.2.2.2.2.2.2.2.2.2.2.2.2.2.2.2.2.2.1)
    have k_xSC : xSC W := by
      rw [hW]
      exact (uxSC rfl hI.2.2.2.2.2.2.2.2.2.2.2.2.2.2.2.2.2.2.2.2.2.2.2.2.2.2.2.2.2.2.2.2.2.2.1)
    have k_xSD : xSD W := by
      rw [hW]
      exact (uxSD rfl hI.2.2.2.2.2.2.2.2.2.2.2.2.2.2.2.2.2.2.2.2.2.2.2.2.2.2.2.2.2.2.2.2.2.2.2.1)
    have k_xSE : xSE W := by
      rw [hW]
      exact (uxSE rfl hI.2.2.2.2.2.2.2.2.2.2.2.2.2.2.2.2.2.2.2.2.2.2.2.2.2.2.2.2.2.2.2.2.2.2.2.2.1)
    have k_xSW : xSW W := by
      rw [hW]
      exact (uxSW rfl hI.2.2.2.2.2.2.2.2.2.2.2.2.2.2.2.2.2.2.2.2.2.2.2.2.2.2.2.2.2.2.2.2.2.2.2.2.2.1)
    have k_xST : xST W := by
      rw [hW]
      exact (uxST rfl hI.2.2.2.2.2.2.2.2.2.2.2.2.2.2.2.2.2.2.2.2.2.2.2.2.2.2.2.2.2.2.2.2.2.2.2.2.2.2.1)
    have k_xSP : xSP W := by
      rw [hW]
      exact (uxSP rfl hI.2.2.2.2.2.2.2.2.2.2.2.2.2.2.2.2.2.2.2.2.2.2.2.2.2.2.2.2.2.2.2.2.2.2.2.2.2.2.2.1)
    have k_xSL : xSL W := by
      rw [hW]
      exact (uxSL rfl hI.2.2.2.2.2.2.2.2.2.2.2.2.2.2.2.2.2.2.2.2.2.2.2.2.2.2.2.2.2.2.2.2.2.2.2.2.2.2.2.2.1)
    have k_xSM : xSM W := by
      rw [hW]
      exact (uxSM rfl hI.2.2.2.2.2.2.2.2.2.2.2.2.2.2.2.2.2.2.2.2.2.2.2.2.2.2.2.2.2.2.2.2.2.2.2.2.2.2.2.2.2.1)
    have k_xSI : xSI W := by
      rw [hW]
      exact (uxSI rfl hI.2.2.2.2.2.2.2.2.2.2.2.2.2.2.2.2.2.2.2.2.2.2.2.2.2.2.2.2.2.2.2.2.2.2.2.2.2.2.2.2.2.2)
    have k_XC : XC W := ⟨k_xS1, k_xS2, k_xS3, k_xS4, k_xS5, k_xS6, k_xS7, k_xS8, k_xS9, k_xSA, k_xSG, k_xSF, k_xSB, k_xSC, k_xSD, k_xSE, k_xSW, k_xST, k_xSP, k_xSL, k_xSM, k_xSI⟩
    have kXB : XB W := ⟨k_xN1, k_xN2, k_xN3, k_xN4, k_xN5, k_xN6, k_xH1, k_xK1, k_xC1, k_xRW, k_xWT, k_xCU, k_xG2, k_xG3, k_xG4, k_xG5, k_xG6, k_XC⟩
    exact ⟨base, k2, k3, kXA, kXB⟩
-- nmTieR100_4
def xr_581 : qRu := (4, [[(-5, 0), (1, 3)]], [(4, 100, [(2, 0)]), (4, 105, [(1, 3)]), (100, 10, [(1, 1)]), (3, 74, [(1, 2)])], [], [], [[(1, 1), (-1, 2)], [(-1, 1), (1, 2)]])
theorem xo_581 : qRok xr_581 := by
  intro ρ M h0 hf hm hI
  have f0 := hf [(-5, 0), (1, 3)] (by decide)
  simp only [qD, h0] at f0
  have m0 : M 4 100 = 2 * ρ 0 + 0 := hm (4, 100, [(2, 0)]) (by decide)
  have m1 : M 4 105 = 1 * ρ 3 + 0 := hm (4, 105, [(1, 3)]) (by decide)
  have m2 : M 100 10 = 1 * ρ 1 + 0 := hm (100, 10, [(1, 1)]) (by decide)
  have m3 : M 3 74 = 1 * ρ 2 + 0 := hm (3, 74, [(1, 2)]) (by decide)
  simp only [h0] at m0
  obtain ⟨a0, a1, a2⟩ := gx_xS5 hI (by omega)
  have t := a1 4 (by omega) (by omega)
  have t : M 100 10 = M 3 74 := t
  refine ⟨ρ, fun _ _ => rfl, fun f h => ?_, ?_⟩
  · have h : f ∈ ([[(1, 1), (-1, 2)], [(-1, 1), (1, 2)]] : List qF) := h
    simp only [List.mem_cons, List.not_mem_nil, or_false] at h
    rcases h with rfl | rfl
    · show 0 ≤ 1 * ρ 1 + (-1 * ρ 2 + 0)
      (try rw [h0]); omega
    · show 0 ≤ -1 * ρ 1 + (1 * ρ 2 + 0)
      (try rw [h0]); omega
  · show sI M
    exact hI
-- nmUpR100_4
def xr_582 : qRu := (3, [[(1, 1), (-1, 2)], [(-1, 1), (1, 2)]], [(4, 100, [(2, 0)]), (4, 105, [(4, 0)]), (100, 10, [(1, 1)]), (3, 74, [(1, 2)])], [], [(4, 105, [(5, 0)])], [])
theorem xo_582 : qRok xr_582 := by
  intro ρ M h0 hf hm hI
  have f0 := hf [(1, 1), (-1, 2)] (by decide)
  have f1 := hf [(-1, 1), (1, 2)] (by decide)
  simp only [qD, h0] at f0 f1
  have m0 : M 4 100 = 2 * ρ 0 + 0 := hm (4, 100, [(2, 0)]) (by decide)
  have m1 : M 4 105 = 4 * ρ 0 + 0 := hm (4, 105, [(4, 0)]) (by decide)
  have m2 : M 100 10 = 1 * ρ 1 + 0 := hm (100, 10, [(1, 1)]) (by decide)
  have m3 : M 3 74 = 1 * ρ 2 + 0 := hm (3, 74, [(1, 2)]) (by decide)
  simp only [h0] at m0 m1
  have qxS5 := hI.2.2.2.2.2.2.2.2.2.2.2.2.2.2.2.2.2.2.2.2.2.2.2.2.2.1
  refine ⟨ρ, fun _ _ => rfl, fun f h => ?_, ?_⟩
  · exact nomatch h
  · show sI (sU M 4 105 (5 * ρ 0 + 0))
    obtain ⟨W, hW⟩ : ∃ W, W = (sU M 4 105 (5 * ρ 0 + 0)) := ⟨_, rfl⟩
    rw [← hW]
    have base : sI0 W := by
      rw [hW]
      exact (si_u0 hI.1 (fun r hr => by cases hr))
    have k2 : XI2 W := by
      rw [hW]
      exact (xi2_u rfl hI.2.1)
    have k3 : XI3 W := by
      rw [hW]
      exact (xi3_u rfl hI.2.2.1)
    have kXA : XA W := by
      rw [hW]
      exact (uXA rfl hI.2.2.2.1)
    have k_xN1 : xN1 W := by
      rw [hW]
      exact (uxN1 rfl hI.2.2.2.2.1)
    have k_xN2 : xN2 W := by
      rw [hW]
      exact (uxN2 rfl hI.2.2.2.2.2.1)
    have k_xN3 : xN3 W := by
      rw [hW]
      exact (uxN3 rfl hI.2.2.2.2.2.2.1)
    have k_xN4 : xN4 W := by
      rw [hW]
      exact (uxN4 rfl hI.2.2.2.2.2.2.2.1)
    have k_xN5 : xN5 W := by
      rw [hW]
      exact (uxN5 rfl hI.2.2.2.2.2.2.2.2.1)
    have k_xN6 : xN6 W := by
      rw [hW]
      exact (uxN6 rfl hI.2.2.2.2.2.2.2.2.2.1)
    have k_xH1 : xH1 W := by
      rw [hW]
      exact (uxH1 rfl hI.2.2.2.2.2.2.2.2.2.2.1)
    have k_xK1 : xK1 W := by
      rw [hW]
      exact (uxK1 rfl hI.2.2.2.2.2.2.2.2.2.2.2.1)
    have k_xC1 : xC1 W := by
      rw [hW]
      exact (uxC1 rfl hI.2.2.2.2.2.2.2.2.2.2.2.2.1)
    have k_xRW : xRW W := by
      rw [hW]
      exact (uxRW rfl hI.2.2.2.2.2.2.2.2.2.2.2.2.2.1)
    have k_xWT : xWT W := by
      rw [hW]
      exact (uxWT rfl hI.2.2.2.2.2.2.2.2.2.2.2.2.2.2.1)
    have k_xCU : xCU W := by
      rw [hW]
      exact (uxCU rfl hI.2.2.2.2.2.2.2.2.2.2.2.2.2.2.2.1)
    have k_xG2 : xG2 W := by
      rw [hW]
      exact (uxG2 rfl hI.2.2.2.2.2.2.2.2.2.2.2.2.2.2.2.2.1)
    have k_xG3 : xG3 W := by
      rw [hW]
      exact (uxG3 rfl hI.2.2.2.2.2.2.2.2.2.2.2.2.2.2.2.2.2.1)
    have k_xG4 : xG4 W := by
      rw [hW]
      exact (uxG4 rfl hI.2.2.2.2.2.2.2.2.2.2.2.2.2.2.2.2.2.2.1)
    have k_xG5 : xG5 W := by
      rw [hW]
      exact (uxG5 rfl hI.2.2.2.2.2.2.2.2.2.2.2.2.2.2.2.2.2.2.2.1)
    have k_xG6 : xG6 W := by
      rw [hW]
      exact (uxG6 rfl hI.2.2.2.2.2.2.2.2.2.2.2.2.2.2.2.2.2.2.2.2.1)
    have k_xS1 : xS1 W := by
      rw [hW]
      exact (uxS1 rfl hI.2.2.2.2.2.2.2.2.2.2.2.2.2.2.2.2.2.2.2.2.2.1)
    have k_xS2 : xS2 W := by
      rw [hW]
      exact (uxS2 rfl hI.2.2.2.2.2.2.2.2.2.2.2.2.2.2.2.2.2.2.2.2.2.2.1)
    have k_xS3 : xS3 W := by
      rw [hW]
      exact (uxS3 rfl hI.2.2.2.2.2.2.2.2.2.2.2.2.2.2.2.2.2.2.2.2.2.2.2.1)
    have k_xS4 : xS4 W := by
      have r : W 4 100 = 2 := by
        have e := m0
        rw [hW, sU_ne (fun z => by omega)]
        omega
      intro h
      rw [r] at h
      omega
    have k_xS5 : xS5 W := by
      have r4_100 : W 4 100 = M 4 100 := by rw [hW, sU_ne (fun z => by omega)]
      have r4_104 : W 4 104 = M 4 104 := by rw [hW, sU_ne (fun z => by omega)]
      have r4_105 : W 4 105 = 5 * ρ 0 + 0 := by rw [hW, sU_at]
      have r4_106 : W 4 106 = M 4 106 := by rw [hW, sU_ne (fun z => by omega)]
      have c3 : ∀ k, W 3 k = M 3 k := fun k => by rw [hW, sU_ne (fun z => by omega)]
      have e3 : W 3 = M 3 := funext c3
      have c94 : ∀ k, W 94 k = M 94 k := fun k => by rw [hW, sU_ne (fun z => by omega)]
      have e94 : W 94 = M 94 := funext c94
      have c100 : ∀ k, W 100 k = M 100 k := fun k => by rw [hW, sU_ne (fun z => by omega)]
      have e100 : W 100 = M 100 := funext c100
      have c104 : ∀ k, W 104 k = M 104 k := fun k => by rw [hW, sU_ne (fun z => by omega)]
      have e104 : W 104 = M 104 := funext c104
      intro h
      obtain ⟨a0, a1, a2⟩ := gx_xS5 hI (by omega)
      rw [r4_104, r4_105, r4_106, e3, e94, e100, e104]
      refine ⟨fun j hj ht => ?_, fun j hj ht => ?_, fun j hj ht => ?_⟩
      · exact a0 j hj (by omega)
      · by_cases hJ : j = 4
        · subst hJ
          show M 100 10 = M 3 74
          omega
        · exact a1 j hj (by (try rw [h0] at ht); omega)
      · exact a2 j hj (by omega)
    have k_xS6 : xS6 W := by
      rw [hW]
      exact (uxS6 rfl hI.2.2.2.2.2.2.2.2.2.2.2.2.2.2.2.2.2.2.2.2.2.2.2.2.2.2.1)
    have k_xS7 : xS7 W := by
      rw [hW]
      exact (uxS7 rfl hI.2.2.2.2.2.2.2.2.2.2.2.2.2.2.2.2.2.2.2.2.2.2.2.2.2.2.2.1)
    have k_xS8 : xS8 W := by
      rw [hW]
      exact (uxS8 rfl hI.2.2.2.2.2.2.2.2.2.2.2.2.2.2.2.2.2.2.2.2.2.2.2.2.2.2.2.2.1)
    have k_xS9 : xS9 W := by
      rw [hW]
      exact (uxS9 rfl hI.2.2.2.2.2.2.2.2.2.2.2.2.2.2.2.2.2.2.2.2.2.2.2.2.2.2.2.2.2.1)
    have k_xSA : xSA W := by
      rw [hW]
      exact (uxSA rfl hI.2.2.2.2.2.2.2.2.2.2.2.2.2.2.2.2.2.2.2.2.2.2.2.2.2.2.2.2.2.2.1)
    have k_xSG : xSG W := by
      rw [hW]
      exact (uxSG rfl hI.2.2.2.2.2.2.2.2.2.2.2.2.2.2.2.2.2.2.2.2.2.2.2.2.2.2.2.2.2.2.2.1)
    have k_xSF : xSF W := by
      rw [hW]
      exact (uxSF rfl hI.2.2.2.2.2.2.2.2.2.2.2.2.2.2.2.2.2.2.2.2.2.2.2.2.2.2.2.2.2.2.2.2.1)
    have k_xSB : xSB W := by
      rw [hW]
      exact (uxSB rfl hI.2.2.2.2.2.2.2.2.2.2.2.2.2.2.2.2.2.2.2.2.2.2.2.2.2.2.2.2.2.2.2.2.2.1)
    have k_xSC : xSC W := by
      rw [hW]
      exact (uxSC rfl hI.2.2.2.2.2.2.2.2.2.2.2.2.2.2.2.2.2.2.2.2.2.2.2.2.2.2.2.2.2.2.2.2.2.2.1)
    have k_xSD : xSD W := by
      rw [hW]
      exact (uxSD rfl hI.2.2.2.2.2.2.2.2.2.2.2.2.2.2.2.2.2.2.2.2.2.2.2.2.2.2.2.2.2.2.2.2.2.2.2.1)
    have k_xSE : xSE W := by
      rw [hW]
      exact (uxSE rfl hI.2.2.2.2.2.2.2.2.2.2.2.2.2.2.2.2.2.2.2.2.2.2.2.2.2.2.2.2.2.2.2.2.2.2.2.2.1)
    have k_xSW : xSW W := by
      rw [hW]
      exact (uxSW rfl hI.2.2.2.2.2.2.2.2.2.2.2.2.2.2.2.2.2.2.2.2.2.2.2.2.2.2.2.2.2.2.2.2.2.2.2.2.2.1)
    have k_xST : xST W := by
      rw [hW]
      exact (uxST rfl hI.2.2.2.2.2.2.2.2.2.2.2.2.2.2.2.2.2.2.2.2.2.2.2.2.2.2.2.2.2.2.2.2.2.2.2.2.2.2.1)
    have k_xSP : xSP W := by
      rw [hW]
      exact (uxSP rfl hI.2.2.2.2.2.2.2.2.2.2.2.2.2.2.2.2.2.2.2.2.2.2.2.2.2.2.2.2.2.2.2.2.2.2.2.2.2.2.2.1)
    have k_xSL : xSL W := by
      rw [hW]
      exact (uxSL rfl hI.2.2.2.2.2.2.2.2.2.2.2.2.2.2.2.2.2.2.2.2.2.2.2.2.2.2.2.2.2.2.2.2.2.2.2.2.2.2.2.2.1)
    have k_xSM : xSM W := by
      rw [hW]
      exact (uxSM rfl hI.2.2.2.2.2.2.2.2.2.2.2.2.2.2.2.2.2.2.2.2.2.2.2.2.2.2.2.2.2.2.2.2.2.2.2.2.2.2.2.2.2.1)
    have k_xSI : xSI W := by
      rw [hW]
      exact (uxSI rfl hI.2.2.2.2.2.2.2.2.2.2.2.2.2.2.2.2.2.2.2.2.2.2.2.2.2.2.2.2.2.2.2.2.2.2.2.2.2.2.2.2.2.2)
    have k_XC : XC W := ⟨k_xS1, k_xS2, k_xS3, k_xS4, k_xS5, k_xS6, k_xS7, k_xS8, k_xS9, k_xSA, k_xSG, k_xSF, k_xSB, k_xSC, k_xSD, k_xSE, k_xSW, k_xST, k_xSP, k_xSL, k_xSM, k_xSI⟩
    have kXB : XB W := ⟨k_xN1, k_xN2, k_xN3, k_xN4, k_xN5, k_xN6, k_xH1, k_xK1, k_xC1, k_xRW, k_xWT, k_xCU, k_xG2, k_xG3, k_xG4, k_xG5, k_xG6, k_XC⟩
    exact ⟨base, k2, k3, kXA, kXB⟩
