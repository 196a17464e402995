/-! RULES OF THE REFERENCE (wip/p3/xsf.py). -/
-- wHitR11_c
def xr_486 : qRu := (13, [[(-1, 0), (1, 5)], [(1, 1)], [(-1, 1), (1, 9)], [(1, 1), (-1, 9)], [(-1, 0), (-1, 1), (1, 10)], [(6, 0), (1, 9), (-1, 10)], [(-781325312, 0), (1, 11)], [(781325312, 0), (-1, 11)]], [(4, 210, [(1, 0)]), (4, 211, [(1, 1)]), (4, 101, [(1, 2)]), (3, 46, [(1, 3)]), (3, 47, [(1, 4)]), (4, 100, [(1, 5)]), (3, 44, [(1, 6)]), (3, 45, [(1, 7)]), (4, 107, [(1, 8)]), (4, 214, [(1, 0)]), (4, 215, [(1, 9)]), (4, 217, [(1, 10)]), (4, 219, [(1, 11)]), (4, 216, [(1, 12)])], [], [], [[(-1, 1), (1, 3)], [(1, 1), (-1, 3)], [(1, 4), (-1, 10)], [(-1, 4), (1, 10)], [(-29, 0), (1, 6)], [(29, 0), (-1, 6)], [(1, 7), (-1, 11)], [(-1, 7), (1, 11)]])
theorem xo_486 : qRok xr_486 := by
  intro ρ M h0 hf hm hI
  have f0 := hf [(-1, 0), (1, 5)] (by decide)
  have f1 := hf [(1, 1)] (by decide)
  have f2 := hf [(-1, 1), (1, 9)] (by decide)
  have f3 := hf [(1, 1), (-1, 9)] (by decide)
  have f4 := hf [(-1, 0), (-1, 1), (1, 10)] (by decide)
  have f5 := hf [(6, 0), (1, 9), (-1, 10)] (by decide)
  have f6 := hf [(-781325312, 0), (1, 11)] (by decide)
  have f7 := hf [(781325312, 0), (-1, 11)] (by decide)
  simp only [qD, h0] at f0 f1 f2 f3 f4 f5 f6 f7
  have m0 : M 4 210 = 1 * ρ 0 + 0 := hm (4, 210, [(1, 0)]) (by decide)
  have m1 : M 4 211 = 1 * ρ 1 + 0 := hm (4, 211, [(1, 1)]) (by decide)
  have m2 : M 4 101 = 1 * ρ 2 + 0 := hm (4, 101, [(1, 2)]) (by decide)
  have m3 : M 3 46 = 1 * ρ 3 + 0 := hm (3, 46, [(1, 3)]) (by decide)
  have m4 : M 3 47 = 1 * ρ 4 + 0 := hm (3, 47, [(1, 4)]) (by decide)
  have m5 : M 4 100 = 1 * ρ 5 + 0 := hm (4, 100, [(1, 5)]) (by decide)
  have m6 : M 3 44 = 1 * ρ 6 + 0 := hm (3, 44, [(1, 6)]) (by decide)
  have m7 : M 3 45 = 1 * ρ 7 + 0 := hm (3, 45, [(1, 7)]) (by decide)
  have m8 : M 4 107 = 1 * ρ 8 + 0 := hm (4, 107, [(1, 8)]) (by decide)
  have m9 : M 4 214 = 1 * ρ 0 + 0 := hm (4, 214, [(1, 0)]) (by decide)
  have m10 : M 4 215 = 1 * ρ 9 + 0 := hm (4, 215, [(1, 9)]) (by decide)
  have m11 : M 4 217 = 1 * ρ 10 + 0 := hm (4, 217, [(1, 10)]) (by decide)
  have m12 : M 4 219 = 1 * ρ 11 + 0 := hm (4, 219, [(1, 11)]) (by decide)
  have m13 : M 4 216 = 1 * ρ 12 + 0 := hm (4, 216, [(1, 12)]) (by decide)
  simp only [h0] at m0 m9
  obtain ⟨u1, u2, _⟩ := gx_xS8 hI (by omega)

  obtain ⟨a1, a2, a3, a4, a5, a6, a7⟩ := gx_xSA hI (by omega)
  have eq1 : (M 4 215).toNat = (M 4 211).toNat := by omega
  rw [eq1] at a6 a7
  have hgt := ten_gt (g := M 92) (lo := 97) (hi := 122) (n := (M 4 101).toNat) (q := (M 4 211).toNat) (by omega)
  have el1 : (M 4 217 - M 4 215).toNat = tEn (M 92) 97 122 (M 4 101).toNat (M 4 211).toNat - (M 4 211).toNat := by omega
  rw [el1] at a7

  obtain ⟨t1, t2, t3, t4, t5, t6⟩ := tk_of hI (by omega) (by omega) (by omega) (show tAt (M 92) (M 4 101).toNat (M 4 211).toNat (M 4 107) (M 4 108) = (29, M 4 219, ((M 4 211).toNat : Int), M 4 217, 0, 11) from by
    unfold tAt
    rw [if_neg (by omega), if_pos hgt.2]
    unfold tWo
    rw [← a7, ← a6]
    have hk : tKi (M 4 219) 0 = 29 := by
      rw [show M 4 219 = 781325312 by omega]
      decide
    have h6 : ¬ (6 < tEn (M 92) 97 122 (M 4 101).toNat (M 4 211).toNat - (M 4 211).toNat) := by omega
    unfold tWk tWs tWv
    rw [if_neg h6, if_neg h6, if_neg h6, hk]
    rfl)
  refine ⟨ρ, fun _ _ => rfl, fun f h => ?_, ?_⟩
  · have h : f ∈ ([[(-1, 1), (1, 3)], [(1, 1), (-1, 3)], [(1, 4), (-1, 10)], [(-1, 4), (1, 10)], [(-29, 0), (1, 6)], [(29, 0), (-1, 6)], [(1, 7), (-1, 11)], [(-1, 7), (1, 11)]] : List qF) := h
    simp only [List.mem_cons, List.not_mem_nil, or_false] at h
    rcases h with rfl | rfl | rfl | rfl | rfl | rfl | rfl | rfl
    · show 0 ≤ -1 * ρ 1 + (1 * ρ 3 + 0)
      (try rw [h0]); omega
    · show 0 ≤ 1 * ρ 1 + (-1 * ρ 3 + 0)
      (try rw [h0]); omega
    · show 0 ≤ 1 * ρ 4 + (-1 * ρ 10 + 0)
      (try rw [h0]); omega
    · show 0 ≤ -1 * ρ 4 + (1 * ρ 10 + 0)
      (try rw [h0]); omega
    · show 0 ≤ -29 * ρ 0 + (1 * ρ 6 + 0)
      (try rw [h0]); omega
    · show 0 ≤ 29 * ρ 0 + (-1 * ρ 6 + 0)
      (try rw [h0]); omega
    · show 0 ≤ 1 * ρ 7 + (-1 * ρ 11 + 0)
      (try rw [h0]); omega
    · show 0 ≤ -1 * ρ 7 + (1 * ρ 11 + 0)
      (try rw [h0]); omega
  · show sI M
    exact hI
-- wHitR11_r
def xr_487 : qRu := (13, [[(-1, 0), (1, 5)], [(1, 1)], [(-1, 1), (1, 9)], [(1, 1), (-1, 9)], [(-1, 0), (-1, 1), (1, 10)], [(6, 0), (1, 9), (-1, 10)], [(-781325312, 0), (1, 11)], [(781325312, 0), (-1, 11)]], [(4, 210, [(1, 0)]), (4, 211, [(1, 1)]), (4, 101, [(1, 2)]), (3, 46, [(1, 3)]), (3, 47, [(1, 4)]), (4, 100, [(1, 5)]), (3, 50, [(1, 6)]), (3, 51, [(1, 7)]), (4, 108, [(1, 8)]), (4, 214, [(1, 0)]), (4, 215, [(1, 9)]), (4, 217, [(1, 10)]), (4, 219, [(1, 11)]), (4, 216, [(1, 12)])], [], [], [[(-1, 1), (1, 3)], [(1, 1), (-1, 3)], [(1, 4), (-1, 10)], [(-1, 4), (1, 10)], [(1, 6)], [(-1, 6)], [(-11, 0), (1, 7)], [(11, 0), (-1, 7)]])
theorem xo_487 : qRok xr_487 := by
  intro ρ M h0 hf hm hI
  have f0 := hf [(-1, 0), (1, 5)] (by decide)
  have f1 := hf [(1, 1)] (by decide)
  have f2 := hf [(-1, 1), (1, 9)] (by decide)
  have f3 := hf [(1, 1), (-1, 9)] (by decide)
  have f4 := hf [(-1, 0), (-1, 1), (1, 10)] (by decide)
  have f5 := hf [(6, 0), (1, 9), (-1, 10)] (by decide)
  have f6 := hf [(-781325312, 0), (1, 11)] (by decide)
  have f7 := hf [(781325312, 0), (-1, 11)] (by decide)
  simp only [qD, h0] at f0 f1 f2 f3 f4 f5 f6 f7
  have m0 : M 4 210 = 1 * ρ 0 + 0 := hm (4, 210, [(1, 0)]) (by decide)
  have m1 : M 4 211 = 1 * ρ 1 + 0 := hm (4, 211, [(1, 1)]) (by decide)
  have m2 : M 4 101 = 1 * ρ 2 + 0 := hm (4, 101, [(1, 2)]) (by decide)
  have m3 : M 3 46 = 1 * ρ 3 + 0 := hm (3, 46, [(1, 3)]) (by decide)
  have m4 : M 3 47 = 1 * ρ 4 + 0 := hm (3, 47, [(1, 4)]) (by decide)
  have m5 : M 4 100 = 1 * ρ 5 + 0 := hm (4, 100, [(1, 5)]) (by decide)
  have m6 : M 3 50 = 1 * ρ 6 + 0 := hm (3, 50, [(1, 6)]) (by decide)
  have m7 : M 3 51 = 1 * ρ 7 + 0 := hm (3, 51, [(1, 7)]) (by decide)
  have m8 : M 4 108 = 1 * ρ 8 + 0 := hm (4, 108, [(1, 8)]) (by decide)
  have m9 : M 4 214 = 1 * ρ 0 + 0 := hm (4, 214, [(1, 0)]) (by decide)
  have m10 : M 4 215 = 1 * ρ 9 + 0 := hm (4, 215, [(1, 9)]) (by decide)
  have m11 : M 4 217 = 1 * ρ 10 + 0 := hm (4, 217, [(1, 10)]) (by decide)
  have m12 : M 4 219 = 1 * ρ 11 + 0 := hm (4, 219, [(1, 11)]) (by decide)
  have m13 : M 4 216 = 1 * ρ 12 + 0 := hm (4, 216, [(1, 12)]) (by decide)
  simp only [h0] at m0 m9
  obtain ⟨u1, u2, _⟩ := gx_xS8 hI (by omega)

  obtain ⟨a1, a2, a3, a4, a5, a6, a7⟩ := gx_xSA hI (by omega)
  have eq1 : (M 4 215).toNat = (M 4 211).toNat := by omega
  rw [eq1] at a6 a7
  have hgt := ten_gt (g := M 92) (lo := 97) (hi := 122) (n := (M 4 101).toNat) (q := (M 4 211).toNat) (by omega)
  have el1 : (M 4 217 - M 4 215).toNat = tEn (M 92) 97 122 (M 4 101).toNat (M 4 211).toNat - (M 4 211).toNat := by omega
  rw [el1] at a7

  obtain ⟨t1, t2, t3, t4, t5, t6⟩ := tk_of hI (by omega) (by omega) (by omega) (show tAt (M 92) (M 4 101).toNat (M 4 211).toNat (M 4 107) (M 4 108) = (29, M 4 219, ((M 4 211).toNat : Int), M 4 217, 0, 11) from by
    unfold tAt
    rw [if_neg (by omega), if_pos hgt.2]
    unfold tWo
    rw [← a7, ← a6]
    have hk : tKi (M 4 219) 0 = 29 := by
      rw [show M 4 219 = 781325312 by omega]
      decide
    have h6 : ¬ (6 < tEn (M 92) 97 122 (M 4 101).toNat (M 4 211).toNat - (M 4 211).toNat) := by omega
    unfold tWk tWs tWv
    rw [if_neg h6, if_neg h6, if_neg h6, hk]
    rfl)
  refine ⟨ρ, fun _ _ => rfl, fun f h => ?_, ?_⟩
  · have h : f ∈ ([[(-1, 1), (1, 3)], [(1, 1), (-1, 3)], [(1, 4), (-1, 10)], [(-1, 4), (1, 10)], [(1, 6)], [(-1, 6)], [(-11, 0), (1, 7)], [(11, 0), (-1, 7)]] : List qF) := h
    simp only [List.mem_cons, List.not_mem_nil, or_false] at h
    rcases h with rfl | rfl | rfl | rfl | rfl | rfl | rfl | rfl
    · show 0 ≤ -1 * ρ 1 + (1 * ρ 3 + 0)
      (try rw [h0]); omega
    · show 0 ≤ 1 * ρ 1 + (-1 * ρ 3 + 0)
      (try rw [h0]); omega
    · show 0 ≤ 1 * ρ 4 + (-1 * ρ 10 + 0)
      (try rw [h0]); omega
    · show 0 ≤ -1 * ρ 4 + (1 * ρ 10 + 0)
      (try rw [h0]); omega
    · show 0 ≤ 1 * ρ 6 + 0
      (try rw [h0]); omega
    · show 0 ≤ -1 * ρ 6 + 0
      (try rw [h0]); omega
    · show 0 ≤ -11 * ρ 0 + (1 * ρ 7 + 0)
      (try rw [h0]); omega
    · show 0 ≤ 11 * ρ 0 + (-1 * ρ 7 + 0)
      (try rw [h0]); omega
  · show sI M
    exact hI
-- langMissR11L
def xr_488 : qRu := (3, [[(781325311, 0), (-1, 2)]], [(4, 226, [(1, 0)]), (4, 227, [(11, 0)]), (4, 219, [(1, 2)])], [], [(4, 227, [(12, 0)])], [])
theorem xo_488 : qRok xr_488 := by
  intro ρ M h0 hf hm hI
  have f0 := hf [(781325311, 0), (-1, 2)] (by decide)
  simp only [qD, h0] at f0
  have m0 : M 4 226 = 1 * ρ 0 + 0 := hm (4, 226, [(1, 0)]) (by decide)
  have m1 : M 4 227 = 11 * ρ 0 + 0 := hm (4, 227, [(11, 0)]) (by decide)
  have m2 : M 4 219 = 1 * ρ 2 + 0 := hm (4, 219, [(1, 2)]) (by decide)
  simp only [h0] at m0 m1
  have qxSC := hI.2.2.2.2.2.2.2.2.2.2.2.2.2.2.2.2.2.2.2.2.2.2.2.2.2.2.2.2.2.2.2.2.2.2.1
  obtain ⟨l1, l2, l3⟩ := gx_xSC hI (by omega)
  refine ⟨ρ, fun _ _ => rfl, fun f h => ?_, ?_⟩
  · exact nomatch h
  · show sI (sU M 4 227 (12 * ρ 0 + 0))
    obtain ⟨W, hW⟩ : ∃ W, W = (sU M 4 227 (12 * ρ 0 + 0)) := ⟨_, rfl⟩
    rw [← hW]
    have base : sI0 W := by
      rw [hW]
      exact (si_u0 hI.1 (fun r hr => by cases hr))
    have k2 : XI2 W := by
      rw [hW]
      exact (xi2_u rfl hI.2.1)
    have k3 : XI3 W := by
      rw [hW]
      exact (xi3_u rfl hI.2.2.1)
    have kXA : XA W := by
      rw [hW]
      exact (uXA rfl hI.2.2.2.1)
    have k_xN1 : xN1 W := by
      rw [hW]
      exact (uxN1 rfl hI.2.2.2.2.1)
    have k_xN2 : xN2 W := by
      rw [hW]
      exact (uxN2 rfl hI.2.2.2.2.2.1)
    have k_xN3 : xN3 W := by
      rw [hW]
      exact (uxN3 rfl hI.2.2.2.2.2.2.1)
    have k_xN4 : xN4 W := by
      rw [hW]
      exact (uxN4 rfl hI.2.2.2.2.2.2.2.1)
    have k_xN5 : xN5 W := by
      rw [hW]
      exact (uxN5 rfl hI.2.2.2.2.2.2.2.2.1)
    have k_xN6 : xN6 W := by
      rw [hW]
      exact (uxN6 rfl hI.2.2.2.2.2.2.2.2.2.1)
    have k_xH1 : xH1 W := by
      rw [hW]
      exact (uxH1 rfl hI.2.2.2.2.2.2.2.2.2.2.1)
    have k_xK1 : xK1 W := by
      rw [hW]
      exact (uxK1 rfl hI.2.2.2.2.2.2.2.2.2.2.2.1)
    have k_xC1 : xC1 W := by
      rw [hW]
      exact (uxC1 rfl hI.2.2.2.2.2.2.2.2.2.2.2.2.1)
    have k_xRW : xRW W := by
      rw [hW]
      exact (uxRW rfl hI.2.2.2.2.2.2.2.2.2.2.2.2.2.1)
    have k_xWT : xWT W := by
      rw [hW]
      exact (uxWT rfl hI.2.2.2.2.2.2.2.2.2.2.2.2.2.2.1)
    have k_xCU : xCU W := by
      rw [hW]
      exact (uxCU rfl hI.2.2.2.2.2.2.2.2.2.2.2.2.2.2.2.1)
    have k_xG2 : xG2 W := by
      rw [hW]
      exact (uxG2 rfl hI.2.2.2.2.2.2.2.2.2.2.2.2.2.2.2.2.1)
    have k_xG3 : xG3 W := by
      rw [hW]
      exact (uxG3 rfl hI.2.2.2.2.2.2.2.2.2.2.2.2.2.2.2.2.2.1)
    have k_xG4 : xG4 W := by
      rw [hW]
      exact (uxG4 rfl hI.2.2.2.2.2.2.2.2.2.2.2.2.2.2.2.2.2.2.1)
    have k_xG5 : xG5 W := by
      rw [hW]
      exact (uxG5 rfl hI.2.2.2.2.2.2.2.2.2.2.2.2.2.2.2.2.2.2.2.1)
    have k_xG6 : xG6 W := by
      rw [hW]
      exact (uxG6 rfl hI.2.2.2.2.2.2.2.2.2.2.2.2.2.2.2.2.2.2.2.2.1)
    have k_xS1 : xS1 W := by
      rw [hW]
      exact (uxS1 rfl hI.2.2.2.2.2.2.2.2.2.2.2.2.2.2.2.2.2.2.2.2.2.1)
    have k_xS2 : xS2 W := by
      rw [hW]
      exact (uxS2 rfl hI.2.2.2.2.2.2.2.2.2.2.2.2.2.2.2.2.2.2.2.2.2.2.1)
    have k_xS3 : xS3 W := by
      rw [hW]
      exact (uxS3 rfl hI.2.2.2.2.2.2.2.2.2.2.2.2.2.2.2.2.2.2.2.2.2.2.2.1)
    have k_xS4 : xS4 W := by
      rw [hW]
      exact (uxS4 rfl hI.2.2.2.2.2.2.2.2.2.2.2.2.2.2.2.2.2.2.2.2.2.2.2.2.1)
    have k_xS5 : xS5 W := by
      rw [hW]
      exact (uxS5 rfl hI.2.2.2.2.2.2.2.2.2.2.2.2.2.2.2.2.2.2.2.2.2.2.2.2.2.1)
    have k_xS6 : xS6 W := by
      rw [hW]
      exact (uxS6 rfl hI.2.2.2.2.2.2.2.2.2.2.2.2.2.2.2.2.2.2.2.2.2.2.2.2.2.2.1)
    have k_xS7 : xS7 W := by
      rw [hW]
      exact (uxS7 rfl hI.2.2.2.2.2.2.2.2.2.2.2.2.2.2.2.2.2.2.2.2.2.2.2.2.2.2.2.1)
    have k_xS8 : xS8 W := by
      rw [hW]
      exact (uxS8 rfl hI.2.2.2.2.2.2.2.2.2.2.2.2.2.2.2.2.2.2.2.2.2.2.2.2.2.2.2.2.1)
    have k_xS9 : xS9 W := by
      rw [hW]
      exact (uxS9 rfl hI.2.2.2.2.2.2.2.2.2.2.2.2.2.2.2.2.2.2.2.2.2.2.2.2.2.2.2.2.2.1)
    have k_xSA : xSA W := by
      rw [hW]
      exact (uxSA rfl hI.2.2.2.2.2.2.2.2.2.2.2.2.2.2.2.2.2.2.2.2.2.2.2.2.2.2.2.2.2.2.1)
    have k_xSG : xSG W := by
      rw [hW]
      exact (uxSG rfl hI.2.2.2.2.2.2.2.2.2.2.2.2.2.2.2.2.2.2.2.2.2.2.2.2.2.2.2.2.2.2.2.1)
    have k_xSF : xSF W := by
      rw [hW]
      exact (uxSF rfl hI.2.2.2.2.2.2.2.2.2.2.2.2.2.2.2.2.2.2.2.2.2.2.2.2.2.2.2.2.2.2.2.2.1)
    have k_xSB : xSB W := by
      rw [hW]
      exact (uxSB rfl hI.2.2.2.2.2.2.2.2.2.2.2.2.2.2.2.2.2.2.2.2.2.2.2.2.2.2.2.2.2.2.2.2.2.1)
    have k_xSC : xSC W := by
      have r4_226 : W 4 226 = M 4 226 := by rw [hW, sU_ne (fun z => by omega)]
      have r4_227 : W 4 227 = 12 * ρ 0 + 0 := by rw [hW, sU_at]
      have r4_219 : W 4 219 = M 4 219 := by rw [hW, sU_ne (fun z => by omega)]
      intro h
      rw [r4_227, r4_219, h0]
      refine ⟨by omega, by omega, ?_⟩
      have e1 := tki_on (x := M 4 219) (w := 11) (show tLa[11]? = some (781325312 : Int) from rfl)
      rw [if_neg (by omega)] at e1
      rw [show M 4 227 = 11 by omega] at l3
      rw [← l3]
      exact e1.symm
    have k_xSD : xSD W := by
      rw [hW]
      exact (uxSD rfl hI.2.2.2.2.2.2.2.2.2.2.2.2.2.2.2.2.2.2.2.2.2.2.2.2.2.2.2.2.2.2.2.2.2.2.2.1)
    have k_xSE : xSE W := by
      rw [hW]
      exact (uxSE rfl hI.2.2.2.2.2.2.2.2.2.2.2.2.2.2.2.2.2.2.2.2.2.2.2.2.2.2.2.2.2.2.2.2.2.2.2.2.1)
    have k_xSW : xSW W := by
      rw [hW]
      exact (uxSW rfl hI.2.2.2.2.2.2.2.2.2.2.2.2.2.2.2.2.2.2.2.2.2.2.2.2.2.2.2.2.2.2.2.2.2.2.2.2.2.1)
    have k_xST : xST W := by
      rw [hW]
      exact (uxST rfl hI.2.2.2.2.2.2.2.2.2.2.2.2.2.2.2.2.2.2.2.2.2.2.2.2.2.2.2.2.2.2.2.2.2.2.2.2.2.2.1)
    have k_xSP : xSP W := by
      rw [hW]
      exact (uxSP rfl hI.2.2.2.2.2.2.2.2.2.2.2.2.2.2.2.2.2.2.2.2.2.2.2.2.2.2.2.2.2.2.2.2.2.2.2.2.2.2.2.1)
    have k_xSL : xSL W := by
      rw [hW]
      exact (uxSL rfl hI.2.2.2.2.2.2.2.2.2.2.2.2.2.2.2.2.2.2.2.2.2.2.2.2.2.2.2.2.2.2.2.2.2.2.2.2.2.2.2.2.1)
    have k_xSM : xSM W := by
      rw [hW]
      exact (uxSM rfl hI.2.2.2.2.2.2.2.2.2.2.2.2.2.2.2.2.2.2.2.2.2.2.2.2.2.2.2.2.2.2.2.2.2.2.2.2.2.2.2.2.2.1)
    have k_xSI : xSI W := by
      rw [hW]
      exact (uxSI rfl hI.2.2.2.2.2.2.2.2.2.2.2.2.2.2.2.2.2.2.2.2.2.2.2.2.2.2.2.2.2.2.2.2.2.2.2.2.2.2.2.2.2.2)
    have k_XC : XC W := ⟨k_xS1, k_xS2, k_xS3, k_xS4, k_xS5, k_xS6, k_xS7, k_xS8, k_xS9, k_xSA, k_xSG, k_xSF, k_xSB, k_xSC, k_xSD, k_xSE, k_xSW, k_xST, k_xSP, k_xSL, k_xSM, k_xSI⟩
    have kXB : XB W := ⟨k_xN1, k_xN2, k_xN3, k_xN4, k_xN5, k_xN6, k_xH1, k_xK1, k_xC1, k_xRW, k_xWT, k_xCU, k_xG2, k_xG3, k_xG4, k_xG5, k_xG6, k_XC⟩
    exact ⟨base, k2, k3, kXA, kXB⟩
-- langMissR11H
def xr_489 : qRu := (3, [[(-781325313, 0), (1, 2)]], [(4, 226, [(1, 0)]), (4, 227, [(11, 0)]), (4, 219, [(1, 2)])], [], [(4, 227, [(12, 0)])], [])
theorem xo_489 : qRok xr_489 := by
  intro ρ M h0 hf hm hI
  have f0 := hf [(-781325313, 0), (1, 2)] (by decide)
  simp only [qD, h0] at f0
  have m0 : M 4 226 = 1 * ρ 0 + 0 := hm (4, 226, [(1, 0)]) (by decide)
  have m1 : M 4 227 = 11 * ρ 0 + 0 := hm (4, 227, [(11, 0)]) (by decide)
  have m2 : M 4 219 = 1 * ρ 2 + 0 := hm (4, 219, [(1, 2)]) (by decide)
  simp only [h0] at m0 m1
  have qxSC := hI.2.2.2.2.2.2.2.2.2.2.2.2.2.2.2.2.2.2.2.2.2.2.2.2.2.2.2.2.2.2.2.2.2.2.1
  obtain ⟨l1, l2, l3⟩ := gx_xSC hI (by omega)
  refine ⟨ρ, fun _ _ => rfl, fun f h => ?_, ?_⟩
  · exact nomatch h
  · show sI (sU M 4 227 (12 * ρ 0 + 0))
    obtain ⟨W, hW⟩ : ∃ W, W = (sU M 4 227 (12 * ρ 0 + 0)) := ⟨_, rfl⟩
    rw [← hW]
    have base : sI0 W := by
      rw [hW]
      exact (si_u0 hI.1 (fun r hr => by cases hr))
    have k2 : XI2 W := by
      rw [hW]
      exact (xi2_u rfl hI.2.1)
    have k3 : XI3 W := by
      rw [hW]
      exact (xi3_u rfl hI.2.2.1)
    have kXA : XA W := by
      rw [hW]
      exact (uXA rfl hI.2.2.2.1)
    have k_xN1 : xN1 W := by
      rw [hW]
      exact (uxN1 rfl hI.2.2.2.2.1)
    have k_xN2 : xN2 W := by
      rw [hW]
      exact (uxN2 rfl hI.2.2.2.2.2.1)
    have k_xN3 : xN3 W := by
      rw [hW]
      exact (uxN3 rfl hI.2.2.2.2.2.2.1)
    have k_xN4 : xN4 W := by
      rw [hW]
      exact (uxN4 rfl hI.2.2.2.2.2.2.2.1)
    have k_xN5 : xN5 W := by
      rw [hW]
      exact (uxN5 rfl hI.2.2.2.2.2.2.2.2.1)
    have k_xN6 : xN6 W := by
      rw [hW]
      exact (uxN6 rfl hI.2.2.2.2.2.2.2.2.2.1)
    have k_xH1 : xH1 W := by
      rw [hW]
      exact (uxH1 rfl hI.2.2.2.2.2.2.2.2.2.2.1)
    have k_xK1 : xK1 W := by
      rw [hW]
      exact (uxK1 rfl hI.2.2.2.2.2.2.2.2.2.2.2.1)
    have k_xC1 : xC1 W := by
      rw [hW]
      exact (uxC1 rfl hI.2.2.2.2.2.2.2.2.2.2.2.2.1)
    have k_xRW : xRW W := by
      rw [hW]
      exact (uxRW rfl hI.2.2.2.2.2.2.2.2.2.2.2.2.2.1)
    have k_xWT : xWT W := by
      rw [hW]
      exact (uxWT rfl hI.2.2.2.2.2.2.2.2.2.2.2.2.2.2.1)
    have k_xCU : xCU W := by
      rw [hW]
      exact (uxCU rfl hI.2.2.2.2.2.2.2.2.2.2.2.2.2.2.2.1)
    have k_xG2 : xG2 W := by
      rw [hW]
      exact (uxG2 rfl hI.2.2.2.2.2.2.2.2.2.2.2.2.2.2.2.2.1)
    have k_xG3 : xG3 W := by
      rw [hW]
      exact (uxG3 rfl hI.2.2.2.2.2.2.2.2.2.2.2.2.2.2.2.2.2.1)
    have k_xG4 : xG4 W := by
      rw [hW]
      exact (uxG4 rfl hI.2.2.2.2.2.2.2.2.2.2.2.2.2.2.2.2.2.2.1)
    have k_xG5 : xG5 W := by
      rw [hW]
      exact (uxG5 rfl hI.2.2.2.2.2.2.2.2.2.2.2.2.2.2.2.2.2.2.2.1)
    have k_xG6 : xG6 W := by
      rw [hW]
      exact (uxG6 rfl hI.2.2.2.2.2.2.2.2.2.2.2.2.2.2.2.2.2.2.2.2.1)
    have k_xS1 : xS1 W := by
      rw [hW]
      exact (uxS1 rfl hI.2.2.2.2.2.2.2.2.2.2.2.2.2.2.2.2.2.2.2.2.2.1)
    have k_xS2 : xS2 W := by
      rw [hW]
      exact (uxS2 rfl hI.2.2.2.2.2.2.2.2.2.2.2.2.2.2.2.2.2.2.2.2.2.2.1)
    have k_xS3 : xS3 W := by
      rw [hW]
      exact (uxS3 rfl hI.2.2.2.2.2.2.2.2.2.2.2.2.2.2.2.2.2.2.2.2.2.2.2.1)
    have k_xS4 : xS4 W := by
      rw [hW]
      exact (uxS4 rfl hI.2.2.2.2.2.2.2.2.2.2.2.2.2.2.2.2.2.2.2.2.2.2.2.2.1)
    have k_xS5 : xS5 W := by
      rw [hW]
      exact (uxS5 rfl hI.2.2.2.2.2.2.2.2.2.2.2.2.2.2.2.2.2.2.2.2.2.2.2.2.2.1)
    have k_xS6 : xS6 W := by
      rw [hW]
      exact (uxS6 rfl hI.2.2.2.2.2.2.2.2.2.2.2.2.2.2.2.2.2.2.2.2.2.2.2.2.2.2.1)
    have k_xS7 : xS7 W := by
      rw [hW]
      exact (uxS7 rfl hI.2.2.2.2.2.2.2.2.2.2.2.2.2.2.2.2.2.2.2.2.2.2.2.2.2.2.2.1)
    have k_xS8 : xS8 W := by
      rw [hW]
      exact (uxS8 rfl hI.2.2.2.2.2.2.2.2.2.2.2.2.2.2.2.2.2.2.2.2.2.2.2.2.2.2.2.2.1)
    have k_xS9 : xS9 W := by
      rw [hW]
      exact (uxS9 rfl hI.2.2.2.2.2.2.2.2.2.2.2.2.2.2.2.2.2.2.2.2.2.2.2.2.2.2.2.2.2.1)
    have k_xSA : xSA W := by
      rw [hW]
      exact (uxSA rfl hI.2.2.2.2.2.2.2.2.2.2.2.2.2.2.2.2.2.2.2.2.2.2.2.2.2.2.2.2.2.2.1)
    have k_xSG : xSG W := by
      rw [hW]
      exact (uxSG rfl hI.2.2.2.2.2.2.2.2.2.2.2.2.2.2.2.2.2.2.2.2.2.2.2.2.2.2.2.2.2.2.2.1)
    have k_xSF : xSF W := by
      rw [hW]
      exact (uxSF rfl hI.2.2.2.2.2.2.2.2.2.2.2.2.2.2.2.2.2.2.2.2.2.2.2.2.2.2.2.2.2.2.2.2.1)
    have k_xSB : xSB W := by
      rw [hW]
      exact (uxSB rfl hI.2.2.2.2.2.2.2.2.2.2.2.2.2.2.2.2.2.2.2.2.2.2.2.2.2.2.2.2.2.2.2.2.2.1)
    have k_xSC : xSC W := by
      have r4_226 : W 4 226 = M 4 226 := by rw [hW, sU_ne (fun z => by omega)]
      have r4_227 : W 4 227 = 12 * ρ 0 + 0 := by rw [hW, sU_at]
      have r4_219 : W 4 219 = M 4 219 := by rw [hW, sU_ne (fun z => by omega)]
      intro h
      rw [r4_227, r4_219, h0]
      refine ⟨by omega, by omega, ?_⟩
      have e1 := tki_on (x := M 4 219) (w := 11) (show tLa[11]? = some (781325312 : Int) from rfl)
      rw [if_neg (by omega)] at e1
      rw [show M 4 227 = 11 by omega] at l3
      rw [← l3]
      exact e1.symm
    have k_xSD : xSD W := by
      rw [hW]
      exact (uxSD rfl hI.2.2.2.2.2.2.2.2.2.2.2.2.2.2.2.2.2.2.2.2.2.2.2.2.2.2.2.2.2.2.2.2.2.2.2.1)
    have k_xSE : xSE W := by
      rw [hW]
      exact (uxSE rfl hI.2.2.2.2.2.2.2.2.2.2.2.2.2.2.2.2.2.2.2.2.2.2.2.2.2.2.2.2.2.2.2.2.2.2.2.2.1)
    have k_xSW : xSW W := by
      rw [hW]
      exact (uxSW rfl hI.2.2.2.2.2.2.2.2.2.2.2.2.2.2.2.2.2.2.2.2.2.2.2.2.2.2.2.2.2.2.2.2.2.2.2.2.2.1)
    have k_xST : xST W := by
      rw [hW]
      exact (uxST rfl hI.2.2.2.2.2.2.2.2.2.2.2.2.2.2.2.2.2.2.2.2.2.2.2.2.2.2.2.2.2.2.2.2.2.2.2.2.2.2.1)
    have k_xSP : xSP W := by
      rw [hW]
      exact (uxSP rfl hI.2.2.2.2.2.2.2.2.2.2.2.2.2.2.2.2.2.2.2.2.2.2.2.2.2.2.2.2.2.2.2.2.2.2.2.2.2.2.2.1)
    have k_xSL : xSL W := by
      rw [hW]
      exact (uxSL rfl hI.2.2.2.2.2.2.2.2.2.2.2.2.2.2.2.2.2.2.2.2.2.2.2.2.2.2.2.2.2.2.2.2.2.2.2.2.2.2.2.2.1)
    have k_xSM : xSM W := by
      rw [hW]
      exact (uxSM rfl hI.2.2.2.2.2.2.2.2.2.2.2.2.2.2.2.2.2.2.2.2.2.2.2.2.2.2.2.2.2.2.2.2.2.2.2.2.2.2.2.2.2.1)
    have k_xSI : xSI W := by
      rw [hW]
      exact (uxSI rfl hI.2.2.2.2.2.2.2.2.2.2.2.2.2.2.2.2.2.2.2.2.2.2.2.2.2.2.2.2.2.2.2.2.2.2.2.2.2.2.2.2.2.2)
    have k_XC : XC W := ⟨k_xS1, k_xS2, k_xS3, k_xS4, k_xS5, k_xS6, k_xS7, k_xS8, k_xS9, k_xSA, k_xSG, k_xSF, k_xSB, k_xSC, k_xSD, k_xSE, k_xSW, k_xST, k_xSP, k_xSL, k_xSM, k_xSI⟩
    have kXB : XB W := ⟨k_xN1, k_xN2, k_xN3, k_xN4, k_xN5, k_xN6, k_xH1, k_xK1, k_xC1, k_xRW, k_xWT, k_xCU, k_xG2, k_xG3, k_xG4, k_xG5, k_xG6, k_XC⟩
    exact ⟨base, k2, k3, kXA, kXB⟩
-- wHitR12_c
def xr_490 : qRu := (13, [[(-1, 0), (1, 5)], [(1, 1)], [(-1, 1), (1, 9)], [(1, 1), (-1, 9)], [(-1, 0), (-1, 1), (1, 10)], [(6, 0), (1, 9), (-1, 10)], [(-781651968, 0), (1, 11)], [(781651968, 0), (-1, 11)]], [(4, 210, [(1, 0)]), (4, 211, [(1, 1)]), (4, 101, [(1, 2)]), (3, 46, [(1, 3)]), (3, 47, [(1, 4)]), (4, 100, [(1, 5)]), (3, 44, [(1, 6)]), (3, 45, [(1, 7)]), (4, 107, [(1, 8)]), (4, 214, [(1, 0)]), (4, 215, [(1, 9)]), (4, 217, [(1, 10)]), (4, 219, [(1, 11)]), (4, 216, [(1, 12)])], [], [], [[(-1, 1), (1, 3)], [(1, 1), (-1, 3)], [(1, 4), (-1, 10)], [(-1, 4), (1, 10)], [(-30, 0), (1, 6)], [(30, 0), (-1, 6)], [(1, 7), (-1, 11)], [(-1, 7), (1, 11)]])
theorem xo_490 : qRok xr_490 := by
  intro ρ M h0 hf hm hI
  have f0 := hf [(-1, 0), (1, 5)] (by decide)
  have f1 := hf [(1, 1)] (by decide)
  have f2 := hf [(-1, 1), (1, 9)] (by decide)
  have f3 := hf [(1, 1), (-1, 9)] (by decide)
  have f4 := hf [(-1, 0), (-1, 1), (1, 10)] (by decide)
  have f5 := hf [(6, 0), (1, 9), (-1, 10)] (by decide)
  have f6 := hf [(-781651968, 0), (1, 11)] (by decide)
  have f7 := hf [(781651968, 0), (-1, 11)] (by decide)
  simp only [qD, h0] at f0 f1 f2 f3 f4 f5 f6 f7
  have m0 : M 4 210 = 1 * ρ 0 + 0 := hm (4, 210, [(1, 0)]) (by decide)
  have m1 : M 4 211 = 1 * ρ 1 + 0 := hm (4, 211, [(1, 1)]) (by decide)
  have m2 : M 4 101 = 1 * ρ 2 + 0 := hm (4, 101, [(1, 2)]) (by decide)
  have m3 : M 3 46 = 1 * ρ 3 + 0 := hm (3, 46, [(1, 3)]) (by decide)
  have m4 : M 3 47 = 1 * ρ 4 + 0 := hm (3, 47, [(1, 4)]) (by decide)
  have m5 : M 4 100 = 1 * ρ 5 + 0 := hm (4, 100, [(1, 5)]) (by decide)
  have m6 : M 3 44 = 1 * ρ 6 + 0 := hm (3, 44, [(1, 6)]) (by decide)
  have m7 : M 3 45 = 1 * ρ 7 + 0 := hm (3, 45, [(1, 7)]) (by decide)
  have m8 : M 4 107 = 1 * ρ 8 + 0 := hm (4, 107, [(1, 8)]) (by decide)
  have m9 : M 4 214 = 1 * ρ 0 + 0 := hm (4, 214, [(1, 0)]) (by decide)
  have m10 : M 4 215 = 1 * ρ 9 + 0 := hm (4, 215, [(1, 9)]) (by decide)
  have m11 : M 4 217 = 1 * ρ 10 + 0 := hm (4, 217, [(1, 10)]) (by decide)
  have m12 : M 4 219 = 1 * ρ 11 + 0 := hm (4, 219, [(1, 11)]) (by decide)
  have m13 : M 4 216 = 1 * ρ 12 + 0 := hm (4, 216, [(1, 12)]) (by decide)
  simp only [h0] at m0 m9
  obtain ⟨u1, u2, _⟩ := gx_xS8 hI (by omega)

  obtain ⟨a1, a2, a3, a4, a5, a6, a7⟩ := gx_xSA hI (by omega)
  have eq1 : (M 4 215).toNat = (M 4 211).toNat := by omega
  rw [eq1] at a6 a7
  have hgt := ten_gt (g := M 92) (lo := 97) (hi := 122) (n := (M 4 101).toNat) (q := (M 4 211).toNat) (by omega)
  have el1 : (M 4 217 - M 4 215).toNat = tEn (M 92) 97 122 (M 4 101).toNat (M 4 211).toNat - (M 4 211).toNat := by omega
  rw [el1] at a7

  obtain ⟨t1, t2, t3, t4, t5, t6⟩ := tk_of hI (by omega) (by omega) (by omega) (show tAt (M 92) (M 4 101).toNat (M 4 211).toNat (M 4 107) (M 4 108) = (30, M 4 219, ((M 4 211).toNat : Int), M 4 217, 0, 12) from by
    unfold tAt
    rw [if_neg (by omega), if_pos hgt.2]
    unfold tWo
    rw [← a7, ← a6]
    have hk : tKi (M 4 219) 0 = 30 := by
      rw [show M 4 219 = 781651968 by omega]
      decide
    have h6 : ¬ (6 < tEn (M 92) 97 122 (M 4 101).toNat (M 4 211).toNat - (M 4 211).toNat) := by omega
    unfold tWk tWs tWv
    rw [if_neg h6, if_neg h6, if_neg h6, hk]
    rfl)
  refine ⟨ρ, fun _ _ => rfl, fun f h => ?_, ?_⟩
  · have h : f ∈ ([[(-1, 1), (1, 3)], [(1, 1), (-1, 3)], [(1, 4), (-1, 10)], [(-1, 4), (1, 10)], [(-30, 0), (1, 6)], [(30, 0), (-1, 6)], [(1, 7), (-1, 11)], [(-1, 7), (1, 11)]] : List qF) := h
    simp only [List.mem_cons, List.not_mem_nil, or_false] at h
    rcases h with rfl | rfl | rfl | rfl | rfl | rfl | rfl | rfl
    · show 0 ≤ -1 * ρ 1 + (1 * ρ 3 + 0)
      (try rw [h0]); omega
    · show 0 ≤ 1 * ρ 1 + (-1 * ρ 3 + 0)
      (try rw [h0]); omega
    · show 0 ≤ 1 * ρ 4 + (-1 * ρ 10 + 0)
      (try rw [h0]); omega
    · show 0 ≤ -1 * ρ 4 + (1 * ρ 10 + 0)
      (try rw [h0]); omega
    · show 0 ≤ -30 * ρ 0 + (1 * ρ 6 + 0)
      (try rw [h0]); omega
    · show 0 ≤ 30 * ρ 0 + (-1 * ρ 6 + 0)
      (try rw [h0]); omega
    · show 0 ≤ 1 * ρ 7 + (-1 * ρ 11 + 0)
      (try rw [h0]); omega
    · show 0 ≤ -1 * ρ 7 + (1 * ρ 11 + 0)
      (try rw [h0]); omega
  · show sI M
    exact hI
-- wHitR12_r
def xr_491 : qRu := (13, [[(-1, 0), (1, 5)], [(1, 1)], [(-1, 1), (1, 9)], [(1, 1), (-1, 9)], [(-1, 0), (-1, 1), (1, 10)], [(6, 0), (1, 9), (-1, 10)], [(-781651968, 0), (1, 11)], [(781651968, 0), (-1, 11)]], [(4, 210, [(1, 0)]), (4, 211, [(1, 1)]), (4, 101, [(1, 2)]), (3, 46, [(1, 3)]), (3, 47, [(1, 4)]), (4, 100, [(1, 5)]), (3, 50, [(1, 6)]), (3, 51, [(1, 7)]), (4, 108, [(1, 8)]), (4, 214, [(1, 0)]), (4, 215, [(1, 9)]), (4, 217, [(1, 10)]), (4, 219, [(1, 11)]), (4, 216, [(1, 12)])], [], [], [[(-1, 1), (1, 3)], [(1, 1), (-1, 3)], [(1, 4), (-1, 10)], [(-1, 4), (1, 10)], [(1, 6)], [(-1, 6)], [(-12, 0), (1, 7)], [(12, 0), (-1, 7)]])
theorem xo_491 : qRok xr_491 := by
  intro ρ M h0 hf hm hI
  have f0 := hf [(-1, 0), (1, 5)] (by decide)
  have f1 := hf [(1, 1)] (by decide)
  have f2 := hf [(-1, 1), (1, 9)] (by decide)
  have f3 := hf [(1, 1), (-1, 9)] (by decide)
  have f4 := hf [(-1, 0), (-1, 1), (1, 10)] (by decide)
  have f5 := hf [(6, 0), (1, 9), (-1, 10)] (by decide)
  have f6 := hf [(-781651968, 0), (1, 11)] (by decide)
  have f7 := hf [(781651968, 0), (-1, 11)] (by decide)
  simp only [qD, h0] at f0 f1 f2 f3 f4 f5 f6 f7
  have m0 : M 4 210 = 1 * ρ 0 + 0 := hm (4, 210, [(1, 0)]) (by decide)
  have m1 : M 4 211 = 1 * ρ 1 + 0 := hm (4, 211, [(1, 1)]) (by decide)
  have m2 : M 4 101 = 1 * ρ 2 + 0 := hm (4, 101, [(1, 2)]) (by decide)
  have m3 : M 3 46 = 1 * ρ 3 + 0 := hm (3, 46, [(1, 3)]) (by decide)
  have m4 : M 3 47 = 1 * ρ 4 + 0 := hm (3, 47, [(1, 4)]) (by decide)
  have m5 : M 4 100 = 1 * ρ 5 + 0 := hm (4, 100, [(1, 5)]) (by decide)
  have m6 : M 3 50 = 1 * ρ 6 + 0 := hm (3, 50, [(1, 6)]) (by decide)
  have m7 : M 3 51 = 1 * ρ 7 + 0 := hm (3, 51, [(1, 7)]) (by decide)
  have m8 : M 4 108 = 1 * ρ 8 + 0 := hm (4, 108, [(1, 8)]) (by decide)
  have m9 : M 4 214 = 1 * ρ 0 + 0 := hm (4, 214, [(1, 0)]) (by decide)
  have m10 : M 4 215 = 1 * ρ 9 + 0 := hm (4, 215, [(1, 9)]) (by decide)
  have m11 : M 4 217 = 1 * ρ 10 + 0 := hm (4, 217, [(1, 10)]) (by decide)
  have m12 : M 4 219 = 1 * ρ 11 + 0 := hm (4, 219, [(1, 11)]) (by decide)
  have m13 : M 4 216 = 1 * ρ 12 + 0 := hm (4, 216, [(1, 12)]) (by decide)
  simp only [h0] at m0 m9
  obtain ⟨u1, u2, _⟩ := gx_xS8 hI (by omega)

  obtain ⟨a1, a2, a3, a4, a5, a6, a7⟩ := gx_xSA hI (by omega)
  have eq1 : (M 4 215).toNat = (M 4 211).toNat := by omega
  rw [eq1] at a6 a7
  have hgt := ten_gt (g := M 92) (lo := 97) (hi := 122) (n := (M 4 101).toNat) (q := (M 4 211).toNat) (by omega)
  have el1 : (M 4 217 - M 4 215).toNat = tEn (M 92) 97 122 (M 4 101).toNat (M 4 211).toNat - (M 4 211).toNat := by omega
  rw [el1] at a7

  obtain ⟨t1, t2, t3, t4, t5, t6⟩ := tk_of hI (by omega) (by omega) (by omega) (show tAt (M 92) (M 4 101).toNat (M 4 211).toNat (M 4 107) (M 4 108) = (30, M 4 219, ((M 4 211).toNat : Int), M 4 217, 0, 12) from by
    unfold tAt
    rw [if_neg (by omega), if_pos hgt.2]
    unfold tWo
    rw [← a7, ← a6]
    have hk : tKi (M 4 219) 0 = 30 := by
      rw [show M 4 219 = 781651968 by omega]
      decide
    have h6 : ¬ (6 < tEn (M 92) 97 122 (M 4 101).toNat (M 4 211).toNat - (M 4 211).toNat) := by omega
    unfold tWk tWs tWv
    rw [if_neg h6, if_neg h6, if_neg h6, hk]
    rfl)
  refine ⟨ρ, fun _ _ => rfl, fun f h => ?_, ?_⟩
  · have h : f ∈ ([[(-1, 1), (1, 3)], [(1, 1), (-1, 3)], [(1, 4), (-1, 10)], [(-1, 4), (1, 10)], [(1, 6)], [(-1, 6)], [(-12, 0), (1, 7)], [(12, 0), (-1, 7)]] : List qF) := h
    simp only [List.mem_cons, List.not_mem_nil, or_false] at h
    rcases h with rfl | rfl | rfl | rfl | rfl | rfl | rfl | rfl
    · show 0 ≤ -1 * ρ 1 + (1 * ρ 3 + 0)
      (try rw [h0]); omega
    · show 0 ≤ 1 * ρ 1 + (-1 * ρ 3 + 0)
      (try rw [h0]); omega
    · show 0 ≤ 1 * ρ 4 + (-1 * ρ 10 + 0)
      (try rw [h0]); omega
    · show 0 ≤ -1 * ρ 4 + (1 * ρ 10 + 0)
      (try rw [h0]); omega
    · show 0 ≤ 1 * ρ 6 + 0
      (try rw [h0]); omega
    · show 0 ≤ -1 * ρ 6 + 0
      (try rw [h0]); omega
    · show 0 ≤ -12 * ρ 0 + (1 * ρ 7 + 0)
      (try rw [h0]); omega
    · show 0 ≤ 12 * ρ 0 + (-1 * ρ 7 + 0)
      (try rw [h0]); omega
  · show sI M
    exact hI
-- langMissR12L
def xr_492 : qRu := (3, [[(781651967, 0), (-1, 2)]], [(4, 226, [(1, 0)]), (4, 227, [(12, 0)]), (4, 219, [(1, 2)])], [], [(4, 227, [(13, 0)])], [])
theorem xo_492 : qRok xr_492 := by
  intro ρ M h0 hf hm hI
  have f0 := hf [(781651967, 0), (-1, 2)] (by decide)
  simp only [qD, h0] at f0
  have m0 : M 4 226 = 1 * ρ 0 + 0 := hm (4, 226, [(1, 0)]) (by decide)
  have m1 : M 4 227 = 12 * ρ 0 + 0 := hm (4, 227, [(12, 0)]) (by decide)
  have m2 : M 4 219 = 1 * ρ 2 + 0 := hm (4, 219, [(1, 2)]) (by decide)
  simp only [h0] at m0 m1
  have qxSC := hI.2.2.2.2.2.2.2.2.2.2.2.2.2.2.2.2.2.2.2.2.2.2.2.2.2.2.2.2.2.2.2.2.2.2.1
  obtain ⟨l1, l2, l3⟩ := gx_xSC hI (by omega)
  refine ⟨ρ, fun _ _ => rfl, fun f h => ?_, ?_⟩
  · exact nomatch h
  · show sI (sU M 4 227 (13 * ρ 0 + 0))
    obtain ⟨W, hW⟩ : ∃ W, W = (sU M 4 227 (13 * ρ 0 + 0)) := ⟨_, rfl⟩
    rw [← hW]
    have base : sI0 W := by
      rw [hW]
      exact (si_u0 hI.1 (fun r hr => by cases hr))
    have k2 : XI2 W := by
      rw [hW]
      exact (xi2_u rfl hI.2.1)
    have k3 : XI3 W := by
      rw [hW]
      exact (xi3_u rfl hI.2.2.1)
    have kXA : XA W := by
      rw [hW]
      exact (uXA rfl hI.2.2.2.1)
    have k_xN1 : xN1 W := by
      rw [hW]
      exact (uxN1 rfl hI.2.2.2.2.1)
    have k_xN2 : xN2 W := by
      rw [hW]
      exact (uxN2 rfl hI.2.2.2.2.2.1)
    have k_xN3 : xN3 W := by
      rw [hW]
      exact (uxN3 rfl hI.2.2.2.2.2.2.1)
    have k_xN4 : xN4 W := by
      rw [hW]
      exact (uxN4 rfl hI.2.2.2.2.2.2.2.1)
    have k_xN5 : xN5 W := by
      rw [hW]
      exact (uxN5 rfl hI.2.2.2.2.2.2.2.2.1)
    have k_xN6 : xN6 W := by
      rw [hW]
      exact (uxN6 rfl hI.2.2.2.2.2.2.2.2.2.1)
    have k_xH1 : xH1 W := by
      rw [hW]
      exact (uxH1 rfl hI.2.2.2.2.2.2.2.2.2.2.1)
    have k_xK1 : xK1 W := by
      rw [hW]
      exact (uxK1 rfl hI.2.2.2.2.2.2.2.2.2.2.2.1)
    have k_xC1 : xC1 W := by
      rw [hW]
      exact (uxC1 rfl hI.2.2.2.2.2.2.2.2.2.2.2.2.1)
    have k_xRW : xRW W := by
      rw [hW]
      exact (uxRW rfl hI.2.2.2.2.2.2.2.2.2.2.2.2.2.1)
    have k_xWT : xWT W := by
      rw [hW]
      exact (uxWT rfl hI.2.2.2.2.2.2.2.2.2.2.2.2.2.2.1)
    have k_xCU : xCU W := by
      rw [hW]
      exact (uxCU rfl hI.2.2.2.2.2.2.2.2.2.2.2.2.2.2.2.1)
    have k_xG2 : xG2 W := by
      rw [hW]
      exact (uxG2 rfl hI.2.2.2.2.2.2.2.2.2.2.2.2.2.2.2.2.1)
    have k_xG3 : xG3 W := by
      rw [hW]
      exact (uxG3 rfl hI.2.2.2.2.2.2.2.2.2.2.2.2.2.2.2.2.2.1)
    have k_xG4 : xG4 W := by
      rw [hW]
      exact (uxG4 rfl hI.2.2.2.2.2.2.2.2.2.2.2.2.2.2.2.2.2.2.1)
    have k_xG5 : xG5 W := by
      rw [hW]
      exact (uxG5 rfl hI.2.2.2.2.2.2.2.2.2.2.2.2.2.2.2.2.2.2.2.1)
    have k_xG6 : xG6 W := by
      rw [hW]
      exact (uxG6 rfl hI.2.2.2.2.2.2.2.2.2.2.2.2.2.2.2.2.2.2.2.2.1)
    have k_xS1 : xS1 W := by
      rw [hW]
      exact (uxS1 rfl hI.2.2.2.2.2.2.2.2.2.2.2.2.2.2.2.2.2.2.2.2.2.1)
    have k_xS2 : xS2 W := by
      rw [hW]
      exact (uxS2 rfl hI.2.2.2.2.2.2.2.2.2.2.2.2.2.2.2.2.2.2.2.2.2.2.1)
    have k_xS3 : xS3 W := by
      rw [hW]
      exact (uxS3 rfl hI.2.2.2.2.2.2.2.2.2.2.2.2.2.2.2.2.2.2.2.2.2.2.2.1)
    have k_xS4 : xS4 W := by
      rw [hW]
      exact (uxS4 rfl hI.2.2.2.2.2.2.2.2.2.2.2.2.2.2.2.2.2.2.2.2.2.2.2.2.1)
    have k_xS5 : xS5 W := by
      rw [hW]
      exact (uxS5 rfl hI.2.2.2.2.2.2.2.2.2.2.2.2.2.2.2.2.2.2.2.2.2.2.2.2.2.1)
    have k_xS6 : xS6 W := by
      rw [hW]
      exact (uxS6 rfl hI.2.2.2.2.2.2.2.2.2.2.2.2.2.2.2.2.2.2.2.2.2.2.2.2.2.2.1)
    have k_xS7 : xS7 W := by
      rw [hW]
      exact (uxS7 rfl hI.2.2.2.2.2.2.2.2.2.2.2.2.2.2.2.2.2.2.2.2.2.2.2.2.2.2.2.1)
    have k_xS8 : xS8 W := by
      rw [hW]
      exact (uxS8 rfl hI.2.2.2.2.2.2.2.2.2.2.2.2.2.2.2.2.2.2.2.2.2.2.2.2.2.2.2.2.1)
    have k_xS9 : xS9 W := by
      rw [hW]
      exact (uxS9 rfl hI.2.2.2.2.2.2.2.2.2.2.2.2.2.2.2.2.2.2.2.2.2.2.2.2.2.2.2.2.2.1)
    have k_xSA : xSA W := by
      rw [hW]
      exact (uxSA rfl hI.2.2.2.2.2.2.2.2.2.2.2.2.2.2.2.2.2.2.2.2.2.2.2.2.2.2.2.2.2.2.1)
    have k_xSG : xSG W := by
      rw [hW]
      exact (uxSG rfl hI.2.2.2.2.2.2.2.2.2.2.2.2.2.2.2.2.2.2.2.2.2.2.2.2.2.2.2.2.2.2.2.1)
    have k_xSF : xSF W := by
      rw [hW]
      exact (uxSF rfl hI.2.2.2.2.2.2.2.2.2.2.2.2.2.2.2.2.2.2.2.2.2.2.2.2.2.2.2.2.2.2.2.2.1)
    have k_xSB : xSB W := by
      rw [hW]
      exact (uxSB rfl hI.2.2.2.2.2.2.2.2.2.2.2.2.2.2.2.2.2.2.2.2.2.2.2.2.2.2.2.2.2.2.2.2.2.1)
    have k_xSC : xSC W := by
      have r4_226 : W 4 226 = M 4 226 := by rw [hW, sU_ne (fun z => by omega)]
      have r4_227 : W 4 227 = 13 * ρ 0 + 0 := by rw [hW, sU_at]
      have r4_219 : W 4 219 = M 4 219 := by rw [hW, sU_ne (fun z => by omega)]
      intro h
      rw [r4_227, r4_219, h0]
      refine ⟨by omega, by omega, ?_⟩
      have e1 := tki_on (x := M 4 219) (w := 12) (show tLa[12]? = some (781651968 : Int) from rfl)
      rw [if_neg (by omega)] at e1
      rw [show M 4 227 = 12 by omega] at l3
      rw [← l3]
      exact e1.symm
    have k_xSD : xSD W := by
      rw [hW]
      exact (uxSD rfl hI.2.2.2.2.2.2.2.2.2.2.2.2.2.2.2.2.2.2.2.2.2.2.2.2.2.2.2.2.2.2.2.2.2.2.2.1)
    have k_xSE : xSE W := by
      rw [hW]
      exact (uxSE rfl hI.2.2.2.2.2.2.2.2.2.2.2.2.2.2.2.2.2.2.2.2.2.2.2.2.2.2.2.2.2.2.2.2.2.2.2.2.1)
    have k_xSW : xSW W := by
      rw [hW]
      exact (uxSW rfl hI.2.2.2.2.2.2.2.2.2.2.2.2.2.2.2.2.2.2.2.2.2.2.2.2.2.2.2.2.2.2.2.2.2.2.2.2.2.1)
    have k_xST : xST W := by
      rw [hW]
      exact (uxST rfl hI.2.2.2.2.2.2.2.2.2.2.2.2.2.2.2.2.2.2.2.2.2.2.2.2.2.2.2.2.2.2.2.2.2.2.2.2.2.2.1)
    have k_xSP : xSP W := by
      rw [hW]
      exact (uxSP rfl hI.2.2.2.2.2.2.2.2.2.2.2.2.2.2.2.2.2.2.2.2.2.2.2.2.2.2.2.2.2.2.2.2.2.2.2.2.2.2.2.1)
    have k_xSL : xSL W := by
      rw [hW]
      exact (uxSL rfl hI.2.2.2.2.2.2.2.2.2.2.2.2.2.2.2.2.2.2.2.2.2.2.2.2.2.2.2.2.2.2.2.2.2.2.2.2.2.2.2.2.1)
    have k_xSM : xSM W := by
      rw [hW]
      exact (uxSM rfl hI.2.2.2.2.2.2.2.2.2.2.2.2.2.2.2.2.2.2.2.2.2.2.2.2.2.2.2.2.2.2.2.2.2.2.2.2.2.2.2.2.2.1)
    have k_xSI : xSI W := by
      rw [hW]
      exact (uxSI rfl hI.2.2.2.2.2.2.2.2.2.2.2.2.2.2.2.2.2.2.2.2.2.2.2.2.2.2.2.2.2.2.2.2.2.2.2.2.2.2.2.2.2.2)
    have k_XC : XC W := ⟨k_xS1, k_xS2, k_xS3, k_xS4, k_xS5, k_xS6, k_xS7, k_xS8, k_xS9, k_xSA, k_xSG, k_xSF, k_xSB, k_xSC, k_xSD, k_xSE, k_xSW, k_xST, k_xSP, k_xSL, k_xSM, k_xSI⟩
    have kXB : XB W := ⟨k_xN1, k_xN2, k_xN3, k_xN4, k_xN5, k_xN6, k_xH1, k_xK1, k_xC1, k_xRW, k_xWT, k_xCU, k_xG2, k_xG3, k_xG4, k_xG5, k_xG6, k_XC⟩
    exact ⟨base, k2, k3, kXA, kXB⟩
-- langMissR12H
def xr_493 : qRu := (3, [[(-781651969, 0), (1, 2)]], [(4, 226, [(1, 0)]), (4, 227, [(12, 0)]), (4, 219, [(1, 2)])], [], [(4, 227, [(13, 0)])], [])
theorem xo_493 : qRok xr_493 := by
  intro ρ M h0 hf hm hI
  have f0 := hf [(-781651969, 0), (1, 2)] (by decide)
  simp only [qD, h0] at f0
  have m0 : M 4 226 = 1 * ρ 0 + 0 := hm (4, 226, [(1, 0)]) (by decide)
  have m1 : M 4 227 = 12 * ρ 0 + 0 := hm (4, 227, [(12, 0)]) (by decide)
  have m2 : M 4 219 = 1 * ρ 2 + 0 := hm (4, 219, [(1, 2)]) (by decide)
  simp only [h0] at m0 m1
  have qxSC := hI.2.2.2.2.2.2.2.2.2.2.2.2.2.2.2.2.2.2.2.2.2.2.2.2.2.2.2.2.2.2.2.2.2.2.1
  obtain ⟨l1, l2, l3⟩ := gx_xSC hI (by omega)
  refine ⟨ρ, fun _ _ => rfl, fun f h => ?_, ?_⟩
  · exact nomatch h
  · show sI (sU M 4 227 (13 * ρ 0 + 0))
    obtain ⟨W, hW⟩ : ∃ W, W = (sU M 4 227 (13 * ρ 0 + 0)) := ⟨_, rfl⟩
    rw [← hW]
    have base : sI0 W := by
      rw [hW]
      exact (si_u0 hI.1 (fun r hr => by cases hr))
    have k2 : XI2 W := by
      rw [hW]
      exact (xi2_u rfl hI.2.1)
    have k3 : XI3 W := by
      rw [hW]
      exact (xi3_u rfl hI.2.2.1)
    have kXA : XA W := by
      rw [hW]
      exact (uXA rfl hI.2.2.2.1)
    have k_xN1 : xN1 W := by
      rw [hW]
      exact (uxN1 rfl hI.2.2.2.2.1)
    have k_xN2 : xN2 W := by
      rw [hW]
      exact (uxN2 rfl hI.2.2.2.2.2.1)
    have k_xN3 : xN3 W := by
      rw [hW]
      exact (uxN3 rfl hI.2.2.2.2.2.2.1)
    have k_xN4 : xN4 W := by
      rw [hW]
      exact (uxN4 rfl hI.2.2.2.2.2.2.2.1)
    have k_xN5 : xN5 W := by
      rw [hW]
      exact (uxN5 rfl hI.2.2.2.2.2.2.2.2.1)
    have k_xN6 : xN6 W := by
      rw [hW]
      exact (uxN6 rfl hI.2.2.2.2.2.2.2.2.2.1)
    have k_xH1 : xH1 W := by
      rw [hW]
      exact (uxH1 rfl hI.2.2.2.2.2.2.2.2.2.2.1)
    have k_xK1 : xK1 W := by
      rw [hW]
      exact (uxK1 rfl hI.2.2.2.2.2.2.2.2.2.2.2.1)
    have k_xC1 : xC1 W := by
      rw [hW]
      exact (uxC1 rfl hI.2.2.2.2.2.2.2.2.2.2.2.2.1)
    have k_xRW : xRW W := by
      rw [hW]
      exact (uxRW rfl hI.2.2.2.2.2.2.2.2.2.2.2.2.2.1)
    have k_xWT : xWT W := by
      rw [hW]
      exact (uxWT rfl hI.2.2.2.2.2.2.2.2.2.2.2.2.2.2.1)
    have k_xCU : xCU W := by
      rw [hW]
      exact (uxCU rfl hI.2.2.2.2.2.2.2.2.2.2.2.2.2.2.2.1)
    have k_xG2 : xG2 W := by
      rw [hW]
      exact (uxG2 rfl hI.2.2.2.2.2.2.2.2.2.2.2.2.2.2.2.2.1)
    have k_xG3 : xG3 W := by
      rw [hW]
      exact (uxG3 rfl hI.2.2.2.2.2.2.2.2.2.2.2.2.2.2.2.2.2.1)
    have k_xG4 : xG4 W := by
      rw [hW]
      exact (uxG4 rfl hI.2.2.2.2.2.2.2.2.2.2.2.2.2.2.2.2.2.2.1)
    have k_xG5 : xG5 W := by
      rw [hW]
      exact (uxG5 rfl hI.2.2.2.2.2.2.2.2.2.2.2.2.2.2.2.2.2.2.2.1)
    have k_xG6 : xG6 W := by
      rw [hW]
      exact (uxG6 rfl hI.2.2.2.2.2.2.2.2.2.2.2.2.2.2.2.2.2.2.2.2.1)
    have k_xS1 : xS1 W := by
      rw [hW]
      exact (uxS1 rfl hI.2.2.2.2.2.2.2.2.2.2.2.2.2.2.2.2.2.2.2.2.2.1)
    have k_xS2 : xS2 W := by
      rw [hW]
      exact (uxS2 rfl hI.2.2.2.2.2.2.2.2.2.2.2.2.2.2.2.2.2.2.2.2.2.2.1)
    have k_xS3 : xS3 W := by
      rw [hW]
      exact (uxS3 rfl hI.2.2.2.2.2.2.2.2.2.2.2.2.2.2.2.2.2.2.2.2.2.2.2.1)
    have k_xS4 : xS4 W := by
      rw [hW]
      exact (uxS4 rfl hI.2.2.2.2.2.2.2.2.2.2.2.2.2.2.2.2.2.2.2.2.2.2.2.2.1)
    have k_xS5 : xS5 W := by
      rw [hW]
      exact (uxS5 rfl hI.2.2.2.2.2.2.2.2.2.2.2.2.2.2.2.2.2.2.2.2.2.2.2.2.2.1)
    have k_xS6 : xS6 W := by
      rw [hW]
      exact (uxS6 rfl hI.2.2.2.2.2.2.2.2.2.2.2.2.2.2.2.2.2.2.2.2.2.2.2.2.2.2.1)
    have k_xS7 : xS7 W := by
      rw [hW]
      exact (uxS7 rfl hI.2.2.2.2.2.2.2.2.2.2.2.2.2.2.2.2.2.2.2.2.2.2.2.2.2.2.2.1)
    have k_xS8 : xS8 W := by
      rw [hW]
      exact (uxS8 rfl hI.2.2.2.2.2.2.2.2.2.2.2.2.2.2.2.2.2.2.2.2.2.2.2.2.2.2.2.2.1)
    have k_xS9 : xS9 W := by
      rw [hW]
      exact (uxS9 rfl hI.2.2.2.2.2.2.2.2.2.2.2.2.2.2.2.2.2.2.2.2.2.2.2.2.2.2.2.2.2.1)
    have k_xSA : xSA W := by
      rw [hW]
      exact (uxSA rfl hI.2.2.2.2.2.2.2.2.2.2.2.2.2.2.2.2.2.2.2.2.2.2.2.2.2.2.2.2.2.2.1)
    have k_xSG : xSG W := by
      rw [hW]
      exact (uxSG rfl hI.2.2.2.2.2.2.2.2.2.2.2.2.2.2.2.2.2.2.2.2.2.2.2.2.2.2.2.2.2.2.2.1)
    have k_xSF : xSF W := by
      rw [hW]
      exact (uxSF rfl hI.2.2.2.2.2.2.2.2.2.2.2.2.2.2.2.2.2.2.2.2.2.2.2.2.2.2.2.2.2.2.2.2.1)
    have k_xSB : xSB W := by
      rw [hW]
      exact (uxSB rfl hI.2.2.2.2.2.2.2.2.2.2.2.2.2.2.2.2.2.2.2.2.2.2.2.2.2.2.2.2.2.2.2.2.2.1)
    have k_xSC : xSC W := by
      have r4_226 : W 4 226 = M 4 226 := by rw [hW, sU_ne (fun z => by omega)]
      have r4_227 : W 4 227 = 13 * ρ 0 + 0 := by rw [hW, sU_at]
      have r4_219 : W 4 219 = M 4 219 := by rw [hW, sU_ne (fun z => by omega)]
      intro h
      rw [r4_227, r4_219, h0]
      refine ⟨by omega, by omega, ?_⟩
      have e1 := tki_on (x := M 4 219) (w := 12) (show tLa[12]? = some (781651968 : Int) from rfl)
      rw [if_neg (by omega)] at e1
      rw [show M 4 227 = 12 by omega] at l3
      rw [← l3]
      exact e1.symm
    have k_xSD : xSD W := by
      rw [hW]
      exact (uxSD rfl hI.2.2.2.2.2.2.2.2.2.2.2.2.2.2.2.2.2.2.2.2.2.2.2.2.2.2.2.2.2.2.2.2.2.2.2.1)
    have k_xSE : xSE W := by
      rw [hW]
      exact (uxSE rfl hI.2.2.2.2.2.2.2.2.2.2.2.2.2.2.2.2.2.2.2.2.2.2.2.2.2.2.2.2.2.2.2.2.2.2.2.2.1)
    have k_xSW : xSW W := by
      rw [hW]
      exact (uxSW rfl hI.2.2.2.2.2.2.2.2.2.2.2.2.2.2.2.2.2.2.2.2.2.2.2.2.2.2.2.2.2.2.2.2.2.2.2.2.2.1)
    have k_xST : xST W := by
      rw [hW]
      exact (uxST rfl hI.2.2.2.2.2.2.2.2.2.2.2.2.2.2.2.2.2.2.2.2.2.2.2.2.2.2.2.2.2.2.2.2.2.2.2.2.2.2.1)
    have k_xSP : xSP W := by
      rw [hW]
      exact (uxSP rfl hI.2.2.2.2.2.2.2.2.2.2.2.2.2.2.2.2.2.2.2.2.2.2.2.2.2.2.2.2.2.2.2.2.2.2.2.2.2.2.2.1)
    have k_xSL : xSL W := by
      rw [hW]
      exact (uxSL rfl hI.2.2.2.2.2.2.2.2.2.2.2.2.2.2.2.2.2.2.2.2.2.2.2.2.2.2.2.2.2.2.2.2.2.2.2.2.2.2.2.2.1)
    have k_xSM : xSM W := by
      rw [hW]
      exact (uxSM rfl hI.2.2.2.2.2.2.2.2.2.2.2.2.2.2.2.2.2.2.2.2.2.2.2.2.2.2.2.2.2.2.2.2.2.2.2.2.2.2.2.2.2.1)
    have k_xSI : xSI W := by
      rw [hW]
      exact (uxSI rfl hI.2.2.2.2.2.2.2.2.2.2.2.2.2.2.2.2.2.2.2.2.2.2.2.2.2.2.2.2.2.2.2.2.2.2.2.2.2.2.2.2.2.2)
    have k_XC : XC W := ⟨k_xS1, k_xS2, k_xS3, k_xS4, k_xS5, k_xS6, k_xS7, k_xS8, k_xS9, k_xSA, k_xSG, k_xSF, k_xSB, k_xSC, k_xSD, k_xSE, k_xSW, k_xST, k_xSP, k_xSL, k_xSM, k_xSI⟩
    have kXB : XB W := ⟨k_xN1, k_xN2, k_xN3, k_xN4, k_xN5, k_xN6, k_xH1, k_xK1, k_xC1, k_xRW, k_xWT, k_xCU, k_xG2, k_xG3, k_xG4, k_xG5, k_xG6, k_XC⟩
    exact ⟨base, k2, k3, kXA, kXB⟩
-- wHitR13_c
def xr_494 : qRu := (13, [[(-1, 0), (1, 5)], [(1, 1)], [(-1, 1), (1, 9)], [(1, 1), (-1, 9)], [(-1, 0), (-1, 1), (1, 10)], [(6, 0), (1, 9), (-1, 10)], [(-412307456, 0), (1, 11)], [(412307456, 0), (-1, 11)]], [(4, 210, [(1, 0)]), (4, 211, [(1, 1)]), (4, 101, [(1, 2)]), (3, 46, [(1, 3)]), (3, 47, [(1, 4)]), (4, 100, [(1, 5)]), (3, 44, [(1, 6)]), (3, 45, [(1, 7)]), (4, 107, [(1, 8)]), (4, 214, [(1, 0)]), (4, 215, [(1, 9)]), (4, 217, [(1, 10)]), (4, 219, [(1, 11)]), (4, 216, [(1, 12)])], [], [], [[(-1, 1), (1, 3)], [(1, 1), (-1, 3)], [(1, 4), (-1, 10)], [(-1, 4), (1, 10)], [(-31, 0), (1, 6)], [(31, 0), (-1, 6)], [(1, 7), (-1, 11)], [(-1, 7), (1, 11)]])
theorem xo_494 : qRok xr_494 := by
  intro ρ M h0 hf hm hI
  have f0 := hf [(-1, 0), (1, 5)] (by decide)
  have f1 := hf [(1, 1)] (by decide)
  have f2 := hf [(-1, 1), (1, 9)] (by decide)
  have f3 := hf [(1, 1), (-1, 9)] (by decide)
  have f4 := hf [(-1, 0), (-1, 1), (1, 10)] (by decide)
  have f5 := hf [(6, 0), (1, 9), (-1, 10)] (by decide)
  have f6 := hf [(-412307456, 0), (1, 11)] (by decide)
  have f7 := hf [(412307456, 0), (-1, 11)] (by decide)
  simp only [qD, h0] at f0 f1 f2 f3 f4 f5 f6 f7
  have m0 : M 4 210 = 1 * ρ 0 + 0 := hm (4, 210, [(1, 0)]) (by decide)
  have m1 : M 4 211 = 1 * ρ 1 + 0 := hm (4, 211, [(1, 1)]) (by decide)
  have m2 : M 4 101 = 1 * ρ 2 + 0 := hm (4, 101, [(1, 2)]) (by decide)
  have m3 : M 3 46 = 1 * ρ 3 + 0 := hm (3, 46, [(1, 3)]) (by decide)
  have m4 : M 3 47 = 1 * ρ 4 + 0 := hm (3, 47, [(1, 4)]) (by decide)
  have m5 : M 4 100 = 1 * ρ 5 + 0 := hm (4, 100, [(1, 5)]) (by decide)
  have m6 : M 3 44 = 1 * ρ 6 + 0 := hm (3, 44, [(1, 6)]) (by decide)
  have m7 : M 3 45 = 1 * ρ 7 + 0 := hm (3, 45, [(1, 7)]) (by decide)
  have m8 : M 4 107 = 1 * ρ 8 + 0 := hm (4, 107, [(1, 8)]) (by decide)
  have m9 : M 4 214 = 1 * ρ 0 + 0 := hm (4, 214, [(1, 0)]) (by decide)
  have m10 : M 4 215 = 1 * ρ 9 + 0 := hm (4, 215, [(1, 9)]) (by decide)
  have m11 : M 4 217 = 1 * ρ 10 + 0 := hm (4, 217, [(1, 10)]) (by decide)
  have m12 : M 4 219 = 1 * ρ 11 + 0 := hm (4, 219, [(1, 11)]) (by decide)
  have m13 : M 4 216 = 1 * ρ 12 + 0 := hm (4, 216, [(1, 12)]) (by decide)
  simp only [h0] at m0 m9
  obtain ⟨u1, u2, _⟩ := gx_xS8 hI (by omega)

  obtain ⟨a1, a2, a3, a4, a5, a6, a7⟩ := gx_xSA hI (by omega)
  have eq1 : (M 4 215).toNat = (M 4 211).toNat := by omega
  rw [eq1] at a6 a7
  have hgt := ten_gt (g := M 92) (lo := 97) (hi := 122) (n := (M 4 101).toNat) (q := (M 4 211).toNat) (by omega)
  have el1 : (M 4 217 - M 4 215).toNat = tEn (M 92) 97 122 (M 4 101).toNat (M 4 211).toNat - (M 4 211).toNat := by omega
  rw [el1] at a7

  obtain ⟨t1, t2, t3, t4, t5, t6⟩ := tk_of hI (by omega) (by omega) (by omega) (show tAt (M 92) (M 4 101).toNat (M 4 211).toNat (M 4 107) (M 4 108) = (31, M 4 219, ((M 4 211).toNat : Int), M 4 217, 0, 13) from by
    unfold tAt
    rw [if_neg (by omega), if_pos hgt.2]
    unfold tWo
    rw [← a7, ← a6]
    have hk : tKi (M 4 219) 0 = 31 := by
      rw [show M 4 219 = 412307456 by omega]
      decide
    have h6 : ¬ (6 < tEn (M 92) 97 122 (M 4 101).toNat (M 4 211).toNat - (M 4 211).toNat) := by omega
    unfold tWk tWs tWv
    rw [if_neg h6, if_neg h6, if_neg h6, hk]
    rfl)
  refine ⟨ρ, fun _ _ => rfl, fun f h => ?_, ?_⟩
  · have h : f ∈ ([[(-1, 1), (1, 3)], [(1, 1), (-1, 3)], [(1, 4), (-1, 10)], [(-1, 4), (1, 10)], [(-31, 0), (1, 6)], [(31, 0), (-1, 6)], [(1, 7), (-1, 11)], [(-1, 7), (1, 11)]] : List qF) := h
    simp only [List.mem_cons, List.not_mem_nil, or_false] at h
    rcases h with rfl | rfl | rfl | rfl | rfl | rfl | rfl | rfl
    · show 0 ≤ -1 * ρ 1 + (1 * ρ 3 + 0)
      (try rw [h0]); omega
    · show 0 ≤ 1 * ρ 1 + (-1 * ρ 3 + 0)
      (try rw [h0]); omega
    · show 0 ≤ 1 * ρ 4 + (-1 * ρ 10 + 0)
      (try rw [h0]); omega
    · show 0 ≤ -1 * ρ 4 + (1 * ρ 10 + 0)
      (try rw [h0]); omega
    · show 0 ≤ -31 * ρ 0 + (1 * ρ 6 + 0)
      (try rw [h0]); omega
    · show 0 ≤ 31 * ρ 0 + (-1 * ρ 6 + 0)
      (try rw [h0]); omega
    · show 0 ≤ 1 * ρ 7 + (-1 * ρ 11 + 0)
      (try rw [h0]); omega
    · show 0 ≤ -1 * ρ 7 + (1 * ρ 11 + 0)
      (try rw [h0]); omega
  · show sI M
    exact hI
-- wHitR13_r
def xr_495 : qRu := (13, [[(-1, 0), (1, 5)], [(1, 1)], [(-1, 1), (1, 9)], [(1, 1), (-1, 9)], [(-1, 0), (-1, 1), (1, 10)], [(6, 0), (1, 9), (-1, 10)], [(-412307456, 0), (1, 11)], [(412307456, 0), (-1, 11)]], [(4, 210, [(1, 0)]), (4, 211, [(1, 1)]), (4, 101, [(1, 2)]), (3, 46, [(1, 3)]), (3, 47, [(1, 4)]), (4, 100, [(1, 5)]), (3, 50, [(1, 6)]), (3, 51, [(1, 7)]), (4, 108, [(1, 8)]), (4, 214, [(1, 0)]), (4, 215, [(1, 9)]), (4, 217, [(1, 10)]), (4, 219, [(1, 11)]), (4, 216, [(1, 12)])], [], [], [[(-1, 1), (1, 3)], [(1, 1), (-1, 3)], [(1, 4), (-1, 10)], [(-1, 4), (1, 10)], [(1, 6)], [(-1, 6)], [(-13, 0), (1, 7)], [(13, 0), (-1, 7)]])
theorem xo_495 : qRok xr_495 := by
  intro ρ M h0 hf hm hI
  have f0 := hf [(-1, 0), (1, 5)] (by decide)
  have f1 := hf [(1, 1)] (by decide)
  have f2 := hf [(-1, 1), (1, 9)] (by decide)
  have f3 := hf [(1, 1), (-1, 9)] (by decide)
  have f4 := hf [(-1, 0), (-1, 1), (1, 10)] (by decide)
  have f5 := hf [(6, 0), (1, 9), (-1, 10)] (by decide)
  have f6 := hf [(-412307456, 0), (1, 11)] (by decide)
  have f7 := hf [(412307456, 0), (-1, 11)] (by decide)
  simp only [qD, h0] at f0 f1 f2 f3 f4 f5 f6 f7
  have m0 : M 4 210 = 1 * ρ 0 + 0 := hm (4, 210, [(1, 0)]) (by decide)
  have m1 : M 4 211 = 1 * ρ 1 + 0 := hm (4, 211, [(1, 1)]) (by decide)
  have m2 : M 4 101 = 1 * ρ 2 + 0 := hm (4, 101, [(1, 2)]) (by decide)
  have m3 : M 3 46 = 1 * ρ 3 + 0 := hm (3, 46, [(1, 3)]) (by decide)
  have m4 : M 3 47 = 1 * ρ 4 + 0 := hm (3, 47, [(1, 4)]) (by decide)
  have m5 : M 4 100 = 1 * ρ 5 + 0 := hm (4, 100, [(1, 5)]) (by decide)
  have m6 : M 3 50 = 1 * ρ 6 + 0 := hm (3, 50, [(1, 6)]) (by decide)
  have m7 : M 3 51 = 1 * ρ 7 + 0 := hm (3, 51, [(1, 7)]) (by decide)
  have m8 : M 4 108 = 1 * ρ 8 + 0 := hm (4, 108, [(1, 8)]) (by decide)
  have m9 : M 4 214 = 1 * ρ 0 + 0 := hm (4, 214, [(1, 0)]) (by decide)
  have m10 : M 4 215 = 1 * ρ 9 + 0 := hm (4, 215, [(1, 9)]) (by decide)
  have m11 : M 4 217 = 1 * ρ 10 + 0 := hm (4, 217, [(1, 10)]) (by decide)
  have m12 : M 4 219 = 1 * ρ 11 + 0 := hm (4, 219, [(1, 11)]) (by decide)
  have m13 : M 4 216 = 1 * ρ 12 + 0 := hm (4, 216, [(1, 12)]) (by decide)
  simp only [h0] at m0 m9
  obtain ⟨u1, u2, _⟩ := gx_xS8 hI (by omega)

  obtain ⟨a1, a2, a3, a4, a5, a6, a7⟩ := gx_xSA hI (by omega)
  have eq1 : (M 4 215).toNat = (M 4 211).toNat := by omega
  rw [eq1] at a6 a7
  have hgt := ten_gt (g := M 92) (lo := 97) (hi := 122) (n := (M 4 101).toNat) (q := (M 4 211).toNat) (by omega)
  have el1 : (M 4 217 - M 4 215).toNat = tEn (M 92) 97 122 (M 4 101).toNat (M 4 211).toNat - (M 4 211).toNat := by omega
  rw [el1] at a7

  obtain ⟨t1, t2, t3, t4, t5, t6⟩ := tk_of hI (by omega) (by omega) (by omega) (show tAt (M 92) (M 4 101).toNat (M 4 211).toNat (M 4 107) (M 4 108) = (31, M 4 219, ((M 4 211).toNat : Int), M 4 217, 0, 13) from by
    unfold tAt
    rw [if_neg (by omega), if_pos hgt.2]
    unfold tWo
    rw [← a7, ← a6]
    have hk : tKi (M 4 219) 0 = 31 := by
      rw [show M 4 219 = 412307456 by omega]
      decide
    have h6 : ¬ (6 < tEn (M 92) 97 122 (M 4 101).toNat (M 4 211).toNat - (M 4 211).toNat) := by omega
    unfold tWk tWs tWv
    rw [if_neg h6, if_neg h6, if_neg h6, hk]
    rfl)
  refine ⟨ρ, fun _ _ => rfl, fun f h => ?_, ?_⟩
  · have h : f ∈ ([[(-1, 1), (1, 3)], [(1, 1), (-1, 3)], [(1, 4), (-1, 10)], [(-1, 4), (1, 10)], [(1, 6)], [(-1, 6)], [(-13, 0), (1, 7)], [(13, 0), (-1, 7)]] : List qF) := h
    simp only [List.mem_cons, List.not_mem_nil, or_false] at h
    rcases h with rfl | rfl | rfl | rfl | rfl | rfl | rfl | rfl
    · show 0 ≤ -1 * ρ 1 + (1 * ρ 3 + 0)
      (try rw [h0]); omega
    · show 0 ≤ 1 * ρ 1 + (-1 * ρ 3 + 0)
      (try rw [h0]); omega
    · show 0 ≤ 1 * ρ 4 + (-1 * ρ 10 + 0)
      (try rw [h0]); omega
    · show 0 ≤ -1 * ρ 4 + (1 * ρ 10 + 0)
      (try rw [h0]); omega
    · show 0 ≤ 1 * ρ 6 + 0
      (try rw [h0]); omega
    · show 0 ≤ -1 * ρ 6 + 0
      (try rw [h0]); omega
    · show 0 ≤ -13 * ρ 0 + (1 * ρ 7 + 0)
      (try rw [h0]); omega
    · show 0 ≤ 13 * ρ 0 + (-1 * ρ 7 + 0)
      (try rw [h0]); omega
  · show sI M
    exact hI
-- langMissR13L
def xr_496 : qRu := (3, [[(412307455, 0), (-1, 2)]], [(4, 226, [(1, 0)]), (4, 227, [(13, 0)]), (4, 219, [(1, 2)])], [], [(4, 227, [(14, 0)])], [])
theorem xo_496 : qRok xr_496 := by
  intro ρ M h0 hf hm hI
  have f0 := hf [(412307455, 0), (-1, 2)] (by decide)
  simp only [qD, h0] at f0
  have m0 : M 4 226 = 1 * ρ 0 + 0 := hm (4, 226, [(1, 0)]) (by decide)
  have m1 : M 4 227 = 13 * ρ 0 + 0 := hm (4, 227, [(13, 0)]) (by decide)
  have m2 : M 4 219 = 1 * ρ 2 + 0 := hm (4, 219, [(1, 2)]) (by decide)
  simp only [h0] at m0 m1
  have qxSC := hI.2.2.2.2.2.2.2.2.2.2.2.2.2.2.2.2.2.2.2.2.2.2.2.2.2.2.2.2.2.2.2.2.2.2.1
  obtain ⟨l1, l2, l3⟩ := gx_xSC hI (by omega)
  refine ⟨ρ, fun _ _ => rfl, fun f h => ?_, ?_⟩
  · exact nomatch h
  · show sI (sU M 4 227 (14 * ρ 0 + 0))
    obtain ⟨W, hW⟩ : ∃ W, W = (sU M 4 227 (14 * ρ 0 + 0)) := ⟨_, rfl⟩
    rw [← hW]
    have base : sI0 W := by
      rw [hW]
      exact (si_u0 hI.1 (fun r hr => by cases hr))
    have k2 : XI2 W := by
      rw [hW]
      exact (xi2_u rfl hI.2.1)
    have k3 : XI3 W := by
      rw [hW]
      exact (xi3_u rfl hI.2.2.1)
    have kXA : XA W := by
      rw [hW]
      exact (uXA rfl hI.2.2.2.1)
    have k_xN1 : xN1 W := by
      rw [hW]
      exact (uxN1 rfl hI.2.2.2.2.1)
    have k_xN2 : xN2 W := by
      rw [hW]
      exact (uxN2 rfl hI.2.2.2.2.2.1)
    have k_xN3 : xN3 W := by
      rw [hW]
      exact (uxN3 rfl hI.2.2.2.2.2.2.1)
    have k_xN4 : xN4 W := by
      rw [hW]
      exact (uxN4 rfl hI.2.2.2.2.2.2.2.1)
    have k_xN5 : xN5 W := by
      rw [hW]
      exact (uxN5 rfl hI.2.2.2.2.2.2.2.2.1)
    have k_xN6 : xN6 W := by
      rw [hW]
      exact (uxN6 rfl hI.2.2.2.2.2.2.2.2.2.1)
    have k_xH1 : xH1 W := by
      rw [hW]
      exact (uxH1 rfl hI.2.2.2.2.2.2.2.2.2.2.1)
    have k_xK1 : xK1 W := by
      rw [hW]
      exact (uxK1 rfl hI.2.2.2.2.2.2.2.2.2.2.2.1)
    have k_xC1 : xC1 W := by
      rw [hW]
      exact (uxC1 rfl hI.2.2.2.2.2.2.2.2.2.2.2.2.1)
    have k_xRW : xRW W := by
      rw [hW]
      exact (uxRW rfl hI.2.2.2.2.2.2.2.2.2.2.2.2.2.1)
    have k_xWT : xWT W := by
      rw [hW]
      exact (uxWT rfl hI.2.2.2.2.2.2.2.2.2.2.2.2.2.2.1)
    have k_xCU : xCU W := by
      rw [hW]
      exact (uxCU rfl hI.2.2.2.2.2.2.2.2.2.2.2.2.2.2.2.1)
    have k_xG2 : xG2 W := by
      rw [hW]
      exact (uxG2 rfl hI.2.2.2.2.2.2.2.2.2.2.2.2.2.2.2.2.1)
    have k_xG3 : xG3 W := by
      rw [hW]
      exact (uxG3 rfl hI.2.2.2.2.2.2.2.2.2.2.2.2.2.2.2.2.2.1)
    have k_xG4 : xG4 W := by
      rw [hW]
      exact (uxG4 rfl hI.2.2.2.2.2.2.2.2.2.2.2.2.2.2.2.2.2.2.1)
    have k_xG5 : xG5 W := by
      rw [hW]
      exact (uxG5 rfl hI.2.2.2.2.2.2.2.2.2.2.2.2.2.2.2.2.2.2.2.1)
    have k_xG6 : xG6 W := by
      rw [hW]
      exact (uxG6 rfl hI.2.2.2.2.2.2.2.2.2.2.2.2.2.2.2.2.2.2.2.2.1)
    have k_xS1 : xS1 W := by
      rw [hW]
      exact (uxS1 rfl hI.2.2.2.2.2.2.2.2.2.2.2.2.2.2.2.2.2.2.2.2.2.1)
    have k_xS2 : xS2 W := by
      rw [hW]
      exact (uxS2 rfl hI.2.2.2.2.2.2.2.2.2.2.2.2.2.2.2.2.2.2.2.2.2.2.1)
    have k_xS3 : xS3 W := by
      rw [hW]
      exact (uxS3 rfl hI.2.2.2.2.2.2.2.2.2.2.2.2.2.2.2.2.2.2.2.2.2.2.2.1)
    have k_xS4 : xS4 W := by
      rw [hW]
      exact (uxS4 rfl hI.2.2.2.2.2.2.2.2.2.2.2.2.2.2.2.2.2.2.2.2.2.2.2.2.1)
    have k_xS5 : xS5 W := by
      rw [hW]
      exact (uxS5 rfl hI.2.2.2.2.2.2.2.2.2.2.2.2.2.2.2.2.2.2.2.2.2.2.2.2.2.1)
    have k_xS6 : xS6 W := by
      rw [hW]
      exact (uxS6 rfl hI.2.2.2.2.2.2.2.2.2.2.2.2.2.2.2.2.2.2.2.2.2.2.2.2.2.2.1)
    have k_xS7 : xS7 W := by
      rw [hW]
      exact (uxS7 rfl hI.2.2.2.2.2.2.2.2.2.2.2.2.2.2.2.2.2.2.2.2.2.2.2.2.2.2.2.1)
    have k_xS8 : xS8 W := by
      rw [hW]
      exact (uxS8 rfl hI.2.2.2.2.2.2.2.2.2.2.2.2.2.2.2.2.2.2.2.2.2.2.2.2.2.2.2.2.1)
    have k_xS9 : xS9 W := by
      rw [hW]
      exact (uxS9 rfl hI.2.2.2.2.2.2.2.2.2.2.2.2.2.2.2.2.2.2.2.2.2.2.2.2.2.2.2.2.2.1)
    have k_xSA : xSA W := by
      rw [hW]
      exact (uxSA rfl hI.2.2.2.2.2.2.2.2.2.2.2.2.2.2.2.2.2.2.2.2.2.2.2.2.2.2.2.2.2.2.1)
    have k_xSG : xSG W := by
      rw [hW]
      exact (uxSG rfl hI.2.2.2.2.2.2.2.2.2.2.2.2.2.2.2.2.2.2.2.2.2.2.2.2.2.2.2.2.2.2.2.1)
    have k_xSF : xSF W := by
      rw [hW]
      exact (uxSF rfl hI.2.2.2.2.2.2.2.2.2.2.2.2.2.2.2.2.2.2.2.2.2.2.2.2.2.2.2.2.2.2.2.2.1)
    have k_xSB : xSB W := by
      rw [hW]
      exact (uxSB rfl hI.2.2.2.2.2.2.2.2.2.2.2.2.2.2.2.2.2.2.2.2.2.2.2.2.2.2.2.2.2.2.2.2.2.1)
    have k_xSC : xSC W := by
      have r4_226 : W 4 226 = M 4 226 := by rw [hW, sU_ne (fun z => by omega)]
      have r4_227 : W 4 227 = 14 * ρ 0 + 0 := by rw [hW, sU_at]
      have r4_219 : W 4 219 = M 4 219 := by rw [hW, sU_ne (fun z => by omega)]
      intro h
      rw [r4_227, r4_219, h0]
      refine ⟨by omega, by omega, ?_⟩
      have e1 := tki_on (x := M 4 219) (w := 13) (show tLa[13]? = some (412307456 : Int) from rfl)
      rw [if_neg (by omega)] at e1
      rw [show M 4 227 = 13 by omega] at l3
      rw [← l3]
      exact e1.symm
    have k_xSD : xSD W := by
      rw [hW]
      exact (uxSD rfl hI.2.2.2.2.2.2.2.2.2.2.2.2.2.2.2.2.2.2.2.2.2.2.2.2.2.2.2.2.2.2.2.2.2.2.2.1)
    have k_xSE : xSE W := by
      rw [hW]
      exact (uxSE rfl hI.2.2.2.2.2.2.2.2.2.2.2.2.2.2.2.2.2.2.2.2.2.2.2.2.2.2.2.2.2.2.2.2.2.2.2.2.1)
    have k_xSW : xSW W := by
      rw [hW]
      exact (uxSW rfl hI.2.2.2.2.2.2.2.2.2.2.2.2.2.2.2.2.2.2.2.2.2.2.2.2.2.2.2.2.2.2.2.2.2.2.2.2.2.1)
    have k_xST : xST W := by
      rw [hW]
      exact (uxST rfl hI.2.2.2.2.2.2.2.2.2.2.2.2.2.2.2.2.2.2.2.2.2.2.2.2.2.2.2.2.2.2.2.2.2.2.2.2.2.2.1)
    have k_xSP : xSP W := by
      rw [hW]
      exact (uxSP rfl hI.2.2.2.2.2.2.2.2.2.2.2.2.2.2.2.2.2.2.2.2.2.2.2.2.2.2.2.2.2.2.2.2.2.2.2.2.2.2.2.1)
    have k_xSL : xSL W := by
      rw [hW]
      exact (uxSL rfl hI.2.2.2.2.2.2.2.2.2.2.2.2.2.2.2.2.2.2.2.2.2.2.2.2.2.2.2.2.2.2.2.2.2.2.2.2.2.2.2.2.1)
    have k_xSM : xSM W := by
      rw [hW]
      exact (uxSM rfl hI.2.2.2.2.2.2.2.2.2.2.2.2.2.2.2.2.2.2.2.2.2.2.2.2.2.2.2.2.2.2.2.2.2.2.2.2.2.2.2.2.2.1)
    have k_xSI : xSI W := by
      rw [hW]
      exact (uxSI rfl hI.2.2.2.2.2.2.2.2.2.2.2.2.2.2.2.2.2.2.2.2.2.2.2.2.2.2.2.2.2.2.2.2.2.2.2.2.2.2.2.2.2.2)
    have k_XC : XC W := ⟨k_xS1, k_xS2, k_xS3, k_xS4, k_xS5, k_xS6, k_xS7, k_xS8, k_xS9, k_xSA, k_xSG, k_xSF, k_xSB, k_xSC, k_xSD, k_xSE, k_xSW, k_xST, k_xSP, k_xSL, k_xSM, k_xSI⟩
    have kXB : XB W := ⟨k_xN1, k_xN2, k_xN3, k_xN4, k_xN5, k_xN6, k_xH1, k_xK1, k_xC1, k_xRW, k_xWT, k_xCU, k_xG2, k_xG3, k_xG4, k_xG5, k_xG6, k_XC⟩
    exact ⟨base, k2, k3, kXA, kXB⟩
-- langMissR13H
def xr_497 : qRu := (3, [[(-412307457, 0), (1, 2)]], [(4, 226, [(1, 0)]), (4, 227, [(13, 0)]), (4, 219, [(1, 2)])], [], [(4, 227, [(14, 0)])], [])
theorem xo_497 : qRok xr_497 := by
  intro ρ M h0 hf hm hI
  have f0 := hf [(-412307457, 0), (1, 2)] (by decide)
  simp only [qD, h0] at f0
  have m0 : M 4 226 = 1 * ρ 0 + 0 := hm (4, 226, [(1, 0)]) (by decide)
  have m1 : M 4 227 = 13 * ρ 0 + 0 := hm (4, 227, [(13, 0)]) (by decide)
  have m2 : M 4 219 = 1 * ρ 2 + 0 := hm (4, 219, [(1, 2)]) (by decide)
  simp only [h0] at m0 m1
  have qxSC := hI.2.2.2.2.2.2.2.2.2.2.2.2.2.2.2.2.2.2.2.2.2.2.2.2.2.2.2.2.2.2.2.2.2.2.1
  obtain ⟨l1, l2, l3⟩ := gx_xSC hI (by omega)
  refine ⟨ρ, fun _ _ => rfl, fun f h => ?_, ?_⟩
  · exact nomatch h
  · show sI (sU M 4 227 (14 * ρ 0 + 0))
    obtain ⟨W, hW⟩ : ∃ W, W = (sU M 4 227 (14 * ρ 0 + 0)) := ⟨_, rfl⟩
    rw [← hW]
    have base : sI0 W := by
      rw [hW]
      exact (si_u0 hI.1 (fun r hr => by cases hr))
    have k2 : XI2 W := by
      rw [hW]
      exact (xi2_u rfl hI.2.1)
    have k3 : XI3 W := by
      rw [hW]
      exact (xi3_u rfl hI.2.2.1)
    have kXA : XA W := by
      rw [hW]
      exact (uXA rfl hI.2.2.2.1)
    have k_xN1 : xN1 W := by
      rw [hW]
      exact (uxN1 rfl hI.2.2.2.2.1)
    have k_xN2 : xN2 W := by
      rw [hW]
      exact (uxN2 rfl hI.2.2.2.2.2.1)
    have k_xN3 : xN3 W := by
      rw [hW]
      exact (uxN3 rfl hI.2.2.2.2.2.2.1)
    have k_xN4 : xN4 W := by
      rw [hW]
      exact (uxN4 rfl hI.2.2.2.2.2.2.2.1)
    have k_xN5 : xN5 W := by
      rw [hW]
      exact (uxN5 rfl hI.2.2.2.2.2.2.2.2.1)
    have k_xN6 : xN6 W := by
      rw [hW]
      exact (uxN6 rfl hI.2.2.2.2.2.2.2.2.2.1)
    have k_xH1 : xH1 W := by
      rw [hW]
      exact (uxH1 rfl hI.2.2.2.2.2.2.2.2.2.2.1)
    have k_xK1 : xK1 W := by
      rw [hW]
      exact (uxK1 rfl hI.2.2.2.2.2.2.2.2.2.2.2.1)
    have k_xC1 : xC1 W := by
      rw [hW]
      exact (uxC1 rfl hI.2.2.2.2.2.2.2.2.2.2.2.2.1)
    have k_xRW : xRW W := by
      rw [hW]
      exact (uxRW rfl hI.2.2.2.2.2.2.2.2.2.2.2.2.2.1)
    have k_xWT : xWT W := by
      rw [hW]
      exact (uxWT rfl hI.2.2.2.2.2.2.2.2.2.2.2.2.2.2.1)
    have k_xCU : xCU W := by
      rw [hW]
      exact (uxCU rfl hI.2.2.2.2.2.2.2.2.2.2.2.2.2.2.2.1)
    have k_xG2 : xG2 W := by
      rw [hW]
      exact (uxG2 rfl hI.2.2.2.2.2.2.2.2.2.2.2.2.2.2.2.2.1)
    have k_xG3 : xG3 W := by
      rw [hW]
      exact (uxG3 rfl hI.2.2.2.2.2.2.2.2.2.2.2.2.2.2.2.2.2.1)
    have k_xG4 : xG4 W := by
      rw [hW]
      exact (uxG4 rfl hI.2.2.2.2.2.2.2.2.2.2.2.2.2.2.2.2.2.2.1)
    have k_xG5 : xG5 W := by
      rw [hW]
      exact (uxG5 rfl hI.2.2.2.2.2.2.2.2.2.2.2.2.2.2.2.2.2.2.2.1)
    have k_xG6 : xG6 W := by
      rw [hW]
      exact (uxG6 rfl hI.2.2.2.2.2.2.2.2.2.2.2.2.2.2.2.2.2.2.2.2.1)
    have k_xS1 : xS1 W := by
      rw [hW]
      exact (uxS1 rfl hI.2.2.2.2.2.2.2.2.2.2.2.2.2.2.2.2.2.2.2.2.2.1)
    have k_xS2 : xS2 W := by
      rw [hW]
      exact (uxS2 rfl hI.2.2.2.2.2.2.2.2.2.2.2.2.2.2.2.2.2.2.2.2.2.2.1)
    have k_xS3 : xS3 W := by
      rw [hW]
      exact (uxS3 rfl hI.2.2.2.2.2.2.2.2.2.2.2.2.2.2.2.2.2.2.2.2.2.2.2.1)
    have k_xS4 : xS4 W := by
      rw [hW]
      exact (uxS4 rfl hI.2.2.2.2.2.2.2.2.2.2.2.2.2.2.2.2.2.2.2.2.2.2.2.2.1)
    have k_xS5 : xS5 W := by
      rw [hW]
      exact (uxS5 rfl hI.2.2.2.2.2.2.2.2.2.2.2.2.2.2.2.2.2.2.2.2.2.2.2.2.2.1)
    have k_xS6 : xS6 W := by
      rw [hW]
      exact (uxS6 rfl hI.2.2.2.2.2.2.2.2.2.2.2.2.2.2.2.2.2.2.2.2.2.2.2.2.2.2.1)
    have k_xS7 : xS7 W := by
      rw [hW]
      exact (uxS7 rfl hI.2.2.2.2.2.2.2.2.2.2.2.2.2.2.2.2.2.2.2.2.2.2.2.2.2.2.2.1)
    have k_xS8 : xS8 W := by
      rw [hW]
      exact (uxS8 rfl hI.2.2.2.2.2.2.2.2.2.2.2.2.2.2.2.2.2.2.2.2.2.2.2.2.2.2.2.2.1)
    have k_xS9 : xS9 W := by
      rw [hW]
      exact (uxS9 rfl hI.2.2.2.2.2.2.2.2.2.2.2.2.2.2.2.2.2.2.2.2.2.2.2.2.2.2.2.2.2.1)
    have k_xSA : xSA W := by
      rw [hW]
      exact (uxSA rfl hI.2.2.2.2.2.2.2.2.2.2.2.2.2.2.2.2.2.2.2.2.2.2.2.2.2.2.2.2.2.2.1)
    have k_xSG : xSG W := by
      rw [hW]
      exact (uxSG rfl hI.2.2.2.2.2.2.2.2.2.2.2.2.2.2.2.2.2.2.2.2.2.2.2.2.2.2.2.2.2.2.2.1)
    have k_xSF : xSF W := by
      rw [hW]
      exact (uxSF rfl hI.2.2.2.2.2.2.2.2.2.2.2.2.2.2.2.2.2.2.2.2.2.2.2.2.2.2.2.2.2.2.2.2.1)
    have k_xSB : xSB W := by
      rw [hW]
      exact (uxSB rfl hI.2.2.2.2.2.2.2.2.2.2.2.2.2.2.2.2.2.2.2.2.2.2.2.2.2.2.2.2.2.2.2.2.2.1)
    have k_xSC : xSC W := by
      have r4_226 : W 4 226 = M 4 226 := by rw [hW, sU_ne (fun z => by omega)]
      have r4_227 : W 4 227 = 14 * ρ 0 + 0 := by rw [hW, sU_at]
      have r4_219 : W 4 219 = M 4 219 := by rw [hW, sU_ne (fun z => by omega)]
      intro h
      rw [r4_227, r4_219, h0]
      refine ⟨by omega, by omega, ?_⟩
      have e1 := tki_on (x := M 4 219) (w := 13) (show tLa[13]? = some (412307456 : Int) from rfl)
      rw [if_neg (by omega)] at e1
      rw [show M 4 227 = 13 by omega] at l3
      rw [← l3]
      exact e1.symm
    have k_xSD : xSD W := by
      rw [hW]
      exact (uxSD rfl hI.2.2.2.2.2.2.2.2.2.2.2.2.2.2.2.2.2.2.2.2.2.2.2.2.2.2.2.2.2.2.2.2.2.2.2.1)
    have k_xSE : xSE W := by
      rw [hW]
      exact (uxSE rfl hI.2.2.2.2.2.2.2.2.2.2.2.2.2.2.2.2.2.2.2.2.2.2.2.2.2.2.2.2.2.2.2.2.2.2.2.2.1)
    have k_xSW : xSW W := by
      rw [hW]
      exact (uxSW rfl hI.2.2.2.2.2.2.2.2.2.2.2.2.2.2.2.2.2.2.2.2.2.2.2.2.2.2.2.2.2.2.2.2.2.2.2.2.2.1)
    have k_xST : xST W := by
      rw [hW]
      exact (uxST rfl hI.2.2.2.2.2.2.2.2.2.2.2.2.2.2.2.2.2.2.2.2.2.2.2.2.2.2.2.2.2.2.2.2.2.2.2.2.2.2.1)
    have k_xSP : xSP W := by
      rw [hW]
      exact (uxSP rfl hI.2.2.2.2.2.2.2.2.2.2.2.2.2.2.2.2.2.2.2.2.2.2.2.2.2.2.2.2.2.2.2.2.2.2.2.2.2.2.2.1)
    have k_xSL : xSL W := by
      rw [hW]
      exact (uxSL rfl hI.2.2.2.2.2.2.2.2.2.2.2.2.2.2.2.2.2.2.2.2.2.2.2.2.2.2.2.2.2.2.2.2.2.2.2.2.2.2.2.2.1)
    have k_xSM : xSM W := by
      rw [hW]
      exact (uxSM rfl hI.2.2.2.2.2.2.2.2.2.2.2.2.2.2.2.2.2.2.2.2.2.2.2.2.2.2.2.2.2.2.2.2.2.2.2.2.2.2.2.2.2.1)
    have k_xSI : xSI W := by
      rw [hW]
      exact (uxSI rfl hI.2.2.2.2.2.2.2.2.2.2.2.2.2.2.2.2.2.2.2.2.2.2.2.2.2.2.2.2.2.2.2.2.2.2.2.2.2.2.2.2.2.2)
    have k_XC : XC W := ⟨k_xS1, k_xS2, k_xS3, k_xS4, k_xS5, k_xS6, k_xS7, k_xS8, k_xS9, k_xSA, k_xSG, k_xSF, k_xSB, k_xSC, k_xSD, k_xSE, k_xSW, k_xST, k_xSP, k_xSL, k_xSM, k_xSI⟩
    have kXB : XB W := ⟨k_xN1, k_xN2, k_xN3, k_xN4, k_xN5, k_xN6, k_xH1, k_xK1, k_xC1, k_xRW, k_xWT, k_xCU, k_xG2, k_xG3, k_xG4, k_xG5, k_xG6, k_XC⟩
    exact ⟨base, k2, k3, kXA, kXB⟩
-- wHitR14_c
def xr_498 : qRu := (13, [[(-1, 0), (1, 5)], [(1, 1)], [(-1, 1), (1, 9)], [(1, 1), (-1, 9)], [(-1, 0), (-1, 1), (1, 10)], [(6, 0), (1, 9), (-1, 10)], [(-559296512, 0), (1, 11)], [(559296512, 0), (-1, 11)]], [(4, 210, [(1, 0)]), (4, 211, [(1, 1)]), (4, 101, [(1, 2)]), (3, 46, [(1, 3)]), (3, 47, [(1, 4)]), (4, 100, [(1, 5)]), (3, 44, [(1, 6)]), (3, 45, [(1, 7)]), (4, 107, [(1, 8)]), (4, 214, [(1, 0)]), (4, 215, [(1, 9)]), (4, 217, [(1, 10)]), (4, 219, [(1, 11)]), (4, 216, [(1, 12)])], [], [], [[(-1, 1), (1, 3)], [(1, 1), (-1, 3)], [(1, 4), (-1, 10)], [(-1, 4), (1, 10)], [(-32, 0), (1, 6)], [(32, 0), (-1, 6)], [(1, 7), (-1, 11)], [(-1, 7), (1, 11)]])
theorem xo_498 : qRok xr_498 := by
  intro ρ M h0 hf hm hI
  have f0 := hf [(-1, 0), (1, 5)] (by decide)
  have f1 := hf [(1, 1)] (by decide)
  have f2 := hf [(-1, 1), (1, 9)] (by decide)
  have f3 := hf [(1, 1), (-1, 9)] (by decide)
  have f4 := hf [(-1, 0), (-1, 1), (1, 10)] (by decide)
  have f5 := hf [(6, 0), (1, 9), (-1, 10)] (by decide)
  have f6 := hf [(-559296512, 0), (1, 11)] (by decide)
  have f7 := hf [(559296512, 0), (-1, 11)] (by decide)
  simp only [qD, h0] at f0 f1 f2 f3 f4 f5 f6 f7
  have m0 : M 4 210 = 1 * ρ 0 + 0 := hm (4, 210, [(1, 0)]) (by decide)
  have m1 : M 4 211 = 1 * ρ 1 + 0 := hm (4, 211, [(1, 1)]) (by decide)
  have m2 : M 4 101 = 1 * ρ 2 + 0 := hm (4, 101, [(1, 2)]) (by decide)
  have m3 : M 3 46 = 1 * ρ 3 + 0 := hm (3, 46, [(1, 3)]) (by decide)
  have m4 : M 3 47 = 1 * ρ 4 + 0 := hm (3, 47, [(1, 4)]) (by decide)
  have m5 : M 4 100 = 1 * ρ 5 + 0 := hm (4, 100, [(1, 5)]) (by decide)
  have m6 : M 3 44 = 1 * ρ 6 + 0 := hm (3, 44, [(1, 6)]) (by decide)
  have m7 : M 3 45 = 1 * ρ 7 + 0 := hm (3, 45, [(1, 7)]) (by decide)
  have m8 : M 4 107 = 1 * ρ 8 + 0 := hm (4, 107, [(1, 8)]) (by decide)
  have m9 : M 4 214 = 1 * ρ 0 + 0 := hm (4, 214, [(1, 0)]) (by decide)
  have m10 : M 4 215 = 1 * ρ 9 + 0 := hm (4, 215, [(1, 9)]) (by decide)
  have m11 : M 4 217 = 1 * ρ 10 + 0 := hm (4, 217, [(1, 10)]) (by decide)
  have m12 : M 4 219 = 1 * ρ 11 + 0 := hm (4, 219, [(1, 11)]) (by decide)
  have m13 : M 4 216 = 1 * ρ 12 + 0 := hm (4, 216, [(1, 12)]) (by decide)
  simp only [h0] at m0 m9
  obtain ⟨u1, u2, _⟩ := gx_xS8 hI (by omega)

  obtain ⟨a1, a2, a3, a4, a5, a6, a7⟩ := gx_xSA hI (by omega)
  have eq1 : (M 4 215).toNat = (M 4 211).toNat := by omega
  rw [eq1] at a6 a7
  have hgt := ten_gt (g := M 92) (lo := 97) (hi := 122) (n := (M 4 101).toNat) (q := (M 4 211).toNat) (by omega)
  have el1 : (M 4 217 - M 4 215).toNat = tEn (M 92) 97 122 (M 4 101).toNat (M 4 211).toNat - (M 4 211).toNat := by omega
  rw [el1] at a7

  obtain ⟨t1, t2, t3, t4, t5, t6⟩ := tk_of hI (by omega) (by omega) (by omega) (show tAt (M 92) (M 4 101).toNat (M 4 211).toNat (M 4 107) (M 4 108) = (32, M 4 219, ((M 4 211).toNat : Int), M 4 217, 0, 14) from by
    unfold tAt
    rw [if_neg (by omega), if_pos hgt.2]
    unfold tWo
    rw [← a7, ← a6]
    have hk : tKi (M 4 219) 0 = 32 := by
      rw [show M 4 219 = 559296512 by omega]
      decide
    have h6 : ¬ (6 < tEn (M 92) 97 122 (M 4 101).toNat (M 4 211).toNat - (M 4 211).toNat) := by omega
    unfold tWk tWs tWv
    rw [if_neg h6, if_neg h6, if_neg h6, hk]
    rfl)
  refine ⟨ρ, fun _ _ => rfl, fun f h => ?_, ?_⟩
  · have h : f ∈ ([[(-1, 1), (1, 3)], [(1, 1), (-1, 3)], [(1, 4), (-1, 10)], [(-1, 4), (1, 10)], [(-32, 0), (1, 6)], [(32, 0), (-1, 6)], [(1, 7), (-1, 11)], [(-1, 7), (1, 11)]] : List qF) := h
    simp only [List.mem_cons, List.not_mem_nil, or_false] at h
    rcases h with rfl | rfl | rfl | rfl | rfl | rfl | rfl | rfl
    · show 0 ≤ -1 * ρ 1 + (1 * ρ 3 + 0)
      (try rw [h0]); omega
    · show 0 ≤ 1 * ρ 1 + (-1 * ρ 3 + 0)
      (try rw [h0]); omega
    · show 0 ≤ 1 * ρ 4 + (-1 * ρ 10 + 0)
      (try rw [h0]); omega
    · show 0 ≤ -1 * ρ 4 + (1 * ρ 10 + 0)
      (try rw [h0]); omega
    · show 0 ≤ -32 * ρ 0 + (1 * ρ 6 + 0)
      (try rw [h0]); omega
    · show 0 ≤ 32 * ρ 0 + (-1 * ρ 6 + 0)
      (try rw [h0]); omega
    · show 0 ≤ 1 * ρ 7 + (-1 * ρ 11 + 0)
      (try rw [h0]); omega
    · show 0 ≤ -1 * ρ 7 + (1 * ρ 11 + 0)
      (try rw [h0]); omega
  · show sI M
    exact hI
-- wHitR14_r
def xr_499 : qRu := (13, [[(-1, 0), (1, 5)], [(1, 1)], [(-1, 1), (1, 9)], [(1, 1), (-1, 9)], [(-1, 0), (-1, 1), (1, 10)], [(6, 0), (1, 9), (-1, 10)], [(-559296512, 0), (1, 11)], [(559296512, 0), (-1, 11)]], [(4, 210, [(1, 0)]), (4, 211, [(1, 1)]), (4, 101, [(1, 2)]), (3, 46, [(1, 3)]), (3, 47, [(1, 4)]), (4, 100, [(1, 5)]), (3, 50, [(1, 6)]), (3, 51, [(1, 7)]), (4, 108, [(1, 8)]), (4, 214, [(1, 0)]), (4, 215, [(1, 9)]), (4, 217, [(1, 10)]), (4, 219, [(1, 11)]), (4, 216, [(1, 12)])], [], [], [[(-1, 1), (1, 3)], [(1, 1), (-1, 3)], [(1, 4), (-1, 10)], [(-1, 4), (1, 10)], [(1, 6)], [(-1, 6)], [(-14, 0), (1, 7)], [(14, 0), (-1, 7)]])
theorem xo_499 : qRok xr_499 := by
  intro ρ M h0 hf hm hI
  have f0 := hf [(-1, 0), (1, 5)] (by decide)
  have f1 := hf [(1, 1)] (by decide)
  have f2 := hf [(-1, 1), (1, 9)] (by decide)
  have f3 := hf [(1, 1), (-1, 9)] (by decide)
  have f4 := hf [(-1, 0), (-1, 1), (1, 10)] (by decide)
  have f5 := hf [(6, 0), (1, 9), (-1, 10)] (by decide)
  have f6 := hf [(-559296512, 0), (1, 11)] (by decide)
  have f7 := hf [(559296512, 0), (-1, 11)] (by decide)
  simp only [qD, h0] at f0 f1 f2 f3 f4 f5 f6 f7
  have m0 : M 4 210 = 1 * ρ 0 + 0 := hm (4, 210, [(1, 0)]) (by decide)
  have m1 : M 4 211 = 1 * ρ 1 + 0 := hm (4, 211, [(1, 1)]) (by decide)
  have m2 : M 4 101 = 1 * ρ 2 + 0 := hm (4, 101, [(1, 2)]) (by decide)
  have m3 : M 3 46 = 1 * ρ 3 + 0 := hm (3, 46, [(1, 3)]) (by decide)
  have m4 : M 3 47 = 1 * ρ 4 + 0 := hm (3, 47, [(1, 4)]) (by decide)
  have m5 : M 4 100 = 1 * ρ 5 + 0 := hm (4, 100, [(1, 5)]) (by decide)
  have m6 : M 3 50 = 1 * ρ 6 + 0 := hm (3, 50, [(1, 6)]) (by decide)
  have m7 : M 3 51 = 1 * ρ 7 + 0 := hm (3, 51, [(1, 7)]) (by decide)
  have m8 : M 4 108 = 1 * ρ 8 + 0 := hm (4, 108, [(1, 8)]) (by decide)
  have m9 : M 4 214 = 1 * ρ 0 + 0 := hm (4, 214, [(1, 0)]) (by decide)
  have m10 : M 4 215 = 1 * ρ 9 + 0 := hm (4, 215, [(1, 9)]) (by decide)
  have m11 : M 4 217 = 1 * ρ 10 + 0 := hm (4, 217, [(1, 10)]) (by decide)
  have m12 : M 4 219 = 1 * ρ 11 + 0 := hm (4, 219, [(1, 11)]) (by decide)
  have m13 : M 4 216 = 1 * ρ 12 + 0 := hm (4, 216, [(1, 12)]) (by decide)
  simp only [h0] at m0 m9
  obtain ⟨u1, u2, _⟩ := gx_xS8 hI (by omega)

  obtain ⟨a1, a2, a3, a4, a5, a6, a7⟩ := gx_xSA hI (by omega)
  have eq1 : (M 4 215).toNat = (M 4 211).toNat := by omega
  rw [eq1] at a6 a7
  have hgt := ten_gt (g := M 92) (lo := 97) (hi := 122) (n := (M 4 101).toNat) (q := (M 4 211).toNat) (by omega)
  have el1 : (M 4 217 - M 4 215).toNat = tEn (M 92) 97 122 (M 4 101).toNat (M 4 211).toNat - (M 4 211).toNat := by omega
  rw [el1] at a7

  obtain ⟨t1, t2, t3, t4, t5, t6⟩ := tk_of hI (by omega) (by omega) (by omega) (show tAt (M 92) (M 4 101).toNat (M 4 211).toNat (M 4 107) (M 4 108) = (32, M 4 219, ((M 4 211).toNat : Int), M 4 217, 0, 14) from by
    unfold tAt
    rw [if_neg (by omega), if_pos hgt.2]
    unfold tWo
    rw [← a7, ← a6]
    have hk : tKi (M 4 219) 0 = 32 := by
      rw [show M 4 219 = 559296512 by omega]
      decide
    have h6 : ¬ (6 < tEn (M 92) 97 122 (M 4 101).toNat (M 4 211).toNat - (M 4 211).toNat) := by omega
    unfold tWk tWs tWv
    rw [if_neg h6, if_neg h6, if_neg h6, hk]
    rfl)
  refine ⟨ρ, fun _ _ => rfl, fun f h => ?_, ?_⟩
  · have h : f ∈ ([[(-1, 1), (1, 3)], [(1, 1), (-1, 3)], [(1, 4), (-1, 10)], [(-1, 4), (1, 10)], [(1, 6)], [(-1, 6)], [(-14, 0), (1, 7)], [(14, 0), (-1, 7)]] : List qF) := h
    simp only [List.mem_cons, List.not_mem_nil, or_false] at h
    rcases h with rfl | rfl | rfl | rfl | rfl | rfl | rfl | rfl
    · show 0 ≤ -1 * ρ 1 + (1 * ρ 3 + 0)
      (try rw [h0]); omega
    · show 0 ≤ 1 * ρ 1 + (-1 * ρ 3 + 0)
      (try rw [h0]); omega
    · show 0 ≤ 1 * ρ 4 + (-1 * ρ 10 + 0)
      (try rw [h0]); omega
    · show 0 ≤ -1 * ρ 4 + (1 * ρ 10 + 0)
      (try rw [h0]); omega
    · show 0 ≤ 1 * ρ 6 + 0
      (try rw [h0]); omega
    · show 0 ≤ -1 * ρ 6 + 0
      (try rw [h0]); omega
    · show 0 ≤ -14 * ρ 0 + (1 * ρ 7 + 0)
      (try rw [h0]); omega
    · show 0 ≤ 14 * ρ 0 + (-1 * ρ 7 + 0)
      (try rw [h0]); omega
  · show sI M
    exact hI
-- langMissR14L
def xr_500 : qRu := (3, [[(559296511, 0), (-1, 2)]], [(4, 226, [(1, 0)]), (4, 227, [(14, 0)]), (4, 219, [(1, 2)])], [], [(4, 227, [(15, 0)])], [])
theorem xo_500 : qRok xr_500 := by
  intro ρ M h0 hf hm hI
  have f0 := hf [(559296511, 0), (-1, 2)] (by decide)
  simp only [qD, h0] at f0
  have m0 : M 4 226 = 1 * ρ 0 + 0 := hm (4, 226, [(1, 0)]) (by decide)
  have m1 : M 4 227 = 14 * ρ 0 + 0 := hm (4, 227, [(14, 0)]) (by decide)
  have m2 : M 4 219 = 1 * ρ 2 + 0 := hm (4, 219, [(1, 2)]) (by decide)
  simp only [h0] at m0 m1
  have qxSC := hI.2.2.2.2.2.2.2.2.2.2.2.2.2.2.2.2.2.2.2.2.2.2.2.2.2.2.2.2.2.2.2.2.2.2.1
  obtain ⟨l1, l2, l3⟩ := gx_xSC hI (by omega)
  refine ⟨ρ, fun _ _ => rfl, fun f h => ?_, ?_⟩
  · exact nomatch h
  · show sI (sU M 4 227 (15 * ρ 0 + 0))
    obtain ⟨W, hW⟩ : ∃ W, W = (sU M 4 227 (15 * ρ 0 + 0)) := ⟨_, rfl⟩
    rw [← hW]
    have base : sI0 W := by
      rw [hW]
      exact (si_u0 hI.1 (fun r hr => by cases hr))
    have k2 : XI2 W := by
      rw [hW]
      exact (xi2_u rfl hI.2.1)
    have k3 : XI3 W := by
      rw [hW]
      exact (xi3_u rfl hI.2.2.1)
    have kXA : XA W := by
      rw [hW]
      exact (uXA rfl hI.2.2.2.1)
    have k_xN1 : xN1 W := by
      rw [hW]
      exact (uxN1 rfl hI.2.2.2.2.1)
    have k_xN2 : xN2 W := by
      rw [hW]
      exact (uxN2 rfl hI.2.2.2.2.2.1)
    have k_xN3 : xN3 W := by
      rw [hW]
      exact (uxN3 rfl hI.2.2.2.2.2.2.1)
    have k_xN4 : xN4 W := by
      rw [hW]
      exact (uxN4 rfl hI.2.2.2.2.2.2.2.1)
    have k_xN5 : xN5 W := by
      rw [hW]
      exact (uxN5 rfl hI.2.2.2.2.2.2.2.2.1)
    have k_xN6 : xN6 W := by
      rw [hW]
      exact (uxN6 rfl hI.2.2.2.2.2.2.2.2.2.1)
    have k_xH1 : xH1 W := by
      rw [hW]
      exact (uxH1 rfl hI.2.2.2.2.2.2.2.2.2.2.1)
    have k_xK1 : xK1 W := by
      rw [hW]
      exact (uxK1 rfl hI.2.2.2.2.2.2.2.2.2.2.2.1)
    have k_xC1 : xC1 W := by
      rw [hW]
      exact (uxC1 rfl hI.2.2.2.2.2.2.2.2.2.2.2.2.1)
    have k_xRW : xRW W := by
      rw [hW]
      exact (uxRW rfl hI.2.2.2.2.2.2.2.2.2.2.2.2.2.1)
    have k_xWT : xWT W := by
      rw [hW]
      exact (uxWT rfl hI.2.2.2.2.2.2.2.2.2.2.2.2.2.2.1)
    have k_xCU : xCU W := by
      rw [hW]
      exact (uxCU rfl hI.2.2.2.2.2.2.2.2.2.2.2.2.2.2.2.1)
    have k_xG2 : xG2 W := by
      rw [hW]
      exact (uxG2 rfl hI.2.2.2.2.2.2.2.2.2.2.2.2.2.2.2.2.1)
    have k_xG3 : xG3 W := by
      rw [hW]
      exact (uxG3 rfl hI.2.2.2.2.2.2.2.2.2.2.2.2.2.2.2.2.2.1)
    have k_xG4 : xG4 W := by
      rw [hW]
      exact (uxG4 rfl hI.2.2.2.2.2.2.2.2.2.2.2.2.2.2.2.2.2.2.1)
    have k_xG5 : xG5 W := by
      rw [hW]
      exact (uxG5 rfl hI.2.2.2.2.2.2.2.2.2.2.2.2.2.2.2.2.2.2.2.1)
    have k_xG6 : xG6 W := by
      rw [hW]
      exact (uxG6 rfl hI.2.2.2.2.2.2.2.2.2.2.2.2.2.2.2.2.2.2.2.2.1)
    have k_xS1 : xS1 W := by
      rw [hW]
      exact (uxS1 rfl hI.2.2.2.2.2.2.2.2.2.2.2.2.2.2.2.2.2.2.2.2.2.1)
    have k_xS2 : xS2 W := by
      rw [hW]
      exact (uxS2 rfl hI.2.2.2.2.2.2.2.2.2.2.2.2.2.2.2.2.2.2.2.2.2.2.1)
    have k_xS3 : xS3 W := by
      rw [hW]
      exact (uxS3 rfl hI.2.2.2.2.2.2.2.2.2.2.2.2.2.2.2.2.2.2.2.2.2.2.2.1)
    have k_xS4 : xS4 W := by
      rw [hW]
      exact (uxS4 rfl hI.2.2.2.2.2.2.2.2.2.2.2.2.2.2.2.2.2.2.2.2.2.2.2.2.1)
    have k_xS5 : xS5 W := by
      rw [hW]
      exact (uxS5 rfl hI.2.2.2.2.2.2.2.2.2.2.2.2.2.2.2.2.2.2.2.2.2.2.2.2.2.1)
    have k_xS6 : xS6 W := by
      rw [hW]
      exact (uxS6 rfl hI.2.2.2.2.2.2.2.2.2.2.2.2.2.2.2.2.2.2.2.2.2.2.2.2.2.2.1)
    have k_xS7 : xS7 W := by
      rw [hW]
      exact (uxS7 rfl hI.2.2.2.2.2.2.2.2.2.2.2.2.2.2.2.2.2.2.2.2.2.2.2.2.2.2.2.1)
    have k_xS8 : xS8 W := by
      rw [hW]
      exact (uxS8 rfl hI.2.2.2.2.2.2.2.2.2.2.2.2.2.2.2.2.2.2.2.2.2.2.2.2.2.2.2.2.1)
    have k_xS9 : xS9 W := by
      rw [hW]
      exact (uxS9 rfl hI.2.2.2.2.2.2.2.2.2.2.2.2.2.2.2.2.2.2.2.2.2.2.2.2.2.2.2.2.2.1)
    have k_xSA : xSA W := by
      rw [hW]
      exact (uxSA rfl hI.2.2.2.2.2.2.2.2.2.2.2.2.2.2.2.2.2.2.2.2.2.2.2.2.2.2.2.2.2.2.1)
    have k_xSG : xSG W := by
      rw [hW]
      exact (uxSG rfl hI.2.2.2.2.2.2.2.2.2.2.2.2.2.2.2.2.2.2.2.2.2.2.2.2.2.2.2.2.2.2.2.1)
    have k_xSF : xSF W := by
      rw [hW]
      exact (uxSF rfl hI.2.2.2.2.2.2.2.2.2.2.2.2.2.2.2.2.2.2.2.2.2.2.2.2.2.2.2.2.2.2.2.2.1)
    have k_xSB : xSB W := by
      rw [hW]
      exact (uxSB rfl hI.2.2.2.2.2.2.2.2.2.2.2.2.2.2.2.2.2.2.2.2.2.2.2.2.2.2.2.2.2.2.2.2.2.1)
    have k_xSC : xSC W := by
      have r4_226 : W 4 226 = M 4 226 := by rw [hW, sU_ne (fun z => by omega)]
      have r4_227 : W 4 227 = 15 * ρ 0 + 0 := by rw [hW, sU_at]
      have r4_219 : W 4 219 = M 4 219 := by rw [hW, sU_ne (fun z => by omega)]
      intro h
      rw [r4_227, r4_219, h0]
      refine ⟨by omega, by omega, ?_⟩
      have e1 := tki_on (x := M 4 219) (w := 14) (show tLa[14]? = some (559296512 : Int) from rfl)
      rw [if_neg (by omega)] at e1
      rw [show M 4 227 = 14 by omega] at l3
      rw [← l3]
      exact e1.symm
    have k_xSD : xSD W := by
      rw [hW]
      exact (uxSD rfl hI.2.2.2.2.2.2.2.2.2.2.2.2.2.2.2.2.2.2.2.2.2.2.2.2.2.2.2.2.2.2.2.2.2.2.2.1)
    have k_xSE : xSE W := by
      rw [hW]
      exact (uxSE rfl hI.2.2.2.2.2.2.2.2.2.2.2.2.2.2.2.2.2.2.2.2.2.2.2.2.2.2.2.2.2.2.2.2.2.2.2.2.1)
    have k_xSW : xSW W := by
      rw [hW]
      exact (uxSW rfl hI.2.2.2.2.2.2.2.2.2.2.2.2.2.2.2.2.2.2.2.2.2.2.2.2.2.2.2.2.2.2.2.2.2.2.2.2.2.1)
    have k_xST : xST W := by
      rw [hW]
      exact (uxST rfl hI.2.2.2.2.2.2.2.2.2.2.2.2.2.2.2.2.2.2.2.2.2.2.2.2.2.2.2.2.2.2.2.2.2.2.2.2.2.2.1)
    have k_xSP : xSP W := by
      rw [hW]
      exact (uxSP rfl hI.2.2.2.2.2.2.2.2.2.2.2.2.2.2.2.2.2.2.2.2.2.2.2.2.2.2.2.2.2.2.2.2.2.2.2.2.2.2.2.1)
    have k_xSL : xSL W := by
      rw [hW]
      exact (uxSL rfl hI.2.2.2.2.2.2.2.2.2.2.2.2.2.2.2.2.2.2.2.2.2.2.2.2.2.2.2.2.2.2.2.2.2.2.2.2.2.2.2.2.1)
    have k_xSM : xSM W := by
      rw [hW]
      exact (uxSM rfl hI.2.2.2.2.2.2.2.2.2.2.2.2.2.2.2.2.2.2.2.2.2.2.2.2.2.2.2.2.2.2.2.2.2.2.2.2.2.2.2.2.2.1)
    have k_xSI : xSI W := by
      rw [hW]
      exact (uxSI rfl hI.2.2.2.2.2.2.2.2.2.2.2.2.2.2.2.2.2.2.2.2.2.2.2.2.2.2.2.2.2.2.2.2.2.2.2.2.2.2.2.2.2.2)
    have k_XC : XC W := ⟨k_xS1, k_xS2, k_xS3, k_xS4, k_xS5, k_xS6, k_xS7, k_xS8, k_xS9, k_xSA, k_xSG, k_xSF, k_xSB, k_xSC, k_xSD, k_xSE, k_xSW, k_xST, k_xSP, k_xSL, k_xSM, k_xSI⟩
    have kXB : XB W := ⟨k_xN1, k_xN2, k_xN3, k_xN4, k_xN5, k_xN6, k_xH1, k_xK1, k_xC1, k_xRW, k_xWT, k_xCU, k_xG2, k_xG3, k_xG4, k_xG5, k_xG6, k_XC⟩
    exact ⟨base, k2, k3, kXA, kXB⟩
-- langMissR14H
def xr_501 : qRu := (3, [[(-559296513, 0), (1, 2)]], [(4, 226, [(1, 0)]), (4, 227, [(14, 0)]), (4, 219, [(1, 2)])], [], [(4, 227, [(15, 0)])], [])
theorem xo_501 : qRok xr_501 := by
  intro ρ M h0 hf hm hI
  have f0 := hf [(-559296513, 0), (1, 2)] (by decide)
  simp only [qD, h0] at f0
  have m0 : M 4 226 = 1 * ρ 0 + 0 := hm (4, 226, [(1, 0)]) (by decide)
  have m1 : M 4 227 = 14 * ρ 0 + 0 := hm (4, 227, [(14, 0)]) (by decide)
  have m2 : M 4 219 = 1 * ρ 2 + 0 := hm (4, 219, [(1, 2)]) (by decide)
  simp only [h0] at m0 m1
  have qxSC := hI.2.2.2.2.2.2.2.2.2.2.2.2.2.2.2.2.2.2.2.2.2.2.2.2.2.2.2.2.2.2.2.2.2.2.1
  obtain ⟨l1, l2, l3⟩ := gx_xSC hI (by omega)
  refine ⟨ρ, fun _ _ => rfl, fun f h => ?_, ?_⟩
  · exact nomatch h
  · show sI (sU M 4 227 (15 * ρ 0 + 0))
    obtain ⟨W, hW⟩ : ∃ W, W = (sU M 4 227 (15 * ρ 0 + 0)) := ⟨_, rfl⟩
    rw [← hW]
    have base : sI0 W := by
      rw [hW]
      exact (si_u0 hI.1 (fun r hr => by cases hr))
    have k2 : XI2 W := by
      rw [hW]
      exact (xi2_u rfl hI.2.1)
    have k3 : XI3 W := by
      rw [hW]
      exact (xi3_u rfl hI.2.2.1)
    have kXA : XA W := by
      rw [hW]
      exact (uXA rfl hI.2.2.2.1)
    have k_xN1 : xN1 W := by
      rw [hW]
      exact (uxN1 rfl hI.2.2.2.2.1)
    have k_xN2 : xN2 W := by
      rw [hW]
      exact (uxN2 rfl hI.2.2.2.2.2.1)
    have k_xN3 : xN3 W := by
      rw [hW]
      exact (uxN3 rfl hI.2.2.2.2.2.2.1)
    have k_xN4 : xN4 W := by
      rw [hW]
      exact (uxN4 rfl hI.2.2.2.2.2.2.2.1)
    have k_xN5 : xN5 W := by
      rw [hW]
      exact (uxN5 rfl hI.2.2.2.2.2.2.2.2.1)
    have k_xN6 : xN6 W := by
      rw [hW]
      exact (uxN6 rfl hI.2.2.2.2.2.2.2.2.2.1)
    have k_xH1 : xH1 W := by
      rw [hW]
      exact (uxH1 rfl hI.2.2.2.2.2.2.2.2.2.2.1)
    have k_xK1 : xK1 W := by
      rw [hW]
      exact (uxK1 rfl hI.2.2.2.2.2.2.2.2.2.2.2.1)
    have k_xC1 : xC1 W := by
      rw [hW]
      exact (uxC1 rfl hI.2.2.2.2.2.2.2.2.2.2.2.2.1)
    have k_xRW : xRW W := by
      rw [hW]
      exact (uxRW rfl hI.2.2.2.2.2.2.2.2.2.2.2.2.2.1)
    have k_xWT : xWT W := by
      rw [hW]
      exact (uxWT rfl hI.2.2.2.2.2.2.2.2.2.2.2.2.2.2.1)
    have k_xCU : xCU W := by
      rw [hW]
      exact (uxCU rfl hI.2.2.2.2.2.2.2.2.2.2.2.2.2.2.2.1)
    have k_xG2 : xG2 W := by
      rw [hW]
      exact (uxG2 rfl hI.2.2.2.2.2.2.2.2.2.2.2.2.2.2.2.2.1)
    have k_xG3 : xG3 W := by
      rw [hW]
      exact (uxG3 rfl hI.2.2.2.2.2.2.2.2.2.2.2.2.2.2.2.2.2.1)
    have k_xG4 : xG4 W := by
      rw [hW]
      exact (uxG4 rfl hI.2.2.2.2.2.2.2.2.2.2.2.2.2.2.2.2.2.2.1)
    have k_xG5 : xG5 W := by
      rw [hW]
      exact (uxG5 rfl hI.2.2.2.2.2.2.2.2.2.2.2.2.2.2.2.2.2.2.2.1)
    have k_xG6 : xG6 W := by
      rw [hW]
      exact (uxG6 rfl hI.2.2.2.2.2.2.2.2.2.2.2.2.2.2.2.2.2.2.2.2.1)
    have k_xS1 : xS1 W := by
      rw [hW]
      exact (uxS1 rfl hI.2.2.2.2.2.2.2.2.2.2.2.2.2.2.2.2.2.2.2.2.2.1)
    have k_xS2 : xS2 W := by
      rw [hW]
      exact (uxS2 rfl hI.2.2.2.2.2.2.2.2.2.2.2.2.2.2.2.2.2.2.2.2.2.2.1)
    have k_xS3 : xS3 W := by
      rw [hW]
      exact (uxS3 rfl hI.2.2.2.2.2.2.2.2.2.2.2.2.2.2.2.2.2.2.2.2.2.2.2.1)
    have k_xS4 : xS4 W := by
      rw [hW]
      exact (uxS4 rfl hI.2.2.2.2.2.2.2.2.2.2.2.2.2.2.2.2.2.2.2.2.2.2.2.2.1)
    have k_xS5 : xS5 W := by
      rw [hW]
      exact (uxS5 rfl hI.2.2.2.2.2.2.2.2.2.2.2.2.2.2.2.2.2.2.2.2.2.2.2.2.2.1)
    have k_xS6 : xS6 W := by
      rw [hW]
      exact (uxS6 rfl hI.2.2.2.2.2.2.2.2.2.2.2.2.2.2.2.2.2.2.2.2.2.2.2.2.2.2.1)
    have k_xS7 : xS7 W := by
      rw [hW]
      exact (uxS7 rfl hI.2.2.2.2.2.2.2.2.2.2.2.2.2.2.2.2.2.2.2.2.2.2.2.2.2.2.2.1)
    have k_xS8 : xS8 W := by
      rw [hW]
      exact (uxS8 rfl hI.2.2.2.2.2.2.2.2.2.2.2.2.2.2.2.2.2.2.2.2.2.2.2.2.2.2.2.2.1)
    have k_xS9 : xS9 W := by
      rw [hW]
      exact (uxS9 rfl hI.2.2.2.2.2.2.2.2.2.2.2.2.2.2.2.2.2.2.2.2.2.2.2.2.2.2.2.2.2.1)
    have k_xSA : xSA W := by
      rw [hW]
      exact (uxSA rfl hI.2.2.2.2.2.2.2.2.2.2.2.2.2.2.2.2.2.2.2.2.2.2.2.2.2.2.2.2.2.2.1)
    have k_xSG : xSG W := by
      rw [hW]
      exact (uxSG rfl hI.2.2.2.2.2.2.2.2.2.2.2.2.2.2.2.2.2.2.2.2.2.2.2.2.2.2.2.2.2.2.2.1)
    have k_xSF : xSF W := by
      rw [hW]
      exact (uxSF rfl hI.2.2.2.2.2.2.2.2.2.2.2.2.2.2.2.2.2.2.2.2.2.2.2.2.2.2.2.2.2.2.2.2.1)
    have k_xSB : xSB W := by
      rw [hW]
      exact (uxSB rfl hI.2.2.2.2.2.2.2.2.2.2.2.2.2.2.2.2.2.2.2.2.2.2.2.2.2.2.2.2.2.2.2.2.2.1)
    have k_xSC : xSC W := by
      have r4_226 : W 4 226 = M 4 226 := by rw [hW, sU_ne (fun z => by omega)]
      have r4_227 : W 4 227 = 15 * ρ 0 + 0 := by rw [hW, sU_at]
      have r4_219 : W 4 219 = M 4 219 := by rw [hW, sU_ne (fun z => by omega)]
      intro h
      rw [r4_227, r4_219, h0]
      refine ⟨by omega, by omega, ?_⟩
      have e1 := tki_on (x := M 4 219) (w := 14) (show tLa[14]? = some (559296512 : Int) from rfl)
      rw [if_neg (by omega)] at e1
      rw [show M 4 227 = 14 by omega] at l3
      rw [← l3]
      exact e1.symm
    have k_xSD : xSD W := by
      rw [hW]
      exact (uxSD rfl hI.2.2.2.2.2.2.2.2.2.2.2.2.2.2.2.2.2.2.2.2.2.2.2.2.2.2.2.2.2.2.2.2.2.2.2.1)
    have k_xSE : xSE W := by
      rw [hW]
      exact (uxSE rfl hI.2.2.2.2.2.2.2.2.2.2.2.2.2.2.2.2.2.2.2.2.2.2.2.2.2.2.2.2.2.2.2.2.2.2.2.2.1)
    have k_xSW : xSW W := by
      rw [hW]
      exact (uxSW rfl hI.2.2.2.2.2.2.2.2.2.2.2.2.2.2.2.2.2.2.2.2.2.2.2.2.2.2.2.2.2.2.2.2.2.2.2.2.2.1)
    have k_xST : xST W := by
      rw [hW]
      exact (uxST rfl hI.2.2.2.2.2.2.2.2.2.2.2.2.2.2.2.2.2.2.2.2.2.2.2.2.2.2.2.2.2.2.2.2.2.2.2.2.2.2.1)
    have k_xSP : xSP W := by
      rw [hW]
      exact (uxSP rfl hI.2.2.2.2.2.2.2.2.2.2.2.2.2.2.2.2.2.2.2.2.2.2.2.2.2.2.2.2.2.2.2.2.2.2.2.2.2.2.2.1)
    have k_xSL : xSL W := by
      rw [hW]
      exact (uxSL rfl hI.2.2.2.2.2.2.2.2.2.2.2.2.2.2.2.2.2.2.2.2.2.2.2.2.2.2.2.2.2.2.2.2.2.2.2.2.2.2.2.2.1)
    have k_xSM : xSM W := by
      rw [hW]
      exact (uxSM rfl hI.2.2.2.2.2.2.2.2.2.2.2.2.2.2.2.2.2.2.2.2.2.2.2.2.2.2.2.2.2.2.2.2.2.2.2.2.2.2.2.2.2.1)
    have k_xSI : xSI W := by
      rw [hW]
      exact (uxSI rfl hI.2.2.2.2.2.2.2.2.2.2.2.2.2.2.2.2.2.2.2.2.2.2.2.2.2.2.2.2.2.2.2.2.2.2.2.2.2.2.2.2.2.2)
    have k_XC : XC W := ⟨k_xS1, k_xS2, k_xS3, k_xS4, k_xS5, k_xS6, k_xS7, k_xS8, k_xS9, k_xSA, k_xSG, k_xSF, k_xSB, k_xSC, k_xSD, k_xSE, k_xSW, k_xST, k_xSP, k_xSL, k_xSM, k_xSI⟩
    have kXB : XB W := ⟨k_xN1, k_xN2, k_xN3, k_xN4, k_xN5, k_xN6, k_xH1, k_xK1, k_xC1, k_xRW, k_xWT, k_xCU, k_xG2, k_xG3, k_xG4, k_xG5, k_xG6, k_XC⟩
    exact ⟨base, k2, k3, kXA, kXB⟩
-- wHitR15_c
def xr_502 : qRu := (13, [[(-1, 0), (1, 5)], [(1, 1)], [(-1, 1), (1, 9)], [(1, 1), (-1, 9)], [(-1, 0), (-1, 1), (1, 10)], [(6, 0), (1, 9), (-1, 10)], [(-522190848, 0), (1, 11)], [(522190848, 0), (-1, 11)]], [(4, 210, [(1, 0)]), (4, 211, [(1, 1)]), (4, 101, [(1, 2)]), (3, 46, [(1, 3)]), (3, 47, [(1, 4)]), (4, 100, [(1, 5)]), (3, 44, [(1, 6)]), (3, 45, [(1, 7)]), (4, 107, [(1, 8)]), (4, 214, [(1, 0)]), (4, 215, [(1, 9)]), (4, 217, [(1, 10)]), (4, 219, [(1, 11)]), (4, 216, [(1, 12)])], [], [], [[(-1, 1), (1, 3)], [(1, 1), (-1, 3)], [(1, 4), (-1, 10)], [(-1, 4), (1, 10)], [(-33, 0), (1, 6)], [(33, 0), (-1, 6)], [(1, 7), (-1, 11)], [(-1, 7), (1, 11)]])
theorem xo_502 : qRok xr_502 := by
  intro ρ M h0 hf hm hI
  have f0 := hf [(-1, 0), (1, 5)] (by decide)
  have f1 := hf [(1, 1)] (by decide)
  have f2 := hf [(-1, 1), (1, 9)] (by decide)
  have f3 := hf [(1, 1), (-1, 9)] (by decide)
  have f4 := hf [(-1, 0), (-1, 1), (1, 10)] (by decide)
  have f5 := hf [(6, 0), (1, 9), (-1, 10)] (by decide)
  have f6 := hf [(-522190848, 0), (1, 11)] (by decide)
  have f7 := hf [(522190848, 0), (-1, 11)] (by decide)
  simp only [qD, h0] at f0 f1 f2 f3 f4 f5 f6 f7
  have m0 : M 4 210 = 1 * ρ 0 + 0 := hm (4, 210, [(1, 0)]) (by decide)
  have m1 : M 4 211 = 1 * ρ 1 + 0 := hm (4, 211, [(1, 1)]) (by decide)
  have m2 : M 4 101 = 1 * ρ 2 + 0 := hm (4, 101, [(1, 2)]) (by decide)
  have m3 : M 3 46 = 1 * ρ 3 + 0 := hm (3, 46, [(1, 3)]) (by decide)
  have m4 : M 3 47 = 1 * ρ 4 + 0 := hm (3, 47, [(1, 4)]) (by decide)
  have m5 : M 4 100 = 1 * ρ 5 + 0 := hm (4, 100, [(1, 5)]) (by decide)
  have m6 : M 3 44 = 1 * ρ 6 + 0 := hm (3, 44, [(1, 6)]) (by decide)
  have m7 : M 3 45 = 1 * ρ 7 + 0 := hm (3, 45, [(1, 7)]) (by decide)
  have m8 : M 4 107 = 1 * ρ 8 + 0 := hm (4, 107, [(1, 8)]) (by decide)
  have m9 : M 4 214 = 1 * ρ 0 + 0 := hm (4, 214, [(1, 0)]) (by decide)
  have m10 : M 4 215 = 1 * ρ 9 + 0 := hm (4, 215, [(1, 9)]) (by decide)
  have m11 : M 4 217 = 1 * ρ 10 + 0 := hm (4, 217, [(1, 10)]) (by decide)
  have m12 : M 4 219 = 1 * ρ 11 + 0 := hm (4, 219, [(1, 11)]) (by decide)
  have m13 : M 4 216 = 1 * ρ 12 + 0 := hm (4, 216, [(1, 12)]) (by decide)
  simp only [h0] at m0 m9
  obtain ⟨u1, u2, _⟩ := gx_xS8 hI (by omega)

  obtain ⟨a1, a2, a3, a4, a5, a6, a7⟩ := gx_xSA hI (by omega)
  have eq1 : (M 4 215).toNat = (M 4 211).toNat := by omega
  rw [eq1] at a6 a7
  have hgt := ten_gt (g := M 92) (lo := 97) (hi := 122) (n := (M 4 101).toNat) (q := (M 4 211).toNat) (by omega)
  have el1 : (M 4 217 - M 4 215).toNat = tEn (M 92) 97 122 (M 4 101).toNat (M 4 211).toNat - (M 4 211).toNat := by omega
  rw [el1] at a7

  obtain ⟨t1, t2, t3, t4, t5, t6⟩ := tk_of hI (by omega) (by omega) (by omega) (show tAt (M 92) (M 4 101).toNat (M 4 211).toNat (M 4 107) (M 4 108) = (33, M 4 219, ((M 4 211).toNat : Int), M 4 217, 0, 15) from by
    unfold tAt
    rw [if_neg (by omega), if_pos hgt.2]
    unfold tWo
    rw [← a7, ← a6]
    have hk : tKi (M 4 219) 0 = 33 := by
      rw [show M 4 219 = 522190848 by omega]
      decide
    have h6 : ¬ (6 < tEn (M 92) 97 122 (M 4 101).toNat (M 4 211).toNat - (M 4 211).toNat) := by omega
    unfold tWk tWs tWv
    rw [if_neg h6, if_neg h6, if_neg h6, hk]
    rfl)
  refine ⟨ρ, fun _ _ => rfl, fun f h => ?_, ?_⟩
  · have h : f ∈ ([[(-1, 1), (1, 3)], [(1, 1), (-1, 3)], [(1, 4), (-1, 10)], [(-1, 4), (1, 10)], [(-33, 0), (1, 6)], [(33, 0), (-1, 6)], [(1, 7), (-1, 11)], [(-1, 7), (1, 11)]] : List qF) := h
    simp only [List.mem_cons, List.not_mem_nil, or_false] at h
    rcases h with rfl | rfl | rfl | rfl | rfl | rfl | rfl | rfl
    · show 0 ≤ -1 * ρ 1 + (1 * ρ 3 + 0)
      (try rw [h0]); omega
    · show 0 ≤ 1 * ρ 1 + (-1 * ρ 3 + 0)
      (try rw [h0]); omega
    · show 0 ≤ 1 * ρ 4 + (-1 * ρ 10 + 0)
      (try rw [h0]); omega
    · show 0 ≤ -1 * ρ 4 + (1 * ρ 10 + 0)
      (try rw [h0]); omega
    · show 0 ≤ -33 * ρ 0 + (1 * ρ 6 + 0)
      (try rw [h0]); omega
    · show 0 ≤ 33 * ρ 0 + (-1 * ρ 6 + 0)
      (try rw [h0]); omega
    · show 0 ≤ 1 * ρ 7 + (-1 * ρ 11 + 0)
      (try rw [h0]); omega
    · show 0 ≤ -1 * ρ 7 + (1 * ρ 11 + 0)
      (try rw [h0]); omega
  · show sI M
    exact hI
-- wHitR15_r
def xr_503 : qRu := (13, [[(-1, 0), (1, 5)], [(1, 1)], [(-1, 1), (1, 9)], [(1, 1), (-1, 9)], [(-1, 0), (-1, 1), (1, 10)], [(6, 0), (1, 9), (-1, 10)], [(-522190848, 0), (1, 11)], [(522190848, 0), (-1, 11)]], [(4, 210, [(1, 0)]), (4, 211, [(1, 1)]), (4, 101, [(1, 2)]), (3, 46, [(1, 3)]), (3, 47, [(1, 4)]), (4, 100, [(1, 5)]), (3, 50, [(1, 6)]), (3, 51, [(1, 7)]), (4, 108, [(1, 8)]), (4, 214, [(1, 0)]), (4, 215, [(1, 9)]), (4, 217, [(1, 10)]), (4, 219, [(1, 11)]), (4, 216, [(1, 12)])], [], [], [[(-1, 1), (1, 3)], [(1, 1), (-1, 3)], [(1, 4), (-1, 10)], [(-1, 4), (1, 10)], [(1, 6)], [(-1, 6)], [(-15, 0), (1, 7)], [(15, 0), (-1, 7)]])
theorem xo_503 : qRok xr_503 := by
  intro ρ M h0 hf hm hI
  have f0 := hf [(-1, 0), (1, 5)] (by decide)
  have f1 := hf [(1, 1)] (by decide)
  have f2 := hf [(-1, 1), (1, 9)] (by decide)
  have f3 := hf [(1, 1), (-1, 9)] (by decide)
  have f4 := hf [(-1, 0), (-1, 1), (1, 10)] (by decide)
  have f5 := hf [(6, 0), (1, 9), (-1, 10)] (by decide)
  have f6 := hf [(-522190848, 0), (1, 11)] (by decide)
  have f7 := hf [(522190848, 0), (-1, 11)] (by decide)
  simp only [qD, h0] at f0 f1 f2 f3 f4 f5 f6 f7
  have m0 : M 4 210 = 1 * ρ 0 + 0 := hm (4, 210, [(1, 0)]) (by decide)
  have m1 : M 4 211 = 1 * ρ 1 + 0 := hm (4, 211, [(1, 1)]) (by decide)
  have m2 : M 4 101 = 1 * ρ 2 + 0 := hm (4, 101, [(1, 2)]) (by decide)
  have m3 : M 3 46 = 1 * ρ 3 + 0 := hm (3, 46, [(1, 3)]) (by decide)
  have m4 : M 3 47 = 1 * ρ 4 + 0 := hm (3, 47, [(1, 4)]) (by decide)
  have m5 : M 4 100 = 1 * ρ 5 + 0 := hm (4, 100, [(1, 5)]) (by decide)
  have m6 : M 3 50 = 1 * ρ 6 + 0 := hm (3, 50, [(1, 6)]) (by decide)
  have m7 : M 3 51 = 1 * ρ 7 + 0 := hm (3, 51, [(1, 7)]) (by decide)
  have m8 : M 4 108 = 1 * ρ 8 + 0 := hm (4, 108, [(1, 8)]) (by decide)
  have m9 : M 4 214 = 1 * ρ 0 + 0 := hm (4, 214, [(1, 0)]) (by decide)
  have m10 : M 4 215 = 1 * ρ 9 + 0 := hm (4, 215, [(1, 9)]) (by decide)
  have m11 : M 4 217 = 1 * ρ 10 + 0 := hm (4, 217, [(1, 10)]) (by decide)
  have m12 : M 4 219 = 1 * ρ 11 + 0 := hm (4, 219, [(1, 11)]) (by decide)
  have m13 : M 4 216 = 1 * ρ 12 + 0 := hm (4, 216, [(1, 12)]) (by decide)
  simp only [h0] at m0 m9
  obtain ⟨u1, u2, _⟩ := gx_xS8 hI (by omega)

  obtain ⟨a1, a2, a3, a4, a5, a6, a7⟩ := gx_xSA hI (by omega)
  have eq1 : (M 4 215).toNat = (M 4 211).toNat := by omega
  rw [eq1] at a6 a7
  have hgt := ten_gt (g := M 92) (lo := 97) (hi := 122) (n := (M 4 101).toNat) (q := (M 4 211).toNat) (by omega)
  have el1 : (M 4 217 - M 4 215).toNat = tEn (M 92) 97 122 (M 4 101).toNat (M 4 211).toNat - (M 4 211).toNat := by omega
  rw [el1] at a7

  obtain ⟨t1, t2, t3, t4, t5, t6⟩ := tk_of hI (by omega) (by omega) (by omega) (show tAt (M 92) (M 4 101).toNat (M 4 211).toNat (M 4 107) (M 4 108) = (33, M 4 219, ((M 4 211).toNat : Int), M 4 217, 0, 15) from by
    unfold tAt
    rw [if_neg (by omega), if_pos hgt.2]
    unfold tWo
    rw [← a7, ← a6]
    have hk : tKi (M 4 219) 0 = 33 := by
      rw [show M 4 219 = 522190848 by omega]
      decide
    have h6 : ¬ (6 < tEn (M 92) 97 122 (M 4 101).toNat (M 4 211).toNat - (M 4 211).toNat) := by omega
    unfold tWk tWs tWv
    rw [if_neg h6, if_neg h6, if_neg h6, hk]
    rfl)
  refine ⟨ρ, fun _ _ => rfl, fun f h => ?_, ?_⟩
  · have h : f ∈ ([[(-1, 1), (1, 3)], [(1, 1), (-1, 3)], [(1, 4), (-1, 10)], [(-1, 4), (1, 10)], [(1, 6)], [(-1, 6)], [(-15, 0), (1, 7)], [(15, 0), (-1, 7)]] : List qF) := h
    simp only [List.mem_cons, List.not_mem_nil, or_false] at h
    rcases h with rfl | rfl | rfl | rfl | rfl | rfl | rfl | rfl
    · show 0 ≤ -1 * ρ 1 + (1 * ρ 3 + 0)
      (try rw [h0]); omega
    · show 0 ≤ 1 * ρ 1 + (-1 * ρ 3 + 0)
      (try rw [h0]); omega
    · show 0 ≤ 1 * ρ 4 + (-1 * ρ 10 + 0)
      (try rw [h0]); omega
    · show 0 ≤ -1 * ρ 4 + (1 * ρ 10 + 0)
      (try rw [h0]); omega
    · show 0 ≤ 1 * ρ 6 + 0
      (try rw [h0]); omega
    · show 0 ≤ -1 * ρ 6 + 0
      (try rw [h0]); omega
    · show 0 ≤ -15 * ρ 0 + (1 * ρ 7 + 0)
      (try rw [h0]); omega
    · show 0 ≤ 15 * ρ 0 + (-1 * ρ 7 + 0)
      (try rw [h0]); omega
  · show sI M
    exact hI
-- langMissR15L
def xr_504 : qRu := (3, [[(522190847, 0), (-1, 2)]], [(4, 226, [(1, 0)]), (4, 227, [(15, 0)]), (4, 219, [(1, 2)])], [], [(4, 227, [(16, 0)])], [])
theorem xo_504 : qRok xr_504 := by
  intro ρ M h0 hf hm hI
  have f0 := hf [(522190847, 0), (-1, 2)] (by decide)
  simp only [qD, h0] at f0
  have m0 : M 4 226 = 1 * ρ 0 + 0 := hm (4, 226, [(1, 0)]) (by decide)
  have m1 : M 4 227 = 15 * ρ 0 + 0 := hm (4, 227, [(15, 0)]) (by decide)
  have m2 : M 4 219 = 1 * ρ 2 + 0 := hm (4, 219, [(1, 2)]) (by decide)
  simp only [h0] at m0 m1
  have qxSC := hI.2.2.2.2.2.2.2.2.2.2.2.2.2.2.2.2.2.2.2.2.2.2.2.2.2.2.2.2.2.2.2.2.2.2.1
  obtain ⟨l1, l2, l3⟩ := gx_xSC hI (by omega)
  refine ⟨ρ, fun _ _ => rfl, fun f h => ?_, ?_⟩
  · exact nomatch h
  · show sI (sU M 4 227 (16 * ρ 0 + 0))
    obtain ⟨W, hW⟩ : ∃ W, W = (sU M 4 227 (16 * ρ 0 + 0)) := ⟨_, rfl⟩
    rw [← hW]
    have base : sI0 W := by
      rw [hW]
      exact (si_u0 hI.1 (fun r hr => by cases hr))
    have k2 : XI2 W := by
      rw [hW]
      exact (xi2_u rfl hI.2.1)
    have k3 : XI3 W := by
      rw [hW]
      exact (xi3_u rfl hI.2.2.1)
    have kXA : XA W := by
      rw [hW]
      exact (uXA rfl hI.2.2.2.1)
    have k_xN1 : xN1 W := by
      rw [hW]
      exact (uxN1 rfl hI.2.2.2.2.1)
    have k_xN2 : xN2 W := by
      rw [hW]
      exact (uxN2 rfl hI.2.2.2.2.2.1)
    have k_xN3 : xN3 W := by
      rw [hW]
      exact (uxN3 rfl hI.2.2.2.2.2.2.1)
    have k_xN4 : xN4 W := by
      rw [hW]
      exact (uxN4 rfl hI.2.2.2.2.2.2.2.1)
    have k_xN5 : xN5 W := by
      rw [hW]
      exact (uxN5 rfl hI.2.2.2.2.2.2.2.2.1)
    have k_xN6 : xN6 W := by
      rw [hW]
      exact (uxN6 rfl hI.2.2.2.2.2.2.2.2.2.1)
    have k_xH1 : xH1 W := by
      rw [hW]
      exact (uxH1 rfl hI.2.2.2.2.2.2.2.2.2.2.1)
    have k_xK1 : xK1 W := by
      rw [hW]
      exact (uxK1 rfl hI.2.2.2.2.2.2.2.2.2.2.2.1)
    have k_xC1 : xC1 W := by
      rw [hW]
      exact (uxC1 rfl hI.2.2.2.2.2.2.2.2.2.2.2.2.1)
    have k_xRW : xRW W := by
      rw [hW]
      exact (uxRW rfl hI.2.2.2.2.2.2.2.2.2.2.2.2.2.1)
    have k_xWT : xWT W := by
      rw [hW]
      exact (uxWT rfl hI.2.2.2.2.2.2.2.2.2.2.2.2.2.2.1)
    have k_xCU : xCU W := by
      rw [hW]
      exact (uxCU rfl hI.2.2.2.2.2.2.2.2.2.2.2.2.2.2.2.1)
    have k_xG2 : xG2 W := by
      rw [hW]
      exact (uxG2 rfl hI.2.2.2.2.2.2.2.2.2.2.2.2.2.2.2.2.1)
    have k_xG3 : xG3 W := by
      rw [hW]
      exact (uxG3 rfl hI.2.2.2.2.2.2.2.2.2.2.2.2.2.2.2.2.2.1)
    have k_xG4 : xG4 W := by
      rw [hW]
      exact (uxG4 rfl hI.2.2.2.2.2.2.2.2.2.2.2.2.2.2.2.2.2.2.1)
    have k_xG5 : xG5 W := by
      rw [hW]
      exact (uxG5 rfl hI.2.2.2.2.2.2.2.2.2.2.2.2.2.2.2.2.2.2.2.1)
    have k_xG6 : xG6 W := by
      rw [hW]
      exact (uxG6 rfl hI.2.2.2.2.2.2.2.2.2.2.2.2.2.2.2.2.2.2.2.2.1)
    have k_xS1 : xS1 W := by
      rw [hW]
      exact (uxS1 rfl hI.2.2.2.2.2.2.2.2.2.2.2.2.2.2.2.2.2.2.2.2.2.1)
    have k_xS2 : xS2 W := by
      rw [hW]
      exact (uxS2 rfl hI.2.2.2.2.2.2.2.2.2.2.2.2.2.2.2.2.2.2.2.2.2.2.1)
    have k_xS3 : xS3 W := by
      rw [hW]
      exact (uxS3 rfl hI.2.2.2.2.2.2.2.2.2.2.2.2.2.2.2.2.2.2.2.2.2.2.2.1)
    have k_xS4 : xS4 W := by
      rw [hW]
      exact (uxS4 rfl hI.2.2.2.2.2.2.2.2.2.2.2.2.2.2.2.2.2.2.2.2.2.2.2.2.1)
    have k_xS5 : xS5 W := by
      rw [hW]
      exact (uxS5 rfl hI.2.2.2.2.2.2.2.2.2.2.2.2.2.2.2.2.2.2.2.2.2.2.2.2.2.1)
    have k_xS6 : xS6 W := by
      rw [hW]
      exact (uxS6 rfl hI.2.2.2.2.2.2.2.2.2.2.2.2.2.2.2.2.2.2.2.2.2.2.2.2.2.2.1)
    have k_xS7 : xS7 W := by
      rw [hW]
      exact (uxS7 rfl hI.2.2.2.2.2.2.2.2.2.2.2.2.2.2.2.2.2.2.2.2.2.2.2.2.2.2.2.1)
    have k_xS8 : xS8 W := by
      rw [hW]
      exact (uxS8 rfl hI.2.2.2.2.2.2.2.2.2.2.2.2.2.2.2.2.2.2.2.2.2.2.2.2.2.2.2.2.1)
    have k_xS9 : xS9 W := by
      rw [hW]
      exact (uxS9 rfl hI.2.2.2.2.2.2.2.2.2.2.2.2.2.2.2.2.2.2.2.2.2.2.2.2.2.2.2.2.2.1)
    have k_xSA : xSA W := by
      rw [hW]
      exact (uxSA rfl hI.2.2.2.2.2.2.2.2.2.2.2.2.2.2.2.2.2.2.2.2.2.2.2.2.2.2.2.2.2.2.1)
    have k_xSG : xSG W := by
      rw [hW]
      exact (uxSG rfl hI.2.2.2.2.2.2.2.2.2.2.2.2.2.2.2.2.2.2.2.2.2.2.2.2.2.2.2.2.2.2.2.1)
    have k_xSF : xSF W := by
      rw [hW]
      exact (uxSF rfl hI.2.2.2.2.2.2.2.2.2.2.2.2.2.2.2.2.2.2.2.2.2.2.2.2.2.2.2.2.2.2.2.2.1)
    have k_xSB : xSB W := by
      rw [hW]
      exact (uxSB rfl hI.2.2.2.2.2.2.2.2.2.2.2.2.2.2.2.2.2.2.2.2.2.2.2.2.2.2.2.2.2.2.2.2.2.1)
    have k_xSC : xSC W := by
      have r4_226 : W 4 226 = M 4 226 := by rw [hW, sU_ne (fun z => by omega)]
      have r4_227 : W 4 227 = 16 * ρ 0 + 0 := by rw [hW, sU_at]
      have r4_219 : W 4 219 = M 4 219 := by rw [hW, sU_ne (fun z => by omega)]
      intro h
      rw [r4_227, r4_219, h0]
      refine ⟨by omega, by omega, ?_⟩
      have e1 := tki_on (x := M 4 219) (w := 15) (show tLa[15]? = some (522190848 : Int) from rfl)
      rw [if_neg (by omega)] at e1
      rw [show M 4 227 = 15 by omega] at l3
      rw [← l3]
      exact e1.symm
    have k_xSD : xSD W := by
      rw [hW]
      exact (uxSD rfl hI.2.2.2.2.2.2.2.2.2.2.2.2.2.2.2.2.2.2.2.2.2.2.2.2.2.2.2.2.2.2.2.2.2.2.2.1)
    have k_xSE : xSE W := by
      rw [hW]
      exact (uxSE rfl hI.2.2.2.2.2.2.2.2.2.2.2.2.2.2.2.2.2.2.2.2.2.2.2.2.2.2.2.2.2.2.2.2.2.2.2.2.1)
    have k_xSW : xSW W := by
      rw [hW]
      exact (uxSW rfl hI.2.2.2.2.2.2.2.2.2.2.2.2.2.2.2.2.2.2.2.2.2.2.2.2.2.2.2.2.2.2.2.2.2.2.2.2.2.1)
    have k_xST : xST W := by
      rw [hW]
      exact (uxST rfl hI.2.2.2.2.2.2.2.2.2.2.2.2.2.2.2.2.2.2.2.2.2.2.2.2.2.2.2.2.2.2.2.2.2.2.2.2.2.2.1)
    have k_xSP : xSP W := by
      rw [hW]
      exact (uxSP rfl hI.2.2.2.2.2.2.2.2.2.2.2.2.2.2.2.2.2.2.2.2.2.2.2.2.2.2.2.2.2.2.2.2.2.2.2.2.2.2.2.1)
    have k_xSL : xSL W := by
      rw [hW]
      exact (uxSL rfl hI.2.2.2.2.2.2.2.2.2.2.2.2.2.2.2.2.2.2.2.2.2.2.2.2.2.2.2.2.2.2.2.2.2.2.2.2.2.2.2.2.1)
    have k_xSM : xSM W := by
      rw [hW]
      exact (uxSM rfl hI.2.2.2.2.2.2.2.2.2.2.2.2.2.2.2.2.2.2.2.2.2.2.2.2.2.2.2.2.2.2.2.2.2.2.2.2.2.2.2.2.2.1)
    have k_xSI : xSI W := by
      rw [hW]
      exact (uxSI rfl hI.2.2.2.2.2.2.2.2.2.2.2.2.2.2.2.2.2.2.2.2.2.2.2.2.2.2.2.2.2.2.2.2.2.2.2.2.2.2.2.2.2.2)
    have k_XC : XC W := ⟨k_xS1, k_xS2, k_xS3, k_xS4, k_xS5, k_xS6, k_xS7, k_xS8, k_xS9, k_xSA, k_xSG, k_xSF, k_xSB, k_xSC, k_xSD, k_xSE, k_xSW, k_xST, k_xSP, k_xSL, k_xSM, k_xSI⟩
    have kXB : XB W := ⟨k_xN1, k_xN2, k_xN3, k_xN4, k_xN5, k_xN6, k_xH1, k_xK1, k_xC1, k_xRW, k_xWT, k_xCU, k_xG2, k_xG3, k_xG4, k_xG5, k_xG6, k_XC⟩
    exact ⟨base, k2, k3, kXA, kXB⟩
-- langMissR15H
def xr_505 : qRu := (3, [[(-522190849, 0), (1, 2)]], [(4, 226, [(1, 0)]), (4, 227, [(15, 0)]), (4, 219, [(1, 2)])], [], [(4, 227, [(16, 0)])], [])
theorem xo_505 : qRok xr_505 := by
  intro ρ M h0 hf hm hI
  have f0 := hf [(-522190849, 0), (1, 2)] (by decide)
  simp only [qD, h0] at f0
  have m0 : M 4 226 = 1 * ρ 0 + 0 := hm (4, 226, [(1, 0)]) (by decide)
  have m1 : M 4 227 = 15 * ρ 0 + 0 := hm (4, 227, [(15, 0)]) (by decide)
  have m2 : M 4 219 = 1 * ρ 2 + 0 := hm (4, 219, [(1, 2)]) (by decide)
  simp only [h0] at m0 m1
  have qxSC := hI.2.2.2.2.2.2.2.2.2.2.2.2.2.2.2.2.2.2.2.2.2.2.2.2.2.2.2.2.2.2.2.2.2.2.1
  obtain ⟨l1, l2, l3⟩ := gx_xSC hI (by omega)
  refine ⟨ρ, fun _ _ => rfl, fun f h => ?_, ?_⟩
  · exact nomatch h
  · show sI (sU M 4 227 (16 * ρ 0 + 0))
    obtain ⟨W, hW⟩ : ∃ W, W = (sU M 4 227 (16 * ρ 0 + 0)) := ⟨_, rfl⟩
    rw [← hW]
    have base : sI0 W := by
      rw [hW]
      exact (si_u0 hI.1 (fun r hr => by cases hr))
    have k2 : XI2 W := by
      rw [hW]
      exact (xi2_u rfl hI.2.1)
    have k3 : XI3 W := by
      rw [hW]
      exact (xi3_u rfl hI.2.2.1)
    have kXA : XA W := by
      rw [hW]
      exact (uXA rfl hI.2.2.2.1)
    have k_xN1 : xN1 W := by
      rw [hW]
      exact (uxN1 rfl hI.2.2.2.2.1)
    have k_xN2 : xN2 W := by
      rw [hW]
      exact (uxN2 rfl hI.2.2.2.2.2.1)
    have k_xN3 : xN3 W := by
      rw [hW]
      exact (uxN3 rfl hI.2.2.2.2.2.2.1)
    have k_xN4 : xN4 W := by
      rw [hW]
      exact (uxN4 rfl hI.2.2.2.2.2.2.2.1)
    have k_xN5 : xN5 W := by
      rw [hW]
      exact (uxN5 rfl hI.2.2.2.2.2.2.2.2.1)
    have k_xN6 : xN6 W := by
      rw [hW]
      exact (uxN6 rfl hI.2.2.2.2.2.2.2.2.2.1)
    have k_xH1 : xH1 W := by
      rw [hW]
      exact (uxH1 rfl hI.2.2.2.2.2.2.2.2.2.2.1)
    have k_xK1 : xK1 W := by
      rw [hW]
      exact (uxK1 rfl hI.2.2.2.2.2.2.2.2.2.2.2.1)
    have k_xC1 : xC1 W := by
      rw [hW]
      exact (uxC1 rfl hI.2.2.2.2.2.2.2.2.2.2.2.2.1)
    have k_xRW : xRW W := by
      rw [hW]
      exact (uxRW rfl hI.2.2.2.2.2.2.2.2.2.2.2.2.2.1)
    have k_xWT : xWT W := by
      rw [hW]
      exact (uxWT rfl hI.2.2.2.2.2.2.2.2.2.2.2.2.2.2.1)
    have k_xCU : xCU W := by
      rw [hW]
      exact (uxCU rfl hI.2.2.2.2.2.2.2.2.2.2.2.2.2.2.2.1)
    have k_xG2 : xG2 W := by
      rw [hW]
      exact (uxG2 rfl hI.2.2.2.2.2.2.2.2.2.2.2.2.2.2.2.2.1)
    have k_xG3 : xG3 W := by
      rw [hW]
      exact (uxG3 rfl hI.2.2.2.2.2.2.2.2.2.2.2.2.2.2.2.2.2.1)
    have k_xG4 : xG4 W := by
      rw [hW]
      exact (uxG4 rfl hI.2.2.2.2.2.2.2.2.2.2.2.2.2.2.2.2.2.2.1)
    have k_xG5 : xG5 W := by
      rw [hW]
      exact (uxG5 rfl hI.2.2.2.2.2.2.2.2.2.2.2.2.2.2.2.2.2.2.2.1)
    have k_xG6 : xG6 W := by
      rw [hW]
      exact (uxG6 rfl hI.2.2.2.2.2.2.2.2.2.2.2.2.2.2.2.2.2.2.2.2.1)
    have k_xS1 : xS1 W := by
      rw [hW]
      exact (uxS1 rfl hI.2.2.2.2.2.2.2.2.2.2.2.2.2.2.2.2.2.2.2.2.2.1)
    have k_xS2 : xS2 W := by
      rw [hW]
      exact (uxS2 rfl hI.2.2.2.2.2.2.2.2.2.2.2.2.2.2.2.2.2.2.2.2.2.2.1)
    have k_xS3 : xS3 W := by
      rw [hW]
      exact (uxS3 rfl hI.2.2.2.2.2.2.2.2.2.2.2.2.2.2.2.2.2.2.2.2.2.2.2.1)
    have k_xS4 : xS4 W := by
      rw [hW]
      exact (uxS4 rfl hI.2.2.2.2.2.2.2.2.2.2.2.2.2.2.2.2.2.2.2.2.2.2.2.2.1)
    have k_xS5 : xS5 W := by
      rw [hW]
      exact (uxS5 rfl hI.2.2.2.2.2.2.2.2.2.2.2.2.2.2.2.2.2.2.2.2.2.2.2.2.2.1)
    have k_xS6 : xS6 W := by
      rw [hW]
      exact (uxS6 rfl hI.2.2.2.2.2.2.2.2.2.2.2.2.2.2.2.2.2.2.2.2.2.2.2.2.2.2.1)
    have k_xS7 : xS7 W := by
      rw [hW]
      exact (uxS7 rfl hI.2.2.2.2.2.2.2.2.2.2.2.2.2.2.2.2.2.2.2.2.2.2.2.2.2.2.2.1)
    have k_xS8 : xS8 W := by
      rw [hW]
      exact (uxS8 rfl hI.2.2.2.2.2.2.2.2.2.2.2.2.2.2.2.2.2.2.2.2.2.2.2.2.2.2.2.2.1)
    have k_xS9 : xS9 W := by
      rw [hW]
      exact (uxS9 rfl hI.2.2.2.2.2.2.2.2.2.2.2.2.2.2.2.2.2.2.2.2.2.2.2.2.2.2.2.2.2.1)
    have k_xSA : xSA W := by
      rw [hW]
      exact (uxSA rfl hI.2.2.2.2.2.2.2.2.2.2.2.2.2.2.2.2.2.2.2.2.2.2.2.2.2.2.2.2.2.2.1)
    have k_xSG : xSG W := by
      rw [hW]
      exact (uxSG rfl hI.2.2.2.2.2.2.2.2.2.2.2.2.2.2.2.2.2.2.2.2.2.2.2.2.2.2.2.2.2.2.2.1)
    have k_xSF : xSF W := by
      rw [hW]
      exact (uxSF rfl hI.2.2.2.2.2.2.2.2.2.2.2.2.2.2.2.2.2.2.2.2.2.2.2.2.2.2.2.2.2.2.2.2.1)
    have k_xSB : xSB W := by
      rw [hW]
      exact (uxSB rfl hI.2.2.2.2.2.2.2.2.2.2.2.2.2.2.2.2.2.2.2.2.2.2.2.2.2.2.2.2.2.2.2.2.2.1)
    have k_xSC : xSC W := by
      have r4_226 : W 4 226 = M 4 226 := by rw [hW, sU_ne (fun z => by omega)]
      have r4_227 : W 4 227 = 16 * ρ 0 + 0 := by rw [hW, sU_at]
      have r4_219 : W 4 219 = M 4 219 := by rw [hW, sU_ne (fun z => by omega)]
      intro h
      rw [r4_227, r4_219, h0]
      refine ⟨by omega, by omega, ?_⟩
      have e1 := tki_on (x := M 4 219) (w := 15) (show tLa[15]? = some (522190848 : Int) from rfl)
      rw [if_neg (by omega)] at e1
      rw [show M 4 227 = 15 by omega] at l3
      rw [← l3]
      exact e1.symm
    have k_xSD : xSD W := by
      rw [hW]
      exact (uxSD rfl hI.2.2.2.2.2.2.2.2.2.2.2.2.2.2.2.2.2.2.2.2.2.2.2.2.2.2.2.2.2.2.2.2.2.2.2.1)
    have k_xSE : xSE W := by
      rw [hW]
      exact (uxSE rfl hI.2.2.2.2.2.2.2.2.2.2.2.2.2.2.2.2.2.2.2.2.2.2.2.2.2.2.2.2.2.2.2.2.2.2.2.2.1)
    have k_xSW : xSW W := by
      rw [hW]
      exact (uxSW rfl hI.2.2.2.2.2.2.2.2.2.2.2.2.2.2.2.2.2.2.2.2.2.2.2.2.2.2.2.2.2.2.2.2.2.2.2.2.2.1)
    have k_xST : xST W := by
      rw [hW]
      exact (uxST rfl hI.2.2.2.2.2.2.2.2.2.2.2.2.2.2.2.2.2.2.2.2.2.2.2.2.2.2.2.2.2.2.2.2.2.2.2.2.2.2.1)
    have k_xSP : xSP W := by
      rw [hW]
      exact (uxSP rfl hI.2.2.2.2.2.2.2.2.2.2.2.2.2.2.2.2.2.2.2.2.2.2.2.2.2.2.2.2.2.2.2.2.2.2.2.2.2.2.2.1)
    have k_xSL : xSL W := by
      rw [hW]
      exact (uxSL rfl hI.2.2.2.2.2.2.2.2.2.2.2.2.2.2.2.2.2.2.2.2.2.2.2.2.2.2.2.2.2.2.2.2.2.2.2.2.2.2.2.2.1)
    have k_xSM : xSM W := by
      rw [hW]
      exact (uxSM rfl hI.2.2.2.2.2.2.2.2.2.2.2.2.2.2.2.2.2.2.2.2.2.2.2.2.2.2.2.2.2.2.2.2.2.2.2.2.2.2.2.2.2.1)
    have k_xSI : xSI W := by
      rw [hW]
      exact (uxSI rfl hI.2.2.2.2.2.2.2.2.2.2.2.2.2.2.2.2.2.2.2.2.2.2.2.2.2.2.2.2.2.2.2.2.2.2.2.2.2.2.2.2.2.2)
    have k_XC : XC W := ⟨k_xS1, k_xS2, k_xS3, k_xS4, k_xS5, k_xS6, k_xS7, k_xS8, k_xS9, k_xSA, k_xSG, k_xSF, k_xSB, k_xSC, k_xSD, k_xSE, k_xSW, k_xST, k_xSP, k_xSL, k_xSM, k_xSI⟩
    have kXB : XB W := ⟨k_xN1, k_xN2, k_xN3, k_xN4, k_xN5, k_xN6, k_xH1, k_xK1, k_xC1, k_xRW, k_xWT, k_xCU, k_xG2, k_xG3, k_xG4, k_xG5, k_xG6, k_XC⟩
    exact ⟨base, k2, k3, kXA, kXB⟩
-- wHitR16_c
def xr_506 : qRu := (13, [[(-1, 0), (1, 5)], [(1, 1)], [(-1, 1), (1, 9)], [(1, 1), (-1, 9)], [(-1, 0), (-1, 1), (1, 10)], [(6, 0), (1, 9), (-1, 10)], [(-48365568, 0), (1, 11)], [(48365568, 0), (-1, 11)]], [(4, 210, [(1, 0)]), (4, 211, [(1, 1)]), (4, 101, [(1, 2)]), (3, 46, [(1, 3)]), (3, 47, [(1, 4)]), (4, 100, [(1, 5)]), (3, 44, [(1, 6)]), (3, 45, [(1, 7)]), (4, 107, [(1, 8)]), (4, 214, [(1, 0)]), (4, 215, [(1, 9)]), (4, 217, [(1, 10)]), (4, 219, [(1, 11)]), (4, 216, [(1, 12)])], [], [], [[(-1, 1), (1, 3)], [(1, 1), (-1, 3)], [(1, 4), (-1, 10)], [(-1, 4), (1, 10)], [(-34, 0), (1, 6)], [(34, 0), (-1, 6)], [(1, 7), (-1, 11)], [(-1, 7), (1, 11)]])
theorem xo_506 : qRok xr_506 := by
  intro ρ M h0 hf hm hI
  have f0 := hf [(-1, 0), (1, 5)] (by decide)
  have f1 := hf [(1, 1)] (by decide)
  have f2 := hf [(-1, 1), (1, 9)] (by decide)
  have f3 := hf [(1, 1), (-1, 9)] (by decide)
  have f4 := hf [(-1, 0), (-1, 1), (1, 10)] (by decide)
  have f5 := hf [(6, 0), (1, 9), (-1, 10)] (by decide)
  have f6 := hf [(-48365568, 0), (1, 11)] (by decide)
  have f7 := hf [(48365568, 0), (-1, 11)] (by decide)
  simp only [qD, h0] at f0 f1 f2 f3 f4 f5 f6 f7
  have m0 : M 4 210 = 1 * ρ 0 + 0 := hm (4, 210, [(1, 0)]) (by decide)
  have m1 : M 4 211 = 1 * ρ 1 + 0 := hm (4, 211, [(1, 1)]) (by decide)
  have m2 : M 4 101 = 1 * ρ 2 + 0 := hm (4, 101, [(1, 2)]) (by decide)
  have m3 : M 3 46 = 1 * ρ 3 + 0 := hm (3, 46, [(1, 3)]) (by decide)
  have m4 : M 3 47 = 1 * ρ 4 + 0 := hm (3, 47, [(1, 4)]) (by decide)
  have m5 : M 4 100 = 1 * ρ 5 + 0 := hm (4, 100, [(1, 5)]) (by decide)
  have m6 : M 3 44 = 1 * ρ 6 + 0 := hm (3, 44, [(1, 6)]) (by decide)
  have m7 : M 3 45 = 1 * ρ 7 + 0 := hm (3, 45, [(1, 7)]) (by decide)
  have m8 : M 4 107 = 1 * ρ 8 + 0 := hm (4, 107, [(1, 8)]) (by decide)
  have m9 : M 4 214 = 1 * ρ 0 + 0 := hm (4, 214, [(1, 0)]) (by decide)
  have m10 : M 4 215 = 1 * ρ 9 + 0 := hm (4, 215, [(1, 9)]) (by decide)
  have m11 : M 4 217 = 1 * ρ 10 + 0 := hm (4, 217, [(1, 10)]) (by decide)
  have m12 : M 4 219 = 1 * ρ 11 + 0 := hm (4, 219, [(1, 11)]) (by decide)
  have m13 : M 4 216 = 1 * ρ 12 + 0 := hm (4, 216, [(1, 12)]) (by decide)
  simp only [h0] at m0 m9
  obtain ⟨u1, u2, _⟩ := gx_xS8 hI (by omega)

  obtain ⟨a1, a2, a3, a4, a5, a6, a7⟩ := gx_xSA hI (by omega)
  have eq1 : (M 4 215).toNat = (M 4 211).toNat := by omega
  rw [eq1] at a6 a7
  have hgt := ten_gt (g := M 92) (lo := 97) (hi := 122) (n := (M 4 101).toNat) (q := (M 4 211).toNat) (by omega)
  have el1 : (M 4 217 - M 4 215).toNat = tEn (M 92) 97 122 (M 4 101).toNat (M 4 211).toNat - (M 4 211).toNat := by omega
  rw [el1] at a7

  obtain ⟨t1, t2, t3, t4, t5, t6⟩ := tk_of hI (by omega) (by omega) (by omega) (show tAt (M 92) (M 4 101).toNat (M 4 211).toNat (M 4 107) (M 4 108) = (34, M 4 219, ((M 4 211).toNat : Int), M 4 217, 0, 16) from by
    unfold tAt
    rw [if_neg (by omega), if_pos hgt.2]
    unfold tWo
    rw [← a7, ← a6]
    have hk : tKi (M 4 219) 0 = 34 := by
      rw [show M 4 219 = 48365568 by omega]
      decide
    have h6 : ¬ (6 < tEn (M 92) 97 122 (M 4 101).toNat (M 4 211).toNat - (M 4 211).toNat) := by omega
    unfold tWk tWs tWv
    rw [if_neg h6, if_neg h6, if_neg h6, hk]
    rfl)
  refine ⟨ρ, fun _ _ => rfl, fun f h => ?_, ?_⟩
  · have h : f ∈ ([[(-1, 1), (1, 3)], [(1, 1), (-1, 3)], [(1, 4), (-1, 10)], [(-1, 4), (1, 10)], [(-34, 0), (1, 6)], [(34, 0), (-1, 6)], [(1, 7), (-1, 11)], [(-1, 7), (1, 11)]] : List qF) := h
    simp only [List.mem_cons, List.not_mem_nil, or_false] at h
    rcases h with rfl | rfl | rfl | rfl | rfl | rfl | rfl | rfl
    · show 0 ≤ -1 * ρ 1 + (1 * ρ 3 + 0)
      (try rw [h0]); omega
    · show 0 ≤ 1 * ρ 1 + (-1 * ρ 3 + 0)
      (try rw [h0]); omega
    · show 0 ≤ 1 * ρ 4 + (-1 * ρ 10 + 0)
      (try rw [h0]); omega
    · show 0 ≤ -1 * ρ 4 + (1 * ρ 10 + 0)
      (try rw [h0]); omega
    · show 0 ≤ -34 * ρ 0 + (1 * ρ 6 + 0)
      (try rw [h0]); omega
    · show 0 ≤ 34 * ρ 0 + (-1 * ρ 6 + 0)
      (try rw [h0]); omega
    · show 0 ≤ 1 * ρ 7 + (-1 * ρ 11 + 0)
      (try rw [h0]); omega
    · show 0 ≤ -1 * ρ 7 + (1 * ρ 11 + 0)
      (try rw [h0]); omega
  · show sI M
    exact hI
-- wHitR16_r
def xr_507 : qRu := (13, [[(-1, 0), (1, 5)], [(1, 1)], [(-1, 1), (1, 9)], [(1, 1), (-1, 9)], [(-1, 0), (-1, 1), (1, 10)], [(6, 0), (1, 9), (-1, 10)], [(-48365568, 0), (1, 11)], [(48365568, 0), (-1, 11)]], [(4, 210, [(1, 0)]), (4, 211, [(1, 1)]), (4, 101, [(1, 2)]), (3, 46, [(1, 3)]), (3, 47, [(1, 4)]), (4, 100, [(1, 5)]), (3, 50, [(1, 6)]), (3, 51, [(1, 7)]), (4, 108, [(1, 8)]), (4, 214, [(1, 0)]), (4, 215, [(1, 9)]), (4, 217, [(1, 10)]), (4, 219, [(1, 11)]), (4, 216, [(1, 12)])], [], [], [[(-1, 1), (1, 3)], [(1, 1), (-1, 3)], [(1, 4), (-1, 10)], [(-1, 4), (1, 10)], [(1, 6)], [(-1, 6)], [(-16, 0), (1, 7)], [(16, 0), (-1, 7)]])
theorem xo_507 : qRok xr_507 := by
  intro ρ M h0 hf hm hI
  have f0 := hf [(-1, 0), (1, 5)] (by decide)
  have f1 := hf [(1, 1)] (by decide)
  have f2 := hf [(-1, 1), (1, 9)] (by decide)
  have f3 := hf [(1, 1), (-1, 9)] (by decide)
  have f4 := hf [(-1, 0), (-1, 1), (1, 10)] (by decide)
  have f5 := hf [(6, 0), (1, 9), (-1, 10)] (by decide)
  have f6 := hf [(-48365568, 0), (1, 11)] (by decide)
  have f7 := hf [(48365568, 0), (-1, 11)] (by decide)
  simp only [qD, h0] at f0 f1 f2 f3 f4 f5 f6 f7
  have m0 : M 4 210 = 1 * ρ 0 + 0 := hm (4, 210, [(1, 0)]) (by decide)
  have m1 : M 4 211 = 1 * ρ 1 + 0 := hm (4, 211, [(1, 1)]) (by decide)
  have m2 : M 4 101 = 1 * ρ 2 + 0 := hm (4, 101, [(1, 2)]) (by decide)
  have m3 : M 3 46 = 1 * ρ 3 + 0 := hm (3, 46, [(1, 3)]) (by decide)
  have m4 : M 3 47 = 1 * ρ 4 + 0 := hm (3, 47, [(1, 4)]) (by decide)
  have m5 : M 4 100 = 1 * ρ 5 + 0 := hm (4, 100, [(1, 5)]) (by decide)
  have m6 : M 3 50 = 1 * ρ 6 + 0 := hm (3, 50, [(1, 6)]) (by decide)
  have m7 : M 3 51 = 1 * ρ 7 + 0 := hm (3, 51, [(1, 7)]) (by decide)
  have m8 : M 4 108 = 1 * ρ 8 + 0 := hm (4, 108, [(1, 8)]) (by decide)
  have m9 : M 4 214 = 1 * ρ 0 + 0 := hm (4, 214, [(1, 0)]) (by decide)
  have m10 : M 4 215 = 1 * ρ 9 + 0 := hm (4, 215, [(1, 9)]) (by decide)
  have m11 : M 4 217 = 1 * ρ 10 + 0 := hm (4, 217, [(1, 10)]) (by decide)
  have m12 : M 4 219 = 1 * ρ 11 + 0 := hm (4, 219, [(1, 11)]) (by decide)
  have m13 : M 4 216 = 1 * ρ 12 + 0 := hm (4, 216, [(1, 12)]) (by decide)
  simp only [h0] at m0 m9
  obtain ⟨u1, u2, _⟩ := gx_xS8 hI (by omega)

  obtain ⟨a1, a2, a3, a4, a5, a6, a7⟩ := gx_xSA hI (by omega)
  have eq1 : (M 4 215).toNat = (M 4 211).toNat := by omega
  rw [eq1] at a6 a7
  have hgt := ten_gt (g := M 92) (lo := 97) (hi := 122) (n := (M 4 101).toNat) (q := (M 4 211).toNat) (by omega)
  have el1 : (M 4 217 - M 4 215).toNat = tEn (M 92) 97 122 (M 4 101).toNat (M 4 211).toNat - (M 4 211).toNat := by omega
  rw [el1] at a7

  obtain ⟨t1, t2, t3, t4, t5, t6⟩ := tk_of hI (by omega) (by omega) (by omega) (show tAt (M 92) (M 4 101).toNat (M 4 211).toNat (M 4 107) (M 4 108) = (34, M 4 219, ((M 4 211).toNat : Int), M 4 217, 0, 16) from by
    unfold tAt
    rw [if_neg (by omega), if_pos hgt.2]
    unfold tWo
    rw [← a7, ← a6]
    have hk : tKi (M 4 219) 0 = 34 := by
      rw [show M 4 219 = 48365568 by omega]
      decide
    have h6 : ¬ (6 < tEn (M 92) 97 122 (M 4 101).toNat (M 4 211).toNat - (M 4 211).toNat) := by omega
    unfold tWk tWs tWv
    rw [if_neg h6, if_neg h6, if_neg h6, hk]
    rfl)
  refine ⟨ρ, fun _ _ => rfl, fun f h => ?_, ?_⟩
  · have h : f ∈ ([[(-1, 1), (1, 3)], [(1, 1), (-1, 3)], [(1, 4), (-1, 10)], [(-1, 4), (1, 10)], [(1, 6)], [(-1, 6)], [(-16, 0), (1, 7)], [(16, 0), (-1, 7)]] : List qF) := h
    simp only [List.mem_cons, List.not_mem_nil, or_false] at h
    rcases h with rfl | rfl | rfl | rfl | rfl | rfl | rfl | rfl
    · show 0 ≤ -1 * ρ 1 + (1 * ρ 3 + 0)
      (try rw [h0]); omega
    · show 0 ≤ 1 * ρ 1 + (-1 * ρ 3 + 0)
      (try rw [h0]); omega
    · show 0 ≤ 1 * ρ 4 + (-1 * ρ 10 + 0)
      (try rw [h0]); omega
    · show 0 ≤ -1 * ρ 4 + (1 * ρ 10 + 0)
      (try rw [h0]); omega
    · show 0 ≤ 1 * ρ 6 + 0
      (try rw [h0]); omega
    · show 0 ≤ -1 * ρ 6 + 0
      (try rw [h0]); omega
    · show 0 ≤ -16 * ρ 0 + (1 * ρ 7 + 0)
      (try rw [h0]); omega
    · show 0 ≤ 16 * ρ 0 + (-1 * ρ 7 + 0)
      (try rw [h0]); omega
  · show sI M
    exact hI
-- langMissR16L
def xr_508 : qRu := (3, [[(48365567, 0), (-1, 2)]], [(4, 226, [(1, 0)]), (4, 227, [(16, 0)]), (4, 219, [(1, 2)])], [], [(4, 227, [(17, 0)])], [])
theorem xo_508 : qRok xr_508 := by
  intro ρ M h0 hf hm hI
  have f0 := hf [(48365567, 0), (-1, 2)] (by decide)
  simp only [qD, h0] at f0
  have m0 : M 4 226 = 1 * ρ 0 + 0 := hm (4, 226, [(1, 0)]) (by decide)
  have m1 : M 4 227 = 16 * ρ 0 + 0 := hm (4, 227, [(16, 0)]) (by decide)
  have m2 : M 4 219 = 1 * ρ 2 + 0 := hm (4, 219, [(1, 2)]) (by decide)
  simp only [h0] at m0 m1
  have qxSC := hI.2.2.2.2.2.2.2.2.2.2.2.2.2.2.2.2.2.2.2.2.2.2.2.2.2.2.2.2.2.2.2.2.2.2.1
  obtain ⟨l1, l2, l3⟩ := gx_xSC hI (by omega)
  refine ⟨ρ, fun _ _ => rfl, fun f h => ?_, ?_⟩
  · exact nomatch h
  · show sI (sU M 4 227 (17 * ρ 0 + 0))
    obtain ⟨W, hW⟩ : ∃ W, W = (sU M 4 227 (17 * ρ 0 + 0)) := ⟨_, rfl⟩
    rw [← hW]
    have base : sI0 W := by
      rw [hW]
      exact (si_u0 hI.1 (fun r hr => by cases hr))
    have k2 : XI2 W := by
      rw [hW]
      exact (xi2_u rfl hI.2.1)
    have k3 : XI3 W := by
      rw [hW]
      exact (xi3_u rfl hI.2.2.1)
    have kXA : XA W := by
      rw [hW]
      exact (uXA rfl hI.2.2.2.1)
    have k_xN1 : xN1 W := by
      rw [hW]
      exact (uxN1 rfl hI.2.2.2.2.1)
    have k_xN2 : xN2 W := by
      rw [hW]
      exact (uxN2 rfl hI.2.2.2.2.2.1)
    have k_xN3 : xN3 W := by
      rw [hW]
      exact (uxN3 rfl hI.2.2.2.2.2.2.1)
    have k_xN4 : xN4 W := by
      rw [hW]
      exact (uxN4 rfl hI.2.2.2.2.2.2.2.1)
    have k_xN5 : xN5 W := by
      rw [hW]
      exact (uxN5 rfl hI.2.2.2.2.2.2.2.2.1)
    have k_xN6 : xN6 W := by
      rw [hW]
      exact (uxN6 rfl hI.2.2.2.2.2.2.2.2.2.1)
    have k_xH1 : xH1 W := by
      rw [hW]
      exact (uxH1 rfl hI.2.2.2.2.2.2.2.2.2.2.1)
    have k_xK1 : xK1 W := by
      rw [hW]
      exact (uxK1 rfl hI.2.2.2.2.2.2.2.2.2.2.2.1)
    have k_xC1 : xC1 W := by
      rw [hW]
      exact (uxC1 rfl hI.2.2.2.2.2.2.2.2.2.2.2.2.1)
    have k_xRW : xRW W := by
      rw [hW]
      exact (uxRW rfl hI.2.2.2.2.2.2.2.2.2.2.2.2.2.1)
    have k_xWT : xWT W := by
      rw [hW]
      exact (uxWT rfl hI.2.2.2.2.2.2.2.2.2.2.2.2.2.2.1)
    have k_xCU : xCU W := by
      rw [hW]
      exact (uxCU rfl hI.2.2.2.2.2.2.2.2.2.2.2.2.2.2.2.1)
    have k_xG2 : xG2 W := by
      rw [hW]
      exact (uxG2 rfl hI.2.2.2.2.2.2.2.2.2.2.2.2.2.2.2.2.1)
    have k_xG3 : xG3 W := by
      rw [hW]
      exact (uxG3 rfl hI.2.2.2.2.2.2.2.2.2.2.2.2.2.2.2.2.2.1)
    have k_xG4 : xG4 W := by
      rw [hW]
      exact (uxG4 rfl hI.2.2.2.2.2.2.2.2.2.2.2.2.2.2.2.2.2.2.1)
    have k_xG5 : xG5 W := by
      rw [hW]
      exact (uxG5 rfl hI.2.2.2.2.2.2.2.2.2.2.2.2.2.2.2.2.2.2.2.1)
    have k_xG6 : xG6 W := by
      rw [hW]
      exact (uxG6 rfl hI.2.2.2.2.2.2.2.2.2.2.2.2.2.2.2.2.2.2.2.2.1)
    have k_xS1 : xS1 W := by
      rw [hW]
      exact (uxS1 rfl hI.2.2.2.2.2.2.2.2.2.2.2.2.2.2.2.2.2.2.2.2.2.1)
    have k_xS2 : xS2 W := by
      rw [hW]
      exact (uxS2 rfl hI.2.2.2.2.2.2.2.2.2.2.2.2.2.2.2.2.2.2.2.2.2.2.1)
    have k_xS3 : xS3 W := by
      rw [hW]
      exact (uxS3 rfl hI.2.2.2.2.2.2.2.2.2.2.2.2.2.2.2.2.2.2.2.2.2.2.2.1)
    have k_xS4 : xS4 W := by
      rw [hW]
      exact (uxS4 rfl hI.2.2.2.2.2.2.2.2.2.2.2.2.2.2.2.2.2.2.2.2.2.2.2.2.1)
    have k_xS5 : xS5 W := by
      rw [hW]
      exact (uxS5 rfl hI.2.2.2.2.2.2.2.2.2.2.2.2.2.2.2.2.2.2.2.2.2.2.2.2.2.1)
    have k_xS6 : xS6 W := by
      rw [hW]
      exact (uxS6 rfl hI.2.2.2.2.2.2.2.2.2.2.2.2.2.2.2.2.2.2.2.2.2.2.2.2.2.2.1)
    have k_xS7 : xS7 W := by
      rw [hW]
      exact (uxS7 rfl hI.2.2.2.2.2.2.2.2.2.2.2.2.2.2.2.2.2.2.2.2.2.2.2.2.2.2.2.1)
    have k_xS8 : xS8 W := by
      rw [hW]
      exact (uxS8 rfl hI.2.2.2.2.2.2.2.2.2.2.2.2.2.2.2.2.2.2.2.2.2.2.2.2.2.2.2.2.1)
    have k_xS9 : xS9 W := by
      rw [hW]
      exact (uxS9 rfl hI.2.2.2.2.2.2.2.2.2.2.2.2.2.2.2.2.2.2.2.2.2.2.2.2.2.2.2.2.2.1)
    have k_xSA : xSA W := by
      rw [hW]
      exact (uxSA rfl hI.2.2.2.2.2.2.2.2.2.2.2.2.2.2.2.2.2.2.2.2.2.2.2.2.2.2.2.2.2.2.1)
    have k_xSG : xSG W := by
      rw [hW]
      exact (uxSG rfl hI.2.2.2.2.2.2.2.2.2.2.2.2.2.2.2.2.2.2.2.2.2.2.2.2.2.2.2.2.2.2.2.1)
    have k_xSF : xSF W := by
      rw [hW]
      exact (uxSF rfl hI.2.2.2.2.2.2.2.2.2.2.2.2.2.2.2.2.2.2.2.2.2.2.2.2.2.2.2.2.2.2.2.2.1)
    have k_xSB : xSB W := by
      rw [hW]
      exact (uxSB rfl hI.2.2.2.2.2.2.2.2.2.2.2.2.2.2.2.2.2.2.2.2.2.2.2.2.2.2.2.2.2.2.2.2.2.1)
    have k_xSC : xSC W := by
      have r4_226 : W 4 226 = M 4 226 := by rw [hW, sU_ne (fun z => by omega)]
      have r4_227 : W 4 227 = 17 * ρ 0 + 0 := by rw [hW, sU_at]
      have r4_219 : W 4 219 = M 4 219 := by rw [hW, sU_ne (fun z => by omega)]
      intro h
      rw [r4_227, r4_219, h0]
      refine ⟨by omega, by omega, ?_⟩
      have e1 := tki_on (x := M 4 219) (w := 16) (show tLa[16]? = some (48365568 : Int) from rfl)
      rw [if_neg (by omega)] at e1
      rw [show M 4 227 = 16 by omega] at l3
      rw [← l3]
      exact e1.symm
    have k_xSD : xSD W := by
      rw [hW]
      exact (uxSD rfl hI.2.2.2.2.2.2.2.2.2.2.2.2.2.2.2.2.2.2.2.2.2.2.2.2.2.2.2.2.2.2.2.2.2.2.2.1)
    have k_xSE : xSE W := by
      rw [hW]
      exact (uxSE rfl hI.2.2.2.2.2.2.2.2.2.2.2.2.2.2.2.2.2.2.2.2.2.2.2.2.2.2.2.2.2.2.2.2.2.2.2.2.1)
    have k_xSW : xSW W := by
      rw [hW]
      exact (uxSW rfl hI.2.2.2.2.2.2.2.2.2.2.2.2.2.2.2.2.2.2.2.2.2.2.2.2.2.2.2.2.2.2.2.2.2.2.2.2.2.1)
    have k_xST : xST W := by
      rw [hW]
      exact (uxST rfl hI.2.2.2.2.2.2.2.2.2.2.2.2.2.2.2.2.2.2.2.2.2.2.2.2.2.2.2.2.2.2.2.2.2.2.2.2.2.2.1)
    have k_xSP : xSP W := by
      rw [hW]
      exact (uxSP rfl hI.2.2.2.2.2.2.2.2.2.2.2.2.2.2.2.2.2.2.2.2.2.2.2.2.2.2.2.2.2.2.2.2.2.2.2.2.2.2.2.1)
    have k_xSL : xSL W := by
      rw [hW]
      exact (uxSL rfl hI.2.2.2.2.2.2.2.2.2.2.2.2.2.2.2.2.2.2.2.2.2.2.2.2.2.2.2.2.2.2.2.2.2.2.2.2.2.2.2.2.1)
    have k_xSM : xSM W := by
      rw [hW]
      exact (uxSM rfl hI.2.2.2.2.2.2.2.2.2.2.2.2.2.2.2.2.2.2.2.2.2.2.2.2.2.2.2.2.2.2.2.2.2.2.2.2.2.2.2.2.2.1)
    have k_xSI : xSI W := by
      rw [hW]
      exact (uxSI rfl hI.2.2.2.2.2.2.2.2.2.2.2.2.2.2.2.2.2.2.2.2.2.2.2.2.2.2.2.2.2.2.2.2.2.2.2.2.2.2.2.2.2.2)
    have k_XC : XC W := ⟨k_xS1, k_xS2, k_xS3, k_xS4, k_xS5, k_xS6, k_xS7, k_xS8, k_xS9, k_xSA, k_xSG, k_xSF, k_xSB, k_xSC, k_xSD, k_xSE, k_xSW, k_xST, k_xSP, k_xSL, k_xSM, k_xSI⟩
    have kXB : XB W := ⟨k_xN1, k_xN2, k_xN3, k_xN4, k_xN5, k_xN6, k_xH1, k_xK1, k_xC1, k_xRW, k_xWT, k_xCU, k_xG2, k_xG3, k_xG4, k_xG5, k_xG6, k_XC⟩
    exact ⟨base, k2, k3, kXA, kXB⟩
-- langMissR16H
def xr_509 : qRu := (3, [[(-48365569, 0), (1, 2)]], [(4, 226, [(1, 0)]), (4, 227, [(16, 0)]), (4, 219, [(1, 2)])], [], [(4, 227, [(17, 0)])], [])
theorem xo_509 : qRok xr_509 := by
  intro ρ M h0 hf hm hI
  have f0 := hf [(-48365569, 0), (1, 2)] (by decide)
  simp only [qD, h0] at f0
  have m0 : M 4 226 = 1 * ρ 0 + 0 := hm (4, 226, [(1, 0)]) (by decide)
  have m1 : M 4 227 = 16 * ρ 0 + 0 := hm (4, 227, [(16, 0)]) (by decide)
  have m2 : M 4 219 = 1 * ρ 2 + 0 := hm (4, 219, [(1, 2)]) (by decide)
  simp only [h0] at m0 m1
  have qxSC := hI.2.2.2.2.2.2.2.2.2.2.2.2.2.2.2.2.2.2.2.2.2.2.2.2.2.2.2.2.2.2.2.2.2.2.1
  obtain ⟨l1, l2, l3⟩ := gx_xSC hI (by omega)
  refine ⟨ρ, fun _ _ => rfl, fun f h => ?_, ?_⟩
  · exact nomatch h
  · show sI (sU M 4 227 (17 * ρ 0 + 0))
    obtain ⟨W, hW⟩ : ∃ W, W = (sU M 4 227 (17 * ρ 0 + 0)) := ⟨_, rfl⟩
    rw [← hW]
    have base : sI0 W := by
      rw [hW]
      exact (si_u0 hI.1 (fun r hr => by cases hr))
    have k2 : XI2 W := by
      rw [hW]
      exact (xi2_u rfl hI.2.1)
    have k3 : XI3 W := by
      rw [hW]
      exact (xi3_u rfl hI.2.2.1)
    have kXA : XA W := by
      rw [hW]
      exact (uXA rfl hI.2.2.2.1)
    have k_xN1 : xN1 W := by
      rw [hW]
      exact (uxN1 rfl hI.2.2.2.2.1)
    have k_xN2 : xN2 W := by
      rw [hW]
      exact (uxN2 rfl hI.2.2.2.2.2.1)
    have k_xN3 : xN3 W := by
      rw [hW]
      exact (uxN3 rfl hI.2.2.2.2.2.2.1)
    have k_xN4 : xN4 W := by
      rw [hW]
      exact (uxN4 rfl hI.2.2.2.2.2.2.2.1)
    have k_xN5 : xN5 W := by
      rw [hW]
      exact (uxN5 rfl hI.2.2.2.2.2.2.2.2.1)
    have k_xN6 : xN6 W := by
      rw [hW]
      exact (uxN6 rfl hI.2.2.2.2.2.2.2.2.2.1)
    have k_xH1 : xH1 W := by
      rw [hW]
      exact (uxH1 rfl hI.2.2.2.2.2.2.2.2.2.2.1)
    have k_xK1 : xK1 W := by
      rw [hW]
      exact (uxK1 rfl hI.2.2.2.2.2.2.2.2.2.2.2.1)
    have k_xC1 : xC1 W := by
      rw [hW]
      exact (uxC1 rfl hI.2.2.2.2.2.2.2.2.2.2.2.2.1)
    have k_xRW : xRW W := by
      rw [hW]
      exact (uxRW rfl hI.2.2.2.2.2.2.2.2.2.2.2.2.2.1)
    have k_xWT : xWT W := by
      rw [hW]
      exact (uxWT rfl hI.2.2.2.2.2.2.2.2.2.2.2.2.2.2.1)
    have k_xCU : xCU W := by
      rw [hW]
      exact (uxCU rfl hI.2.2.2.2.2.2.2.2.2.2.2.2.2.2.2.1)
    have k_xG2 : xG2 W := by
      rw [hW]
      exact (uxG2 rfl hI.2.2.2.2.2.2.2.2.2.2.2.2.2.2.2.2.1)
    have k_xG3 : xG3 W := by
      rw [hW]
      exact (uxG3 rfl hI.2.2.2.2.2.2.2.2.2.2.2.2.2.2.2.2.2.1)
    have k_xG4 : xG4 W := by
      rw [hW]
      exact (uxG4 rfl hI.2.2.2.2.2.2.2.2.2.2.2.2.2.2.2.2.2.2.1)
    have k_xG5 : xG5 W := by
      rw [hW]
      exact (uxG5 rfl hI.2.2.2.2.2.2.2.2.2.2.2.2.2.2.2.2.2.2.2.1)
    have k_xG6 : xG6 W := by
      rw [hW]
      exact (uxG6 rfl hI.2.2.2.2.2.2.2.2.2.2.2.2.2.2.2.2.2.2.2.2.1)
    have k_xS1 : xS1 W := by
      rw [hW]
      exact (uxS1 rfl hI.2.2.2.2.2.2.2.2.2.2.2.2.2.2.2.2.2.2.2.2.2.1)
    have k_xS2 : xS2 W := by
      rw [hW]
      exact (uxS2 rfl hI.2.2.2.2.2.2.2.2.2.2.2.2.2.2.2.2.2.2.2.2.2.2.1)
    have k_xS3 : xS3 W := by
      rw [hW]
      exact (uxS3 rfl hI.2.2.2.2.2.2.2.2.2.2.2.2.2.2.2.2.2.2.2.2.2.2.2.1)
    have k_xS4 : xS4 W := by
      rw [hW]
      exact (uxS4 rfl hI.2.2.2.2.2.2.2.2.2.2.2.2.2.2.2.2.2.2.2.2.2.2.2.2.1)
    have k_xS5 : xS5 W := by
      rw [hW]
      exact (uxS5 rfl hI.2.2.2.2.2.2.2.2.2.2.2.2.2.2.2.2.2.2.2.2.2.2.2.2.2.1)
    have k_xS6 : xS6 W := by
      rw [hW]
      exact (uxS6 rfl hI.2.2.2.2.2.2.2.2.2.2.2.2.2.2.2.2.2.2.2.2.2.2.2.2.2.2.1)
    have k_xS7 : xS7 W := by
      rw [hW]
      exact (uxS7 rfl hI.2.2.2.2.2.2.2.2.2.2.2.2.2.2.2.2.2.2.2.2.2.2.2.2.2.2.2.1)
    have k_xS8 : xS8 W := by
      rw [hW]
      exact (uxS8 rfl hI.2.2.2.2.2.2.2.2.2.2.2.2.2.2.2.2.2.2.2.2.2.2.2.2.2.2.2.2.1)
    have k_xS9 : xS9 W := by
      rw [hW]
      exact (uxS9 rfl hI.2.2.2.2.2.2.2.2.2.2.2.2.2.2.2.2.2.2.2.2.2.2.2.2.2.2.2.2.2.1)
    have k_xSA : xSA W := by
      rw [hW]
      exact (uxSA rfl hI.2.2.2.2.2.2.2.2.2.2.2.2.2.2.2.2.2.2.2.2.2.2.2.2.2.2.2.2.2.2.1)
    have k_xSG : xSG W := by
      rw [hW]
      exact (uxSG rfl hI.2.2.2.2.2.2.2.2.2.2.2.2.2.2.2.2.2.2.2.2.2.2.2.2.2.2.2.2.2.2.2.1)
    have k_xSF : xSF W := by
      rw [hW]
      exact (uxSF rfl hI.2.2.2.2.2.2.2.2.2.2.2.2.2.2.2.2.2.2.2.2.2.2.2.2.2.2.2.2.2.2.2.2.1)
    have k_xSB : xSB W := by
      rw [hW]
      exact (uxSB rfl hI.2.2.2.2.2.2.2.2.2.2.2.2.2.2.2.2.2.2.2.2.2.2.2.2.2.2.2.2.2.2.2.2.2.1)
    have k_xSC : xSC W := by
      have r4_226 : W 4 226 = M 4 226 := by rw [hW, sU_ne (fun z => by omega)]
      have r4_227 : W 4 227 = 17 * ρ 0 + 0 := by rw [hW, sU_at]
      have r4_219 : W 4 219 = M 4 219 := by rw [hW, sU_ne (fun z => by omega)]
      intro h
      rw [r4_227, r4_219, h0]
      refine ⟨by omega, by omega, ?_⟩
      have e1 := tki_on (x := M 4 219) (w := 16) (show tLa[16]? = some (48365568 : Int) from rfl)
      rw [if_neg (by omega)] at e1
      rw [show M 4 227 = 16 by omega] at l3
      rw [← l3]
      exact e1.symm
    have k_xSD : xSD W := by
      rw [hW]
      exact (uxSD rfl hI.2.2.2.2.2.2.2.2.2.2.2.2.2.2.2.2.2.2.2.2.2.2.2.2.2.2.2.2.2.2.2.2.2.2.2.1)
    have k_xSE : xSE W := by
      rw [hW]
      exact (uxSE rfl hI.2.2.2.2.2.2.2.2.2.2.2.2.2.2.2.2.2.2.2.2.2.2.2.2.2.2.2.2.2.2.2.2.2.2.2.2.1)
    have k_xSW : xSW W := by
      rw [hW]
      exact (uxSW rfl hI.2.2.2.2.2.2.2.2.2.2.2.2.2.2.2.2.2.2.2.2.2.2.2.2.2.2.2.2.2.2.2.2.2.2.2.2.2.1)
    have k_xST : xST W := by
      rw [hW]
      exact (uxST rfl hI.2.2.2.2.2.2.2.2.2.2.2.2.2.2.2.2.2.2.2.2.2.2.2.2.2.2.2.2.2.2.2.2.2.2.2.2.2.2.1)
    have k_xSP : xSP W := by
      rw [hW]
      exact (uxSP rfl hI.2.2.2.2.2.2.2.2.2.2.2.2.2.2.2.2.2.2.2.2.2.2.2.2.2.2.2.2.2.2.2.2.2.2.2.2.2.2.2.1)
    have k_xSL : xSL W := by
      rw [hW]
      exact (uxSL rfl hI.2.2.2.2.2.2.2.2.2.2.2.2.2.2.2.2.2.2.2.2.2.2.2.2.2.2.2.2.2.2.2.2.2.2.2.2.2.2.2.2.1)
    have k_xSM : xSM W := by
      rw [hW]
      exact (uxSM rfl hI.2.2.2.2.2.2.2.2.2.2.2.2.2.2.2.2.2.2.2.2.2.2.2.2.2.2.2.2.2.2.2.2.2.2.2.2.2.2.2.2.2.1)
    have k_xSI : xSI W := by
      rw [hW]
      exact (uxSI rfl hI.2.2.2.2.2.2.2.2.2.2.2.2.2.2.2.2.2.2.2.2.2.2.2.2.2.2.2.2.2.2.2.2.2.2.2.2.2.2.2.2.2.2)
    have k_XC : XC W := ⟨k_xS1, k_xS2, k_xS3, k_xS4, k_xS5, k_xS6, k_xS7, k_xS8, k_xS9, k_xSA, k_xSG, k_xSF, k_xSB, k_xSC, k_xSD, k_xSE, k_xSW, k_xST, k_xSP, k_xSL, k_xSM, k_xSI⟩
    have kXB : XB W := ⟨k_xN1, k_xN2, k_xN3, k_xN4, k_xN5, k_xN6, k_xH1, k_xK1, k_xC1, k_xRW, k_xWT, k_xCU, k_xG2, k_xG3, k_xG4, k_xG5, k_xG6, k_XC⟩
    exact ⟨base, k2, k3, kXA, kXB⟩
-- wHitR17_c
def xr_510 : qRu := (13, [[(-1, 0), (1, 5)], [(1, 1)], [(-1, 1), (1, 9)], [(1, 1), (-1, 9)], [(-1, 0), (-1, 1), (1, 10)], [(6, 0), (1, 9), (-1, 10)], [(-486146048, 0), (1, 11)], [(486146048, 0), (-1, 11)]], [(4, 210, [(1, 0)]), (4, 211, [(1, 1)]), (4, 101, [(1, 2)]), (3, 46, [(1, 3)]), (3, 47, [(1, 4)]), (4, 100, [(1, 5)]), (3, 44, [(1, 6)]), (3, 45, [(1, 7)]), (4, 107, [(1, 8)]), (4, 214, [(1, 0)]), (4, 215, [(1, 9)]), (4, 217, [(1, 10)]), (4, 219, [(1, 11)]), (4, 216, [(1, 12)])], [], [], [[(-1, 1), (1, 3)], [(1, 1), (-1, 3)], [(1, 4), (-1, 10)], [(-1, 4), (1, 10)], [(-35, 0), (1, 6)], [(35, 0), (-1, 6)], [(1, 7), (-1, 11)], [(-1, 7), (1, 11)]])
theorem xo_510 : qRok xr_510 := by
  intro ρ M h0 hf hm hI
  have f0 := hf [(-1, 0), (1, 5)] (by decide)
  have f1 := hf [(1, 1)] (by decide)
  have f2 := hf [(-1, 1), (1, 9)] (by decide)
  have f3 := hf [(1, 1), (-1, 9)] (by decide)
  have f4 := hf [(-1, 0), (-1, 1), (1, 10)] (by decide)
  have f5 := hf [(6, 0), (1, 9), (-1, 10)] (by decide)
  have f6 := hf [(-486146048, 0), (1, 11)] (by decide)
  have f7 := hf [(486146048, 0), (-1, 11)] (by decide)
  simp only [qD, h0] at f0 f1 f2 f3 f4 f5 f6 f7
  have m0 : M 4 210 = 1 * ρ 0 + 0 := hm (4, 210, [(1, 0)]) (by decide)
  have m1 : M 4 211 = 1 * ρ 1 + 0 := hm (4, 211, [(1, 1)]) (by decide)
  have m2 : M 4 101 = 1 * ρ 2 + 0 := hm (4, 101, [(1, 2)]) (by decide)
  have m3 : M 3 46 = 1 * ρ 3 + 0 := hm (3, 46, [(1, 3)]) (by decide)
  have m4 : M 3 47 = 1 * ρ 4 + 0 := hm (3, 47, [(1, 4)]) (by decide)
  have m5 : M 4 100 = 1 * ρ 5 + 0 := hm (4, 100, [(1, 5)]) (by decide)
  have m6 : M 3 44 = 1 * ρ 6 + 0 := hm (3, 44, [(1, 6)]) (by decide)
  have m7 : M 3 45 = 1 * ρ 7 + 0 := hm (3, 45, [(1, 7)]) (by decide)
  have m8 : M 4 107 = 1 * ρ 8 + 0 := hm (4, 107, [(1, 8)]) (by decide)
  have m9 : M 4 214 = 1 * ρ 0 + 0 := hm (4, 214, [(1, 0)]) (by decide)
  have m10 : M 4 215 = 1 * ρ 9 + 0 := hm (4, 215, [(1, 9)]) (by decide)
  have m11 : M 4 217 = 1 * ρ 10 + 0 := hm (4, 217, [(1, 10)]) (by decide)
  have m12 : M 4 219 = 1 * ρ 11 + 0 := hm (4, 219, [(1, 11)]) (by decide)
  have m13 : M 4 216 = 1 * ρ 12 + 0 := hm (4, 216, [(1, 12)]) (by decide)
  simp only [h0] at m0 m9
  obtain ⟨u1, u2, _⟩ := gx_xS8 hI (by omega)

  obtain ⟨a1, a2, a3, a4, a5, a6, a7⟩ := gx_xSA hI (by omega)
  have eq1 : (M 4 215).toNat = (M 4 211).toNat := by omega
  rw [eq1] at a6 a7
  have hgt := ten_gt (g := M 92) (lo := 97) (hi := 122) (n := (M 4 101).toNat) (q := (M 4 211).toNat) (by omega)
  have el1 : (M 4 217 - M 4 215).toNat = tEn (M 92) 97 122 (M 4 101).toNat (M 4 211).toNat - (M 4 211).toNat := by omega
  rw [el1] at a7

  obtain ⟨t1, t2, t3, t4, t5, t6⟩ := tk_of hI (by omega) (by omega) (by omega) (show tAt (M 92) (M 4 101).toNat (M 4 211).toNat (M 4 107) (M 4 108) = (35, M 4 219, ((M 4 211).toNat : Int), M 4 217, 0, 17) from by
    unfold tAt
    rw [if_neg (by omega), if_pos hgt.2]
    unfold tWo
    rw [← a7, ← a6]
    have hk : tKi (M 4 219) 0 = 35 := by
      rw [show M 4 219 = 486146048 by omega]
      decide
    have h6 : ¬ (6 < tEn (M 92) 97 122 (M 4 101).toNat (M 4 211).toNat - (M 4 211).toNat) := by omega
    unfold tWk tWs tWv
    rw [if_neg h6, if_neg h6, if_neg h6, hk]
    rfl)
  refine ⟨ρ, fun _ _ => rfl, fun f h => ?_, ?_⟩
  · have h : f ∈ ([[(-1, 1), (1, 3)], [(1, 1), (-1, 3)], [(1, 4), (-1, 10)], [(-1, 4), (1, 10)], [(-35, 0), (1, 6)], [(35, 0), (-1, 6)], [(1, 7), (-1, 11)], [(-1, 7), (1, 11)]] : List qF) := h
    simp only [List.mem_cons, List.not_mem_nil, or_false] at h
    rcases h with rfl | rfl | rfl | rfl | rfl | rfl | rfl | rfl
    · show 0 ≤ -1 * ρ 1 + (1 * ρ 3 + 0)
      (try rw [h0]); omega
    · show 0 ≤ 1 * ρ 1 + (-1 * ρ 3 + 0)
      (try rw [h0]); omega
    · show 0 ≤ 1 * ρ 4 + (-1 * ρ 10 + 0)
      (try rw [h0]); omega
    · show 0 ≤ -1 * ρ 4 + (1 * ρ 10 + 0)
      (try rw [h0]); omega
    · show 0 ≤ -35 * ρ 0 + (1 * ρ 6 + 0)
      (try rw [h0]); omega
    · show 0 ≤ 35 * ρ 0 + (-1 * ρ 6 + 0)
      (try rw [h0]); omega
    · show 0 ≤ 1 * ρ 7 + (-1 * ρ 11 + 0)
      (try rw [h0]); omega
    · show 0 ≤ -1 * ρ 7 + (1 * ρ 11 + 0)
      (try rw [h0]); omega
  · show sI M
    exact hI
-- wHitR17_r
def xr_511 : qRu := (13, [[(-1, 0), (1, 5)], [(1, 1)], [(-1, 1), (1, 9)], [(1, 1), (-1, 9)], [(-1, 0), (-1, 1), (1, 10)], [(6, 0), (1, 9), (-1, 10)], [(-486146048, 0), (1, 11)], [(486146048, 0), (-1, 11)]], [(4, 210, [(1, 0)]), (4, 211, [(1, 1)]), (4, 101, [(1, 2)]), (3, 46, [(1, 3)]), (3, 47, [(1, 4)]), (4, 100, [(1, 5)]), (3, 50, [(1, 6)]), (3, 51, [(1, 7)]), (4, 108, [(1, 8)]), (4, 214, [(1, 0)]), (4, 215, [(1, 9)]), (4, 217, [(1, 10)]), (4, 219, [(1, 11)]), (4, 216, [(1, 12)])], [], [], [[(-1, 1), (1, 3)], [(1, 1), (-1, 3)], [(1, 4), (-1, 10)], [(-1, 4), (1, 10)], [(1, 6)], [(-1, 6)], [(-17, 0), (1, 7)], [(17, 0), (-1, 7)]])
theorem xo_511 : qRok xr_511 := by
  intro ρ M h0 hf hm hI
  have f0 := hf [(-1, 0), (1, 5)] (by decide)
  have f1 := hf [(1, 1)] (by decide)
  have f2 := hf [(-1, 1), (1, 9)] (by decide)
  have f3 := hf [(1, 1), (-1, 9)] (by decide)
  have f4 := hf [(-1, 0), (-1, 1), (1, 10)] (by decide)
  have f5 := hf [(6, 0), (1, 9), (-1, 10)] (by decide)
  have f6 := hf [(-486146048, 0), (1, 11)] (by decide)
  have f7 := hf [(486146048, 0), (-1, 11)] (by decide)
  simp only [qD, h0] at f0 f1 f2 f3 f4 f5 f6 f7
  have m0 : M 4 210 = 1 * ρ 0 + 0 := hm (4, 210, [(1, 0)]) (by decide)
  have m1 : M 4 211 = 1 * ρ 1 + 0 := hm (4, 211, [(1, 1)]) (by decide)
  have m2 : M 4 101 = 1 * ρ 2 + 0 := hm (4, 101, [(1, 2)]) (by decide)
  have m3 : M 3 46 = 1 * ρ 3 + 0 := hm (3, 46, [(1, 3)]) (by decide)
  have m4 : M 3 47 = 1 * ρ 4 + 0 := hm (3, 47, [(1, 4)]) (by decide)
  have m5 : M 4 100 = 1 * ρ 5 + 0 := hm (4, 100, [(1, 5)]) (by decide)
  have m6 : M 3 50 = 1 * ρ 6 + 0 := hm (3, 50, [(1, 6)]) (by decide)
  have m7 : M 3 51 = 1 * ρ 7 + 0 := hm (3, 51, [(1, 7)]) (by decide)
  have m8 : M 4 108 = 1 * ρ 8 + 0 := hm (4, 108, [(1, 8)]) (by decide)
  have m9 : M 4 214 = 1 * ρ 0 + 0 := hm (4, 214, [(1, 0)]) (by decide)
  have m10 : M 4 215 = 1 * ρ 9 + 0 := hm (4, 215, [(1, 9)]) (by decide)
  have m11 : M 4 217 = 1 * ρ 10 + 0 := hm (4, 217, [(1, 10)]) (by decide)
  have m12 : M 4 219 = 1 * ρ 11 + 0 := hm (4, 219, [(1, 11)]) (by decide)
  have m13 : M 4 216 = 1 * ρ 12 + 0 := hm (4, 216, [(1, 12)]) (by decide)
  simp only [h0] at m0 m9
  obtain ⟨u1, u2, _⟩ := gx_xS8 hI (by omega)

  obtain ⟨a1, a2, a3, a4, a5, a6, a7⟩ := gx_xSA hI (by omega)
  have eq1 : (M 4 215).toNat = (M 4 211).toNat := by omega
  rw [eq1] at a6 a7
  have hgt := ten_gt (g := M 92) (lo := 97) (hi := 122) (n := (M 4 101).toNat) (q := (M 4 211).toNat) (by omega)
  have el1 : (M 4 217 - M 4 215).toNat = tEn (M 92) 97 122 (M 4 101).toNat (M 4 211).toNat - (M 4 211).toNat := by omega
  rw [el1] at a7

  obtain ⟨t1, t2, t3, t4, t5, t6⟩ := tk_of hI (by omega) (by omega) (by omega) (show tAt (M 92) (M 4 101).toNat (M 4 211).toNat (M 4 107) (M 4 108) = (35, M 4 219, ((M 4 211).toNat : Int), M 4 217, 0, 17) from by
    unfold tAt
    rw [if_neg (by omega), if_pos hgt.2]
    unfold tWo
    rw [← a7, ← a6]
    have hk : tKi (M 4 219) 0 = 35 := by
      rw [show M 4 219 = 486146048 by omega]
      decide
    have h6 : ¬ (6 < tEn (M 92) 97 122 (M 4 101).toNat (M 4 211).toNat - (M 4 211).toNat) := by omega
    unfold tWk tWs tWv
    rw [if_neg h6, if_neg h6, if_neg h6, hk]
    rfl)
  refine ⟨ρ, fun _ _ => rfl, fun f h => ?_, ?_⟩
  · have h : f ∈ ([[(-1, 1), (1, 3)], [(1, 1), (-1, 3)], [(1, 4), (-1, 10)], [(-1, 4), (1, 10)], [(1, 6)], [(-1, 6)], [(-17, 0), (1, 7)], [(17, 0), (-1, 7)]] : List qF) := h
    simp only [List.mem_cons, List.not_mem_nil, or_false] at h
    rcases h with rfl | rfl | rfl | rfl | rfl | rfl | rfl | rfl
    · show 0 ≤ -1 * ρ 1 + (1 * ρ 3 + 0)
      (try rw [h0]); omega
    · show 0 ≤ 1 * ρ 1 + (-1 * ρ 3 + 0)
      (try rw [h0]); omega
    · show 0 ≤ 1 * ρ 4 + (-1 * ρ 10 + 0)
      (try rw [h0]); omega
    · show 0 ≤ -1 * ρ 4 + (1 * ρ 10 + 0)
      (try rw [h0]); omega
    · show 0 ≤ 1 * ρ 6 + 0
      (try rw [h0]); omega
    · show 0 ≤ -1 * ρ 6 + 0
      (try rw [h0]); omega
    · show 0 ≤ -17 * ρ 0 + (1 * ρ 7 + 0)
      (try rw [h0]); omega
    · show 0 ≤ 17 * ρ 0 + (-1 * ρ 7 + 0)
      (try rw [h0]); omega
  · show sI M
    exact hI
-- langMissR17L
def xr_512 : qRu := (3, [[(486146047, 0), (-1, 2)]], [(4, 226, [(1, 0)]), (4, 227, [(17, 0)]), (4, 219, [(1, 2)])], [], [(4, 227, [(18, 0)])], [])
theorem xo_512 : qRok xr_512 := by
  intro ρ M h0 hf hm hI
  have f0 := hf [(486146047, 0), (-1, 2)] (by decide)
  simp only [qD, h0] at f0
  have m0 : M 4 226 = 1 * ρ 0 + 0 := hm (4, 226, [(1, 0)]) (by decide)
  have m1 : M 4 227 = 17 * ρ 0 + 0 := hm (4, 227, [(17, 0)]) (by decide)
  have m2 : M 4 219 = 1 * ρ 2 + 0 := hm (4, 219, [(1, 2)]) (by decide)
  simp only [h0] at m0 m1
  have qxSC := hI.2.2.2.2.2.2.2.2.2.2.2.2.2.2.2.2.2.2.2.2.2.2.2.2.2.2.2.2.2.2.2.2.2.2.1
  obtain ⟨l1, l2, l3⟩ := gx_xSC hI (by omega)
  refine ⟨ρ, fun _ _ => rfl, fun f h => ?_, ?_⟩
  · exact nomatch h
  · show sI (sU M 4 227 (18 * ρ 0 + 0))
    obtain ⟨W, hW⟩ : ∃ W, W = (sU M 4 227 (18 * ρ 0 + 0)) := ⟨_, rfl⟩
    rw [← hW]
    have base : sI0 W := by
      rw [hW]
      exact (si_u0 hI.1 (fun r hr => by cases hr))
    have k2 : XI2 W := by
      rw [hW]
      exact (xi2_u rfl hI.2.1)
    have k3 : XI3 W := by
      rw [hW]
      exact (xi3_u rfl hI.2.2.1)
    have kXA : XA W := by
      rw [hW]
      exact (uXA rfl hI.2.2.2.1)
    have k_xN1 : xN1 W := by
      rw [hW]
      exact (uxN1 rfl hI.2.2.2.2.1)
    have k_xN2 : xN2 W := by
      rw [hW]
      exact (uxN2 rfl hI.2.2.2.2.2.1)
    have k_xN3 : xN3 W := by
      rw [hW]
      exact (uxN3 rfl hI.2.2.2.2.2.2.1)
    have k_xN4 : xN4 W := by
      rw [hW]
      exact (uxN4 rfl hI.2.2.2.2.2.2.2.1)
    have k_xN5 : xN5 W := by
      rw [hW]
      exact (uxN5 rfl hI.2.2.2.2.2.2.2.2.1)
    have k_xN6 : xN6 W := by
      rw [hW]
      exact (uxN6 rfl hI.2.2.2.2.2.2.2.2.2.1)
    have k_xH1 : xH1 W := by
      rw [hW]
      exact (uxH1 rfl hI.2.2.2.2.2.2.2.2.2.2.1)
    have k_xK1 : xK1 W := by
      rw [hW]
      exact (uxK1 rfl hI.2.2.2.2.2.2.2.2.2.2.2.1)
    have k_xC1 : xC1 W := by
      rw [hW]
      exact (uxC1 rfl hI.2.2.2.2.2.2.2.2.2.2.2.2.1)
    have k_xRW : xRW W := by
      rw [hW]
      exact (uxRW rfl hI.2.2.2.2.2.2.2.2.2.2.2.2.2.1)
    have k_xWT : xWT W := by
      rw [hW]
      exact (uxWT rfl hI.2.2.2.2.2.2.2.2.2.2.2.2.2.2.1)
    have k_xCU : xCU W := by
      rw [hW]
      exact (uxCU rfl hI.2.2.2.2.2.2.2.2.2.2.2.2.2.2.2.1)
    have k_xG2 : xG2 W := by
      rw [hW]
      exact (uxG2 rfl hI.2.2.2.2.2.2.2.2.2.2.2.2.2.2.2.2.1)
    have k_xG3 : xG3 W := by
      rw [hW]
      exact (uxG3 rfl hI.2.2.2.2.2.2.2.2.2.2.2.2.2.2.2.2.2.1)
    have k_xG4 : xG4 W := by
      rw [hW]
      exact (uxG4 rfl hI.2.2.2.2.2.2.2.2.2.2.2.2.2.2.2.2.2.2.1)
    have k_xG5 : xG5 W := by
      rw [hW]
      exact (uxG5 rfl hI.2.2.2.2.2.2.2.2.2.2.2.2.2.2.2.2.2.2.2.1)
    have k_xG6 : xG6 W := by
      rw [hW]
      exact (uxG6 rfl hI.2.2.2.2.2.2.2.2.2.2.2.2.2.2.2.2.2.2.2.2.1)
    have k_xS1 : xS1 W := by
      rw [hW]
      exact (uxS1 rfl hI.2.2.2.2.2.2.2.2.2.2.2.2.2.2.2.2.2.2.2.2.2.1)
    have k_xS2 : xS2 W := by
      rw [hW]
      exact (uxS2 rfl hI.2.2.2.2.2.2.2.2.2.2.2.2.2.2.2.2.2.2.2.2.2.2.1)
    have k_xS3 : xS3 W := by
      rw [hW]
      exact (uxS3 rfl hI.2.2.2.2.2.2.2.2.2.2.2.2.2.2.2.2.2.2.2.2.2.2.2.1)
    have k_xS4 : xS4 W := by
      rw [hW]
      exact (uxS4 rfl hI.2.2.2.2.2.2.2.2.2.2.2.2.2.2.2.2.2.2.2.2.2.2.2.2.1)
    have k_xS5 : xS5 W := by
      rw [hW]
      exact (uxS5 rfl hI.2.2.2.2.2.2.2.2.2.2.2.2.2.2.2.2.2.2.2.2.2.2.2.2.2.1)
    have k_xS6 : xS6 W := by
      rw [hW]
      exact (uxS6 rfl hI.2.2.2.2.2.2.2.2.2.2.2.2.2.2.2.2.2.2.2.2.2.2.2.2.2.2.1)
    have k_xS7 : xS7 W := by
      rw [hW]
      exact (uxS7 rfl hI.2.2.2.2.2.2.2.2.2.2.2.2.2.2.2.2.2.2.2.2.2.2.2.2.2.2.2.1)
    have k_xS8 : xS8 W := by
      rw [hW]
      exact (uxS8 rfl hI.2.2.2.2.2.2.2.2.2.2.2.2.2.2.2.2.2.2.2.2.2.2.2.2.2.2.2.2.1)
    have k_xS9 : xS9 W := by
      rw [hW]
      exact (uxS9 rfl hI.2.2.2.2.2.2.2.2.2.2.2.2.2.2.2.2.2.2.2.2.2.2.2.2.2.2.2.2.2.1)
    have k_xSA : xSA W := by
      rw [hW]
      exact (uxSA rfl hI.2.2.2.2.2.2.2.2.2.2.2.2.2.2.2.2.2.2.2.2.2.2.2.2.2.2.2.2.2.2.1)
    have k_xSG : xSG W := by
      rw [hW]
      exact (uxSG rfl hI.2.2.2.2.2.2.2.2.2.2.2.2.2.2.2.2.2.2.2.2.2.2.2.2.2.2.2.2.2.2.2.1)
    have k_xSF : xSF W := by
      rw [hW]
      exact (uxSF rfl hI.2.2.2.2.2.2.2.2.2.2.2.2.2.2.2.2.2.2.2.2.2.2.2.2.2.2.2.2.2.2.2.2.1)
    have k_xSB : xSB W := by
      rw [hW]
      exact (uxSB rfl hI.2.2.2.2.2.2.2.2.2.2.2.2.2.2.2.2.2.2.2.2.2.2.2.2.2.2.2.2.2.2.2.2.2.1)
    have k_xSC : xSC W := by
      have r4_226 : W 4 226 = M 4 226 := by rw [hW, sU_ne (fun z => by omega)]
      have r4_227 : W 4 227 = 18 * ρ 0 + 0 := by rw [hW, sU_at]
      have r4_219 : W 4 219 = M 4 219 := by rw [hW, sU_ne (fun z => by omega)]
      intro h
      rw [r4_227, r4_219, h0]
      refine ⟨by omega, by omega, ?_⟩
      have e1 := tki_on (x := M 4 219) (w := 17) (show tLa[17]? = some (486146048 : Int) from rfl)
      rw [if_neg (by omega)] at e1
      rw [show M 4 227 = 17 by omega] at l3
      rw [← l3]
      exact e1.symm
    have k_xSD : xSD W := by
      rw [hW]
      exact (uxSD rfl hI.2.2.2.2.2.2.2.2.2.2.2.2.2.2.2.2.2.2.2.2.2.2.2.2.2.2.2.2.2.2.2.2.2.2.2.1)
    have k_xSE : xSE W := by
      rw [hW]
      exact (uxSE rfl hI.2.2.2.2.2.2.2.2.2.2.2.2.2.2.2.2.2.2.2.2.2.2.2.2.2.2.2.2.2.2.2.2.2.2.2.2.1)
    have k_xSW : xSW W := by
      rw [hW]
      exact (uxSW rfl hI.2.2.2.2.2.2.2.2.2.2.2.2.2.2.2.2.2.2.2.2.2.2.2.2.2.2.2.2.2.2.2.2.2.2.2.2.2.1)
    have k_xST : xST W := by
      rw [hW]
      exact (uxST rfl hI.2.2.2.2.2.2.2.2.2.2.2.2.2.2.2.2.2.2.2.2.2.2.2.2.2.2.2.2.2.2.2.2.2.2.2.2.2.2.1)
    have k_xSP : xSP W := by
      rw [hW]
      exact (uxSP rfl hI.2.2.2.2.2.2.2.2.2.2.2.2.2.2.2.2.2.2.2.2.2.2.2.2.2.2.2.2.2.2.2.2.2.2.2.2.2.2.2.1)
    have k_xSL : xSL W := by
      rw [hW]
      exact (uxSL rfl hI.2.2.2.2.2.2.2.2.2.2.2.2.2.2.2.2.2.2.2.2.2.2.2.2.2.2.2.2.2.2.2.2.2.2.2.2.2.2.2.2.1)
    have k_xSM : xSM W := by
      rw [hW]
      exact (uxSM rfl hI.2.2.2.2.2.2.2.2.2.2.2.2.2.2.2.2.2.2.2.2.2.2.2.2.2.2.2.2.2.2.2.2.2.2.2.2.2.2.2.2.2.1)
    have k_xSI : xSI W := by
      rw [hW]
      exact (uxSI rfl hI.2.2.2.2.2.2.2.2.2.2.2.2.2.2.2.2.2.2.2.2.2.2.2.2.2.2.2.2.2.2.2.2.2.2.2.2.2.2.2.2.2.2)
    have k_XC : XC W := ⟨k_xS1, k_xS2, k_xS3, k_xS4, k_xS5, k_xS6, k_xS7, k_xS8, k_xS9, k_xSA, k_xSG, k_xSF, k_xSB, k_xSC, k_xSD, k_xSE, k_xSW, k_xST, k_xSP, k_xSL, k_xSM, k_xSI⟩
    have kXB : XB W := ⟨k_xN1, k_xN2, k_xN3, k_xN4, k_xN5, k_xN6, k_xH1, k_xK1, k_xC1, k_xRW, k_xWT, k_xCU, k_xG2, k_xG3, k_xG4, k_xG5, k_xG6, k_XC⟩
    exact ⟨base, k2, k3, kXA, kXB⟩
-- langMissR17H
def xr_513 : qRu := (3, [[(-486146049, 0), (1, 2)]], [(4, 226, [(1, 0)]), (4, 227, [(17, 0)]), (4, 219, [(1, 2)])], [], [(4, 227, [(18, 0)])], [])
theorem xo_513 : qRok xr_513 := by
  intro ρ M h0 hf hm hI
  have f0 := hf [(-486146049, 0), (1, 2)] (by decide)
  simp only [qD, h0] at f0
  have m0 : M 4 226 = 1 * ρ 0 + 0 := hm (4, 226, [(1, 0)]) (by decide)
  have m1 : M 4 227 = 17 * ρ 0 + 0 := hm (4, 227, [(17, 0)]) (by decide)
  have m2 : M 4 219 = 1 * ρ 2 + 0 := hm (4, 219, [(1, 2)]) (by decide)
  simp only [h0] at m0 m1
  have qxSC := hI.2.2.2.2.2.2.2.2.2.2.2.2.2.2.2.2.2.2.2.2.2.2.2.2.2.2.2.2.2.2.2.2.2.2.1
  obtain ⟨l1, l2, l3⟩ := gx_xSC hI (by omega)
  refine ⟨ρ, fun _ _ => rfl, fun f h => ?_, ?_⟩
  · exact nomatch h
  · show sI (sU M 4 227 (18 * ρ 0 + 0))
    obtain ⟨W, hW⟩ : ∃ W, W = (sU M 4 227 (18 * ρ 0 + 0)) := ⟨_, rfl⟩
    rw [← hW]
    have base : sI0 W := by
      rw [hW]
      exact (si_u0 hI.1 (fun r hr => by cases hr))
    have k2 : XI2 W := by
      rw [hW]
      exact (xi2_u rfl hI.2.1)
    have k3 : XI3 W := by
      rw [hW]
      exact (xi3_u rfl hI.2.2.1)
    have kXA : XA W := by
      rw [hW]
      exact (uXA rfl hI.2.2.2.1)
    have k_xN1 : xN1 W := by
      rw [hW]
      exact (uxN1 rfl hI.2.2.2.2.1)
    have k_xN2 : xN2 W := by
      rw [hW]
      exact (uxN2 rfl hI.2.2.2.2.2.1)
    have k_xN3 : xN3 W := by
      rw [hW]
      exact (uxN3 rfl hI.2.2.2.2.2.2.1)
    have k_xN4 : xN4 W := by
      rw [hW]
      exact (uxN4 rfl hI.2.2.2.2.2.2.2.1)
    have k_xN5 : xN5 W := by
      rw [hW]
      exact (uxN5 rfl hI.2.2.2.2.2.2.2.2.1)
    have k_xN6 : xN6 W := by
      rw [hW]
      exact (uxN6 rfl hI.2.2.2.2.2.2.2.2.2.1)
    have k_xH1 : xH1 W := by
      rw [hW]
      exact (uxH1 rfl hI.2.2.2.2.2.2.2.2.2.2.1)
    have k_xK1 : xK1 W := by
      rw [hW]
      exact (uxK1 rfl hI.2.2.2.2.2.2.2.2.2.2.2.1)
    have k_xC1 : xC1 W := by
      rw [hW]
      exact (uxC1 rfl hI.2.2.2.2.2.2.2.2.2.2.2.2.1)
    have k_xRW : xRW W := by
      rw [hW]
      exact (uxRW rfl hI.2.2.2.2.2.2.2.2.2.2.2.2.2.1)
    have k_xWT : xWT W := by
      rw [hW]
      exact (uxWT rfl hI.2.2.2.2.2.2.2.2.2.2.2.2.2.2.1)
    have k_xCU : xCU W := by
      rw [hW]
      exact (uxCU rfl hI.2.2.2.2.2.2.2.2.2.2.2.2.2.2.2.1)
    have k_xG2 : xG2 W := by
      rw [hW]
      exact (uxG2 rfl hI.2.2.2.2.2.2.2.2.2.2.2.2.2.2.2.2.1)
    have k_xG3 : xG3 W := by
      rw [hW]
      exact (uxG3 rfl hI.2.2.2.2.2.2.2.2.2.2.2.2.2.2.2.2.2.1)
    have k_xG4 : xG4 W := by
      rw [hW]
      exact (uxG4 rfl hI.2.2.2.2.2.2.2.2.2.2.2.2.2.2.2.2.2.2.1)
    have k_xG5 : xG5 W := by
      rw [hW]
      exact (uxG5 rfl hI.2.2.2.2.2.2.2.2.2.2.2.2.2.2.2.2.2.2.2.1)
    have k_xG6 : xG6 W := by
      rw [hW]
      exact (uxG6 rfl hI.2.2.2.2.2.2.2.2.2.2.2.2.2.2.2.2.2.2.2.2.1)
    have k_xS1 : xS1 W := by
      rw [hW]
      exact (uxS1 rfl hI.2.2.2.2.2.2.2.2.2.2.2.2.2.2.2.2.2.2.2.2.2.1)
    have k_xS2 : xS2 W := by
      rw [hW]
      exact (uxS2 rfl hI.2.2.2.2.2.2.2.2.2.2.2.2.2.2.2.2.2.2.2.2.2.2.1)
    have k_xS3 : xS3 W := by
      rw [hW]
      exact (uxS3 rfl hI.2.2.2.2.2.2.2.2.2.2.2.2.2.2.2.2.2.2.2.2.2.2.2.1)
    have k_xS4 : xS4 W := by
      rw [hW]
      exact (uxS4 rfl hI.2.2.2.2.2.2.2.2.2.2.2.2.2.2.2.2.2.2.2.2.2.2.2.2.1)
    have k_xS5 : xS5 W := by
      rw [hW]
      exact (uxS5 rfl hI.2.2.2.2.2.2.2.2.2.2.2.2.2.2.2.2.2.2.2.2.2.2.2.2.2.1)
    have k_xS6 : xS6 W := by
      rw [hW]
      exact (uxS6 rfl hI.2.2.2.2.2.2.2.2.2.2.2.2.2.2.2.2.2.2.2.2.2.2.2.2.2.2.1)
    have k_xS7 : xS7 W := by
      rw [hW]
      exact (uxS7 rfl hI.2.2.2.2.2.2.2.2.2.2.2.2.2.2.2.2.2.2.2.2.2.2.2.2.2.2.2.1)
    have k_xS8 : xS8 W := by
      rw [hW]
      exact (uxS8 rfl hI.2.2.2.2.2.2.2.2.2.2.2.2.2.2.2.2.2.2.2.2.2.2.2.2.2.2.2.2.1)
    have k_xS9 : xS9 W := by
      rw [hW]
      exact (uxS9 rfl hI.2.2.2.2.2.2.2.2.2.2.2.2.2.2.2.2.2.2.2.2.2.2.2.2.2.2.2.2.2.1)
    have k_xSA : xSA W := by
      rw [hW]
      exact (uxSA rfl hI.2.2.2.2.2.2.2.2.2.2.2.2.2.2.2.2.2.2.2.2.2.2.2.2.2.2.2.2.2.2.1)
    have k_xSG : xSG W := by
      rw [hW]
      exact (uxSG rfl hI.2.2.2.2.2.2.2.2.2.2.2.2.2.2.2.2.2.2.2.2.2.2.2.2.2.2.2.2.2.2.2.1)
    have k_xSF : xSF W := by
      rw [hW]
      exact (uxSF rfl hI.2.2.2.2.2.2.2.2.2.2.2.2.2.2.2.2.2.2.2.2.2.2.2.2.2.2.2.2.2.2.2.2.1)
    have k_xSB : xSB W := by
      rw [hW]
      exact (uxSB rfl hI.2.2.2.2.2.2.2.2.2.2.2.2.2.2.2.2.2.2.2.2.2.2.2.2.2.2.2.2.2.2.2.2.2.1)
    have k_xSC : xSC W := by
      have r4_226 : W 4 226 = M 4 226 := by rw [hW, sU_ne (fun z => by omega)]
      have r4_227 : W 4 227 = 18 * ρ 0 + 0 := by rw [hW, sU_at]
      have r4_219 : W 4 219 = M 4 219 := by rw [hW, sU_ne (fun z => by omega)]
      intro h
      rw [r4_227, r4_219, h0]
      refine ⟨by omega, by omega, ?_⟩
      have e1 := tki_on (x := M 4 219) (w := 17) (show tLa[17]? = some (486146048 : Int) from rfl)
      rw [if_neg (by omega)] at e1
      rw [show M 4 227 = 17 by omega] at l3
      rw [← l3]
      exact e1.symm
    have k_xSD : xSD W := by
      rw [hW]
      exact (uxSD rfl hI.2.2.2.2.2.2.2.2.2.2.2.2.2.2.2.2.2.2.2.2.2.2.2.2.2.2.2.2.2.2.2.2.2.2.2.1)
    have k_xSE : xSE W := by
      rw [hW]
      exact (uxSE rfl hI.2.2.2.2.2.2.2.2.2.2.2.2.2.2.2.2.2.2.2.2.2.2.2.2.2.2.2.2.2.2.2.2.2.2.2.2.1)
    have k_xSW : xSW W := by
      rw [hW]
      exact (uxSW rfl hI.2.2.2.2.2.2.2.2.2.2.2.2.2.2.2.2.2.2.2.2.2.2.2.2.2.2.2.2.2.2.2.2.2.2.2.2.2.1)
    have k_xST : xST W := by
      rw [hW]
      exact (uxST rfl hI.2.2.2.2.2.2.2.2.2.2.2.2.2.2.2.2.2.2.2.2.2.2.2.2.2.2.2.2.2.2.2.2.2.2.2.2.2.2.1)
    have k_xSP : xSP W := by
      rw [hW]
      exact (uxSP rfl hI.2.2.2.2.2.2.2.2.2.2.2.2.2.2.2.2.2.2.2.2.2.2.2.2.2.2.2.2.2.2.2.2.2.2.2.2.2.2.2.1)
    have k_xSL : xSL W := by
      rw [hW]
      exact (uxSL rfl hI.2.2.2.2.2.2.2.2.2.2.2.2.2.2.2.2.2.2.2.2.2.2.2.2.2.2.2.2.2.2.2.2.2.2.2.2.2.2.2.2.1)
    have k_xSM : xSM W := by
      rw [hW]
      exact (uxSM rfl hI.2.2.2.2.2.2.2.2.2.2.2.2.2.2.2.2.2.2.2.2.2.2.2.2.2.2.2.2.2.2.2.2.2.2.2.2.2.2.2.2.2.1)
    have k_xSI : xSI W := by
      rw [hW]
      exact (uxSI rfl hI.2.2.2.2.2.2.2.2.2.2.2.2.2.2.2.2.2.2.2.2.2.2.2.2.2.2.2.2.2.2.2.2.2.2.2.2.2.2.2.2.2.2)
    have k_XC : XC W := ⟨k_xS1, k_xS2, k_xS3, k_xS4, k_xS5, k_xS6, k_xS7, k_xS8, k_xS9, k_xSA, k_xSG, k_xSF, k_xSB, k_xSC, k_xSD, k_xSE, k_xSW, k_xST, k_xSP, k_xSL, k_xSM, k_xSI⟩
    have kXB : XB W := ⟨k_xN1, k_xN2, k_xN3, k_xN4, k_xN5, k_xN6, k_xH1, k_xK1, k_xC1, k_xRW, k_xWT, k_xCU, k_xG2, k_xG3, k_xG4, k_xG5, k_xG6, k_XC⟩
    exact ⟨base, k2, k3, kXA, kXB⟩
-- wHitR18_c
def xr_514 : qRu := (13, [[(-1, 0), (1, 5)], [(1, 1)], [(-1, 1), (1, 9)], [(1, 1), (-1, 9)], [(-1, 0), (-1, 1), (1, 10)], [(6, 0), (1, 9), (-1, 10)], [(-647828480, 0), (1, 11)], [(647828480, 0), (-1, 11)]], [(4, 210, [(1, 0)]), (4, 211, [(1, 1)]), (4, 101, [(1, 2)]), (3, 46, [(1, 3)]), (3, 47, [(1, 4)]), (4, 100, [(1, 5)]), (3, 44, [(1, 6)]), (3, 45, [(1, 7)]), (4, 107, [(1, 8)]), (4, 214, [(1, 0)]), (4, 215, [(1, 9)]), (4, 217, [(1, 10)]), (4, 219, [(1, 11)]), (4, 216, [(1, 12)])], [], [], [[(-1, 1), (1, 3)], [(1, 1), (-1, 3)], [(1, 4), (-1, 10)], [(-1, 4), (1, 10)], [(-36, 0), (1, 6)], [(36, 0), (-1, 6)], [(1, 7), (-1, 11)], [(-1, 7), (1, 11)]])
theorem xo_514 : qRok xr_514 := by
  intro ρ M h0 hf hm hI
  have f0 := hf [(-1, 0), (1, 5)] (by decide)
  have f1 := hf [(1, 1)] (by decide)
  have f2 := hf [(-1, 1), (1, 9)] (by decide)
  have f3 := hf [(1, 1), (-1, 9)] (by decide)
  have f4 := hf [(-1, 0), (-1, 1), (1, 10)] (by decide)
  have f5 := hf [(6, 0), (1, 9), (-1, 10)] (by decide)
  have f6 := hf [(-647828480, 0), (1, 11)] (by decide)
  have f7 := hf [(647828480, 0), (-1, 11)] (by decide)
  simp only [qD, h0] at f0 f1 f2 f3 f4 f5 f6 f7
  have m0 : M 4 210 = 1 * ρ 0 + 0 := hm (4, 210, [(1, 0)]) (by decide)
  have m1 : M 4 211 = 1 * ρ 1 + 0 := hm (4, 211, [(1, 1)]) (by decide)
  have m2 : M 4 101 = 1 * ρ 2 + 0 := hm (4, 101, [(1, 2)]) (by decide)
  have m3 : M 3 46 = 1 * ρ 3 + 0 := hm (3, 46, [(1, 3)]) (by decide)
  have m4 : M 3 47 = 1 * ρ 4 + 0 := hm (3, 47, [(1, 4)]) (by decide)
  have m5 : M 4 100 = 1 * ρ 5 + 0 := hm (4, 100, [(1, 5)]) (by decide)
  have m6 : M 3 44 = 1 * ρ 6 + 0 := hm (3, 44, [(1, 6)]) (by decide)
  have m7 : M 3 45 = 1 * ρ 7 + 0 := hm (3, 45, [(1, 7)]) (by decide)
  have m8 : M 4 107 = 1 * ρ 8 + 0 := hm (4, 107, [(1, 8)]) (by decide)
  have m9 : M 4 214 = 1 * ρ 0 + 0 := hm (4, 214, [(1, 0)]) (by decide)
  have m10 : M 4 215 = 1 * ρ 9 + 0 := hm (4, 215, [(1, 9)]) (by decide)
  have m11 : M 4 217 = 1 * ρ 10 + 0 := hm (4, 217, [(1, 10)]) (by decide)
  have m12 : M 4 219 = 1 * ρ 11 + 0 := hm (4, 219, [(1, 11)]) (by decide)
  have m13 : M 4 216 = 1 * ρ 12 + 0 := hm (4, 216, [(1, 12)]) (by decide)
  simp only [h0] at m0 m9
  obtain ⟨u1, u2, _⟩ := gx_xS8 hI (by omega)

  obtain ⟨a1, a2, a3, a4, a5, a6, a7⟩ := gx_xSA hI (by omega)
  have eq1 : (M 4 215).toNat = (M 4 211).toNat := by omega
  rw [eq1] at a6 a7
  have hgt := ten_gt (g := M 92) (lo := 97) (hi := 122) (n := (M 4 101).toNat) (q := (M 4 211).toNat) (by omega)
  have el1 : (M 4 217 - M 4 215).toNat = tEn (M 92) 97 122 (M 4 101).toNat (M 4 211).toNat - (M 4 211).toNat := by omega
  rw [el1] at a7

  obtain ⟨t1, t2, t3, t4, t5, t6⟩ := tk_of hI (by omega) (by omega) (by omega) (show tAt (M 92) (M 4 101).toNat (M 4 211).toNat (M 4 107) (M 4 108) = (36, M 4 219, ((M 4 211).toNat : Int), M 4 217, 0, 18) from by
    unfold tAt
    rw [if_neg (by omega), if_pos hgt.2]
    unfold tWo
    rw [← a7, ← a6]
    have hk : tKi (M 4 219) 0 = 36 := by
      rw [show M 4 219 = 647828480 by omega]
      decide
    have h6 : ¬ (6 < tEn (M 92) 97 122 (M 4 101).toNat (M 4 211).toNat - (M 4 211).toNat) := by omega
    unfold tWk tWs tWv
    rw [if_neg h6, if_neg h6, if_neg h6, hk]
    rfl)
  refine ⟨ρ, fun _ _ => rfl, fun f h => ?_, ?_⟩
  · have h : f ∈ ([[(-1, 1), (1, 3)], [(1, 1), (-1, 3)], [(1, 4), (-1, 10)], [(-1, 4), (1, 10)], [(-36, 0), (1, 6)], [(36, 0), (-1, 6)], [(1, 7), (-1, 11)], [(-1, 7), (1, 11)]] : List qF) := h
    simp only [List.mem_cons, List.not_mem_nil, or_false] at h
    rcases h with rfl | rfl | rfl | rfl | rfl | rfl | rfl | rfl
    · show 0 ≤ -1 * ρ 1 + (1 * ρ 3 + 0)
      (try rw [h0]); omega
    · show 0 ≤ 1 * ρ 1 + (-1 * ρ 3 + 0)
      (try rw [h0]); omega
    · show 0 ≤ 1 * ρ 4 + (-1 * ρ 10 + 0)
      (try rw [h0]); omega
    · show 0 ≤ -1 * ρ 4 + (1 * ρ 10 + 0)
      (try rw [h0]); omega
    · show 0 ≤ -36 * ρ 0 + (1 * ρ 6 + 0)
      (try rw [h0]); omega
    · show 0 ≤ 36 * ρ 0 + (-1 * ρ 6 + 0)
      (try rw [h0]); omega
    · show 0 ≤ 1 * ρ 7 + (-1 * ρ 11 + 0)
      (try rw [h0]); omega
    · show 0 ≤ -1 * ρ 7 + (1 * ρ 11 + 0)
      (try rw [h0]); omega
  · show sI M
    exact hI
-- wHitR18_r
def xr_515 : qRu := (13, [[(-1, 0), (1, 5)], [(1, 1)], [(-1, 1), (1, 9)], [(1, 1), (-1, 9)], [(-1, 0), (-1, 1), (1, 10)], [(6, 0), (1, 9), (-1, 10)], [(-647828480, 0), (1, 11)], [(647828480, 0), (-1, 11)]], [(4, 210, [(1, 0)]), (4, 211, [(1, 1)]), (4, 101, [(1, 2)]), (3, 46, [(1, 3)]), (3, 47, [(1, 4)]), (4, 100, [(1, 5)]), (3, 50, [(1, 6)]), (3, 51, [(1, 7)]), (4, 108, [(1, 8)]), (4, 214, [(1, 0)]), (4, 215, [(1, 9)]), (4, 217, [(1, 10)]), (4, 219, [(1, 11)]), (4, 216, [(1, 12)])], [], [], [[(-1, 1), (1, 3)], [(1, 1), (-1, 3)], [(1, 4), (-1, 10)], [(-1, 4), (1, 10)], [(1, 6)], [(-1, 6)], [(-18, 0), (1, 7)], [(18, 0), (-1, 7)]])
theorem xo_515 : qRok xr_515 := by
  intro ρ M h0 hf hm hI
  have f0 := hf [(-1, 0), (1, 5)] (by decide)
  have f1 := hf [(1, 1)] (by decide)
  have f2 := hf [(-1, 1), (1, 9)] (by decide)
  have f3 := hf [(1, 1), (-1, 9)] (by decide)
  have f4 := hf [(-1, 0), (-1, 1), (1, 10)] (by decide)
  have f5 := hf [(6, 0), (1, 9), (-1, 10)] (by decide)
  have f6 := hf [(-647828480, 0), (1, 11)] (by decide)
  have f7 := hf [(647828480, 0), (-1, 11)] (by decide)
  simp only [qD, h0] at f0 f1 f2 f3 f4 f5 f6 f7
  have m0 : M 4 210 = 1 * ρ 0 + 0 := hm (4, 210, [(1, 0)]) (by decide)
  have m1 : M 4 211 = 1 * ρ 1 + 0 := hm (4, 211, [(1, 1)]) (by decide)
  have m2 : M 4 101 = 1 * ρ 2 + 0 := hm (4, 101, [(1, 2)]) (by decide)
  have m3 : M 3 46 = 1 * ρ 3 + 0 := hm (3, 46, [(1, 3)]) (by decide)
  have m4 : M 3 47 = 1 * ρ 4 + 0 := hm (3, 47, [(1, 4)]) (by decide)
  have m5 : M 4 100 = 1 * ρ 5 + 0 := hm (4, 100, [(1, 5)]) (by decide)
  have m6 : M 3 50 = 1 * ρ 6 + 0 := hm (3, 50, [(1, 6)]) (by decide)
  have m7 : M 3 51 = 1 * ρ 7 + 0 := hm (3, 51, [(1, 7)]) (by decide)
  have m8 : M 4 108 = 1 * ρ 8 + 0 := hm (4, 108, [(1, 8)]) (by decide)
  have m9 : M 4 214 = 1 * ρ 0 + 0 := hm (4, 214, [(1, 0)]) (by decide)
  have m10 : M 4 215 = 1 * ρ 9 + 0 := hm (4, 215, [(1, 9)]) (by decide)
  have m11 : M 4 217 = 1 * ρ 10 + 0 := hm (4, 217, [(1, 10)]) (by decide)
  have m12 : M 4 219 = 1 * ρ 11 + 0 := hm (4, 219, [(1, 11)]) (by decide)
  have m13 : M 4 216 = 1 * ρ 12 + 0 := hm (4, 216, [(1, 12)]) (by decide)
  simp only [h0] at m0 m9
  obtain ⟨u1, u2, _⟩ := gx_xS8 hI (by omega)

  obtain ⟨a1, a2, a3, a4, a5, a6, a7⟩ := gx_xSA hI (by omega)
  have eq1 : (M 4 215).toNat = (M 4 211).toNat := by omega
  rw [eq1] at a6 a7
  have hgt := ten_gt (g := M 92) (lo := 97) (hi := 122) (n := (M 4 101).toNat) (q := (M 4 211).toNat) (by omega)
  have el1 : (M 4 217 - M 4 215).toNat = tEn (M 92) 97 122 (M 4 101).toNat (M 4 211).toNat - (M 4 211).toNat := by omega
  rw [el1] at a7

  obtain ⟨t1, t2, t3, t4, t5, t6⟩ := tk_of hI (by omega) (by omega) (by omega) (show tAt (M 92) (M 4 101).toNat (M 4 211).toNat (M 4 107) (M 4 108) = (36, M 4 219, ((M 4 211).toNat : Int), M 4 217, 0, 18) from by
    unfold tAt
    rw [if_neg (by omega), if_pos hgt.2]
    unfold tWo
    rw [← a7, ← a6]
    have hk : tKi (M 4 219) 0 = 36 := by
      rw [show M 4 219 = 647828480 by omega]
      decide
    have h6 : ¬ (6 < tEn (M 92) 97 122 (M 4 101).toNat (M 4 211).toNat - (M 4 211).toNat) := by omega
    unfold tWk tWs tWv
    rw [if_neg h6, if_neg h6, if_neg h6, hk]
    rfl)
  refine ⟨ρ, fun _ _ => rfl, fun f h => ?_, ?_⟩
  · have h : f ∈ ([[(-1, 1), (1, 3)], [(1, 1), (-1, 3)], [(1, 4), (-1, 10)], [(-1, 4), (1, 10)], [(1, 6)], [(-1, 6)], [(-18, 0), (1, 7)], [(18, 0), (-1, 7)]] : List qF) := h
    simp only [List.mem_cons, List.not_mem_nil, or_false] at h
    rcases h with rfl | rfl | rfl | rfl | rfl | rfl | rfl | rfl
    · show 0 ≤ -1 * ρ 1 + (1 * ρ 3 + 0)
      (try rw [h0]); omega
    · show 0 ≤ 1 * ρ 1 + (-1 * ρ 3 + 0)
      (try rw [h0]); omega
    · show 0 ≤ 1 * ρ 4 + (-1 * ρ 10 + 0)
      (try rw [h0]); omega
    · show 0 ≤ -1 * ρ 4 + (1 * ρ 10 + 0)
      (try rw [h0]); omega
    · show 0 ≤ 1 * ρ 6 + 0
      (try rw [h0]); omega
    · show 0 ≤ -1 * ρ 6 + 0
      (try rw [h0]); omega
    · show 0 ≤ -18 * ρ 0 + (1 * ρ 7 + 0)
      (try rw [h0]); omega
    · show 0 ≤ 18 * ρ 0 + (-1 * ρ 7 + 0)
      (try rw [h0]); omega
  · show sI M
    exact hI
-- langMissR18L
def xr_516 : qRu := (3, [[(647828479, 0), (-1, 2)]], [(4, 226, [(1, 0)]), (4, 227, [(18, 0)]), (4, 219, [(1, 2)])], [], [(4, 227, [(19, 0)])], [])
theorem xo_516 : qRok xr_516 := by
  intro ρ M h0 hf hm hI
  have f0 := hf [(647828479, 0), (-1, 2)] (by decide)
  simp only [qD, h0] at f0
  have m0 : M 4 226 = 1 * ρ 0 + 0 := hm (4, 226, [(1, 0)]) (by decide)
  have m1 : M 4 227 = 18 * ρ 0 + 0 := hm (4, 227, [(18, 0)]) (by decide)
  have m2 : M 4 219 = 1 * ρ 2 + 0 := hm (4, 219, [(1, 2)]) (by decide)
  simp only [h0] at m0 m1
  have qxSC := hI.2.2.2.2.2.2.2.2.2.2.2.2.2.2.2.2.2.2.2.2.2.2.2.2.2.2.2.2.2.2.2.2.2.2.1
  obtain ⟨l1, l2, l3⟩ := gx_xSC hI (by omega)
  refine ⟨ρ, fun _ _ => rfl, fun f h => ?_, ?_⟩
  · exact nomatch h
  · show sI (sU M 4 227 (19 * ρ 0 + 0))
    obtain ⟨W, hW⟩ : ∃ W, W = (sU M 4 227 (19 * ρ 0 + 0)) := ⟨_, rfl⟩
    rw [← hW]
    have base : sI0 W := by
      rw [hW]
      exact (si_u0 hI.1 (fun r hr => by cases hr))
    have k2 : XI2 W := by
      rw [hW]
      exact (xi2_u rfl hI.2.1)
    have k3 : XI3 W := by
      rw [hW]
      exact (xi3_u rfl hI.2.2.1)
    have kXA : XA W := by
      rw [hW]
      exact (uXA rfl hI.2.2.2.1)
    have k_xN1 : xN1 W := by
      rw [hW]
      exact (uxN1 rfl hI.2.2.2.2.1)
    have k_xN2 : xN2 W := by
      rw [hW]
      exact (uxN2 rfl hI.2.2.2.2.2.1)
    have k_xN3 : xN3 W := by
      rw [hW]
      exact (uxN3 rfl hI.2.2.2.2.2.2.1)
    have k_xN4 : xN4 W := by
      rw [hW]
      exact (uxN4 rfl hI.2.2.2.2.2.2.2.1)
    have k_xN5 : xN5 W := by
      rw [hW]
      exact (uxN5 rfl hI.2.2.2.2.2.2.2.2.1)
    have k_xN6 : xN6 W := by
      rw [hW]
      exact (uxN6 rfl hI.2.2.2.2.2.2.2.2.2.1)
    have k_xH1 : xH1 W := by
      rw [hW]
      exact (uxH1 rfl hI.2.2.2.2.2.2.2.2.2.2.1)
    have k_xK1 : xK1 W := by
      rw [hW]
      exact (uxK1 rfl hI.2.2.2.2.2.2.2.2.2.2.2.1)
    have k_xC1 : xC1 W := by
      rw [hW]
      exact (uxC1 rfl hI.2.2.2.2.2.2.2.2.2.2.2.2.1)
    have k_xRW : xRW W := by
      rw [hW]
      exact (uxRW rfl hI.2.2.2.2.2.2.2.2.2.2.2.2.2.1)
    have k_xWT : xWT W := by
      rw [hW]
      exact (uxWT rfl hI.2.2.2.2.2.2.2.2.2.2.2.2.2.2.1)
    have k_xCU : xCU W := by
      rw [hW]
      exact (uxCU rfl hI.2.2.2.2.2.2.2.2.2.2.2.2.2.2.2.1)
    have k_xG2 : xG2 W := by
      rw [hW]
      exact (uxG2 rfl hI.2.2.2.2.2.2.2.2.2.2.2.2.2.2.2.2.1)
    have k_xG3 : xG3 W := by
      rw [hW]
      exact (uxG3 rfl hI.2.2.2.2.2.2.2.2.2.2.2.2.2.2.2.2.2.1)
    have k_xG4 : xG4 W := by
      rw [hW]
      exact (uxG4 rfl hI.2.2.2.2.2.2.2.2.2.2.2.2.2.2.2.2.2.2.1)
    have k_xG5 : xG5 W := by
      rw [hW]
      exact (uxG5 rfl hI.2.2.2.2.2.2.2.2.2.2.2.2.2.2.2.2.2.2.2.1)
    have k_xG6 : xG6 W := by
      rw [hW]
      exact (uxG6 rfl hI.2.2.2.2.2.2.2.2.2.2.2.2.2.2.2.2.2.2.2.2.1)
    have k_xS1 : xS1 W := by
      rw [hW]
      exact (uxS1 rfl hI.2.2.2.2.2.2.2.2.2.2.2.2.2.2.2.2.2.2.2.2.2.1)
    have k_xS2 : xS2 W := by
      rw [hW]
      exact (uxS2 rfl hI.2.2.2.2.2.2.2.2.2.2.2.2.2.2.2.2.2.2.2.2.2.2.1)
    have k_xS3 : xS3 W := by
      rw [hW]
      exact (uxS3 rfl hI.2.2.2.2.2.2.2.2.2.2.2.2.2.2.2.2.2.2.2.2.2.2.2.1)
    have k_xS4 : xS4 W := by
      rw [hW]
      exact (uxS4 rfl hI.2.2.2.2.2.2.2.2.2.2.2.2.2.2.2.2.2.2.2.2.2.2.2.2.1)
    have k_xS5 : xS5 W := by
      rw [hW]
      exact (uxS5 rfl hI.2.2.2.2.2.2.2.2.2.2.2.2.2.2.2.2.2.2.2.2.2.2.2.2.2.1)
    have k_xS6 : xS6 W := by
      rw [hW]
      exact (uxS6 rfl hI.2.2.2.2.2.2.2.2.2.2.2.2.2.2.2.2.2.2.2.2.2.2.2.2.2.2.1)
    have k_xS7 : xS7 W := by
      rw [hW]
      exact (uxS7 rfl hI.2.2.2.2.2.2.2.2.2.2.2.2.2.2.2.2.2.2.2.2.2.2.2.2.2.2.2.1)
    have k_xS8 : xS8 W := by
      rw [hW]
      exact (uxS8 rfl hI.2.2.2.2.2.2.2.2.2.2.2.2.2.2.2.2.2.2.2.2.2.2.2.2.2.2.2.2.1)
    have k_xS9 : xS9 W := by
      rw [hW]
      exact (uxS9 rfl hI.2.2.2.2.2.2.2.2.2.2.2.2.2.2.2.2.2.2.2.2.2.2.2.2.2.2.2.2.2.1)
    have k_xSA : xSA W := by
      rw [hW]
      exact (uxSA rfl hI.2.2.2.2.2.2.2.2.2.2.2.2.2.2.2.2.2.2.2.2.2.2.2.2.2.2.2.2.2.2.1)
    have k_xSG : xSG W := by
      rw [hW]
      exact (uxSG rfl hI.2.2.2.2.2.2.2.2.2.2.2.2.2.2.2.2.2.2.2.2.2.2.2.2.2.2.2.2.2.2.2.1)
    have k_xSF : xSF W := by
      rw [hW]
      exact (uxSF rfl hI.2.2.2.2.2.2.2.2.2.2.2.2.2.2.2.2.2.2.2.2.2.2.2.2.2.2.2.2.2.2.2.2.1)
    have k_xSB : xSB W := by
      rw [hW]
      exact (uxSB rfl hI.2.2.2.2.2.2.2.2.2.2.2.2.2.2.2.2.2.2.2.2.2.2.2.2.2.2.2.2.2.2.2.2.2.1)
    have k_xSC : xSC W := by
      have r4_226 : W 4 226 = M 4 226 := by rw [hW, sU_ne (fun z => by omega)]
      have r4_227 : W 4 227 = 19 * ρ 0 + 0 := by rw [hW, sU_at]
      have r4_219 : W 4 219 = M 4 219 := by rw [hW, sU_ne (fun z => by omega)]
      intro h
      rw [r4_227, r4_219, h0]
      refine ⟨by omega, by omega, ?_⟩
      have e1 := tki_on (x := M 4 219) (w := 18) (show tLa[18]? = some (647828480 : Int) from rfl)
      rw [if_neg (by omega)] at e1
      rw [show M 4 227 = 18 by omega] at l3
      rw [← l3]
      exact e1.symm
    have k_xSD : xSD W := by
      rw [hW]
      exact (uxSD rfl hI.2.2.2.2.2.2.2.2.2.2.2.2.2.2.2.2.2.2.2.2.2.2.2.2.2.2.2.2.2.2.2.2.2.2.2.1)
    have k_xSE : xSE W := by
      rw [hW]
      exact (uxSE rfl hI.2.2.2.2.2.2.2.2.2.2.2.2.2.2.2.2.2.2.2.2.2.2.2.2.2.2.2.2.2.2.2.2.2.2.2.2.1)
    have k_xSW : xSW W := by
      rw [hW]
      exact (uxSW rfl hI.2.2.2.2.2.2.2.2.2.2.2.2.2.2.2.2.2.2.2.2.2.2.2.2.2.2.2.2.2.2.2.2.2.2.2.2.2.1)
    have k_xST : xST W := by
      rw [hW]
      exact (uxST rfl hI.2.2.2.2.2.2.2.2.2.2.2.2.2.2.2.2.2.2.2.2.2.2.2.2.2.2.2.2.2.2.2.2.2.2.2.2.2.2.1)
    have k_xSP : xSP W := by
      rw [hW]
      exact (uxSP rfl hI.2.2.2.2.2.2.2.2.2.2.2.2.2.2.2.2.2.2.2.2.2.2.2.2.2.2.2.2.2.2.2.2.2.2.2.2.2.2.2.1)
    have k_xSL : xSL W := by
      rw [hW]
      exact (uxSL rfl hI.2.2.2.2.2.2.2.2.2.2.2.2.2.2.2.2.2.2.2.2.2.2.2.2.2.2.2.2.2.2.2.2.2.2.2.2.2.2.2.2.1)
    have k_xSM : xSM W := by
      rw [hW]
      exact (uxSM rfl hI.2.2.2.2.2.2.2.2.2.2.2.2.2.2.2.2.2.2.2.2.2.2.2.2.2.2.2.2.2.2.2.2.2.2.2.2.2.2.2.2.2.1)
    have k_xSI : xSI W := by
      rw [hW]
      exact (uxSI rfl hI.2.2.2.2.2.2.2.2.2.2.2.2.2.2.2.2.2.2.2.2.2.2.2.2.2.2.2.2.2.2.2.2.2.2.2.2.2.2.2.2.2.2)
    have k_XC : XC W := ⟨k_xS1, k_xS2, k_xS3, k_xS4, k_xS5, k_xS6, k_xS7, k_xS8, k_xS9, k_xSA, k_xSG, k_xSF, k_xSB, k_xSC, k_xSD, k_xSE, k_xSW, k_xST, k_xSP, k_xSL, k_xSM, k_xSI⟩
    have kXB : XB W := ⟨k_xN1, k_xN2, k_xN3, k_xN4, k_xN5, k_xN6, k_xH1, k_xK1, k_xC1, k_xRW, k_xWT, k_xCU, k_xG2, k_xG3, k_xG4, k_xG5, k_xG6, k_XC⟩
    exact ⟨base, k2, k3, kXA, kXB⟩
-- langMissR18H
def xr_517 : qRu := (3, [[(-647828481, 0), (1, 2)]], [(4, 226, [(1, 0)]), (4, 227, [(18, 0)]), (4, 219, [(1, 2)])], [], [(4, 227, [(19, 0)])], [])
theorem xo_517 : qRok xr_517 := by
  intro ρ M h0 hf hm hI
  have f0 := hf [(-647828481, 0), (1, 2)] (by decide)
  simp only [qD, h0] at f0
  have m0 : M 4 226 = 1 * ρ 0 + 0 := hm (4, 226, [(1, 0)]) (by decide)
  have m1 : M 4 227 = 18 * ρ 0 + 0 := hm (4, 227, [(18, 0)]) (by decide)
  have m2 : M 4 219 = 1 * ρ 2 + 0 := hm (4, 219, [(1, 2)]) (by decide)
  simp only [h0] at m0 m1
  have qxSC := hI.2.2.2.2.2.2.2.2.2.2.2.2.2.2.2.2.2.2.2.2.2.2.2.2.2.2.2.2.2.2.2.2.2.2.1
  obtain ⟨l1, l2, l3⟩ := gx_xSC hI (by omega)
  refine ⟨ρ, fun _ _ => rfl, fun f h => ?_, ?_⟩
  · exact nomatch h
  · show sI (sU M 4 227 (19 * ρ 0 + 0))
    obtain ⟨W, hW⟩ : ∃ W, W = (sU M 4 227 (19 * ρ 0 + 0)) := ⟨_, rfl⟩
    rw [← hW]
    have base : sI0 W := by
      rw [hW]
      exact (si_u0 hI.1 (fun r hr => by cases hr))
    have k2 : XI2 W := by
      rw [hW]
      exact (xi2_u rfl hI.2.1)
    have k3 : XI3 W := by
      rw [hW]
      exact (xi3_u rfl hI.2.2.1)
    have kXA : XA W := by
      rw [hW]
      exact (uXA rfl hI.2.2.2.1)
    have k_xN1 : xN1 W := by
      rw [hW]
      exact (uxN1 rfl hI.2.2.2.2.1)
    have k_xN2 : xN2 W := by
      rw [hW]
      exact (uxN2 rfl hI.2.2.2.2.2.1)
    have k_xN3 : xN3 W := by
      rw [hW]
      exact (uxN3 rfl hI.2.2.2.2.2.2.1)
    have k_xN4 : xN4 W := by
      rw [hW]
      exact (uxN4 rfl hI.2.2.2.2.2.2.2.1)
    have k_xN5 : xN5 W := by
      rw [hW]
      exact (uxN5 rfl hI.2.2.2.2.2.2.2.2.1)
    have k_xN6 : xN6 W := by
      rw [hW]
      exact (uxN6 rfl hI.2.2.2.2.2.2.2.2.2.1)
    have k_xH1 : xH1 W := by
      rw [hW]
      exact (uxH1 rfl hI.2.2.2.2.2.2.2.2.2.2.1)
    have k_xK1 : xK1 W := by
      rw [hW]
      exact (uxK1 rfl hI.2.2.2.2.2.2.2.2.2.2.2.1)
    have k_xC1 : xC1 W := by
      rw [hW]
      exact (uxC1 rfl hI.2.2.2.2.2.2.2.2.2.2.2.2.1)
    have k_xRW : xRW W := by
      rw [hW]
      exact (uxRW rfl hI.2.2.2.2.2.2.2.2.2.2.2.2.2.1)
    have k_xWT : xWT W := by
      rw [hW]
      exact (uxWT rfl hI.2.2.2.2.2.2.2.2.2.2.2.2.2.2.1)
    have k_xCU : xCU W := by
      rw [hW]
      exact (uxCU rfl hI.2.2.2.2.2.2.2.2.2.2.2.2.2.2.2.1)
    have k_xG2 : xG2 W := by
      rw [hW]
      exact (uxG2 rfl hI.2.2.2.2.2.2.2.2.2.2.2.2.2.2.2.2.1)
    have k_xG3 : xG3 W := by
      rw [hW]
      exact (uxG3 rfl hI.2.2.2.2.2.2.2.2.2.2.2.2.2.2.2.2.2.1)
    have k_xG4 : xG4 W := by
      rw [hW]
      exact (uxG4 rfl hI.2.2.2.2.2.2.2.2.2.2.2.2.2.2.2.2.2.2.1)
    have k_xG5 : xG5 W := by
      rw [hW]
      exact (uxG5 rfl hI.2.2.2.2.2.2.2.2.2.2.2.2.2.2.2.2.2.2.2.1)
    have k_xG6 : xG6 W := by
      rw [hW]
      exact (uxG6 rfl hI.2.2.2.2.2.2.2.2.2.2.2.2.2.2.2.2.2.2.2.2.1)
    have k_xS1 : xS1 W := by
      rw [hW]
      exact (uxS1 rfl hI.2.2.2.2.2.2.2.2.2.2.2.2.2.2.2.2.2.2.2.2.2.1)
    have k_xS2 : xS2 W := by
      rw [hW]
      exact (uxS2 rfl hI.2.2.2.2.2.2.2.2.2.2.2.2.2.2.2.2.2.2.2.2.2.2.1)
    have k_xS3 : xS3 W := by
      rw [hW]
      exact (uxS3 rfl hI.2.2.2.2.2.2.2.2.2.2.2.2.2.2.2.2.2.2.2.2.2.2.2.1)
    have k_xS4 : xS4 W := by
      rw [hW]
      exact (uxS4 rfl hI.2.2.2.2.2.2.2.2.2.2.2.2.2.2.2.2.2.2.2.2.2.2.2.2.1)
    have k_xS5 : xS5 W := by
      rw [hW]
      exact (uxS5 rfl hI.2.2.2.2.2.2.2.2.2.2.2.2.2.2.2.2.2.2.2.2.2.2.2.2.2.1)
    have k_xS6 : xS6 W := by
      rw [hW]
      exact (uxS6 rfl hI.2.2.2.2.2.2.2.2.2.2.2.2.2.2.2.2.2.2.2.2.2.2.2.2.2.2.1)
    have k_xS7 : xS7 W := by
      rw [hW]
      exact (uxS7 rfl hI.2.2.2.2.2.2.2.2.2.2.2.2.2.2.2.2.2.2.2.2.2.2.2.2.2.2.2.1)
    have k_xS8 : xS8 W := by
      rw [hW]
      exact (uxS8 rfl hI.2.2.2.2.2.2.2.2.2.2.2.2.2.2.2.2.2.2.2.2.2.2.2.2.2.2.2.2.1)
    have k_xS9 : xS9 W := by
      rw [hW]
      exact (uxS9 rfl hI.2.2.2.2.2.2.2.2.2.2.2.2.2.2.2.2.2.2.2.2.2.2.2.2.2.2.2.2.2.1)
    have k_xSA : xSA W := by
      rw [hW]
      exact (uxSA rfl hI.2.2.2.2.2.2.2.2.2.2.2.2.2.2.2.2.2.2.2.2.2.2.2.2.2.2.2.2.2.2.1)
    have k_xSG : xSG W := by
      rw [hW]
      exact (uxSG rfl hI.2.2.2.2.2.2.2.2.2.2.2.2.2.2.2.2.2.2.2.2.2.2.2.2.2.2.2.2.2.2.2.1)
    have k_xSF : xSF W := by
      rw [hW]
      exact (uxSF rfl hI.2.2.2.2.2.2.2.2.2.2.2.2.2.2.2.2.2.2.2.2.2.2.2.2.2.2.2.2.2.2.2.2.1)
    have k_xSB : xSB W := by
      rw [hW]
      exact (uxSB rfl hI.2.2.2.2.2.2.2.2.2.2.2.2.2.2.2.2.2.2.2.2.2.2.2.2.2.2.2.2.2.2.2.2.2.1)
    have k_xSC : xSC W := by
      have r4_226 : W 4 226 = M 4 226 := by rw [hW, sU_ne (fun z => by omega)]
      have r4_227 : W 4 227 = 19 * ρ 0 + 0 := by rw [hW, sU_at]
      have r4_219 : W 4 219 = M 4 219 := by rw [hW, sU_ne (fun z => by omega)]
      intro h
      rw [r4_227, r4_219, h0]
      refine ⟨by omega, by omega, ?_⟩
      have e1 := tki_on (x := M 4 219) (w := 18) (show tLa[18]? = some (647828480 : Int) from rfl)
      rw [if_neg (by omega)] at e1
      rw [show M 4 227 = 18 by omega] at l3
      rw [← l3]
      exact e1.symm
    have k_xSD : xSD W := by
      rw [hW]
      exact (uxSD rfl hI.2.2.2.2.2.2.2.2.2.2.2.2.2.2.2.2.2.2.2.2.2.2.2.2.2.2.2.2.2.2.2.2.2.2.2.1)
    have k_xSE : xSE W := by
      rw [hW]
      exact (uxSE rfl hI.2.2.2.2.2.2.2.2.2.2.2.2.2.2.2.2.2.2.2.2.2.2.2.2.2.2.2.2.2.2.2.2.2.2.2.2.1)
    have k_xSW : xSW W := by
      rw [hW]
      exact (uxSW rfl hI.2.2.2.2.2.2.2.2.2.2.2.2.2.2.2.2.2.2.2.2.2.2.2.2.2.2.2.2.2.2.2.2.2.2.2.2.2.1)
    have k_xST : xST W := by
      rw [hW]
      exact (uxST rfl hI.2.2.2.2.2.2.2.2.2.2.2.2.2.2.2.2.2.2.2.2.2.2.2.2.2.2.2.2.2.2.2.2.2.2.2.2.2.2.1)
    have k_xSP : xSP W := by
      rw [hW]
      exact (uxSP rfl hI.2.2.2.2.2.2.2.2.2.2.2.2.2.2.2.2.2.2.2.2.2.2.2.2.2.2.2.2.2.2.2.2.2.2.2.2.2.2.2.1)
    have k_xSL : xSL W := by
      rw [hW]
      exact (uxSL rfl hI.2.2.2.2.2.2.2.2.2.2.2.2.2.2.2.2.2.2.2.2.2.2.2.2.2.2.2.2.2.2.2.2.2.2.2.2.2.2.2.2.1)
    have k_xSM : xSM W := by
      rw [hW]
      exact (uxSM rfl hI.2.2.2.2.2.2.2.2.2.2.2.2.2.2.2.2.2.2.2.2.2.2.2.2.2.2.2.2.2.2.2.2.2.2.2.2.2.2.2.2.2.1)
    have k_xSI : xSI W := by
      rw [hW]
      exact (uxSI rfl hI.2.2.2.2.2.2.2.2.2.2.2.2.2.2.2.2.2.2.2.2.2.2.2.2.2.2.2.2.2.2.2.2.2.2.2.2.2.2.2.2.2.2)
    have k_XC : XC W := ⟨k_xS1, k_xS2, k_xS3, k_xS4, k_xS5, k_xS6, k_xS7, k_xS8, k_xS9, k_xSA, k_xSG, k_xSF, k_xSB, k_xSC, k_xSD, k_xSE, k_xSW, k_xST, k_xSP, k_xSL, k_xSM, k_xSI⟩
    have kXB : XB W := ⟨k_xN1, k_xN2, k_xN3, k_xN4, k_xN5, k_xN6, k_xH1, k_xK1, k_xC1, k_xRW, k_xWT, k_xCU, k_xG2, k_xG3, k_xG4, k_xG5, k_xG6, k_XC⟩
    exact ⟨base, k2, k3, kXA, kXB⟩
-- wHitR19_c
def xr_518 : qRu := (13, [[(-1, 0), (1, 5)], [(1, 1)], [(-1, 1), (1, 9)], [(1, 1), (-1, 9)], [(-1, 0), (-1, 1), (1, 10)], [(6, 0), (1, 9), (-1, 10)], [(-273980692, 0), (1, 11)], [(273980692, 0), (-1, 11)]], [(4, 210, [(1, 0)]), (4, 211, [(1, 1)]), (4, 101, [(1, 2)]), (3, 46, [(1, 3)]), (3, 47, [(1, 4)]), (4, 100, [(1, 5)]), (3, 44, [(1, 6)]), (3, 45, [(1, 7)]), (4, 107, [(1, 8)]), (4, 214, [(1, 0)]), (4, 215, [(1, 9)]), (4, 217, [(1, 10)]), (4, 219, [(1, 11)]), (4, 216, [(1, 12)])], [], [], [[(-1, 1), (1, 3)], [(1, 1), (-1, 3)], [(1, 4), (-1, 10)], [(-1, 4), (1, 10)], [(-37, 0), (1, 6)], [(37, 0), (-1, 6)], [(1, 7), (-1, 11)], [(-1, 7), (1, 11)]])
theorem xo_518 : qRok xr_518 := by
  intro ρ M h0 hf hm hI
  have f0 := hf [(-1, 0), (1, 5)] (by decide)
  have f1 := hf [(1, 1)] (by decide)
  have f2 := hf [(-1, 1), (1, 9)] (by decide)
  have f3 := hf [(1, 1), (-1, 9)] (by decide)
  have f4 := hf [(-1, 0), (-1, 1), (1, 10)] (by decide)
  have f5 := hf [(6, 0), (1, 9), (-1, 10)] (by decide)
  have f6 := hf [(-273980692, 0), (1, 11)] (by decide)
  have f7 := hf [(273980692, 0), (-1, 11)] (by decide)
  simp only [qD, h0] at f0 f1 f2 f3 f4 f5 f6 f7
  have m0 : M 4 210 = 1 * ρ 0 + 0 := hm (4, 210, [(1, 0)]) (by decide)
  have m1 : M 4 211 = 1 * ρ 1 + 0 := hm (4, 211, [(1, 1)]) (by decide)
  have m2 : M 4 101 = 1 * ρ 2 + 0 := hm (4, 101, [(1, 2)]) (by decide)
  have m3 : M 3 46 = 1 * ρ 3 + 0 := hm (3, 46, [(1, 3)]) (by decide)
  have m4 : M 3 47 = 1 * ρ 4 + 0 := hm (3, 47, [(1, 4)]) (by decide)
  have m5 : M 4 100 = 1 * ρ 5 + 0 := hm (4, 100, [(1, 5)]) (by decide)
  have m6 : M 3 44 = 1 * ρ 6 + 0 := hm (3, 44, [(1, 6)]) (by decide)
  have m7 : M 3 45 = 1 * ρ 7 + 0 := hm (3, 45, [(1, 7)]) (by decide)
  have m8 : M 4 107 = 1 * ρ 8 + 0 := hm (4, 107, [(1, 8)]) (by decide)
  have m9 : M 4 214 = 1 * ρ 0 + 0 := hm (4, 214, [(1, 0)]) (by decide)
  have m10 : M 4 215 = 1 * ρ 9 + 0 := hm (4, 215, [(1, 9)]) (by decide)
  have m11 : M 4 217 = 1 * ρ 10 + 0 := hm (4, 217, [(1, 10)]) (by decide)
  have m12 : M 4 219 = 1 * ρ 11 + 0 := hm (4, 219, [(1, 11)]) (by decide)
  have m13 : M 4 216 = 1 * ρ 12 + 0 := hm (4, 216, [(1, 12)]) (by decide)
  simp only [h0] at m0 m9
  obtain ⟨u1, u2, _⟩ := gx_xS8 hI (by omega)

  obtain ⟨a1, a2, a3, a4, a5, a6, a7⟩ := gx_xSA hI (by omega)
  have eq1 : (M 4 215).toNat = (M 4 211).toNat := by omega
  rw [eq1] at a6 a7
  have hgt := ten_gt (g := M 92) (lo := 97) (hi := 122) (n := (M 4 101).toNat) (q := (M 4 211).toNat) (by omega)
  have el1 : (M 4 217 - M 4 215).toNat = tEn (M 92) 97 122 (M 4 101).toNat (M 4 211).toNat - (M 4 211).toNat := by omega
  rw [el1] at a7

  obtain ⟨t1, t2, t3, t4, t5, t6⟩ := tk_of hI (by omega) (by omega) (by omega) (show tAt (M 92) (M 4 101).toNat (M 4 211).toNat (M 4 107) (M 4 108) = (37, M 4 219, ((M 4 211).toNat : Int), M 4 217, 0, 19) from by
    unfold tAt
    rw [if_neg (by omega), if_pos hgt.2]
    unfold tWo
    rw [← a7, ← a6]
    have hk : tKi (M 4 219) 0 = 37 := by
      rw [show M 4 219 = 273980692 by omega]
      decide
    have h6 : ¬ (6 < tEn (M 92) 97 122 (M 4 101).toNat (M 4 211).toNat - (M 4 211).toNat) := by omega
    unfold tWk tWs tWv
    rw [if_neg h6, if_neg h6, if_neg h6, hk]
    rfl)
  refine ⟨ρ, fun _ _ => rfl, fun f h => ?_, ?_⟩
  · have h : f ∈ ([[(-1, 1), (1, 3)], [(1, 1), (-1, 3)], [(1, 4), (-1, 10)], [(-1, 4), (1, 10)], [(-37, 0), (1, 6)], [(37, 0), (-1, 6)], [(1, 7), (-1, 11)], [(-1, 7), (1, 11)]] : List qF) := h
    simp only [List.mem_cons, List.not_mem_nil, or_false] at h
    rcases h with rfl | rfl | rfl | rfl | rfl | rfl | rfl | rfl
    · show 0 ≤ -1 * ρ 1 + (1 * ρ 3 + 0)
      (try rw [h0]); omega
    · show 0 ≤ 1 * ρ 1 + (-1 * ρ 3 + 0)
      (try rw [h0]); omega
    · show 0 ≤ 1 * ρ 4 + (-1 * ρ 10 + 0)
      (try rw [h0]); omega
    · show 0 ≤ -1 * ρ 4 + (1 * ρ 10 + 0)
      (try rw [h0]); omega
    · show 0 ≤ -37 * ρ 0 + (1 * ρ 6 + 0)
      (try rw [h0]); omega
    · show 0 ≤ 37 * ρ 0 + (-1 * ρ 6 + 0)
      (try rw [h0]); omega
    · show 0 ≤ 1 * ρ 7 + (-1 * ρ 11 + 0)
      (try rw [h0]); omega
    · show 0 ≤ -1 * ρ 7 + (1 * ρ 11 + 0)
      (try rw [h0]); omega
  · show sI M
    exact hI
-- wHitR19_r
def xr_519 : qRu := (13, [[(-1, 0), (1, 5)], [(1, 1)], [(-1, 1), (1, 9)], [(1, 1), (-1, 9)], [(-1, 0), (-1, 1), (1, 10)], [(6, 0), (1, 9), (-1, 10)], [(-273980692, 0), (1, 11)], [(273980692, 0), (-1, 11)]], [(4, 210, [(1, 0)]), (4, 211, [(1, 1)]), (4, 101, [(1, 2)]), (3, 46, [(1, 3)]), (3, 47, [(1, 4)]), (4, 100, [(1, 5)]), (3, 50, [(1, 6)]), (3, 51, [(1, 7)]), (4, 108, [(1, 8)]), (4, 214, [(1, 0)]), (4, 215, [(1, 9)]), (4, 217, [(1, 10)]), (4, 219, [(1, 11)]), (4, 216, [(1, 12)])], [], [], [[(-1, 1), (1, 3)], [(1, 1), (-1, 3)], [(1, 4), (-1, 10)], [(-1, 4), (1, 10)], [(1, 6)], [(-1, 6)], [(-19, 0), (1, 7)], [(19, 0), (-1, 7)]])
theorem xo_519 : qRok xr_519 := by
  intro ρ M h0 hf hm hI
  have f0 := hf [(-1, 0), (1, 5)] (by decide)
  have f1 := hf [(1, 1)] (by decide)
  have f2 := hf [(-1, 1), (1, 9)] (by decide)
  have f3 := hf [(1, 1), (-1, 9)] (by decide)
  have f4 := hf [(-1, 0), (-1, 1), (1, 10)] (by decide)
  have f5 := hf [(6, 0), (1, 9), (-1, 10)] (by decide)
  have f6 := hf [(-273980692, 0), (1, 11)] (by decide)
  have f7 := hf [(273980692, 0), (-1, 11)] (by decide)
  simp only [qD, h0] at f0 f1 f2 f3 f4 f5 f6 f7
  have m0 : M 4 210 = 1 * ρ 0 + 0 := hm (4, 210, [(1, 0)]) (by decide)
  have m1 : M 4 211 = 1 * ρ 1 + 0 := hm (4, 211, [(1, 1)]) (by decide)
  have m2 : M 4 101 = 1 * ρ 2 + 0 := hm (4, 101, [(1, 2)]) (by decide)
  have m3 : M 3 46 = 1 * ρ 3 + 0 := hm (3, 46, [(1, 3)]) (by decide)
  have m4 : M 3 47 = 1 * ρ 4 + 0 := hm (3, 47, [(1, 4)]) (by decide)
  have m5 : M 4 100 = 1 * ρ 5 + 0 := hm (4, 100, [(1, 5)]) (by decide)
  have m6 : M 3 50 = 1 * ρ 6 + 0 := hm (3, 50, [(1, 6)]) (by decide)
  have m7 : M 3 51 = 1 * ρ 7 + 0 := hm (3, 51, [(1, 7)]) (by decide)
  have m8 : M 4 108 = 1 * ρ 8 + 0 := hm (4, 108, [(1, 8)]) (by decide)
  have m9 : M 4 214 = 1 * ρ 0 + 0 := hm (4, 214, [(1, 0)]) (by decide)
  have m10 : M 4 215 = 1 * ρ 9 + 0 := hm (4, 215, [(1, 9)]) (by decide)
  have m11 : M 4 217 = 1 * ρ 10 + 0 := hm (4, 217, [(1, 10)]) (by decide)
  have m12 : M 4 219 = 1 * ρ 11 + 0 := hm (4, 219, [(1, 11)]) (by decide)
  have m13 : M 4 216 = 1 * ρ 12 + 0 := hm (4, 216, [(1, 12)]) (by decide)
  simp only [h0] at m0 m9
  obtain ⟨u1, u2, _⟩ := gx_xS8 hI (by omega)

  obtain ⟨a1, a2, a3, a4, a5, a6, a7⟩ := gx_xSA hI (by omega)
  have eq1 : (M 4 215).toNat = (M 4 211).toNat := by omega
  rw [eq1] at a6 a7
  have hgt := ten_gt (g := M 92) (lo := 97) (hi := 122) (n := (M 4 101).toNat) (q := (M 4 211).toNat) (by omega)
  have el1 : (M 4 217 - M 4 215).toNat = tEn (M 92) 97 122 (M 4 101).toNat (M 4 211).toNat - (M 4 211).toNat := by omega
  rw [el1] at a7

  obtain ⟨t1, t2, t3, t4, t5, t6⟩ := tk_of hI (by omega) (by omega) (by omega) (show tAt (M 92) (M 4 101).toNat (M 4 211).toNat (M 4 107) (M 4 108) = (37, M 4 219, ((M 4 211).toNat : Int), M 4 217, 0, 19) from by
    unfold tAt
    rw [if_neg (by omega), if_pos hgt.2]
    unfold tWo
    rw [← a7, ← a6]
    have hk : tKi (M 4 219) 0 = 37 := by
      rw [show M 4 219 = 273980692 by omega]
      decide
    have h6 : ¬ (6 < tEn (M 92) 97 122 (M 4 101).toNat (M 4 211).toNat - (M 4 211).toNat) := by omega
    unfold tWk tWs tWv
    rw [if_neg h6, if_neg h6, if_neg h6, hk]
    rfl)
  refine ⟨ρ, fun _ _ => rfl, fun f h => ?_, ?_⟩
  · have h : f ∈ ([[(-1, 1), (1, 3)], [(1, 1), (-1, 3)], [(1, 4), (-1, 10)], [(-1, 4), (1, 10)], [(1, 6)], [(-1, 6)], [(-19, 0), (1, 7)], [(19, 0), (-1, 7)]] : List qF) := h
    simp only [List.mem_cons, List.not_mem_nil, or_false] at h
    rcases h with rfl | rfl | rfl | rfl | rfl | rfl | rfl | rfl
    · show 0 ≤ -1 * ρ 1 + (1 * ρ 3 + 0)
      (try rw [h0]); omega
    · show 0 ≤ 1 * ρ 1 + (-1 * ρ 3 + 0)
      (try rw [h0]); omega
    · show 0 ≤ 1 * ρ 4 + (-1 * ρ 10 + 0)
      (try rw [h0]); omega
    · show 0 ≤ -1 * ρ 4 + (1 * ρ 10 + 0)
      (try rw [h0]); omega
    · show 0 ≤ 1 * ρ 6 + 0
      (try rw [h0]); omega
    · show 0 ≤ -1 * ρ 6 + 0
      (try rw [h0]); omega
    · show 0 ≤ -19 * ρ 0 + (1 * ρ 7 + 0)
      (try rw [h0]); omega
    · show 0 ≤ 19 * ρ 0 + (-1 * ρ 7 + 0)
      (try rw [h0]); omega
  · show sI M
    exact hI
-- langMissR19L
def xr_520 : qRu := (3, [[(273980691, 0), (-1, 2)]], [(4, 226, [(1, 0)]), (4, 227, [(19, 0)]), (4, 219, [(1, 2)])], [], [(4, 227, [(20, 0)])], [])
theorem xo_520 : qRok xr_520 := by
  intro ρ M h0 hf hm hI
  have f0 := hf [(273980691, 0), (-1, 2)] (by decide)
  simp only [qD, h0] at f0
  have m0 : M 4 226 = 1 * ρ 0 + 0 := hm (4, 226, [(1, 0)]) (by decide)
  have m1 : M 4 227 = 19 * ρ 0 + 0 := hm (4, 227, [(19, 0)]) (by decide)
  have m2 : M 4 219 = 1 * ρ 2 + 0 := hm (4, 219, [(1, 2)]) (by decide)
  simp only [h0] at m0 m1
  have qxSC := hI.2.2.2.2.2.2.2.2.2.2.2.2.2.2.2.2.2.2.2.2.2.2.2.2.2.2.2.2.2.2.2.2.2.2.1
  obtain ⟨l1, l2, l3⟩ := gx_xSC hI (by omega)
  refine ⟨ρ, fun _ _ => rfl, fun f h => ?_, ?_⟩
  · exact nomatch h
  · show sI (sU M 4 227 (20 * ρ 0 + 0))
    obtain ⟨W, hW⟩ : ∃ W, W = (sU M 4 227 (20 * ρ 0 + 0)) := ⟨_, rfl⟩
    rw [← hW]
    have base : sI0 W := by
      rw [hW]
      exact (si_u0 hI.1 (fun r hr => by cases hr))
    have k2 : XI2 W := by
      rw [hW]
      exact (xi2_u rfl hI.2.1)
    have k3 : XI3 W := by
      rw [hW]
      exact (xi3_u rfl hI.2.2.1)
    have kXA : XA W := by
      rw [hW]
      exact (uXA rfl hI.2.2.2.1)
    have k_xN1 : xN1 W := by
      rw [hW]
      exact (uxN1 rfl hI.2.2.2.2.1)
    have k_xN2 : xN2 W := by
      rw [hW]
      exact (uxN2 rfl hI.2.2.2.2.2.1)
    have k_xN3 : xN3 W := by
      rw [hW]
      exact (uxN3 rfl hI.2.2.2.2.2.2.1)
    have k_xN4 : xN4 W := by
      rw [hW]
      exact (uxN4 rfl hI.2.2.2.2.2.2.2.1)
    have k_xN5 : xN5 W := by
      rw [hW]
      exact (uxN5 rfl hI.2.2.2.2.2.2.2.2.1)
    have k_xN6 : xN6 W := by
      rw [hW]
      exact (uxN6 rfl hI.2.2.2.2.2.2.2.2.2.1)
    have k_xH1 : xH1 W := by
      rw [hW]
      exact (uxH1 rfl hI.2.2.2.2.2.2.2.2.2.2.1)
    have k_xK1 : xK1 W := by
      rw [hW]
      exact (uxK1 rfl hI.2.2.2.2.2.2.2.2.2.2.2.1)
    have k_xC1 : xC1 W := by
      rw [hW]
      exact (uxC1 rfl hI.2.2.2.2.2.2.2.2.2.2.2.2.1)
    have k_xRW : xRW W := by
      rw [hW]
      exact (uxRW rfl hI.2.2.2.2.2.2.2.2.2.2.2.2.2.1)
    have k_xWT : xWT W := by
      rw [hW]
      exact (uxWT rfl hI.2.2.2.2.2.2.2.2.2.2.2.2.2.2.1)
    have k_xCU : xCU W := by
      rw [hW]
      exact (uxCU rfl hI.2.2.2.2.2.2.2.2.2.2.2.2.2.2.2.1)
    have k_xG2 : xG2 W := by
      rw [hW]
      exact (uxG2 rfl hI.2.2.2.2.2.2.2.2.2.2.2.2.2.2.2.2.1)
    have k_xG3 : xG3 W := by
      rw [hW]
      exact (uxG3 rfl hI.2.2.2.2.2.2.2.2.2.2.2.2.2.2.2.2.2.1)
    have k_xG4 : xG4 W := by
      rw [hW]
      exact (uxG4 rfl hI.2.2.2.2.2.2.2.2.2.2.2.2.2.2.2.2.2.2.1)
    have k_xG5 : xG5 W := by
      rw [hW]
      exact (uxG5 rfl hI.2.2.2.2.2.2.2.2.2.2.2.2.2.2.2.2.2.2.2.1)
    have k_xG6 : xG6 W := by
      rw [hW]
      exact (uxG6 rfl hI.2.2.2.2.2.2.2.2.2.2.2.2.2.2.2.2.2.2.2.2.1)
    have k_xS1 : xS1 W := by
      rw [hW]
      exact (uxS1 rfl hI.2.2.2.2.2.2.2.2.2.2.2.2.2.2.2.2.2.2.2.2.2.1)
    have k_xS2 : xS2 W := by
      rw [hW]
      exact (uxS2 rfl hI.2.2.2.2.2.2.2.2.2.2.2.2.2.2.2.2.2.2.2.2.2.2.1)
    have k_xS3 : xS3 W := by
      rw [hW]
      exact (uxS3 rfl hI.2.2.2.2.2.2.2.2.2.2.2.2.2.2.2.2.2.2.2.2.2.2.2.1)
    have k_xS4 : xS4 W := by
      rw [hW]
      exact (uxS4 rfl hI.2.2.2.2.2.2.2.2.2.2.2.2.2.2.2.2.2.2.2.2.2.2.2.2.1)
    have k_xS5 : xS5 W := by
      rw [hW]
      exact (uxS5 rfl hI.2.2.2.2.2.2.2.2.2.2.2.2.2.2.2.2.2.2.2.2.2.2.2.2.2.1)
    have k_xS6 : xS6 W := by
      rw [hW]
      exact (uxS6 rfl hI.2.2.2.2.2.2.2.2.2.2.2.2.2.2.2.2.2.2.2.2.2.2.2.2.2.2.1)
    have k_xS7 : xS7 W := by
      rw [hW]
      exact (uxS7 rfl hI.2.2.2.2.2.2.2.2.2.2.2.2.2.2.2.2.2.2.2.2.2.2.2.2.2.2.2.1)
    have k_xS8 : xS8 W := by
      rw [hW]
      exact (uxS8 rfl hI.2.2.2.2.2.2.2.2.2.2.2.2.2.2.2.2.2.2.2.2.2.2.2.2.2.2.2.2.1)
    have k_xS9 : xS9 W := by
      rw [hW]
      exact (uxS9 rfl hI.2.2.2.2.2.2.2.2.2.2.2.2.2.2.2.2.2.2.2.2.2.2.2.2.2.2.2.2.2.1)
    have k_xSA : xSA W := by
      rw [hW]
      exact (uxSA rfl hI.2.2.2.2.2.2.2.2.2.2.2.2.2.2.2.2.2.2.2.2.2.2.2.2.2.2.2.2.2.2.1)
    have k_xSG : xSG W := by
      rw [hW]
      exact (uxSG rfl hI.2.2.2.2.2.2.2.2.2.2.2.2.2.2.2.2.2.2.2.2.2.2.2.2.2.2.2.2.2.2.2.1)
    have k_xSF : xSF W := by
      rw [hW]
      exact (uxSF rfl hI.2.2.2.2.2.2.2.2.2.2.2.2.2.2.2.2.2.2.2.2.2.2.2.2.2.2.2.2.2.2.2.2.1)
    have k_xSB : xSB W := by
      rw [hW]
      exact (uxSB rfl hI.2.2.2.2.2.2.2.2.2.2.2.2.2.2.2.2.2.2.2.2.2.2.2.2.2.2.2.2.2.2.2.2.2.1)
    have k_xSC : xSC W := by
      have r4_226 : W 4 226 = M 4 226 := by rw [hW, sU_ne (fun z => by omega)]
      have r4_227 : W 4 227 = 20 * ρ 0 + 0 := by rw [hW, sU_at]
      have r4_219 : W 4 219 = M 4 219 := by rw [hW, sU_ne (fun z => by omega)]
      intro h
      rw [r4_227, r4_219, h0]
      refine ⟨by omega, by omega, ?_⟩
      have e1 := tki_on (x := M 4 219) (w := 19) (show tLa[19]? = some (273980692 : Int) from rfl)
      rw [if_neg (by omega)] at e1
      rw [show M 4 227 = 19 by omega] at l3
      rw [← l3]
      exact e1.symm
    have k_xSD : xSD W := by
      rw [hW]
      exact (uxSD rfl hI.2.2.2.2.2.2.2.2.2.2.2.2.2.2.2.2.2.2.2.2.2.2.2.2.2.2.2.2.2.2.2.2.2.2.2.1)
    have k_xSE : xSE W := by
      rw [hW]
      exact (uxSE rfl hI.2.2.2.2.2.2.2.2.2.2.2.2.2.2.2.2.2.2.2.2.2.2.2.2.2.2.2.2.2.2.2.2.2.2.2.2.1)
    have k_xSW : xSW W := by
      rw [hW]
      exact (uxSW rfl hI.2.2.2.2.2.2.2.2.2.2.2.2.2.2.2.2.2.2.2.2.2.2.2.2.2.2.2.2.2.2.2.2.2.2.2.2.2.1)
    have k_xST : xST W := by
      rw [hW]
      exact (uxST rfl hI.2.2.2.2.2.2.2.2.2.2.2.2.2.2.2.2.2.2.2.2.2.2.2.2.2.2.2.2.2.2.2.2.2.2.2.2.2.2.1)
    have k_xSP : xSP W := by
      rw [hW]
      exact (uxSP rfl hI.2.2.2.2.2.2.2.2.2.2.2.2.2.2.2.2.2.2.2.2.2.2.2.2.2.2.2.2.2.2.2.2.2.2.2.2.2.2.2.1)
    have k_xSL : xSL W := by
      rw [hW]
      exact (uxSL rfl hI.2.2.2.2.2.2.2.2.2.2.2.2.2.2.2.2.2.2.2.2.2.2.2.2.2.2.2.2.2.2.2.2.2.2.2.2.2.2.2.2.1)
    have k_xSM : xSM W := by
      rw [hW]
      exact (uxSM rfl hI.2.2.2.2.2.2.2.2.2.2.2.2.2.2.2.2.2.2.2.2.2.2.2.2.2.2.2.2.2.2.2.2.2.2.2.2.2.2.2.2.2.1)
    have k_xSI : xSI W := by
      rw [hW]
      exact (uxSI rfl hI.2.2.2.2.2.2.2.2.2.2.2.2.2.2.2.2.2.2.2.2.2.2.2.2.2.2.2.2.2.2.2.2.2.2.2.2.2.2.2.2.2.2)
    have k_XC : XC W := ⟨k_xS1, k_xS2, k_xS3, k_xS4, k_xS5, k_xS6, k_xS7, k_xS8, k_xS9, k_xSA, k_xSG, k_xSF, k_xSB, k_xSC, k_xSD, k_xSE, k_xSW, k_xST, k_xSP, k_xSL, k_xSM, k_xSI⟩
    have kXB : XB W := ⟨k_xN1, k_xN2, k_xN3, k_xN4, k_xN5, k_xN6, k_xH1, k_xK1, k_xC1, k_xRW, k_xWT, k_xCU, k_xG2, k_xG3, k_xG4, k_xG5, k_xG6, k_XC⟩
    exact ⟨base, k2, k3, kXA, kXB⟩
-- langMissR19H
def xr_521 : qRu := (3, [[(-273980693, 0), (1, 2)]], [(4, 226, [(1, 0)]), (4, 227, [(19, 0)]), (4, 219, [(1, 2)])], [], [(4, 227, [(20, 0)])], [])
theorem xo_521 : qRok xr_521 := by
  intro ρ M h0 hf hm hI
  have f0 := hf [(-273980693, 0), (1, 2)] (by decide)
  simp only [qD, h0] at f0
  have m0 : M 4 226 = 1 * ρ 0 + 0 := hm (4, 226, [(1, 0)]) (by decide)
  have m1 : M 4 227 = 19 * ρ 0 + 0 := hm (4, 227, [(19, 0)]) (by decide)
  have m2 : M 4 219 = 1 * ρ 2 + 0 := hm (4, 219, [(1, 2)]) (by decide)
  simp only [h0] at m0 m1
  have qxSC := hI.2.2.2.2.2.2.2.2.2.2.2.2.2.2.2.2.2.2.2.2.2.2.2.2.2.2.2.2.2.2.2.2.2.2.1
  obtain ⟨l1, l2, l3⟩ := gx_xSC hI (by omega)
  refine ⟨ρ, fun _ _ => rfl, fun f h => ?_, ?_⟩
  · exact nomatch h
  · show sI (sU M 4 227 (20 * ρ 0 + 0))
    obtain ⟨W, hW⟩ : ∃ W, W = (sU M 4 227 (20 * ρ 0 + 0)) := ⟨_, rfl⟩
    rw [← hW]
    have base : sI0 W := by
      rw [hW]
      exact (si_u0 hI.1 (fun r hr => by cases hr))
    have k2 : XI2 W := by
      rw [hW]
      exact (xi2_u rfl hI.2.1)
    have k3 : XI3 W := by
      rw [hW]
      exact (xi3_u rfl hI.2.2.1)
    have kXA : XA W := by
      rw [hW]
      exact (uXA rfl hI.2.2.2.1)
    have k_xN1 : xN1 W := by
      rw [hW]
      exact (uxN1 rfl hI.2.2.2.2.1)
    have k_xN2 : xN2 W := by
      rw [hW]
      exact (uxN2 rfl hI.2.2.2.2.2.1)
    have k_xN3 : xN3 W := by
      rw [hW]
      exact (uxN3 rfl hI.2.2.2.2.2.2.1)
    have k_xN4 : xN4 W := by
      rw [hW]
      exact (uxN4 rfl hI.2.2.2.2.2.2.2.1)
    have k_xN5 : xN5 W := by
      rw [hW]
      exact (uxN5 rfl hI.2.2.2.2.2.2.2.2.1)
    have k_xN6 : xN6 W := by
      rw [hW]
      exact (uxN6 rfl hI.2.2.2.2.2.2.2.2.2.1)
    have k_xH1 : xH1 W := by
      rw [hW]
      exact (uxH1 rfl hI.2.2.2.2.2.2.2.2.2.2.1)
    have k_xK1 : xK1 W := by
      rw [hW]
      exact (uxK1 rfl hI.2.2.2.2.2.2.2.2.2.2.2.1)
    have k_xC1 : xC1 W := by
      rw [hW]
      exact (uxC1 rfl hI.2.2.2.2.2.2.2.2.2.2.2.2.1)
    have k_xRW : xRW W := by
      rw [hW]
      exact (uxRW rfl hI.2.2.2.2.2.2.2.2.2.2.2.2.2.1)
    have k_xWT : xWT W := by
      rw [hW]
      exact (uxWT rfl hI.2.2.2.2.2.2.2.2.2.2.2.2.2.2.1)
    have k_xCU : xCU W := by
      rw [hW]
      exact (uxCU rfl hI.2.2.2.2.2.2.2.2.2.2.2.2.2.2.2.1)
    have k_xG2 : xG2 W := by
      rw [hW]
      exact (uxG2 rfl hI.2.2.2.2.2.2.2.2.2.2.2.2.2.2.2.2.1)
    have k_xG3 : xG3 W := by
      rw [hW]
      exact (uxG3 rfl hI.2.2.2.2.2.2.2.2.2.2.2.2.2.2.2.2.2.1)
    have k_xG4 : xG4 W := by
      rw [hW]
      exact (uxG4 rfl hI.2.2.2.2.2.2.2.2.2.2.2.2.2.2.2.2.2.2.1)
    have k_xG5 : xG5 W := by
      rw [hW]
      exact (uxG5 rfl hI.2.2.2.2.2.2.2.2.2.2.2.2.2.2.2.2.2.2.2.1)
    have k_xG6 : xG6 W := by
      rw [hW]
      exact (uxG6 rfl hI.2.2.2.2.2.2.2.2.2.2.2.2.2.2.2.2.2.2.2.2.1)
    have k_xS1 : xS1 W := by
      rw [hW]
      exact (uxS1 rfl hI.2.2.2.2.2.2.2.2.2.2.2.2.2.2.2.2.2.2.2.2.2.1)
    have k_xS2 : xS2 W := by
      rw [hW]
      exact (uxS2 rfl hI.2.2.2.2.2.2.2.2.2.2.2.2.2.2.2.2.2.2.2.2.2.2.1)
    have k_xS3 : xS3 W := by
      rw [hW]
      exact (uxS3 rfl hI.2.2.2.2.2.2.2.2.2.2.2.2.2.2.2.2.2.2.2.2.2.2.2.1)
    have k_xS4 : xS4 W := by
      rw [hW]
      exact (uxS4 rfl hI.2.2.2.2.2.2.2.2.2.2.2.2.2.2.2.2.2.2.2.2.2.2.2.2.1)
    have k_xS5 : xS5 W := by
      rw [hW]
      exact (uxS5 rfl hI.2.2.2.2.2.2.2.2.2.2.2.2.2.2.2.2.2.2.2.2.2.2.2.2.2.1)
    have k_xS6 : xS6 W := by
      rw [hW]
      exact (uxS6 rfl hI.2.2.2.2.2.2.2.2.2.2.2.2.2.2.2.2.2.2.2.2.2.2.2.2.2.2.1)
    have k_xS7 : xS7 W := by
      rw [hW]
      exact (uxS7 rfl hI.2.2.2.2.2.2.2.2.2.2.2.2.2.2.2.2.2.2.2.2.2.2.2.2.2.2.2.1)
    have k_xS8 : xS8 W := by
      rw [hW]
      exact (uxS8 rfl hI.2.2.2.2.2.2.2.2.2.2.2.2.2.2.2.2.2.2.2.2.2.2.2.2.2.2.2.2.1)
    have k_xS9 : xS9 W := by
      rw [hW]
      exact (uxS9 rfl hI.2.2.2.2.2.2.2.2.2.2.2.2.2.2.2.2.2.2.2.2.2.2.2.2.2.2.2.2.2.1)
    have k_xSA : xSA W := by
      rw [hW]
      exact (uxSA rfl hI.2.2.2.2.2.2.2.2.2.2.2.2.2.2.2.2.2.2.2.2.2.2.2.2.2.2.2.2.2.2.1)
    have k_xSG : xSG W := by
      rw [hW]
      exact (uxSG rfl hI.2.2.2.2.2.2.2.2.2.2.2.2.2.2.2.2.2.2.2.2.2.2.2.2.2.2.2.2.2.2.2.1)
    have k_xSF : xSF W := by
      rw [hW]
      exact (uxSF rfl hI.2.2.2.2.2.2.2.2.2.2.2.2.2.2.2.2.2.2.2.2.2.2.2.2.2.2.2.2.2.2.2.2.1)
    have k_xSB : xSB W := by
      rw [hW]
      exact (uxSB rfl hI.2.2.2.2.2.2.2.2.2.2.2.2.2.2.2.2.2.2.2.2.2.2.2.2.2.2.2.2.2.2.2.2.2.1)
    have k_xSC : xSC W := by
      have r4_226 : W 4 226 = M 4 226 := by rw [hW, sU_ne (fun z => by omega)]
      have r4_227 : W 4 227 = 20 * ρ 0 + 0 := by rw [hW, sU_at]
      have r4_219 : W 4 219 = M 4 219 := by rw [hW, sU_ne (fun z => by omega)]
      intro h
      rw [r4_227, r4_219, h0]
      refine ⟨by omega, by omega, ?_⟩
      have e1 := tki_on (x := M 4 219) (w := 19) (show tLa[19]? = some (273980692 : Int) from rfl)
      rw [if_neg (by omega)] at e1
      rw [show M 4 227 = 19 by omega] at l3
      rw [← l3]
      exact e1.symm
    have k_xSD : xSD W := by
      rw [hW]
      exact (uxSD rfl hI.2.2.2.2.2.2.2.2.2.2.2.2.2.2.2.2.2.2.2.2.2.2.2.2.2.2.2.2.2.2.2.2.2.2.2.1)
    have k_xSE : xSE W := by
      rw [hW]
      exact (uxSE rfl hI.2.2.2.2.2.2.2.2.2.2.2.2.2.2.2.2.2.2.2.2.2.2.2.2.2.2.2.2.2.2.2.2.2.2.2.2.1)
    have k_xSW : xSW W := by
      rw [hW]
      exact (uxSW rfl hI.2.2.2.2.2.2.2.2.2.2.2.2.2.2.2.2.2.2.2.2.2.2.2.2.2.2.2.2.2.2.2.2.2.2.2.2.2.1)
    have k_xST : xST W := by
      rw [hW]
      exact (uxST rfl hI.2.2.2.2.2.2.2.2.2.2.2.2.2.2.2.2.2.2.2.2.2.2.2.2.2.2.2.2.2.2.2.2.2.2.2.2.2.2.1)
    have k_xSP : xSP W := by
      rw [hW]
      exact (uxSP rfl hI.2.2.2.2.2.2.2.2.2.2.2.2.2.2.2.2.2.2.2.2.2.2.2.2.2.2.2.2.2.2.2.2.2.2.2.2.2.2.2.1)
    have k_xSL : xSL W := by
      rw [hW]
      exact (uxSL rfl hI.2.2.2.2.2.2.2.2.2.2.2.2.2.2.2.2.2.2.2.2.2.2.2.2.2.2.2.2.2.2.2.2.2.2.2.2.2.2.2.2.1)
    have k_xSM : xSM W := by
      rw [hW]
      exact (uxSM rfl hI.2.2.2.2.2.2.2.2.2.2.2.2.2.2.2.2.2.2.2.2.2.2.2.2.2.2.2.2.2.2.2.2.2.2.2.2.2.2.2.2.2.1)
    have k_xSI : xSI W := by
      rw [hW]
      exact (uxSI rfl hI.2.2.2.2.2.2.2.2.2.2.2.2.2.2.2.2.2.2.2.2.2.2.2.2.2.2.2.2.2.2.2.2.2.2.2.2.2.2.2.2.2.2)
    have k_XC : XC W := ⟨k_xS1, k_xS2, k_xS3, k_xS4, k_xS5, k_xS6, k_xS7, k_xS8, k_xS9, k_xSA, k_xSG, k_xSF, k_xSB, k_xSC, k_xSD, k_xSE, k_xSW, k_xST, k_xSP, k_xSL, k_xSM, k_xSI⟩
    have kXB : XB W := ⟨k_xN1, k_xN2, k_xN3, k_xN4, k_xN5, k_xN6, k_xH1, k_xK1, k_xC1, k_xRW, k_xWT, k_xCU, k_xG2, k_xG3, k_xG4, k_xG5, k_xG6, k_XC⟩
    exact ⟨base, k2, k3, kXA, kXB⟩
-- wHitR20_c
def xr_522 : qRu := (13, [[(-1, 0), (1, 5)], [(1, 1)], [(-1, 1), (1, 9)], [(1, 1), (-1, 9)], [(-1, 0), (-1, 1), (1, 10)], [(6, 0), (1, 9), (-1, 10)], [(-43581440, 0), (1, 11)], [(43581440, 0), (-1, 11)]], [(4, 210, [(1, 0)]), (4, 211, [(1, 1)]), (4, 101, [(1, 2)]), (3, 46, [(1, 3)]), (3, 47, [(1, 4)]), (4, 100, [(1, 5)]), (3, 44, [(1, 6)]), (3, 45, [(1, 7)]), (4, 107, [(1, 8)]), (4, 214, [(1, 0)]), (4, 215, [(1, 9)]), (4, 217, [(1, 10)]), (4, 219, [(1, 11)]), (4, 216, [(1, 12)])], [], [], [[(-1, 1), (1, 3)], [(1, 1), (-1, 3)], [(1, 4), (-1, 10)], [(-1, 4), (1, 10)], [(-38, 0), (1, 6)], [(38, 0), (-1, 6)], [(1, 7), (-1, 11)], [(-1, 7), (1, 11)]])
theorem xo_522 : qRok xr_522 := by
  intro ρ M h0 hf hm hI
  have f0 := hf [(-1, 0), (1, 5)] (by decide)
  have f1 := hf [(1, 1)] (by decide)
  have f2 := hf [(-1, 1), (1, 9)] (by decide)
  have f3 := hf [(1, 1), (-1, 9)] (by decide)
  have f4 := hf [(-1, 0), (-1, 1), (1, 10)] (by decide)
  have f5 := hf [(6, 0), (1, 9), (-1, 10)] (by decide)
  have f6 := hf [(-43581440, 0), (1, 11)] (by decide)
  have f7 := hf [(43581440, 0), (-1, 11)] (by decide)
  simp only [qD, h0] at f0 f1 f2 f3 f4 f5 f6 f7
  have m0 : M 4 210 = 1 * ρ 0 + 0 := hm (4, 210, [(1, 0)]) (by decide)
  have m1 : M 4 211 = 1 * ρ 1 + 0 := hm (4, 211, [(1, 1)]) (by decide)
  have m2 : M 4 101 = 1 * ρ 2 + 0 := hm (4, 101, [(1, 2)]) (by decide)
  have m3 : M 3 46 = 1 * ρ 3 + 0 := hm (3, 46, [(1, 3)]) (by decide)
  have m4 : M 3 47 = 1 * ρ 4 + 0 := hm (3, 47, [(1, 4)]) (by decide)
  have m5 : M 4 100 = 1 * ρ 5 + 0 := hm (4, 100, [(1, 5)]) (by decide)
  have m6 : M 3 44 = 1 * ρ 6 + 0 := hm (3, 44, [(1, 6)]) (by decide)
  have m7 : M 3 45 = 1 * ρ 7 + 0 := hm (3, 45, [(1, 7)]) (by decide)
  have m8 : M 4 107 = 1 * ρ 8 + 0 := hm (4, 107, [(1, 8)]) (by decide)
  have m9 : M 4 214 = 1 * ρ 0 + 0 := hm (4, 214, [(1, 0)]) (by decide)
  have m10 : M 4 215 = 1 * ρ 9 + 0 := hm (4, 215, [(1, 9)]) (by decide)
  have m11 : M 4 217 = 1 * ρ 10 + 0 := hm (4, 217, [(1, 10)]) (by decide)
  have m12 : M 4 219 = 1 * ρ 11 + 0 := hm (4, 219, [(1, 11)]) (by decide)
  have m13 : M 4 216 = 1 * ρ 12 + 0 := hm (4, 216, [(1, 12)]) (by decide)
  simp only [h0] at m0 m9
  obtain ⟨u1, u2, _⟩ := gx_xS8 hI (by omega)

  obtain ⟨a1, a2, a3, a4, a5, a6, a7⟩ := gx_xSA hI (by omega)
  have eq1 : (M 4 215).toNat = (M 4 211).toNat := by omega
  rw [eq1] at a6 a7
  have hgt := ten_gt (g := M 92) (lo := 97) (hi := 122) (n := (M 4 101).toNat) (q := (M 4 211).toNat) (by omega)
  have el1 : (M 4 217 - M 4 215).toNat = tEn (M 92) 97 122 (M 4 101).toNat (M 4 211).toNat - (M 4 211).toNat := by omega
  rw [el1] at a7

  obtain ⟨t1, t2, t3, t4, t5, t6⟩ := tk_of hI (by omega) (by omega) (by omega) (show tAt (M 92) (M 4 101).toNat (M 4 211).toNat (M 4 107) (M 4 108) = (38, M 4 219, ((M 4 211).toNat : Int), M 4 217, 0, 20) from by
    unfold tAt
    rw [if_neg (by omega), if_pos hgt.2]
    unfold tWo
    rw [← a7, ← a6]
    have hk : tKi (M 4 219) 0 = 38 := by
      rw [show M 4 219 = 43581440 by omega]
      decide
    have h6 : ¬ (6 < tEn (M 92) 97 122 (M 4 101).toNat (M 4 211).toNat - (M 4 211).toNat) := by omega
    unfold tWk tWs tWv
    rw [if_neg h6, if_neg h6, if_neg h6, hk]
    rfl)
  refine ⟨ρ, fun _ _ => rfl, fun f h => ?_, ?_⟩
  · have h : f ∈ ([[(-1, 1), (1, 3)], [(1, 1), (-1, 3)], [(1, 4), (-1, 10)], [(-1, 4), (1, 10)], [(-38, 0), (1, 6)], [(38, 0), (-1, 6)], [(1, 7), (-1, 11)], [(-1, 7), (1, 11)]] : List qF) := h
    simp only [List.mem_cons, List.not_mem_nil, or_false] at h
    rcases h with rfl | rfl | rfl | rfl | rfl | rfl | rfl | rfl
    · show 0 ≤ -1 * ρ 1 + (1 * ρ 3 + 0)
      (try rw [h0]); omega
    · show 0 ≤ 1 * ρ 1 + (-1 * ρ 3 + 0)
      (try rw [h0]); omega
    · show 0 ≤ 1 * ρ 4 + (-1 * ρ 10 + 0)
      (try rw [h0]); omega
    · show 0 ≤ -1 * ρ 4 + (1 * ρ 10 + 0)
      (try rw [h0]); omega
    · show 0 ≤ -38 * ρ 0 + (1 * ρ 6 + 0)
      (try rw [h0]); omega
    · show 0 ≤ 38 * ρ 0 + (-1 * ρ 6 + 0)
      (try rw [h0]); omega
    · show 0 ≤ 1 * ρ 7 + (-1 * ρ 11 + 0)
      (try rw [h0]); omega
    · show 0 ≤ -1 * ρ 7 + (1 * ρ 11 + 0)
      (try rw [h0]); omega
  · show sI M
    exact hI
-- wHitR20_r
def xr_523 : qRu := (13, [[(-1, 0), (1, 5)], [(1, 1)], [(-1, 1), (1, 9)], [(1, 1), (-1, 9)], [(-1, 0), (-1, 1), (1, 10)], [(6, 0), (1, 9), (-1, 10)], [(-43581440, 0), (1, 11)], [(43581440, 0), (-1, 11)]], [(4, 210, [(1, 0)]), (4, 211, [(1, 1)]), (4, 101, [(1, 2)]), (3, 46, [(1, 3)]), (3, 47, [(1, 4)]), (4, 100, [(1, 5)]), (3, 50, [(1, 6)]), (3, 51, [(1, 7)]), (4, 108, [(1, 8)]), (4, 214, [(1, 0)]), (4, 215, [(1, 9)]), (4, 217, [(1, 10)]), (4, 219, [(1, 11)]), (4, 216, [(1, 12)])], [], [], [[(-1, 1), (1, 3)], [(1, 1), (-1, 3)], [(1, 4), (-1, 10)], [(-1, 4), (1, 10)], [(1, 6)], [(-1, 6)], [(-20, 0), (1, 7)], [(20, 0), (-1, 7)]])
theorem xo_523 : qRok xr_523 := by
  intro ρ M h0 hf hm hI
  have f0 := hf [(-1, 0), (1, 5)] (by decide)
  have f1 := hf [(1, 1)] (by decide)
  have f2 := hf [(-1, 1), (1, 9)] (by decide)
  have f3 := hf [(1, 1), (-1, 9)] (by decide)
  have f4 := hf [(-1, 0), (-1, 1), (1, 10)] (by decide)
  have f5 := hf [(6, 0), (1, 9), (-1, 10)] (by decide)
  have f6 := hf [(-43581440, 0), (1, 11)] (by decide)
  have f7 := hf [(43581440, 0), (-1, 11)] (by decide)
  simp only [qD, h0] at f0 f1 f2 f3 f4 f5 f6 f7
  have m0 : M 4 210 = 1 * ρ 0 + 0 := hm (4, 210, [(1, 0)]) (by decide)
  have m1 : M 4 211 = 1 * ρ 1 + 0 := hm (4, 211, [(1, 1)]) (by decide)
  have m2 : M 4 101 = 1 * ρ 2 + 0 := hm (4, 101, [(1, 2)]) (by decide)
  have m3 : M 3 46 = 1 * ρ 3 + 0 := hm (3, 46, [(1, 3)]) (by decide)
  have m4 : M 3 47 = 1 * ρ 4 + 0 := hm (3, 47, [(1, 4)]) (by decide)
  have m5 : M 4 100 = 1 * ρ 5 + 0 := hm (4, 100, [(1, 5)]) (by decide)
  have m6 : M 3 50 = 1 * ρ 6 + 0 := hm (3, 50, [(1, 6)]) (by decide)
  have m7 : M 3 51 = 1 * ρ 7 + 0 := hm (3, 51, [(1, 7)]) (by decide)
  have m8 : M 4 108 = 1 * ρ 8 + 0 := hm (4, 108, [(1, 8)]) (by decide)
  have m9 : M 4 214 = 1 * ρ 0 + 0 := hm (4, 214, [(1, 0)]) (by decide)
  have m10 : M 4 215 = 1 * ρ 9 + 0 := hm (4, 215, [(1, 9)]) (by decide)
  have m11 : M 4 217 = 1 * ρ 10 + 0 := hm (4, 217, [(1, 10)]) (by decide)
  have m12 : M 4 219 = 1 * ρ 11 + 0 := hm (4, 219, [(1, 11)]) (by decide)
  have m13 : M 4 216 = 1 * ρ 12 + 0 := hm (4, 216, [(1, 12)]) (by decide)
  simp only [h0] at m0 m9
  obtain ⟨u1, u2, _⟩ := gx_xS8 hI (by omega)

  obtain ⟨a1, a2, a3, a4, a5, a6, a7⟩ := gx_xSA hI (by omega)
  have eq1 : (M 4 215).toNat = (M 4 211).toNat := by omega
  rw [eq1] at a6 a7
  have hgt := ten_gt (g := M 92) (lo := 97) (hi := 122) (n := (M 4 101).toNat) (q := (M 4 211).toNat) (by omega)
  have el1 : (M 4 217 - M 4 215).toNat = tEn (M 92) 97 122 (M 4 101).toNat (M 4 211).toNat - (M 4 211).toNat := by omega
  rw [el1] at a7

  obtain ⟨t1, t2, t3, t4, t5, t6⟩ := tk_of hI (by omega) (by omega) (by omega) (show tAt (M 92) (M 4 101).toNat (M 4 211).toNat (M 4 107) (M 4 108) = (38, M 4 219, ((M 4 211).toNat : Int), M 4 217, 0, 20) from by
    unfold tAt
    rw [if_neg (by omega), if_pos hgt.2]
    unfold tWo
    rw [← a7, ← a6]
    have hk : tKi (M 4 219) 0 = 38 := by
      rw [show M 4 219 = 43581440 by omega]
      decide
    have h6 : ¬ (6 < tEn (M 92) 97 122 (M 4 101).toNat (M 4 211).toNat - (M 4 211).toNat) := by omega
    unfold tWk tWs tWv
    rw [if_neg h6, if_neg h6, if_neg h6, hk]
    rfl)
  refine ⟨ρ, fun _ _ => rfl, fun f h => ?_, ?_⟩
  · have h : f ∈ ([[(-1, 1), (1, 3)], [(1, 1), (-1, 3)], [(1, 4), (-1, 10)], [(-1, 4), (1, 10)], [(1, 6)], [(-1, 6)], [(-20, 0), (1, 7)], [(20, 0), (-1, 7)]] : List qF) := h
    simp only [List.mem_cons, List.not_mem_nil, or_false] at h
    rcases h with rfl | rfl | rfl | rfl | rfl | rfl | rfl | rfl
    · show 0 ≤ -1 * ρ 1 + (1 * ρ 3 + 0)
      (try rw [h0]); omega
    · show 0 ≤ 1 * ρ 1 + (-1 * ρ 3 + 0)
      (try rw [h0]); omega
    · show 0 ≤ 1 * ρ 4 + (-1 * ρ 10 + 0)
      (try rw [h0]); omega
    · show 0 ≤ -1 * ρ 4 + (1 * ρ 10 + 0)
      (try rw [h0]); omega
    · show 0 ≤ 1 * ρ 6 + 0
      (try rw [h0]); omega
    · show 0 ≤ -1 * ρ 6 + 0
      (try rw [h0]); omega
    · show 0 ≤ -20 * ρ 0 + (1 * ρ 7 + 0)
      (try rw [h0]); omega
    · show 0 ≤ 20 * ρ 0 + (-1 * ρ 7 + 0)
      (try rw [h0]); omega
  · show sI M
    exact hI
-- langMissR20L
def xr_524 : qRu := (3, [[(43581439, 0), (-1, 2)]], [(4, 226, [(1, 0)]), (4, 227, [(20, 0)]), (4, 219, [(1, 2)])], [], [(4, 227, [(21, 0)])], [])
theorem xo_524 : qRok xr_524 := by
  intro ρ M h0 hf hm hI
  have f0 := hf [(43581439, 0), (-1, 2)] (by decide)
  simp only [qD, h0] at f0
  have m0 : M 4 226 = 1 * ρ 0 + 0 := hm (4, 226, [(1, 0)]) (by decide)
  have m1 : M 4 227 = 20 * ρ 0 + 0 := hm (4, 227, [(20, 0)]) (by decide)
  have m2 : M 4 219 = 1 * ρ 2 + 0 := hm (4, 219, [(1, 2)]) (by decide)
  simp only [h0] at m0 m1
  have qxSC := hI.2.2.2.2.2.2.2.2.2.2.2.2.2.2.2.2.2.2.2.2.2.2.2.2.2.2.2.2.2.2.2.2.2.2.1
  obtain ⟨l1, l2, l3⟩ := gx_xSC hI (by omega)
  refine ⟨ρ, fun _ _ => rfl, fun f h => ?_, ?_⟩
  · exact nomatch h
  · show sI (sU M 4 227 (21 * ρ 0 + 0))
    obtain ⟨W, hW⟩ : ∃ W, W = (sU M 4 227 (21 * ρ 0 + 0)) := ⟨_, rfl⟩
    rw [← hW]
    have base : sI0 W := by
      rw [hW]
      exact (si_u0 hI.1 (fun r hr => by cases hr))
    have k2 : XI2 W := by
      rw [hW]
      exact (xi2_u rfl hI.2.1)
    have k3 : XI3 W := by
      rw [hW]
      exact (xi3_u rfl hI.2.2.1)
    have kXA : XA W := by
      rw [hW]
      exact (uXA rfl hI.2.2.2.1)
    have k_xN1 : xN1 W := by
      rw [hW]
      exact (uxN1 rfl hI.2.2.2.2.1)
    have k_xN2 : xN2 W := by
      rw [hW]
      exact (uxN2 rfl hI.2.2.2.2.2.1)
    have k_xN3 : xN3 W := by
      rw [hW]
      exact (uxN3 rfl hI.2.2.2.2.2.2.1)
    have k_xN4 : xN4 W := by
      rw [hW]
      exact (uxN4 rfl hI.2.2.2.2.2.2.2.1)
    have k_xN5 : xN5 W := by
      rw [hW]
      exact (uxN5 rfl hI.2.2.2.2.2.2.2.2.1)
    have k_xN6 : xN6 W := by
      rw [hW]
      exact (uxN6 rfl hI.2.2.2.2.2.2.2.2.2.1)
    have k_xH1 : xH1 W := by
      rw [hW]
      exact (uxH1 rfl hI.2.2.2.2.2.2.2.2.2.2.1)
    have k_xK1 : xK1 W := by
      rw [hW]
      exact (uxK1 rfl hI.2.2.2.2.2.2.2.2.2.2.2.1)
    have k_xC1 : xC1 W := by
      rw [hW]
      exact (uxC1 rfl hI.2.2.2.2.2.2.2.2.2.2.2.2.1)
    have k_xRW : xRW W := by
      rw [hW]
      exact (uxRW rfl hI.2.2.2.2.2.2.2.2.2.2.2.2.2.1)
    have k_xWT : xWT W := by
      rw [hW]
      exact (uxWT rfl hI.2.2.2.2.2.2.2.2.2.2.2.2.2.2.1)
    have k_xCU : xCU W := by
      rw [hW]
      exact (uxCU rfl hI.2.2.2.2.2.2.2.2.2.2.2.2.2.2.2.1)
    have k_xG2 : xG2 W := by
      rw [hW]
      exact (uxG2 rfl hI.2.2.2.2.2.2.2.2.2.2.2.2.2.2.2.2.1)
    have k_xG3 : xG3 W := by
      rw [hW]
      exact (uxG3 rfl hI.2.2.2.2.2.2.2.2.2.2.2.2.2.2.2.2.2.1)
    have k_xG4 : xG4 W := by
      rw [hW]
      exact (uxG4 rfl hI.2.2.2.2.2.2.2.2.2.2.2.2.2.2.2.2.2.2.1)
    have k_xG5 : xG5 W := by
      rw [hW]
      exact (uxG5 rfl hI.2.2.2.2.2.2.2.2.2.2.2.2.2.2.2.2.2.2.2.1)
    have k_xG6 : xG6 W := by
      rw [hW]
      exact (uxG6 rfl hI.2.2.2.2.2.2.2.2.2.2.2.2.2.2.2.2.2.2.2.2.1)
    have k_xS1 : xS1 W := by
      rw [hW]
      exact (uxS1 rfl hI.2.2.2.2.2.2.2.2.2.2.2.2.2.2.2.2.2.2.2.2.2.1)
    have k_xS2 : xS2 W := by
      rw [hW]
      exact (uxS2 rfl hI.2.2.2.2.2.2.2.2.2.2.2.2.2.2.2.2.2.2.2.2.2.2.1)
    have k_xS3 : xS3 W := by
      rw [hW]
      exact (uxS3 rfl hI.2.2.2.2.2.2.2.2.2.2.2.2.2.2.2.2.2.2.2.2.2.2.2.1)
    have k_xS4 : xS4 W := by
      rw [hW]
      exact (uxS4 rfl hI.2.2.2.2.2.2.2.2.2.2.2.2.2.2.2.2.2.2.2.2.2.2.2.2.1)
    have k_xS5 : xS5 W := by
      rw [hW]
      exact (uxS5 rfl hI.2.2.2.2.2.2.2.2.2.2.2.2.2.2.2.2.2.2.2.2.2.2.2.2.2.1)
    have k_xS6 : xS6 W := by
      rw [hW]
      exact (uxS6 rfl hI.2.2.2.2.2.2.2.2.2.2.2.2.2.2.2.2.2.2.2.2.2.2.2.2.2.2.1)
    have k_xS7 : xS7 W := by
      rw [hW]
      exact (uxS7 rfl hI.2.2.2.2.2.2.2.2.2.2.2.2.2.2.2.2.2.2.2.2.2.2.2.2.2.2.2.1)
    have k_xS8 : xS8 W := by
      rw [hW]
      exact (uxS8 rfl hI.2.2.2.2.2.2.2.2.2.2.2.2.2.2.2.2.2.2.2.2.2.2.2.2.2.2.2.2.1)
    have k_xS9 : xS9 W := by
      rw [hW]
      exact (uxS9 rfl hI.2.2.2.2.2.2.2.2.2.2.2.2.2.2.2.2.2.2.2.2.2.2.2.2.2.2.2.2.2.1)
    have k_xSA : xSA W := by
      rw [hW]
      exact (uxSA rfl hI.2.2.2.2.2.2.2.2.2.2.2.2.2.2.2.2.2.2.2.2.2.2.2.2.2.2.2.2.2.2.1)
    have k_xSG : xSG W := by
      rw [hW]
      exact (uxSG rfl hI.2.2.2.2.2.2.2.2.2.2.2.2.2.2.2.2.2.2.2.2.2.2.2.2.2.2.2.2.2.2.2.1)
    have k_xSF : xSF W := by
      rw [hW]
      exact (uxSF rfl hI.2.2.2.2.2.2.2.2.2.2.2.2.2.2.2.2.2.2.2.2.2.2.2.2.2.2.2.2.2.2.2.2.1)
    have k_xSB : xSB W := by
      rw [hW]
      exact (uxSB rfl hI.2.2.2.2.2.2.2.2.2.2.2.2.2.2.2.2.2.2.2.2.2.2.2.2.2.2.2.2.2.2.2.2.2.1)
    have k_xSC : xSC W := by
      have r4_226 : W 4 226 = M 4 226 := by rw [hW, sU_ne (fun z => by omega)]
      have r4_227 : W 4 227 = 21 * ρ 0 + 0 := by rw [hW, sU_at]
      have r4_219 : W 4 219 = M 4 219 := by rw [hW, sU_ne (fun z => by omega)]
      intro h
      rw [r4_227, r4_219, h0]
      refine ⟨by omega, by omega, ?_⟩
      have e1 := tki_on (x := M 4 219) (w := 20) (show tLa[20]? = some (43581440 : Int) from rfl)
      rw [if_neg (by omega)] at e1
      rw [show M 4 227 = 20 by omega] at l3
      rw [← l3]
      exact e1.symm
    have k_xSD : xSD W := by
      rw [hW]
      exact (uxSD rfl hI.2.2.2.2.2.2.2.2.2.2.2.2.2.2.2.2.2.2.2.2.2.2.2.2.2.2.2.2.2.2.2.2.2.2.2.1)
    have k_xSE : xSE W := by
      rw [hW]
      exact (uxSE rfl hI.2.2.2.2.2.2.2.2.2.2.2.2.2.2.2.2.2.2.2.2.2.2.2.2.2.2.2.2.2.2.2.2.2.2.2.2.1)
    have k_xSW : xSW W := by
      rw [hW]
      exact (uxSW rfl hI.2.2.2.2.2.2.2.2.2.2.2.2.2.2.2.2.2.2.2.2.2.2.2.2.2.2.2.2.2.2.2.2.2.2.2.2.2.1)
    have k_xST : xST W := by
      rw [hW]
      exact (uxST rfl hI.2.2.2.2.2.2.2.2.2.2.2.2.2.2.2.2.2.2.2.2.2.2.2.2.2.2.2.2.2.2.2.2.2.2.2.2.2.2.1)
    have k_xSP : xSP W := by
      rw [hW]
      exact (uxSP rfl hI.2.2.2.2.2.2.2.2.2.2.2.2.2.2.2.2.2.2.2.2.2.2.2.2.2.2.2.2.2.2.2.2.2.2.2.2.2.2.2.1)
    have k_xSL : xSL W := by
      rw [hW]
      exact (uxSL rfl hI.2.2.2.2.2.2.2.2.2.2.2.2.2.2.2.2.2.2.2.2.2.2.2.2.2.2.2.2.2.2.2.2.2.2.2.2.2.2.2.2.1)
    have k_xSM : xSM W := by
      rw [hW]
      exact (uxSM rfl hI.2.2.2.2.2.2.2.2.2.2.2.2.2.2.2.2.2.2.2.2.2.2.2.2.2.2.2.2.2.2.2.2.2.2.2.2.2.2.2.2.2.1)
    have k_xSI : xSI W := by
      rw [hW]
      exact (uxSI rfl hI.2.2.2.2.2.2.2.2.2.2.2.2.2.2.2.2.2.2.2.2.2.2.2.2.2.2.2.2.2.2.2.2.2.2.2.2.2.2.2.2.2.2)
    have k_XC : XC W := ⟨k_xS1, k_xS2, k_xS3, k_xS4, k_xS5, k_xS6, k_xS7, k_xS8, k_xS9, k_xSA, k_xSG, k_xSF, k_xSB, k_xSC, k_xSD, k_xSE, k_xSW, k_xST, k_xSP, k_xSL, k_xSM, k_xSI⟩
    have kXB : XB W := ⟨k_xN1, k_xN2, k_xN3, k_xN4, k_xN5, k_xN6, k_xH1, k_xK1, k_xC1, k_xRW, k_xWT, k_xCU, k_xG2, k_xG3, k_xG4, k_xG5, k_xG6, k_XC⟩
    exact ⟨base, k2, k3, kXA, kXB⟩
-- langMissR20H
def xr_525 : qRu := (3, [[(-43581441, 0), (1, 2)]], [(4, 226, [(1, 0)]), (4, 227, [(20, 0)]), (4, 219, [(1, 2)])], [], [(4, 227, [(21, 0)])], [])
theorem xo_525 : qRok xr_525 := by
  intro ρ M h0 hf hm hI
  have f0 := hf [(-43581441, 0), (1, 2)] (by decide)
  simp only [qD, h0] at f0
  have m0 : M 4 226 = 1 * ρ 0 + 0 := hm (4, 226, [(1, 0)]) (by decide)
  have m1 : M 4 227 = 20 * ρ 0 + 0 := hm (4, 227, [(20, 0)]) (by decide)
  have m2 : M 4 219 = 1 * ρ 2 + 0 := hm (4, 219, [(1, 2)]) (by decide)
  simp only [h0] at m0 m1
  have qxSC := hI.2.2.2.2.2.2.2.2.2.2.2.2.2.2.2.2.2.2.2.2.2.2.2.2.2.2.2.2.2.2.2.2.2.2.1
  obtain ⟨l1, l2, l3⟩ := gx_xSC hI (by omega)
  refine ⟨ρ, fun _ _ => rfl, fun f h => ?_, ?_⟩
  · exact nomatch h
  · show sI (sU M 4 227 (21 * ρ 0 + 0))
    obtain ⟨W, hW⟩ : ∃ W, W = (sU M 4 227 (21 * ρ 0 + 0)) := ⟨_, rfl⟩
    rw [← hW]
    have base : sI0 W := by
      rw [hW]
      exact (si_u0 hI.1 (fun r hr => by cases hr))
    have k2 : XI2 W := by
      rw [hW]
      exact (xi2_u rfl hI.2.1)
    have k3 : XI3 W := by
      rw [hW]
      exact (xi3_u rfl hI.2.2.1)
    have kXA : XA W := by
      rw [hW]
      exact (uXA rfl hI.2.2.2.1)
    have k_xN1 : xN1 W := by
      rw [hW]
      exact (uxN1 rfl hI.2.2.2.2.1)
    have k_xN2 : xN2 W := by
      rw [hW]
      exact (uxN2 rfl hI.2.2.2.2.2.1)
    have k_xN3 : xN3 W := by
      rw [hW]
      exact (uxN3 rfl hI.2.2.2.2.2.2.1)
    have k_xN4 : xN4 W := by
      rw [hW]
      exact (uxN4 rfl hI.2.2.2.2.2.2.2.1)
    have k_xN5 : xN5 W := by
      rw [hW]
      exact (uxN5 rfl hI.2.2.2.2.2.2.2.2.1)
    have k_xN6 : xN6 W := by
      rw [hW]
      exact (uxN6 rfl hI.2.2.2.2.2.2.2.2.2.1)
    have k_xH1 : xH1 W := by
      rw [hW]
      exact (uxH1 rfl hI.2.2.2.2.2.2.2.2.2.2.1)
    have k_xK1 : xK1 W := by
      rw [hW]
      exact (uxK1 rfl hI.2.2.2.2.2.2.2.2.2.2.2.1)
    have k_xC1 : xC1 W := by
      rw [hW]
      exact (uxC1 rfl hI.2.2.2.2.2.2.2.2.2.2.2.2.1)
    have k_xRW : xRW W := by
      rw [hW]
      exact (uxRW rfl hI.2.2.2.2.2.2.2.2.2.2.2.2.2.1)
    have k_xWT : xWT W := by
      rw [hW]
      exact (uxWT rfl hI.2.2.2.2.2.2.2.2.2.2.2.2.2.2.1)
    have k_xCU : xCU W := by
      rw [hW]
      exact (uxCU rfl hI.2.2.2.2.2.2.2.2.2.2.2.2.2.2.2.1)
    have k_xG2 : xG2 W := by
      rw [hW]
      exact (uxG2 rfl hI.2.2.2.2.2.2.2.2.2.2.2.2.2.2.2.2.1)
    have k_xG3 : xG3 W := by
      rw [hW]
      exact (uxG3 rfl hI.2.2.2.2.2.2.2.2.2.2.2.2.2.2.2.2.2.1)
    have k_xG4 : xG4 W := by
      rw [hW]
      exact (uxG4 rfl hI.2.2.2.2.2.2.2.2.2.2.2.2.2.2.2.2.2.2.1)
    have k_xG5 : xG5 W := by
      rw [hW]
      exact (uxG5 rfl hI.2.2.2.2.2.2.2.2.2.2.2.2.2.2.2.2.2.2.2.1)
    have k_xG6 : xG6 W := by
      rw [hW]
      exact (uxG6 rfl hI.2.2.2.2.2.2.2.2.2.2.2.2.2.2.2.2.2.2.2.2.1)
    have k_xS1 : xS1 W := by
      rw [hW]
      exact (uxS1 rfl hI.2.2.2.2.2.2.2.2.2.2.2.2.2.2.2.2.2.2.2.2.2.1)
    have k_xS2 : xS2 W := by
      rw [hW]
      exact (uxS2 rfl hI.2.2.2.2.2.2.2.2.2.2.2.2.2.2.2.2.2.2.2.2.2.2.1)
    have k_xS3 : xS3 W := by
      rw [hW]
      exact (uxS3 rfl hI.2.2.2.2.2.2.2.2.2.2.2.2.2.2.2.2.2.2.2.2.2.2.2.1)
    have k_xS4 : xS4 W := by
      rw [hW]
      exact (uxS4 rfl hI.2.2.2.2.2.2.2.2.2.2.2.2.2.2.2.2.2.2.2.2.2.2.2.2.1)
    have k_xS5 : xS5 W := by
      rw [hW]
      exact (uxS5 rfl hI.2.2.2.2.2.2.2.2.2.2.2.2.2.2.2.2.2.2.2.2.2.2.2.2.2.1)
    have k_xS6 : xS6 W := by
      rw [hW]
      exact (uxS6 rfl hI.2.2.2.2.2.2.2.2.2.2.2.2.2.2.2.2.2.2.2.2.2.2.2.2.2.2.1)
    have k_xS7 : xS7 W := by
      rw [hW]
      exact (uxS7 rfl hI.2.2.2.2.2.2.2.2.2.2.2.2.2.2.2.2.2.2.2.2.2.2.2.2.2.2.2.1)
    have k_xS8 : xS8 W := by
      rw [hW]
      exact (uxS8 rfl hI.2.2.2.2.2.2.2.2.2.2.2.2.2.2.2.2.2.2.2.2.2.2.2.2.2.2.2.2.1)
    have k_xS9 : xS9 W := by
      rw [hW]
      exact (uxS9 rfl hI.2.2.2.2.2.2.2.2.2.2.2.2.2.2.2.2.2.2.2.2.2.2.2.2.2.2.2.2.2.1)
    have k_xSA : xSA W := by
      rw [hW]
      exact (uxSA rfl hI.2.2.2.2.2.2.2.2.2.2.2.2.2.2.2.2.2.2.2.2.2.2.2.2.2.2.2.2.2.2.1)
    have k_xSG : xSG W := by
      rw [hW]
      exact (uxSG rfl hI.2.2.2.2.2.2.2.2.2.2.2.2.2.2.2.2.2.2.2.2.2.2.2.2.2.2.2.2.2.2.2.1)
    have k_xSF : xSF W := by
      rw [hW]
      exact (uxSF rfl hI.2.2.2.2.2.2.2.2.2.2.2.2.2.2.2.2.2.2.2.2.2.2.2.2.2.2.2.2.2.2.2.2.1)
    have k_xSB : xSB W := by
      rw [hW]
      exact (uxSB rfl hI.2.2.2.2.2.2.2.2.2.2.2.2.2.2.2.2.2.2.2.2.2.2.2.2.2.2.2.2.2.2.2.2.2.1)
    have k_xSC : xSC W := by
      have r4_226 : W 4 226 = M 4 226 := by rw [hW, sU_ne (fun z => by omega)]
      have r4_227 : W 4 227 = 21 * ρ 0 + 0 := by rw [hW, sU_at]
      have r4_219 : W 4 219 = M 4 219 := by rw [hW, sU_ne (fun z => by omega)]
      intro h
      rw [r4_227, r4_219, h0]
      refine ⟨by omega, by omega, ?_⟩
      have e1 := tki_on (x := M 4 219) (w := 20) (show tLa[20]? = some (43581440 : Int) from rfl)
      rw [if_neg (by omega)] at e1
      rw [show M 4 227 = 20 by omega] at l3
      rw [← l3]
      exact e1.symm
    have k_xSD : xSD W := by
      rw [hW]
      exact (uxSD rfl hI.2.2.2.2.2.2.2.2.2.2.2.2.2.2.2.2.2.2.2.2.2.2.2.2.2.2.2.2.2.2.2.2.2.2.2.1)
    have k_xSE : xSE W := by
      rw [hW]
      exact (uxSE rfl hI.2.2.2.2.2.2.2.2.2.2.2.2.2.2.2.2.2.2.2.2.2.2.2.2.2.2.2.2.2.2.2.2.2.2.2.2.1)
    have k_xSW : xSW W := by
      rw [hW]
      exact (uxSW rfl hI.2.2.2.2.2.2.2.2.2.2.2.2.2.2.2.2.2.2.2.2.2.2.2.2.2.2.2.2.2.2.2.2.2.2.2.2.2.1)
    have k_xST : xST W := by
      rw [hW]
      exact (uxST rfl hI.2.2.2.2.2.2.2.2.2.2.2.2.2.2.2.2.2.2.2.2.2.2.2.2.2.2.2.2.2.2.2.2.2.2.2.2.2.2.1)
    have k_xSP : xSP W := by
      rw [hW]
      exact (uxSP rfl hI.2.2.2.2.2.2.2.2.2.2.2.2.2.2.2.2.2.2.2.2.2.2.2.2.2.2.2.2.2.2.2.2.2.2.2.2.2.2.2.1)
    have k_xSL : xSL W := by
      rw [hW]
      exact (uxSL rfl hI.2.2.2.2.2.2.2.2.2.2.2.2.2.2.2.2.2.2.2.2.2.2.2.2.2.2.2.2.2.2.2.2.2.2.2.2.2.2.2.2.1)
    have k_xSM : xSM W := by
      rw [hW]
      exact (uxSM rfl hI.2.2.2.2.2.2.2.2.2.2.2.2.2.2.2.2.2.2.2.2.2.2.2.2.2.2.2.2.2.2.2.2.2.2.2.2.2.2.2.2.2.1)
    have k_xSI : xSI W := by
      rw [hW]
      exact (uxSI rfl hI.2.2.2.2.2.2.2.2.2.2.2.2.2.2.2.2.2.2.2.2.2.2.2.2.2.2.2.2.2.2.2.2.2.2.2.2.2.2.2.2.2.2)
    have k_XC : XC W := ⟨k_xS1, k_xS2, k_xS3, k_xS4, k_xS5, k_xS6, k_xS7, k_xS8, k_xS9, k_xSA, k_xSG, k_xSF, k_xSB, k_xSC, k_xSD, k_xSE, k_xSW, k_xST, k_xSP, k_xSL, k_xSM, k_xSI⟩
    have kXB : XB W := ⟨k_xN1, k_xN2, k_xN3, k_xN4, k_xN5, k_xN6, k_xH1, k_xK1, k_xC1, k_xRW, k_xWT, k_xCU, k_xG2, k_xG3, k_xG4, k_xG5, k_xG6, k_XC⟩
    exact ⟨base, k2, k3, kXA, kXB⟩
-- wHitR21_c
def xr_526 : qRu := (13, [[(-1, 0), (1, 5)], [(1, 1)], [(-1, 1), (1, 9)], [(1, 1), (-1, 9)], [(-1, 0), (-1, 1), (1, 10)], [(6, 0), (1, 9), (-1, 10)], [(-284870656, 0), (1, 11)], [(284870656, 0), (-1, 11)]], [(4, 210, [(1, 0)]), (4, 211, [(1, 1)]), (4, 101, [(1, 2)]), (3, 46, [(1, 3)]), (3, 47, [(1, 4)]), (4, 100, [(1, 5)]), (3, 44, [(1, 6)]), (3, 45, [(1, 7)]), (4, 107, [(1, 8)]), (4, 214, [(1, 0)]), (4, 215, [(1, 9)]), (4, 217, [(1, 10)]), (4, 219, [(1, 11)]), (4, 216, [(1, 12)])], [], [], [[(-1, 1), (1, 3)], [(1, 1), (-1, 3)], [(1, 4), (-1, 10)], [(-1, 4), (1, 10)], [(-39, 0), (1, 6)], [(39, 0), (-1, 6)], [(1, 7), (-1, 11)], [(-1, 7), (1, 11)]])
theorem xo_526 : qRok xr_526 := by
  intro ρ M h0 hf hm hI
  have f0 := hf [(-1, 0), (1, 5)] (by decide)
  have f1 := hf [(1, 1)] (by decide)
  have f2 := hf [(-1, 1), (1, 9)] (by decide)
  have f3 := hf [(1, 1), (-1, 9)] (by decide)
  have f4 := hf [(-1, 0), (-1, 1), (1, 10)] (by decide)
  have f5 := hf [(6, 0), (1, 9), (-1, 10)] (by decide)
  have f6 := hf [(-284870656, 0), (1, 11)] (by decide)
  have f7 := hf [(284870656, 0), (-1, 11)] (by decide)
  simp only [qD, h0] at f0 f1 f2 f3 f4 f5 f6 f7
  have m0 : M 4 210 = 1 * ρ 0 + 0 := hm (4, 210, [(1, 0)]) (by decide)
  have m1 : M 4 211 = 1 * ρ 1 + 0 := hm (4, 211, [(1, 1)]) (by decide)
  have m2 : M 4 101 = 1 * ρ 2 + 0 := hm (4, 101, [(1, 2)]) (by decide)
  have m3 : M 3 46 = 1 * ρ 3 + 0 := hm (3, 46, [(1, 3)]) (by decide)
  have m4 : M 3 47 = 1 * ρ 4 + 0 := hm (3, 47, [(1, 4)]) (by decide)
  have m5 : M 4 100 = 1 * ρ 5 + 0 := hm (4, 100, [(1, 5)]) (by decide)
  have m6 : M 3 44 = 1 * ρ 6 + 0 := hm (3, 44, [(1, 6)]) (by decide)
  have m7 : M 3 45 = 1 * ρ 7 + 0 := hm (3, 45, [(1, 7)]) (by decide)
  have m8 : M 4 107 = 1 * ρ 8 + 0 := hm (4, 107, [(1, 8)]) (by decide)
  have m9 : M 4 214 = 1 * ρ 0 + 0 := hm (4, 214, [(1, 0)]) (by decide)
  have m10 : M 4 215 = 1 * ρ 9 + 0 := hm (4, 215, [(1, 9)]) (by decide)
  have m11 : M 4 217 = 1 * ρ 10 + 0 := hm (4, 217, [(1, 10)]) (by decide)
  have m12 : M 4 219 = 1 * ρ 11 + 0 := hm (4, 219, [(1, 11)]) (by decide)
  have m13 : M 4 216 = 1 * ρ 12 + 0 := hm (4, 216, [(1, 12)]) (by decide)
  simp only [h0] at m0 m9
  obtain ⟨u1, u2, _⟩ := gx_xS8 hI (by omega)

  obtain ⟨a1, a2, a3, a4, a5, a6, a7⟩ := gx_xSA hI (by omega)
  have eq1 : (M 4 215).toNat = (M 4 211).toNat := by omega
  rw [eq1] at a6 a7
  have hgt := ten_gt (g := M 92) (lo := 97) (hi := 122) (n := (M 4 101).toNat) (q := (M 4 211).toNat) (by omega)
  have el1 : (M 4 217 - M 4 215).toNat = tEn (M 92) 97 122 (M 4 101).toNat (M 4 211).toNat - (M 4 211).toNat := by omega
  rw [el1] at a7

  obtain ⟨t1, t2, t3, t4, t5, t6⟩ := tk_of hI (by omega) (by omega) (by omega) (show tAt (M 92) (M 4 101).toNat (M 4 211).toNat (M 4 107) (M 4 108) = (39, M 4 219, ((M 4 211).toNat : Int), M 4 217, 0, 21) from by
    unfold tAt
    rw [if_neg (by omega), if_pos hgt.2]
    unfold tWo
    rw [← a7, ← a6]
    have hk : tKi (M 4 219) 0 = 39 := by
      rw [show M 4 219 = 284870656 by omega]
      decide
    have h6 : ¬ (6 < tEn (M 92) 97 122 (M 4 101).toNat (M 4 211).toNat - (M 4 211).toNat) := by omega
    unfold tWk tWs tWv
    rw [if_neg h6, if_neg h6, if_neg h6, hk]
    rfl)
  refine ⟨ρ, fun _ _ => rfl, fun f h => ?_, ?_⟩
  · have h : f ∈ ([[(-1, 1), (1, 3)], [(1, 1), (-1, 3)], [(1, 4), (-1, 10)], [(-1, 4), (1, 10)], [(-39, 0), (1, 6)], [(39, 0), (-1, 6)], [(1, 7), (-1, 11)], [(-1, 7), (1, 11)]] : List qF) := h
    simp only [List.mem_cons, List.not_mem_nil, or_false] at h
    rcases h with rfl | rfl | rfl | rfl | rfl | rfl | rfl | rfl
    · show 0 ≤ -1 * ρ 1 + (1 * ρ 3 + 0)
      (try rw [h0]); omega
    · show 0 ≤ 1 * ρ 1 + (-1 * ρ 3 + 0)
      (try rw [h0]); omega
    · show 0 ≤ 1 * ρ 4 + (-1 * ρ 10 + 0)
      (try rw [h0]); omega
    · show 0 ≤ -1 * ρ 4 + (1 * ρ 10 + 0)
      (try rw [h0]); omega
    · show 0 ≤ -39 * ρ 0 + (1 * ρ 6 + 0)
      (try rw [h0]); omega
    · show 0 ≤ 39 * ρ 0 + (-1 * ρ 6 + 0)
      (try rw [h0]); omega
    · show 0 ≤ 1 * ρ 7 + (-1 * ρ 11 + 0)
      (try rw [h0]); omega
    · show 0 ≤ -1 * ρ 7 + (1 * ρ 11 + 0)
      (try rw [h0]); omega
  · show sI M
    exact hI
-- wHitR21_r
def xr_527 : qRu := (13, [[(-1, 0), (1, 5)], [(1, 1)], [(-1, 1), (1, 9)], [(1, 1), (-1, 9)], [(-1, 0), (-1, 1), (1, 10)], [(6, 0), (1, 9), (-1, 10)], [(-284870656, 0), (1, 11)], [(284870656, 0), (-1, 11)]], [(4, 210, [(1, 0)]), (4, 211, [(1, 1)]), (4, 101, [(1, 2)]), (3, 46, [(1, 3)]), (3, 47, [(1, 4)]), (4, 100, [(1, 5)]), (3, 50, [(1, 6)]), (3, 51, [(1, 7)]), (4, 108, [(1, 8)]), (4, 214, [(1, 0)]), (4, 215, [(1, 9)]), (4, 217, [(1, 10)]), (4, 219, [(1, 11)]), (4, 216, [(1, 12)])], [], [], [[(-1, 1), (1, 3)], [(1, 1), (-1, 3)], [(1, 4), (-1, 10)], [(-1, 4), (1, 10)], [(1, 6)], [(-1, 6)], [(-21, 0), (1, 7)], [(21, 0), (-1, 7)]])
theorem xo_527 : qRok xr_527 := by
  intro ρ M h0 hf hm hI
  have f0 := hf [(-1, 0), (1, 5)] (by decide)
  have f1 := hf [(1, 1)] (by decide)
  have f2 := hf [(-1, 1), (1, 9)] (by decide)
  have f3 := hf [(1, 1), (-1, 9)] (by decide)
  have f4 := hf [(-1, 0), (-1, 1), (1, 10)] (by decide)
  have f5 := hf [(6, 0), (1, 9), (-1, 10)] (by decide)
  have f6 := hf [(-284870656, 0), (1, 11)] (by decide)
  have f7 := hf [(284870656, 0), (-1, 11)] (by decide)
  simp only [qD, h0] at f0 f1 f2 f3 f4 f5 f6 f7
  have m0 : M 4 210 = 1 * ρ 0 + 0 := hm (4, 210, [(1, 0)]) (by decide)
  have m1 : M 4 211 = 1 * ρ 1 + 0 := hm (4, 211, [(1, 1)]) (by decide)
  have m2 : M 4 101 = 1 * ρ 2 + 0 := hm (4, 101, [(1, 2)]) (by decide)
  have m3 : M 3 46 = 1 * ρ 3 + 0 := hm (3, 46, [(1, 3)]) (by decide)
  have m4 : M 3 47 = 1 * ρ 4 + 0 := hm (3, 47, [(1, 4)]) (by decide)
  have m5 : M 4 100 = 1 * ρ 5 + 0 := hm (4, 100, [(1, 5)]) (by decide)
  have m6 : M 3 50 = 1 * ρ 6 + 0 := hm (3, 50, [(1, 6)]) (by decide)
  have m7 : M 3 51 = 1 * ρ 7 + 0 := hm (3, 51, [(1, 7)]) (by decide)
  have m8 : M 4 108 = 1 * ρ 8 + 0 := hm (4, 108, [(1, 8)]) (by decide)
  have m9 : M 4 214 = 1 * ρ 0 + 0 := hm (4, 214, [(1, 0)]) (by decide)
  have m10 : M 4 215 = 1 * ρ 9 + 0 := hm (4, 215, [(1, 9)]) (by decide)
  have m11 : M 4 217 = 1 * ρ 10 + 0 := hm (4, 217, [(1, 10)]) (by decide)
  have m12 : M 4 219 = 1 * ρ 11 + 0 := hm (4, 219, [(1, 11)]) (by decide)
  have m13 : M 4 216 = 1 * ρ 12 + 0 := hm (4, 216, [(1, 12)]) (by decide)
  simp only [h0] at m0 m9
  obtain ⟨u1, u2, _⟩ := gx_xS8 hI (by omega)

  obtain ⟨a1, a2, a3, a4, a5, a6, a7⟩ := gx_xSA hI (by omega)
  have eq1 : (M 4 215).toNat = (M 4 211).toNat := by omega
  rw [eq1] at a6 a7
  have hgt := ten_gt (g := M 92) (lo := 97) (hi := 122) (n := (M 4 101).toNat) (q := (M 4 211).toNat) (by omega)
  have el1 : (M 4 217 - M 4 215).toNat = tEn (M 92) 97 122 (M 4 101).toNat (M 4 211).toNat - (M 4 211).toNat := by omega
  rw [el1] at a7

  obtain ⟨t1, t2, t3, t4, t5, t6⟩ := tk_of hI (by omega) (by omega) (by omega) (show tAt (M 92) (M 4 101).toNat (M 4 211).toNat (M 4 107) (M 4 108) = (39, M 4 219, ((M 4 211).toNat : Int), M 4 217, 0, 21) from by
    unfold tAt
    rw [if_neg (by omega), if_pos hgt.2]
    unfold tWo
    rw [← a7, ← a6]
    have hk : tKi (M 4 219) 0 = 39 := by
      rw [show M 4 219 = 284870656 by omega]
      decide
    have h6 : ¬ (6 < tEn (M 92) 97 122 (M 4 101).toNat (M 4 211).toNat - (M 4 211).toNat) := by omega
    unfold tWk tWs tWv
    rw [if_neg h6, if_neg h6, if_neg h6, hk]
    rfl)
  refine ⟨ρ, fun _ _ => rfl, fun f h => ?_, ?_⟩
  · have h : f ∈ ([[(-1, 1), (1, 3)], [(1, 1), (-1, 3)], [(1, 4), (-1, 10)], [(-1, 4), (1, 10)], [(1, 6)], [(-1, 6)], [(-21, 0), (1, 7)], [(21, 0), (-1, 7)]] : List qF) := h
    simp only [List.mem_cons, List.not_mem_nil, or_false] at h
    rcases h with rfl | rfl | rfl | rfl | rfl | rfl | rfl | rfl
    · show 0 ≤ -1 * ρ 1 + (1 * ρ 3 + 0)
      (try rw [h0]); omega
    · show 0 ≤ 1 * ρ 1 + (-1 * ρ 3 + 0)
      (try rw [h0]); omega
    · show 0 ≤ 1 * ρ 4 + (-1 * ρ 10 + 0)
      (try rw [h0]); omega
    · show 0 ≤ -1 * ρ 4 + (1 * ρ 10 + 0)
      (try rw [h0]); omega
    · show 0 ≤ 1 * ρ 6 + 0
      (try rw [h0]); omega
    · show 0 ≤ -1 * ρ 6 + 0
      (try rw [h0]); omega
    · show 0 ≤ -21 * ρ 0 + (1 * ρ 7 + 0)
      (try rw [h0]); omega
    · show 0 ≤ 21 * ρ 0 + (-1 * ρ 7 + 0)
      (try rw [h0]); omega
  · show sI M
    exact hI
-- langMissR21L
def xr_528 : qRu := (3, [[(284870655, 0), (-1, 2)]], [(4, 226, [(1, 0)]), (4, 227, [(21, 0)]), (4, 219, [(1, 2)])], [], [(4, 227, [(22, 0)])], [])
theorem xo_528 : qRok xr_528 := by
  intro ρ M h0 hf hm hI
  have f0 := hf [(284870655, 0), (-1, 2)] (by decide)
  simp only [qD, h0] at f0
  have m0 : M 4 226 = 1 * ρ 0 + 0 := hm (4, 226, [(1, 0)]) (by decide)
  have m1 : M 4 227 = 21 * ρ 0 + 0 := hm (4, 227, [(21, 0)]) (by decide)
  have m2 : M 4 219 = 1 * ρ 2 + 0 := hm (4, 219, [(1, 2)]) (by decide)
  simp only [h0] at m0 m1
  have qxSC := hI.2.2.2.2.2.2.2.2.2.2.2.2.2.2.2.2.2.2.2.2.2.2.2.2.2.2.2.2.2.2.2.2.2.2.1
  obtain ⟨l1, l2, l3⟩ := gx_xSC hI (by omega)
  refine ⟨ρ, fun _ _ => rfl, fun f h => ?_, ?_⟩
  · exact nomatch h
  · show sI (sU M 4 227 (22 * ρ 0 + 0))
    obtain ⟨W, hW⟩ : ∃ W, W = (sU M 4 227 (22 * ρ 0 + 0)) := ⟨_, rfl⟩
    rw [← hW]
    have base : sI0 W := by
      rw [hW]
      exact (si_u0 hI.1 (fun r hr => by cases hr))
    have k2 : XI2 W := by
      rw [hW]
      exact (xi2_u rfl hI.2.1)
    have k3 : XI3 W := by
      rw [hW]
      exact (xi3_u rfl hI.2.2.1)
    have kXA : XA W := by
      rw [hW]
      exact (uXA rfl hI.2.2.2.1)
    have k_xN1 : xN1 W := by
      rw [hW]
      exact (uxN1 rfl hI.2.2.2.2.1)
    have k_xN2 : xN2 W := by
      rw [hW]
      exact (uxN2 rfl hI.2.2.2.2.2.1)
    have k_xN3 : xN3 W := by
      rw [hW]
      exact (uxN3 rfl hI.2.2.2.2.2.2.1)
    have k_xN4 : xN4 W := by
      rw [hW]
      exact (uxN4 rfl hI.2.2.2.2.2.2.2.1)
    have k_xN5 : xN5 W := by
      rw [hW]
      exact (uxN5 rfl hI.2.2.2.2.2.2.2.2.1)
    have k_xN6 : xN6 W := by
      rw [hW]
      exact (uxN6 rfl hI.2.2.2.2.2.2.2.2.2.1)
    have k_xH1 : xH1 W := by
      rw [hW]
      exact (uxH1 rfl hI.2.2.2.2.2.2.2.2.2.2.1)
    have k_xK1 : xK1 W := by
      rw [hW]
      exact (uxK1 rfl hI.2.2.2.2.2.2.2.2.2.2.2.1)
    have k_xC1 : xC1 W := by
      rw [hW]
      exact (uxC1 rfl hI.2.2.2.2.2.2.2.2.2.2.2.2.1)
    have k_xRW : xRW W := by
      rw [hW]
      exact (uxRW rfl hI.2.2.2.2.2.2.2.2.2.2.2.2.2.1)
    have k_xWT : xWT W := by
      rw [hW]
      exact (uxWT rfl hI.2.2.2.2.2.2.2.2.2.2.2.2.2.2.1)
    have k_xCU : xCU W := by
      rw [hW]
      exact (uxCU rfl hI.2.2.2.2.2.2.2.2.2.2.2.2.2.2.2.1)
    have k_xG2 : xG2 W := by
      rw [hW]
      exact (uxG2 rfl hI.2.2.2.2.2.2.2.2.2.2.2.2.2.2.2.2.1)
    have k_xG3 : xG3 W := by
      rw [hW]
      exact (uxG3 rfl hI.2.2.2.2.2.2.2.2.2.2.2.2.2.2.2.2.2.1)
    have k_xG4 : xG4 W := by
      rw [hW]
      exact (uxG4 rfl hI.2.2.2.2.2.2.2.2.2.2.2.2.2.2.2.2.2.2.1)
    have k_xG5 : xG5 W := by
      rw [hW]
      exact (uxG5 rfl hI.2.2.2.2.2.2.2.2.2.2.2.2.2.2.2.2.2.2.2.1)
    have k_xG6 : xG6 W := by
      rw [hW]
      exact (uxG6 rfl hI.2.2.2.2.2.2.2.2.2.2.2.2.2.2.2.2.2.2.2.2.1)
    have k_xS1 : xS1 W := by
      rw [hW]
      exact (uxS1 rfl hI.2.2.2.2.2.2.2.2.2.2.2.2.2.2.2.2.2.2.2.2.2.1)
    have k_xS2 : xS2 W := by
      rw [hW]
      exact (uxS2 rfl hI.2.2.2.2.2.2.2.2.2.2.2.2.2.2.2.2.2.2.2.2.2.2.1)
    have k_xS3 : xS3 W := by
      rw [hW]
      exact (uxS3 rfl hI.2.2.2.2.2.2.2.2.2.2.2.2.2.2.2.2.2.2.2.2.2.2.2.1)
    have k_xS4 : xS4 W := by
      rw [hW]
      exact (uxS4 rfl hI.2.2.2.2.2.2.2.2.2.2.2.2.2.2.2.2.2.2.2.2.2.2.2.2.1)
    have k_xS5 : xS5 W := by
      rw [hW]
      exact (uxS5 rfl hI.2.2.2.2.2.2.2.2.2.2.2.2.2.2.2.2.2.2.2.2.2.2.2.2.2.1)
    have k_xS6 : xS6 W := by
      rw [hW]
      exact (uxS6 rfl hI.2.2.2.2.2.2.2.2.2.2.2.2.2.2.2.2.2.2.2.2.2.2.2.2.2.2.1)
    have k_xS7 : xS7 W := by
      rw [hW]
      exact (uxS7 rfl hI.2.2.2.2.2.2.2.2.2.2.2.2.2.2.2.2.2.2.2.2.2.2.2.2.2.2.2.1)
    have k_xS8 : xS8 W := by
      rw [hW]
      exact (uxS8 rfl hI.2.2.2.2.2.2.2.2.2.2.2.2.2.2.2.2.2.2.2.2.2.2.2.2.2.2.2.2.1)
    have k_xS9 : xS9 W := by
      rw [hW]
      exact (uxS9 rfl hI.2.2.2.2.2.2.2.2.2.2.2.2.2.2.2.2.2.2.2.2.2.2.2.2.2.2.2.2.2.1)
    have k_xSA : xSA W := by
      rw [hW]
      exact (uxSA rfl hI.2.2.2.2.2.2.2.2.2.2.2.2.2.2.2.2.2.2.2.2.2.2.2.2.2.2.2.2.2.2.1)
    have k_xSG : xSG W := by
      rw [hW]
      exact (uxSG rfl hI.2.2.2.2.2.2.2.2.2.2.2.2.2.2.2.2.2.2.2.2.2.2.2.2.2.2.2.2.2.2.2.1)
    have k_xSF : xSF W := by
      rw [hW]
      exact (uxSF rfl hI.2.2.2.2.2.2.2.2.2.2.2.2.2.2.2.2.2.2.2.2.2.2.2.2.2.2.2.2.2.2.2.2.1)
    have k_xSB : xSB W := by
      rw [hW]
      exact (uxSB rfl hI.2.2.2.2.2.2.2.2.2.2.2.2.2.2.2.2.2.2.2.2.2.2.2.2.2.2.2.2.2.2.2.2.2.1)
    have k_xSC : xSC W := by
      have r4_226 : W 4 226 = M 4 226 := by rw [hW, sU_ne (fun z => by omega)]
      have r4_227 : W 4 227 = 22 * ρ 0 + 0 := by rw [hW, sU_at]
      have r4_219 : W 4 219 = M 4 219 := by rw [hW, sU_ne (fun z => by omega)]
      intro h
      rw [r4_227, r4_219, h0]
      refine ⟨by omega, by omega, ?_⟩
      have e1 := tki_on (x := M 4 219) (w := 21) (show tLa[21]? = some (284870656 : Int) from rfl)
      rw [if_neg (by omega)] at e1
      rw [show M 4 227 = 21 by omega] at l3
      rw [← l3]
      exact e1.symm
    have k_xSD : xSD W := by
      rw [hW]
      exact (uxSD rfl hI.2.2.2.2.2.2.2.2.2.2.2.2.2.2.2.2.2.2.2.2.2.2.2.2.2.2.2.2.2.2.2.2.2.2.2.1)
    have k_xSE : xSE W := by
      rw [hW]
      exact (uxSE rfl hI.2.2.2.2.2.2.2.2.2.2.2.2.2.2.2.2.2.2.2.2.2.2.2.2.2.2.2.2.2.2.2.2.2.2.2.2.1)
    have k_xSW : xSW W := by
      rw [hW]
      exact (uxSW rfl hI.2.2.2.2.2.2.2.2.2.2.2.2.2.2.2.2.2.2.2.2.2.2.2.2.2.2.2.2.2.2.2.2.2.2.2.2.2.1)
    have k_xST : xST W := by
      rw [hW]
      exact (uxST rfl hI.2.2.2.2.2.2.2.2.2.2.2.2.2.2.2.2.2.2.2.2.2.2.2.2.2.2.2.2.2.2.2.2.2.2.2.2.2.2.1)
    have k_xSP : xSP W := by
      rw [hW]
      exact (uxSP rfl hI.2.2.2.2.2.2.2.2.2.2.2.2.2.2.2.2.2.2.2.2.2.2.2.2.2.2.2.2.2.2.2.2.2.2.2.2.2.2.2.1)
    have k_xSL : xSL W := by
      rw [hW]
      exact (uxSL rfl hI.2.2.2.2.2.2.2.2.2.2.2.2.2.2.2.2.2.2.2.2.2.2.2.2.2.2.2.2.2.2.2.2.2.2.2.2.2.2.2.2.1)
    have k_xSM : xSM W := by
      rw [hW]
      exact (uxSM rfl hI.2.2.2.2.2.2.2.2.2.2.2.2.2.2.2.2.2.2.2.2.2.2.2.2.2.2.2.2.2.2.2.2.2.2.2.2.2.2.2.2.2.1)
    have k_xSI : xSI W := by
      rw [hW]
      exact (uxSI rfl hI.2.2.2.2.2.2.2.2.2.2.2.2.2.2.2.2.2.2.2.2.2.2.2.2.2.2.2.2.2.2.2.2.2.2.2.2.2.2.2.2.2.2)
    have k_XC : XC W := ⟨k_xS1, k_xS2, k_xS3, k_xS4, k_xS5, k_xS6, k_xS7, k_xS8, k_xS9, k_xSA, k_xSG, k_xSF, k_xSB, k_xSC, k_xSD, k_xSE, k_xSW, k_xST, k_xSP, k_xSL, k_xSM, k_xSI⟩
    have kXB : XB W := ⟨k_xN1, k_xN2, k_xN3, k_xN4, k_xN5, k_xN6, k_xH1, k_xK1, k_xC1, k_xRW, k_xWT, k_xCU, k_xG2, k_xG3, k_xG4, k_xG5, k_xG6, k_XC⟩
    exact ⟨base, k2, k3, kXA, kXB⟩
-- langMissR21H
def xr_529 : qRu := (3, [[(-284870657, 0), (1, 2)]], [(4, 226, [(1, 0)]), (4, 227, [(21, 0)]), (4, 219, [(1, 2)])], [], [(4, 227, [(22, 0)])], [])
theorem xo_529 : qRok xr_529 := by
  intro ρ M h0 hf hm hI
  have f0 := hf [(-284870657, 0), (1, 2)] (by decide)
  simp only [qD, h0] at f0
  have m0 : M 4 226 = 1 * ρ 0 + 0 := hm (4, 226, [(1, 0)]) (by decide)
  have m1 : M 4 227 = 21 * ρ 0 + 0 := hm (4, 227, [(21, 0)]) (by decide)
  have m2 : M 4 219 = 1 * ρ 2 + 0 := hm (4, 219, [(1, 2)]) (by decide)
  simp only [h0] at m0 m1
  have qxSC := hI.2.2.2.2.2.2.2.2.2.2.2.2.2.2.2.2.2.2.2.2.2.2.2.2.2.2.2.2.2.2.2.2.2.2.1
  obtain ⟨l1, l2, l3⟩ := gx_xSC hI (by omega)
  refine ⟨ρ, fun _ _ => rfl, fun f h => ?_, ?_⟩
  · exact nomatch h
  · show sI (sU M 4 227 (22 * ρ 0 + 0))
    obtain ⟨W, hW⟩ : ∃ W, W = (sU M 4 227 (22 * ρ 0 + 0)) := ⟨_, rfl⟩
    rw [← hW]
    have base : sI0 W := by
      rw [hW]
      exact (si_u0 hI.1 (fun r hr => by cases hr))
    have k2 : XI2 W := by
      rw [hW]
      exact (xi2_u rfl hI.2.1)
    have k3 : XI3 W := by
      rw [hW]
      exact (xi3_u rfl hI.2.2.1)
    have kXA : XA W := by
      rw [hW]
      exact (uXA rfl hI.2.2.2.1)
    have k_xN1 : xN1 W := by
      rw [hW]
      exact (uxN1 rfl hI.2.2.2.2.1)
    have k_xN2 : xN2 W := by
      rw [hW]
      exact (uxN2 rfl hI.2.2.2.2.2.1)
    have k_xN3 : xN3 W := by
      rw [hW]
      exact (uxN3 rfl hI.2.2.2.2.2.2.1)
    have k_xN4 : xN4 W := by
      rw [hW]
      exact (uxN4 rfl hI.2.2.2.2.2.2.2.1)
    have k_xN5 : xN5 W := by
      rw [hW]
      exact (uxN5 rfl hI.2.2.2.2.2.2.2.2.1)
    have k_xN6 : xN6 W := by
      rw [hW]
      exact (uxN6 rfl hI.2.2.2.2.2.2.2.2.2.1)
    have k_xH1 : xH1 W := by
      rw [hW]
      exact (uxH1 rfl hI.2.2.2.2.2.2.2.2.2.2.1)
    have k_xK1 : xK1 W := by
      rw [hW]
      exact (uxK1 rfl hI.2.2.2.2.2.2.2.2.2.2.2.1)
    have k_xC1 : xC1 W := by
      rw [hW]
      exact (uxC1 rfl hI.2.2.2.2.2.2.2.2.2.2.2.2.1)
    have k_xRW : xRW W := by
      rw [hW]
      exact (uxRW rfl hI.2.2.2.2.2.2.2.2.2.2.2.2.2.1)
    have k_xWT : xWT W := by
      rw [hW]
      exact (uxWT rfl hI.2.2.2.2.2.2.2.2.2.2.2.2.2.2.1)
    have k_xCU : xCU W := by
      rw [hW]
      exact (uxCU rfl hI.2.2.2.2.2.2.2.2.2.2.2.2.2.2.2.1)
    have k_xG2 : xG2 W := by
      rw [hW]
      exact (uxG2 rfl hI.2.2.2.2.2.2.2.2.2.2.2.2.2.2.2.2.1)
    have k_xG3 : xG3 W := by
      rw [hW]
      exact (uxG3 rfl hI.2.2.2.2.2.2.2.2.2.2.2.2.2.2.2.2.2.1)
    have k_xG4 : xG4 W := by
      rw [hW]
      exact (uxG4 rfl hI.2.2.2.2.2.2.2.2.2.2.2.2.2.2.2.2.2.2.1)
    have k_xG5 : xG5 W := by
      rw [hW]
      exact (uxG5 rfl hI.2.2.2.2.2.2.2.2.2.2.2.2.2.2.2.2.2.2.2.1)
    have k_xG6 : xG6 W := by
      rw [hW]
      exact (uxG6 rfl hI.2.2.2.2.2.2.2.2.2.2.2.2.2.2.2.2.2.2.2.2.1)
    have k_xS1 : xS1 W := by
      rw [hW]
      exact (uxS1 rfl hI.2.2.2.2.2.2.2.2.2.2.2.2.2.2.2.2.2.2.2.2.2.1)
    have k_xS2 : xS2 W := by
      rw [hW]
      exact (uxS2 rfl hI.2.2.2.2.2.2.2.2.2.2.2.2.2.2.2.2.2.2.2.2.2.2.1)
    have k_xS3 : xS3 W := by
      rw [hW]
      exact (uxS3 rfl hI.2.2.2.2.2.2.2.2.2.2.2.2.2.2.2.2.2.2.2.2.2.2.2.1)
    have k_xS4 : xS4 W := by
      rw [hW]
      exact (uxS4 rfl hI.2.2.2.2.2.2.2.2.2.2.2.2.2.2.2.2.2.2.2.2.2.2.2.2.1)
    have k_xS5 : xS5 W := by
      rw [hW]
      exact (uxS5 rfl hI.2.2.2.2.2.2.2.2.2.2.2.2.2.2.2.2.2.2.2.2.2.2.2.2.2.1)
    have k_xS6 : xS6 W := by
      rw [hW]
      exact (uxS6 rfl hI.2.2.2.2.2.2.2.2.2.2.2.2.2.2.2.2.2.2.2.2.2.2.2.2.2.2.1)
    have k_xS7 : xS7 W := by
      rw [hW]
      exact (uxS7 rfl hI.2.2.2.2.2.2.2.2.2.2.2.2.2.2.2.2.2.2.2.2.2.2.2.2.2.2.2.1)
    have k_xS8 : xS8 W := by
      rw [hW]
      exact (uxS8 rfl hI.2.2.2.2.2.2.2.2.2.2.2.2.2.2.2.2.2.2.2.2.2.2.2.2.2.2.2.2.1)
    have k_xS9 : xS9 W := by
      rw [hW]
      exact (uxS9 rfl hI.2.2.2.2.2.2.2.2.2.2.2.2.2.2.2.2.2.2.2.2.2.2.2.2.2.2.2.2.2.1)
    have k_xSA : xSA W := by
      rw [hW]
      exact (uxSA rfl hI.2.2.2.2.2.2.2.2.2.2.2.2.2.2.2.2.2.2.2.2.2.2.2.2.2.2.2.2.2.2.1)
    have k_xSG : xSG W := by
      rw [hW]
      exact (uxSG rfl hI.2.2.2.2.2.2.2.2.2.2.2.2.2.2.2.2.2.2.2.2.2.2.2.2.2.2.2.2.2.2.2.1)
    have k_xSF : xSF W := by
      rw [hW]
      exact (uxSF rfl hI.2.2.2.2.2.2.2.2.2.2.2.2.2.2.2.2.2.2.2.2.2.2.2.2.2.2.2.2.2.2.2.2.1)
    have k_xSB : xSB W := by
      rw [hW]
      exact (uxSB rfl hI.2.2.2.2.2.2.2.2.2.2.2.2.2.2.2.2.2.2.2.2.2.2.2.2.2.2.2.2.2.2.2.2.2.1)
    have k_xSC : xSC W := by
      have r4_226 : W 4 226 = M 4 226 := by rw [hW, sU_ne (fun z => by omega)]
      have r4_227 : W 4 227 = 22 * ρ 0 + 0 := by rw [hW, sU_at]
      have r4_219 : W 4 219 = M 4 219 := by rw [hW, sU_ne (fun z => by omega)]
      intro h
      rw [r4_227, r4_219, h0]
      refine ⟨by omega, by omega, ?_⟩
      have e1 := tki_on (x := M 4 219) (w := 21) (show tLa[21]? = some (284870656 : Int) from rfl)
      rw [if_neg (by omega)] at e1
      rw [show M 4 227 = 21 by omega] at l3
      rw [← l3]
      exact e1.symm
    have k_xSD : xSD W := by
      rw [hW]
      exact (uxSD rfl hI.2.2.2.2.2.2.2.2.2.2.2.2.2.2.2.2.2.2.2.2.2.2.2.2.2.2.2.2.2.2.2.2.2.2.2.1)
    have k_xSE : xSE W := by
      rw [hW]
      exact (uxSE rfl hI.2.2.2.2.2.2.2.2.2.2.2.2.2.2.2.2.2.2.2.2.2.2.2.2.2.2.2.2.2.2.2.2.2.2.2.2.1)
    have k_xSW : xSW W := by
      rw [hW]
      exact (uxSW rfl hI.2.2.2.2.2.2.2.2.2.2.2.2.2.2.2.2.2.2.2.2.2.2.2.2.2.2.2.2.2.2.2.2.2.2.2.2.2.1)
    have k_xST : xST W := by
      rw [hW]
      exact (uxST rfl hI.2.2.2.2.2.2.2.2.2.2.2.2.2.2.2.2.2.2.2.2.2.2.2.2.2.2.2.2.2.2.2.2.2.2.2.2.2.2.1)
    have k_xSP : xSP W := by
      rw [hW]
      exact (uxSP rfl hI.2.2.2.2.2.2.2.2.2.2.2.2.2.2.2.2.2.2.2.2.2.2.2.2.2.2.2.2.2.2.2.2.2.2.2.2.2.2.2.1)
    have k_xSL : xSL W := by
      rw [hW]
      exact (uxSL rfl hI.2.2.2.2.2.2.2.2.2.2.2.2.2.2.2.2.2.2.2.2.2.2.2.2.2.2.2.2.2.2.2.2.2.2.2.2.2.2.2.2.1)
    have k_xSM : xSM W := by
      rw [hW]
      exact (uxSM rfl hI.2.2.2.2.2.2.2.2.2.2.2.2.2.2.2.2.2.2.2.2.2.2.2.2.2.2.2.2.2.2.2.2.2.2.2.2.2.2.2.2.2.1)
    have k_xSI : xSI W := by
      rw [hW]
      exact (uxSI rfl hI.2.2.2.2.2.2.2.2.2.2.2.2.2.2.2.2.2.2.2.2.2.2.2.2.2.2.2.2.2.2.2.2.2.2.2.2.2.2.2.2.2.2)
    have k_XC : XC W := ⟨k_xS1, k_xS2, k_xS3, k_xS4, k_xS5, k_xS6, k_xS7, k_xS8, k_xS9, k_xSA, k_xSG, k_xSF, k_xSB, k_xSC, k_xSD, k_xSE, k_xSW, k_xST, k_xSP, k_xSL, k_xSM, k_xSI⟩
    have kXB : XB W := ⟨k_xN1, k_xN2, k_xN3, k_xN4, k_xN5, k_xN6, k_xH1, k_xK1, k_xC1, k_xRW, k_xWT, k_xCU, k_xG2, k_xG3, k_xG4, k_xG5, k_xG6, k_XC⟩
    exact ⟨base, k2, k3, kXA, kXB⟩
-- wHitR22_c
def xr_530 : qRu := (13, [[(-1, 0), (1, 5)], [(1, 1)], [(-1, 1), (1, 9)], [(1, 1), (-1, 9)], [(-1, 0), (-1, 1), (1, 10)], [(6, 0), (1, 9), (-1, 10)], [(-257544192, 0), (1, 11)], [(257544192, 0), (-1, 11)]], [(4, 210, [(1, 0)]), (4, 211, [(1, 1)]), (4, 101, [(1, 2)]), (3, 46, [(1, 3)]), (3, 47, [(1, 4)]), (4, 100, [(1, 5)]), (3, 44, [(1, 6)]), (3, 45, [(1, 7)]), (4, 107, [(1, 8)]), (4, 214, [(1, 0)]), (4, 215, [(1, 9)]), (4, 217, [(1, 10)]), (4, 219, [(1, 11)]), (4, 216, [(1, 12)])], [], [], [[(-1, 1), (1, 3)], [(1, 1), (-1, 3)], [(1, 4), (-1, 10)], [(-1, 4), (1, 10)], [(-40, 0), (1, 6)], [(40, 0), (-1, 6)], [(1, 7), (-1, 11)], [(-1, 7), (1, 11)]])
theorem xo_530 : qRok xr_530 := by
  intro ρ M h0 hf hm hI
  have f0 := hf [(-1, 0), (1, 5)] (by decide)
  have f1 := hf [(1, 1)] (by decide)
  have f2 := hf [(-1, 1), (1, 9)] (by decide)
  have f3 := hf [(1, 1), (-1, 9)] (by decide)
  have f4 := hf [(-1, 0), (-1, 1), (1, 10)] (by decide)
  have f5 := hf [(6, 0), (1, 9), (-1, 10)] (by decide)
  have f6 := hf [(-257544192, 0), (1, 11)] (by decide)
  have f7 := hf [(257544192, 0), (-1, 11)] (by decide)
  simp only [qD, h0] at f0 f1 f2 f3 f4 f5 f6 f7
  have m0 : M 4 210 = 1 * ρ 0 + 0 := hm (4, 210, [(1, 0)]) (by decide)
  have m1 : M 4 211 = 1 * ρ 1 + 0 := hm (4, 211, [(1, 1)]) (by decide)
  have m2 : M 4 101 = 1 * ρ 2 + 0 := hm (4, 101, [(1, 2)]) (by decide)
  have m3 : M 3 46 = 1 * ρ 3 + 0 := hm (3, 46, [(1, 3)]) (by decide)
  have m4 : M 3 47 = 1 * ρ 4 + 0 := hm (3, 47, [(1, 4)]) (by decide)
  have m5 : M 4 100 = 1 * ρ 5 + 0 := hm (4, 100, [(1, 5)]) (by decide)
  have m6 : M 3 44 = 1 * ρ 6 + 0 := hm (3, 44, [(1, 6)]) (by decide)
  have m7 : M 3 45 = 1 * ρ 7 + 0 := hm (3, 45, [(1, 7)]) (by decide)
  have m8 : M 4 107 = 1 * ρ 8 + 0 := hm (4, 107, [(1, 8)]) (by decide)
  have m9 : M 4 214 = 1 * ρ 0 + 0 := hm (4, 214, [(1, 0)]) (by decide)
  have m10 : M 4 215 = 1 * ρ 9 + 0 := hm (4, 215, [(1, 9)]) (by decide)
  have m11 : M 4 217 = 1 * ρ 10 + 0 := hm (4, 217, [(1, 10)]) (by decide)
  have m12 : M 4 219 = 1 * ρ 11 + 0 := hm (4, 219, [(1, 11)]) (by decide)
  have m13 : M 4 216 = 1 * ρ 12 + 0 := hm (4, 216, [(1, 12)]) (by decide)
  simp only [h0] at m0 m9
  obtain ⟨u1, u2, _⟩ := gx_xS8 hI (by omega)

  obtain ⟨a1, a2, a3, a4, a5, a6, a7⟩ := gx_xSA hI (by omega)
  have eq1 : (M 4 215).toNat = (M 4 211).toNat := by omega
  rw [eq1] at a6 a7
  have hgt := ten_gt (g := M 92) (lo := 97) (hi := 122) (n := (M 4 101).toNat) (q := (M 4 211).toNat) (by omega)
  have el1 : (M 4 217 - M 4 215).toNat = tEn (M 92) 97 122 (M 4 101).toNat (M 4 211).toNat - (M 4 211).toNat := by omega
  rw [el1] at a7

  obtain ⟨t1, t2, t3, t4, t5, t6⟩ := tk_of hI (by omega) (by omega) (by omega) (show tAt (M 92) (M 4 101).toNat (M 4 211).toNat (M 4 107) (M 4 108) = (40, M 4 219, ((M 4 211).toNat : Int), M 4 217, 0, 22) from by
    unfold tAt
    rw [if_neg (by omega), if_pos hgt.2]
    unfold tWo
    rw [← a7, ← a6]
    have hk : tKi (M 4 219) 0 = 40 := by
      rw [show M 4 219 = 257544192 by omega]
      decide
    have h6 : ¬ (6 < tEn (M 92) 97 122 (M 4 101).toNat (M 4 211).toNat - (M 4 211).toNat) := by omega
    unfold tWk tWs tWv
    rw [if_neg h6, if_neg h6, if_neg h6, hk]
    rfl)
  refine ⟨ρ, fun _ _ => rfl, fun f h => ?_, ?_⟩
  · have h : f ∈ ([[(-1, 1), (1, 3)], [(1, 1), (-1, 3)], [(1, 4), (-1, 10)], [(-1, 4), (1, 10)], [(-40, 0), (1, 6)], [(40, 0), (-1, 6)], [(1, 7), (-1, 11)], [(-1, 7), (1, 11)]] : List qF) := h
    simp only [List.mem_cons, List.not_mem_nil, or_false] at h
    rcases h with rfl | rfl | rfl | rfl | rfl | rfl | rfl | rfl
    · show 0 ≤ -1 * ρ 1 + (1 * ρ 3 + 0)
      (try rw [h0]); omega
    · show 0 ≤ 1 * ρ 1 + (-1 * ρ 3 + 0)
      (try rw [h0]); omega
    · show 0 ≤ 1 * ρ 4 + (-1 * ρ 10 + 0)
      (try rw [h0]); omega
    · show 0 ≤ -1 * ρ 4 + (1 * ρ 10 + 0)
      (try rw [h0]); omega
    · show 0 ≤ -40 * ρ 0 + (1 * ρ 6 + 0)
      (try rw [h0]); omega
    · show 0 ≤ 40 * ρ 0 + (-1 * ρ 6 + 0)
      (try rw [h0]); omega
    · show 0 ≤ 1 * ρ 7 + (-1 * ρ 11 + 0)
      (try rw [h0]); omega
    · show 0 ≤ -1 * ρ 7 + (1 * ρ 11 + 0)
      (try rw [h0]); omega
  · show sI M
    exact hI
-- wHitR22_r
def xr_531 : qRu := (13, [[(-1, 0), (1, 5)], [(1, 1)], [(-1, 1), (1, 9)], [(1, 1), (-1, 9)], [(-1, 0), (-1, 1), (1, 10)], [(6, 0), (1, 9), (-1, 10)], [(-257544192, 0), (1, 11)], [(257544192, 0), (-1, 11)]], [(4, 210, [(1, 0)]), (4, 211, [(1, 1)]), (4, 101, [(1, 2)]), (3, 46, [(1, 3)]), (3, 47, [(1, 4)]), (4, 100, [(1, 5)]), (3, 50, [(1, 6)]), (3, 51, [(1, 7)]), (4, 108, [(1, 8)]), (4, 214, [(1, 0)]), (4, 215, [(1, 9)]), (4, 217, [(1, 10)]), (4, 219, [(1, 11)]), (4, 216, [(1, 12)])], [], [], [[(-1, 1), (1, 3)], [(1, 1), (-1, 3)], [(1, 4), (-1, 10)], [(-1, 4), (1, 10)], [(1, 6)], [(-1, 6)], [(-22, 0), (1, 7)], [(22, 0), (-1, 7)]])
theorem xo_531 : qRok xr_531 := by
  intro ρ M h0 hf hm hI
  have f0 := hf [(-1, 0), (1, 5)] (by decide)
  have f1 := hf [(1, 1)] (by decide)
  have f2 := hf [(-1, 1), (1, 9)] (by decide)
  have f3 := hf [(1, 1), (-1, 9)] (by decide)
  have f4 := hf [(-1, 0), (-1, 1), (1, 10)] (by decide)
  have f5 := hf [(6, 0), (1, 9), (-1, 10)] (by decide)
  have f6 := hf [(-257544192, 0), (1, 11)] (by decide)
  have f7 := hf [(257544192, 0), (-1, 11)] (by decide)
  simp only [qD, h0] at f0 f1 f2 f3 f4 f5 f6 f7
  have m0 : M 4 210 = 1 * ρ 0 + 0 := hm (4, 210, [(1, 0)]) (by decide)
  have m1 : M 4 211 = 1 * ρ 1 + 0 := hm (4, 211, [(1, 1)]) (by decide)
  have m2 : M 4 101 = 1 * ρ 2 + 0 := hm (4, 101, [(1, 2)]) (by decide)
  have m3 : M 3 46 = 1 * ρ 3 + 0 := hm (3, 46, [(1, 3)]) (by decide)
  have m4 : M 3 47 = 1 * ρ 4 + 0 := hm (3, 47, [(1, 4)]) (by decide)
  have m5 : M 4 100 = 1 * ρ 5 + 0 := hm (4, 100, [(1, 5)]) (by decide)
  have m6 : M 3 50 = 1 * ρ 6 + 0 := hm (3, 50, [(1, 6)]) (by decide)
  have m7 : M 3 51 = 1 * ρ 7 + 0 := hm (3, 51, [(1, 7)]) (by decide)
  have m8 : M 4 108 = 1 * ρ 8 + 0 := hm (4, 108, [(1, 8)]) (by decide)
  have m9 : M 4 214 = 1 * ρ 0 + 0 := hm (4, 214, [(1, 0)]) (by decide)
  have m10 : M 4 215 = 1 * ρ 9 + 0 := hm (4, 215, [(1, 9)]) (by decide)
  have m11 : M 4 217 = 1 * ρ 10 + 0 := hm (4, 217, [(1, 10)]) (by decide)
  have m12 : M 4 219 = 1 * ρ 11 + 0 := hm (4, 219, [(1, 11)]) (by decide)
  have m13 : M 4 216 = 1 * ρ 12 + 0 := hm (4, 216, [(1, 12)]) (by decide)
  simp only [h0] at m0 m9
  obtain ⟨u1, u2, _⟩ := gx_xS8 hI (by omega)

  obtain ⟨a1, a2, a3, a4, a5, a6, a7⟩ := gx_xSA hI (by omega)
  have eq1 : (M 4 215).toNat = (M 4 211).toNat := by omega
  rw [eq1] at a6 a7
  have hgt := ten_gt (g := M 92) (lo := 97) (hi := 122) (n := (M 4 101).toNat) (q := (M 4 211).toNat) (by omega)
  have el1 : (M 4 217 - M 4 215).toNat = tEn (M 92) 97 122 (M 4 101).toNat (M 4 211).toNat - (M 4 211).toNat := by omega
  rw [el1] at a7

  obtain ⟨t1, t2, t3, t4, t5, t6⟩ := tk_of hI (by omega) (by omega) (by omega) (show tAt (M 92) (M 4 101).toNat (M 4 211).toNat (M 4 107) (M 4 108) = (40, M 4 219, ((M 4 211).toNat : Int), M 4 217, 0, 22) from by
    unfold tAt
    rw [if_neg (by omega), if_pos hgt.2]
    unfold tWo
    rw [← a7, ← a6]
    have hk : tKi (M 4 219) 0 = 40 := by
      rw [show M 4 219 = 257544192 by omega]
      decide
    have h6 : ¬ (6 < tEn (M 92) 97 122 (M 4 101).toNat (M 4 211).toNat - (M 4 211).toNat) := by omega
    unfold tWk tWs tWv
    rw [if_neg h6, if_neg h6, if_neg h6, hk]
    rfl)
  refine ⟨ρ, fun _ _ => rfl, fun f h => ?_, ?_⟩
  · have h : f ∈ ([[(-1, 1), (1, 3)], [(1, 1), (-1, 3)], [(1, 4), (-1, 10)], [(-1, 4), (1, 10)], [(1, 6)], [(-1, 6)], [(-22, 0), (1, 7)], [(22, 0), (-1, 7)]] : List qF) := h
    simp only [List.mem_cons, List.not_mem_nil, or_false] at h
    rcases h with rfl | rfl | rfl | rfl | rfl | rfl | rfl | rfl
    · show 0 ≤ -1 * ρ 1 + (1 * ρ 3 + 0)
      (try rw [h0]); omega
    · show 0 ≤ 1 * ρ 1 + (-1 * ρ 3 + 0)
      (try rw [h0]); omega
    · show 0 ≤ 1 * ρ 4 + (-1 * ρ 10 + 0)
      (try rw [h0]); omega
    · show 0 ≤ -1 * ρ 4 + (1 * ρ 10 + 0)
      (try rw [h0]); omega
    · show 0 ≤ 1 * ρ 6 + 0
      (try rw [h0]); omega
    · show 0 ≤ -1 * ρ 6 + 0
      (try rw [h0]); omega
    · show 0 ≤ -22 * ρ 0 + (1 * ρ 7 + 0)
      (try rw [h0]); omega
    · show 0 ≤ 22 * ρ 0 + (-1 * ρ 7 + 0)
      (try rw [h0]); omega
  · show sI M
    exact hI
-- langMissR22L
def xr_532 : qRu := (3, [[(257544191, 0), (-1, 2)]], [(4, 226, [(1, 0)]), (4, 227, [(22, 0)]), (4, 219, [(1, 2)])], [], [(4, 227, [(23, 0)])], [])
theorem xo_532 : qRok xr_532 := by
  intro ρ M h0 hf hm hI
  have f0 := hf [(257544191, 0), (-1, 2)] (by decide)
  simp only [qD, h0] at f0
  have m0 : M 4 226 = 1 * ρ 0 + 0 := hm (4, 226, [(1, 0)]) (by decide)
  have m1 : M 4 227 = 22 * ρ 0 + 0 := hm (4, 227, [(22, 0)]) (by decide)
  have m2 : M 4 219 = 1 * ρ 2 + 0 := hm (4, 219, [(1, 2)]) (by decide)
  simp only [h0] at m0 m1
  have qxSC := hI.2.2.2.2.2.2.2.2.2.2.2.2.2.2.2.2.2.2.2.2.2.2.2.2.2.2.2.2.2.2.2.2.2.2.1
  obtain ⟨l1, l2, l3⟩ := gx_xSC hI (by omega)
  refine ⟨ρ, fun _ _ => rfl, fun f h => ?_, ?_⟩
  · exact nomatch h
  · show sI (sU M 4 227 (23 * ρ 0 + 0))
    obtain ⟨W, hW⟩ : ∃ W, W = (sU M 4 227 (23 * ρ 0 + 0)) := ⟨_, rfl⟩
    rw [← hW]
    have base : sI0 W := by
      rw [hW]
      exact (si_u0 hI.1 (fun r hr => by cases hr))
    have k2 : XI2 W := by
      rw [hW]
      exact (xi2_u rfl hI.2.1)
    have k3 : XI3 W := by
      rw [hW]
      exact (xi3_u rfl hI.2.2.1)
    have kXA : XA W := by
      rw [hW]
      exact (uXA rfl hI.2.2.2.1)
    have k_xN1 : xN1 W := by
      rw [hW]
      exact (uxN1 rfl hI.2.2.2.2.1)
    have k_xN2 : xN2 W := by
      rw [hW]
      exact (uxN2 rfl hI.2.2.2.2.2.1)
    have k_xN3 : xN3 W := by
      rw [hW]
      exact (uxN3 rfl hI.2.2.2.2.2.2.1)
    have k_xN4 : xN4 W := by
      rw [hW]
      exact (uxN4 rfl hI.2.2.2.2.2.2.2.1)
    have k_xN5 : xN5 W := by
      rw [hW]
      exact (uxN5 rfl hI.2.2.2.2.2.2.2.2.1)
    have k_xN6 : xN6 W := by
      rw [hW]
      exact (uxN6 rfl hI.2.2.2.2.2.2.2.2.2.1)
    have k_xH1 : xH1 W := by
      rw [hW]
      exact (uxH1 rfl hI.2.2.2.2.2.2.2.2.2.2.1)
    have k_xK1 : xK1 W := by
      rw [hW]
      exact (uxK1 rfl hI.2.2.2.2.2.2.2.2.2.2.2.1)
    have k_xC1 : xC1 W := by
      rw [hW]
      exact (uxC1 rfl hI.2.2.2.2.2.2.2.2.2.2.2.2.1)
    have k_xRW : xRW W := by
      rw [hW]
      exact (uxRW rfl hI.2.2.2.2.2.2.2.2.2.2.2.2.2.1)
    have k_xWT : xWT W := by
      rw [hW]
      exact (uxWT rfl hI.2.2.2.2.2.2.2.2.2.2.2.2.2.2.1)
    have k_xCU : xCU W := by
      rw [hW]
      exact (uxCU rfl hI.2.2.2.2.2.2.2.2.2.2.2.2.2.2.2.1)
    have k_xG2 : xG2 W := by
      rw [hW]
      exact (uxG2 rfl hI.2.2.2.2.2.2.2.2.2.2.2.2.2.2.2.2.1)
    have k_xG3 : xG3 W := by
      rw [hW]
      exact (uxG3 rfl hI.2.2.2.2.2.2.2.2.2.2.2.2.2.2.2.2.2.1)
    have k_xG4 : xG4 W := by
      rw [hW]
      exact (uxG4 rfl hI.2.2.2.2.2.2.2.2.2.2.2.2.2.2.2.2.2.2.1)
    have k_xG5 : xG5 W := by
      rw [hW]
      exact (uxG5 rfl hI.2.2.2.2.2.2.2.2.2.2.2.2.2.2.2.2.2.2.2.1)
    have k_xG6 : xG6 W := by
      rw [hW]
      exact (uxG6 rfl hI.2.2.2.2.2.2.2.2.2.2.2.2.2.2.2.2.2.2.2.2.1)
    have k_xS1 : xS1 W := by
      rw [hW]
      exact (uxS1 rfl hI.2.2.2.2.2.2.2.2.2.2.2.2.2.2.2.2.2.2.2.2.2.1)
    have k_xS2 : xS2 W := by
      rw [hW]
      exact (uxS2 rfl hI.2.2.2.2.2.2.2.2.2.2.2.2.2.2.2.2.2.2.2.2.2.2.1)
    have k_xS3 : xS3 W := by
      rw [hW]
      exact (uxS3 rfl hI.2.2.2.2.2.2.2.2.2.2.2.2.2.2.2.2.2.2.2.2.2.2.2.1)
    have k_xS4 : xS4 W := by
      rw [hW]
      exact (uxS4 rfl hI.2.2.2.2.2.2.2.2.2.2.2.2.2.2.2.2.2.2.2.2.2.2.2.2.1)
    have k_xS5 : xS5 W := by
      rw [hW]
      exact (uxS5 rfl hI.2.2.2.2.2.2.2.2.2.2.2.2.2.2.2.2.2.2.2.2.2.2.2.2.2.1)
    have k_xS6 : xS6 W := by
      rw [hW]
      exact (uxS6 rfl hI.2.2.2.2.2.2.2.2.2.2.2.2.2.2.2.2.2.2.2.2.2.2.2.2.2.2.1)
    have k_xS7 : xS7 W := by
      rw [hW]
      exact (uxS7 rfl hI.2.2.2.2.2.2.2.2.2.2.2.2.2.2.2.2.2.2.2.2.2.2.2.2.2.2.2.1)
    have k_xS8 : xS8 W := by
      rw [hW]
      exact (uxS8 rfl hI.2.2.2.2.2.2.2.2.2.2.2.2.2.2.2.2.2.2.2.2.2.2.2.2.2.2.2.2.1)
    have k_xS9 : xS9 W := by
      rw [hW]
      exact (uxS9 rfl hI.2.2.2.2.2.2.2.2.2.2.2.2.2.2.2.2.2.2.2.2.2.2.2.2.2.2.2.2.2.1)
    have k_xSA : xSA W := by
      rw [hW]
      exact (uxSA rfl hI.2.2.2.2.2.2.2.2.2.2.2.2.2.2.2.2.2.2.2.2.2.2.2.2.2.2.2.2.2.2.1)
    have k_xSG : xSG W := by
      rw [hW]
      exact (uxSG rfl hI.2.2.2.2.2.2.2.2.2.2.2.2.2.2.2.2.2.2.2.2.2.2.2.2.2.2.2.2.2.2.2.1)
    have k_xSF : xSF W := by
      rw [hW]
      exact (uxSF rfl hI.2.2.2.2.2.2.2.2.2.2.2.2.2.2.2.2.2.2.2.2.2.2.2.2.2.2.2.2.2.2.2.2.1)
    have k_xSB : xSB W := by
      rw [hW]
      exact (uxSB rfl hI.2.2.2.2.2.2.2.2.2.2.2.2.2.2.2.2.2.2.2.2.2.2.2.2.2.2.2.2.2.2.2.2.2.1)
    have k_xSC : xSC W := by
      have r4_226 : W 4 226 = M 4 226 := by rw [hW, sU_ne (fun z => by omega)]
      have r4_227 : W 4 227 = 23 * ρ 0 + 0 := by rw [hW, sU_at]
      have r4_219 : W 4 219 = M 4 219 := by rw [hW, sU_ne (fun z => by omega)]
      intro h
      rw [r4_227, r4_219, h0]
      refine ⟨by omega, by omega, ?_⟩
      have e1 := tki_on (x := M 4 219) (w := 22) (show tLa[22]? = some (257544192 : Int) from rfl)
      rw [if_neg (by omega)] at e1
      rw [show M 4 227 = 22 by omega] at l3
      rw [← l3]
      exact e1.symm
    have k_xSD : xSD W := by
      rw [hW]
      exact (uxSD rfl hI.2.2.2.2.2.2.2.2.2.2.2.2.2.2.2.2.2.2.2.2.2.2.2.2.2.2.2.2.2.2.2.2.2.2.2.1)
    have k_xSE : xSE W := by
      rw [hW]
      exact (uxSE rfl hI.2.2.2.2.2.2.2.2.2.2.2.2.2.2.2.2.2.2.2.2.2.2.2.2.2.2.2.2.2.2.2.2.2.2.2.2.1)
    have k_xSW : xSW W := by
      rw [hW]
      exact (uxSW rfl hI.2.2.2.2.2.2.2.2.2.2.2.2.2.2.2.2.2.2.2.2.2.2.2.2.2.2.2.2.2.2.2.2.2.2.2.2.2.1)
    have k_xST : xST W := by
      rw [hW]
      exact (uxST rfl hI.2.2.2.2.2.2.2.2.2.2.2.2.2.2.2.2.2.2.2.2.2.2.2.2.2.2.2.2.2.2.2.2.2.2.2.2.2.2.1)
    have k_xSP : xSP W := by
      rw [hW]
      exact (uxSP rfl hI.2.2.2.2.2.2.2.2.2.2.2.2.2.2.2.2.2.2.2.2.2.2.2.2.2.2.2.2.2.2.2.2.2.2.2.2.2.2.2.1)
    have k_xSL : xSL W := by
      rw [hW]
      exact (uxSL rfl hI.2.2.2.2.2.2.2.2.2.2.2.2.2.2.2.2.2.2.2.2.2.2.2.2.2.2.2.2.2.2.2.2.2.2.2.2.2.2.2.2.1)
    have k_xSM : xSM W := by
      rw [hW]
      exact (uxSM rfl hI.2.2.2.2.2.2.2.2.2.2.2.2.2.2.2.2.2.2.2.2.2.2.2.2.2.2.2.2.2.2.2.2.2.2.2.2.2.2.2.2.2.1)
    have k_xSI : xSI W := by
      rw [hW]
      exact (uxSI rfl hI.2.2.2.2.2.2.2.2.2.2.2.2.2.2.2.2.2.2.2.2.2.2.2.2.2.2.2.2.2.2.2.2.2.2.2.2.2.2.2.2.2.2)
    have k_XC : XC W := ⟨k_xS1, k_xS2, k_xS3, k_xS4, k_xS5, k_xS6, k_xS7, k_xS8, k_xS9, k_xSA, k_xSG, k_xSF, k_xSB, k_xSC, k_xSD, k_xSE, k_xSW, k_xST, k_xSP, k_xSL, k_xSM, k_xSI⟩
    have kXB : XB W := ⟨k_xN1, k_xN2, k_xN3, k_xN4, k_xN5, k_xN6, k_xH1, k_xK1, k_xC1, k_xRW, k_xWT, k_xCU, k_xG2, k_xG3, k_xG4, k_xG5, k_xG6, k_XC⟩
    exact ⟨base, k2, k3, kXA, kXB⟩
-- langMissR22H
def xr_533 : qRu := (3, [[(-257544193, 0), (1, 2)]], [(4, 226, [(1, 0)]), (4, 227, [(22, 0)]), (4, 219, [(1, 2)])], [], [(4, 227, [(23, 0)])], [])
theorem xo_533 : qRok xr_533 := by
  intro ρ M h0 hf hm hI
  have f0 := hf [(-257544193, 0), (1, 2)] (by decide)
  simp only [qD, h0] at f0
  have m0 : M 4 226 = 1 * ρ 0 + 0 := hm (4, 226, [(1, 0)]) (by decide)
  have m1 : M 4 227 = 22 * ρ 0 + 0 := hm (4, 227, [(22, 0)]) (by decide)
  have m2 : M 4 219 = 1 * ρ 2 + 0 := hm (4, 219, [(1, 2)]) (by decide)
  simp only [h0] at m0 m1
  have qxSC := hI.2.2.2.2.2.2.2.2.2.2.2.2.2.2.2.2.2.2.2.2.2.2.2.2.2.2.2.2.2.2.2.2.2.2.1
  obtain ⟨l1, l2, l3⟩ := gx_xSC hI (by omega)
  refine ⟨ρ, fun _ _ => rfl, fun f h => ?_, ?_⟩
  · exact nomatch h
  · show sI (sU M 4 227 (23 * ρ 0 + 0))
    obtain ⟨W, hW⟩ : ∃ W, W = (sU M 4 227 (23 * ρ 0 + 0)) := ⟨_, rfl⟩
    rw [← hW]
    have base : sI0 W := by
      rw [hW]
      exact (si_u0 hI.1 (fun r hr => by cases hr))
    have k2 : XI2 W := by
      rw [hW]
      exact (xi2_u rfl hI.2.1)
    have k3 : XI3 W := by
      rw [hW]
      exact (xi3_u rfl hI.2.2.1)
    have kXA : XA W := by
      rw [hW]
      exact (uXA rfl hI.2.2.2.1)
    have k_xN1 : xN1 W := by
      rw [hW]
      exact (uxN1 rfl hI.2.2.2.2.1)
    have k_xN2 : xN2 W := by
      rw [hW]
      exact (uxN2 rfl hI.2.2.2.2.2.1)
    have k_xN3 : xN3 W := by
      rw [hW]
      exact (uxN3 rfl hI.2.2.2.2.2.2.1)
    have k_xN4 : xN4 W := by
      rw [hW]
      exact (uxN4 rfl hI.2.2.2.2.2.2.2.1)
    have k_xN5 : xN5 W := by
      rw [hW]
      exact (uxN5 rfl hI.2.2.2.2.2.2.2.2.1)
    have k_xN6 : xN6 W := by
      rw [hW]
      exact (uxN6 rfl hI.2.2.2.2.2.2.2.2.2.1)
    have k_xH1 : xH1 W := by
      rw [hW]
      exact (uxH1 rfl hI.2.2.2.2.2.2.2.2.2.2.1)
    have k_xK1 : xK1 W := by
      rw [hW]
      exact (uxK1 rfl hI.2.2.2.2.2.2.2.2.2.2.2.1)
    have k_xC1 : xC1 W := by
      rw [hW]
      exact (uxC1 rfl hI.2.2.2.2.2.2.2.2.2.2.2.2.1)
    have k_xRW : xRW W := by
      rw [hW]
      exact (uxRW rfl hI.2.2.2.2.2.2.2.2.2.2.2.2.2.1)
    have k_xWT : xWT W := by
      rw [hW]
      exact (uxWT rfl hI.2.2.2.2.2.2.2.2.2.2.2.2.2.2.1)
    have k_xCU : xCU W := by
      rw [hW]
      exact (uxCU rfl hI.2.2.2.2.2.2.2.2.2.2.2.2.2.2.2.1)
    have k_xG2 : xG2 W := by
      rw [hW]
      exact (uxG2 rfl hI.2.2.2.2.2.2.2.2.2.2.2.2.2.2.2.2.1)
    have k_xG3 : xG3 W := by
      rw [hW]
      exact (uxG3 rfl hI.2.2.2.2.2.2.2.2.2.2.2.2.2.2.2.2.2.1)
    have k_xG4 : xG4 W := by
      rw [hW]
      exact (uxG4 rfl hI.2.2.2.2.2.2.2.2.2.2.2.2.2.2.2.2.2.2.1)
    have k_xG5 : xG5 W := by
      rw [hW]
      exact (uxG5 rfl hI.2.2.2.2.2.2.2.2.2.2.2.2.2.2.2.2.2.2.2.1)
    have k_xG6 : xG6 W := by
      rw [hW]
      exact (uxG6 rfl hI.2.2.2.2.2.2.2.2.2.2.2.2.2.2.2.2.2.2.2.2.1)
    have k_xS1 : xS1 W := by
      rw [hW]
      exact (uxS1 rfl hI.2.2.2.2.2.2.2.2.2.2.2.2.2.2.2.2.2.2.2.2.2.1)
    have k_xS2 : xS2 W := by
      rw [hW]
      exact (uxS2 rfl hI.2.2.2.2.2.2.2.2.2.2.2.2.2.2.2.2.2.2.2.2.2.2.1)
    have k_xS3 : xS3 W := by
      rw [hW]
      exact (uxS3 rfl hI.2.2.2.2.2.2.2.2.2.2.2.2.2.2.2.2.2.2.2.2.2.2.2.1)
    have k_xS4 : xS4 W := by
      rw [hW]
      exact (uxS4 rfl hI.2.2.2.2.2.2.2.2.2.2.2.2.2.2.2.2.2.2.2.2.2.2.2.2.1)
    have k_xS5 : xS5 W := by
      rw [hW]
      exact (uxS5 rfl hI.2.2.2.2.2.2.2.2.2.2.2.2.2.2.2.2.2.2.2.2.2.2.2.2.2.1)
    have k_xS6 : xS6 W := by
      rw [hW]
      exact (uxS6 rfl hI.2.2.2.2.2.2.2.2.2.2.2.2.2.2.2.2.2.2.2.2.2.2.2.2.2.2.1)
    have k_xS7 : xS7 W := by
      rw [hW]
      exact (uxS7 rfl hI.2.2.2.2.2.2.2.2.2.2.2.2.2.2.2.2.2.2.2.2.2.2.2.2.2.2.2.1)
    have k_xS8 : xS8 W := by
      rw [hW]
      exact (uxS8 rfl hI.2.2.2.2.2.2.2.2.2.2.2.2.2.2.2.2.2.2.2.2.2.2.2.2.2.2.2.2.1)
    have k_xS9 : xS9 W := by
      rw [hW]
      exact (uxS9 rfl hI.2.2.2.2.2.2.2.2.2.2.2.2.2.2.2.2.2.2.2.2.2.2.2.2.2.2.2.2.2.1)
    have k_xSA : xSA W := by
      rw [hW]
      exact (uxSA rfl hI.2.2.2.2.2.2.2.2.2.2.2.2.2.2.2.2.2.2.2.2.2.2.2.2.2.2.2.2.2.2.1)
    have k_xSG : xSG W := by
      rw [hW]
      exact (uxSG rfl hI.2.2.2.2.2.2.2.2.2.2.2.2.2.2.2.2.2.2.2.2.2.2.2.2.2.2.2.2.2.2.2.1)
    have k_xSF : xSF W := by
      rw [hW]
      exact (uxSF rfl hI.2.2.2.2.2.2.2.2.2.2.2.2.2.2.2.2.2.2.2.2.2.2.2.2.2.2.2.2.2.2.2.2.1)
    have k_xSB : xSB W := by
      rw [hW]
      exact (uxSB rfl hI.2.2.2.2.2.2.2.2.2.2.2.2.2.2.2.2.2.2.2.2.2.2.2.2.2.2.2.2.2.2.2.2.2.1)
    have k_xSC : xSC W := by
      have r4_226 : W 4 226 = M 4 226 := by rw [hW, sU_ne (fun z => by omega)]
      have r4_227 : W 4 227 = 23 * ρ 0 + 0 := by rw [hW, sU_at]
      have r4_219 : W 4 219 = M 4 219 := by rw [hW, sU_ne (fun z => by omega)]
      intro h
      rw [r4_227, r4_219, h0]
      refine ⟨by omega, by omega, ?_⟩
      have e1 := tki_on (x := M 4 219) (w := 22) (show tLa[22]? = some (257544192 : Int) from rfl)
      rw [if_neg (by omega)] at e1
      rw [show M 4 227 = 22 by omega] at l3
      rw [← l3]
      exact e1.symm
    have k_xSD : xSD W := by
      rw [hW]
      exact (uxSD rfl hI.2.2.2.2.2.2.2.2.2.2.2.2.2.2.2.2.2.2.2.2.2.2.2.2.2.2.2.2.2.2.2.2.2.2.2.1)
    have k_xSE : xSE W := by
      rw [hW]
      exact (uxSE rfl hI.2.2.2.2.2.2.2.2.2.2.2.2.2.2.2.2.2.2.2.2.2.2.2.2.2.2.2.2.2.2.2.2.2.2.2.2.1)
    have k_xSW : xSW W := by
      rw [hW]
      exact (uxSW rfl hI.2.2.2.2.2.2.2.2.2.2.2.2.2.2.2.2.2.2.2.2.2.2.2.2.2.2.2.2.2.2.2.2.2.2.2.2.2.1)
    have k_xST : xST W := by
      rw [hW]
      exact (uxST rfl hI.2.2.2.2.2.2.2.2.2.2.2.2.2.2.2.2.2.2.2.2.2.2.2.2.2.2.2.2.2.2.2.2.2.2.2.2.2.2.1)
    have k_xSP : xSP W := by
      rw [hW]
      exact (uxSP rfl hI.2.2.2.2.2.2.2.2.2.2.2.2.2.2.2.2.2.2.2.2.2.2.2.2.2.2.2.2.2.2.2.2.2.2.2.2.2.2.2.1)
    have k_xSL : xSL W := by
      rw [hW]
      exact (uxSL rfl hI.2.2.2.2.2.2.2.2.2.2.2.2.2.2.2.2.2.2.2.2.2.2.2.2.2.2.2.2.2.2.2.2.2.2.2.2.2.2.2.2.1)
    have k_xSM : xSM W := by
      rw [hW]
      exact (uxSM rfl hI.2.2.2.2.2.2.2.2.2.2.2.2.2.2.2.2.2.2.2.2.2.2.2.2.2.2.2.2.2.2.2.2.2.2.2.2.2.2.2.2.2.1)
    have k_xSI : xSI W := by
      rw [hW]
      exact (uxSI rfl hI.2.2.2.2.2.2.2.2.2.2.2.2.2.2.2.2.2.2.2.2.2.2.2.2.2.2.2.2.2.2.2.2.2.2.2.2.2.2.2.2.2.2)
    have k_XC : XC W := ⟨k_xS1, k_xS2, k_xS3, k_xS4, k_xS5, k_xS6, k_xS7, k_xS8, k_xS9, k_xSA, k_xSG, k_xSF, k_xSB, k_xSC, k_xSD, k_xSE, k_xSW, k_xST, k_xSP, k_xSL, k_xSM, k_xSI⟩
    have kXB : XB W := ⟨k_xN1, k_xN2, k_xN3, k_xN4, k_xN5, k_xN6, k_xH1, k_xK1, k_xC1, k_xRW, k_xWT, k_xCU, k_xG2, k_xG3, k_xG4, k_xG5, k_xG6, k_XC⟩
    exact ⟨base, k2, k3, kXA, kXB⟩
-- wHitR23_c
def xr_534 : qRu := (13, [[(-1, 0), (1, 5)], [(1, 1)], [(-1, 1), (1, 9)], [(1, 1), (-1, 9)], [(-1, 0), (-1, 1), (1, 10)], [(6, 0), (1, 9), (-1, 10)], [(-650625184, 0), (1, 11)], [(650625184, 0), (-1, 11)]], [(4, 210, [(1, 0)]), (4, 211, [(1, 1)]), (4, 101, [(1, 2)]), (3, 46, [(1, 3)]), (3, 47, [(1, 4)]), (4, 100, [(1, 5)]), (3, 44, [(1, 6)]), (3, 45, [(1, 7)]), (4, 107, [(1, 8)]), (4, 214, [(1, 0)]), (4, 215, [(1, 9)]), (4, 217, [(1, 10)]), (4, 219, [(1, 11)]), (4, 216, [(1, 12)])], [], [], [[(-1, 1), (1, 3)], [(1, 1), (-1, 3)], [(1, 4), (-1, 10)], [(-1, 4), (1, 10)], [(-41, 0), (1, 6)], [(41, 0), (-1, 6)], [(1, 7), (-1, 11)], [(-1, 7), (1, 11)]])
theorem xo_534 : qRok xr_534 := by
  intro ρ M h0 hf hm hI
  have f0 := hf [(-1, 0), (1, 5)] (by decide)
  have f1 := hf [(1, 1)] (by decide)
  have f2 := hf [(-1, 1), (1, 9)] (by decide)
  have f3 := hf [(1, 1), (-1, 9)] (by decide)
  have f4 := hf [(-1, 0), (-1, 1), (1, 10)] (by decide)
  have f5 := hf [(6, 0), (1, 9), (-1, 10)] (by decide)
  have f6 := hf [(-650625184, 0), (1, 11)] (by decide)
  have f7 := hf [(650625184, 0), (-1, 11)] (by decide)
  simp only [qD, h0] at f0 f1 f2 f3 f4 f5 f6 f7
  have m0 : M 4 210 = 1 * ρ 0 + 0 := hm (4, 210, [(1, 0)]) (by decide)
  have m1 : M 4 211 = 1 * ρ 1 + 0 := hm (4, 211, [(1, 1)]) (by decide)
  have m2 : M 4 101 = 1 * ρ 2 + 0 := hm (4, 101, [(1, 2)]) (by decide)
  have m3 : M 3 46 = 1 * ρ 3 + 0 := hm (3, 46, [(1, 3)]) (by decide)
  have m4 : M 3 47 = 1 * ρ 4 + 0 := hm (3, 47, [(1, 4)]) (by decide)
  have m5 : M 4 100 = 1 * ρ 5 + 0 := hm (4, 100, [(1, 5)]) (by decide)
  have m6 : M 3 44 = 1 * ρ 6 + 0 := hm (3, 44, [(1, 6)]) (by decide)
  have m7 : M 3 45 = 1 * ρ 7 + 0 := hm (3, 45, [(1, 7)]) (by decide)
  have m8 : M 4 107 = 1 * ρ 8 + 0 := hm (4, 107, [(1, 8)]) (by decide)
  have m9 : M 4 214 = 1 * ρ 0 + 0 := hm (4, 214, [(1, 0)]) (by decide)
  have m10 : M 4 215 = 1 * ρ 9 + 0 := hm (4, 215, [(1, 9)]) (by decide)
  have m11 : M 4 217 = 1 * ρ 10 + 0 := hm (4, 217, [(1, 10)]) (by decide)
  have m12 : M 4 219 = 1 * ρ 11 + 0 := hm (4, 219, [(1, 11)]) (by decide)
  have m13 : M 4 216 = 1 * ρ 12 + 0 := hm (4, 216, [(1, 12)]) (by decide)
  simp only [h0] at m0 m9
  obtain ⟨u1, u2, _⟩ := gx_xS8 hI (by omega)

  obtain ⟨a1, a2, a3, a4, a5, a6, a7⟩ := gx_xSA hI (by omega)
  have eq1 : (M 4 215).toNat = (M 4 211).toNat := by omega
  rw [eq1] at a6 a7
  have hgt := ten_gt (g := M 92) (lo := 97) (hi := 122) (n := (M 4 101).toNat) (q := (M 4 211).toNat) (by omega)
  have el1 : (M 4 217 - M 4 215).toNat = tEn (M 92) 97 122 (M 4 101).toNat (M 4 211).toNat - (M 4 211).toNat := by omega
  rw [el1] at a7

  obtain ⟨t1, t2, t3, t4, t5, t6⟩ := tk_of hI (by omega) (by omega) (by omega) (show tAt (M 92) (M 4 101).toNat (M 4 211).toNat (M 4 107) (M 4 108) = (41, M 4 219, ((M 4 211).toNat : Int), M 4 217, 0, 23) from by
    unfold tAt
    rw [if_neg (by omega), if_pos hgt.2]
    unfold tWo
    rw [← a7, ← a6]
    have hk : tKi (M 4 219) 0 = 41 := by
      rw [show M 4 219 = 650625184 by omega]
      decide
    have h6 : ¬ (6 < tEn (M 92) 97 122 (M 4 101).toNat (M 4 211).toNat - (M 4 211).toNat) := by omega
    unfold tWk tWs tWv
    rw [if_neg h6, if_neg h6, if_neg h6, hk]
    rfl)
  refine ⟨ρ, fun _ _ => rfl, fun f h => ?_, ?_⟩
  · have h : f ∈ ([[(-1, 1), (1, 3)], [(1, 1), (-1, 3)], [(1, 4), (-1, 10)], [(-1, 4), (1, 10)], [(-41, 0), (1, 6)], [(41, 0), (-1, 6)], [(1, 7), (-1, 11)], [(-1, 7), (1, 11)]] : List qF) := h
    simp only [List.mem_cons, List.not_mem_nil, or_false] at h
    rcases h with rfl | rfl | rfl | rfl | rfl | rfl | rfl | rfl
    · show 0 ≤ -1 * ρ 1 + (1 * ρ 3 + 0)
      (try rw [h0]); omega
    · show 0 ≤ 1 * ρ 1 + (-1 * ρ 3 + 0)
      (try rw [h0]); omega
    · show 0 ≤ 1 * ρ 4 + (-1 * ρ 10 + 0)
      (try rw [h0]); omega
    · show 0 ≤ -1 * ρ 4 + (1 * ρ 10 + 0)
      (try rw [h0]); omega
    · show 0 ≤ -41 * ρ 0 + (1 * ρ 6 + 0)
      (try rw [h0]); omega
    · show 0 ≤ 41 * ρ 0 + (-1 * ρ 6 + 0)
      (try rw [h0]); omega
    · show 0 ≤ 1 * ρ 7 + (-1 * ρ 11 + 0)
      (try rw [h0]); omega
    · show 0 ≤ -1 * ρ 7 + (1 * ρ 11 + 0)
      (try rw [h0]); omega
  · show sI M
    exact hI
-- wHitR23_r
def xr_535 : qRu := (13, [[(-1, 0), (1, 5)], [(1, 1)], [(-1, 1), (1, 9)], [(1, 1), (-1, 9)], [(-1, 0), (-1, 1), (1, 10)], [(6, 0), (1, 9), (-1, 10)], [(-650625184, 0), (1, 11)], [(650625184, 0), (-1, 11)]], [(4, 210, [(1, 0)]), (4, 211, [(1, 1)]), (4, 101, [(1, 2)]), (3, 46, [(1, 3)]), (3, 47, [(1, 4)]), (4, 100, [(1, 5)]), (3, 50, [(1, 6)]), (3, 51, [(1, 7)]), (4, 108, [(1, 8)]), (4, 214, [(1, 0)]), (4, 215, [(1, 9)]), (4, 217, [(1, 10)]), (4, 219, [(1, 11)]), (4, 216, [(1, 12)])], [], [], [[(-1, 1), (1, 3)], [(1, 1), (-1, 3)], [(1, 4), (-1, 10)], [(-1, 4), (1, 10)], [(1, 6)], [(-1, 6)], [(-23, 0), (1, 7)], [(23, 0), (-1, 7)]])
theorem xo_535 : qRok xr_535 := by
  intro ρ M h0 hf hm hI
  have f0 := hf [(-1, 0), (1, 5)] (by decide)
  have f1 := hf [(1, 1)] (by decide)
  have f2 := hf [(-1, 1), (1, 9)] (by decide)
  have f3 := hf [(1, 1), (-1, 9)] (by decide)
  have f4 := hf [(-1, 0), (-1, 1), (1, 10)] (by decide)
  have f5 := hf [(6, 0), (1, 9), (-1, 10)] (by decide)
  have f6 := hf [(-650625184, 0), (1, 11)] (by decide)
  have f7 := hf [(650625184, 0), (-1, 11)] (by decide)
  simp only [qD, h0] at f0 f1 f2 f3 f4 f5 f6 f7
  have m0 : M 4 210 = 1 * ρ 0 + 0 := hm (4, 210, [(1, 0)]) (by decide)
  have m1 : M 4 211 = 1 * ρ 1 + 0 := hm (4, 211, [(1, 1)]) (by decide)
  have m2 : M 4 101 = 1 * ρ 2 + 0 := hm (4, 101, [(1, 2)]) (by decide)
  have m3 : M 3 46 = 1 * ρ 3 + 0 := hm (3, 46, [(1, 3)]) (by decide)
  have m4 : M 3 47 = 1 * ρ 4 + 0 := hm (3, 47, [(1, 4)]) (by decide)
  have m5 : M 4 100 = 1 * ρ 5 + 0 := hm (4, 100, [(1, 5)]) (by decide)
  have m6 : M 3 50 = 1 * ρ 6 + 0 := hm (3, 50, [(1, 6)]) (by decide)
  have m7 : M 3 51 = 1 * ρ 7 + 0 := hm (3, 51, [(1, 7)]) (by decide)
  have m8 : M 4 108 = 1 * ρ 8 + 0 := hm (4, 108, [(1, 8)]) (by decide)
  have m9 : M 4 214 = 1 * ρ 0 + 0 := hm (4, 214, [(1, 0)]) (by decide)
  have m10 : M 4 215 = 1 * ρ 9 + 0 := hm (4, 215, [(1, 9)]) (by decide)
  have m11 : M 4 217 = 1 * ρ 10 + 0 := hm (4, 217, [(1, 10)]) (by decide)
  have m12 : M 4 219 = 1 * ρ 11 + 0 := hm (4, 219, [(1, 11)]) (by decide)
  have m13 : M 4 216 = 1 * ρ 12 + 0 := hm (4, 216, [(1, 12)]) (by decide)
  simp only [h0] at m0 m9
  obtain ⟨u1, u2, _⟩ := gx_xS8 hI (by omega)

  obtain ⟨a1, a2, a3, a4, a5, a6, a7⟩ := gx_xSA hI (by omega)
  have eq1 : (M 4 215).toNat = (M 4 211).toNat := by omega
  rw [eq1] at a6 a7
  have hgt := ten_gt (g := M 92) (lo := 97) (hi := 122) (n := (M 4 101).toNat) (q := (M 4 211).toNat) (by omega)
  have el1 : (M 4 217 - M 4 215).toNat = tEn (M 92) 97 122 (M 4 101).toNat (M 4 211).toNat - (M 4 211).toNat := by omega
  rw [el1] at a7

  obtain ⟨t1, t2, t3, t4, t5, t6⟩ := tk_of hI (by omega) (by omega) (by omega) (show tAt (M 92) (M 4 101).toNat (M 4 211).toNat (M 4 107) (M 4 108) = (41, M 4 219, ((M 4 211).toNat : Int), M 4 217, 0, 23) from by
    unfold tAt
    rw [if_neg (by omega), if_pos hgt.2]
    unfold tWo
    rw [← a7, ← a6]
    have hk : tKi (M 4 219) 0 = 41 := by
      rw [show M 4 219 = 650625184 by omega]
      decide
    have h6 : ¬ (6 < tEn (M 92) 97 122 (M 4 101).toNat (M 4 211).toNat - (M 4 211).toNat) := by omega
    unfold tWk tWs tWv
    rw [if_neg h6, if_neg h6, if_neg h6, hk]
    rfl)
  refine ⟨ρ, fun _ _ => rfl, fun f h => ?_, ?_⟩
  · have h : f ∈ ([[(-1, 1), (1, 3)], [(1, 1), (-1, 3)], [(1, 4), (-1, 10)], [(-1, 4), (1, 10)], [(1, 6)], [(-1, 6)], [(-23, 0), (1, 7)], [(23, 0), (-1, 7)]] : List qF) := h
    simp only [List.mem_cons, List.not_mem_nil, or_false] at h
    rcases h with rfl | rfl | rfl | rfl | rfl | rfl | rfl | rfl
    · show 0 ≤ -1 * ρ 1 + (1 * ρ 3 + 0)
      (try rw [h0]); omega
    · show 0 ≤ 1 * ρ 1 + (-1 * ρ 3 + 0)
      (try rw [h0]); omega
    · show 0 ≤ 1 * ρ 4 + (-1 * ρ 10 + 0)
      (try rw [h0]); omega
    · show 0 ≤ -1 * ρ 4 + (1 * ρ 10 + 0)
      (try rw [h0]); omega
    · show 0 ≤ 1 * ρ 6 + 0
      (try rw [h0]); omega
    · show 0 ≤ -1 * ρ 6 + 0
      (try rw [h0]); omega
    · show 0 ≤ -23 * ρ 0 + (1 * ρ 7 + 0)
      (try rw [h0]); omega
    · show 0 ≤ 23 * ρ 0 + (-1 * ρ 7 + 0)
      (try rw [h0]); omega
  · show sI M
    exact hI
-- langMissR23L
def xr_536 : qRu := (3, [[(650625183, 0), (-1, 2)]], [(4, 226, [(1, 0)]), (4, 227, [(23, 0)]), (4, 219, [(1, 2)])], [], [(4, 227, [(24, 0)])], [])
theorem xo_536 : qRok xr_536 := by
  intro ρ M h0 hf hm hI
  have f0 := hf [(650625183, 0), (-1, 2)] (by decide)
  simp only [qD, h0] at f0
  have m0 : M 4 226 = 1 * ρ 0 + 0 := hm (4, 226, [(1, 0)]) (by decide)
  have m1 : M 4 227 = 23 * ρ 0 + 0 := hm (4, 227, [(23, 0)]) (by decide)
  have m2 : M 4 219 = 1 * ρ 2 + 0 := hm (4, 219, [(1, 2)]) (by decide)
  simp only [h0] at m0 m1
  have qxSC := hI.2.2.2.2.2.2.2.2.2.2.2.2.2.2.2.2.2.2.2.2.2.2.2.2.2.2.2.2.2.2.2.2.2.2.1
  obtain ⟨l1, l2, l3⟩ := gx_xSC hI (by omega)
  refine ⟨ρ, fun _ _ => rfl, fun f h => ?_, ?_⟩
  · exact nomatch h
  · show sI (sU M 4 227 (24 * ρ 0 + 0))
    obtain ⟨W, hW⟩ : ∃ W, W = (sU M 4 227 (24 * ρ 0 + 0)) := ⟨_, rfl⟩
    rw [← hW]
    have base : sI0 W := by
      rw [hW]
      exact (si_u0 hI.1 (fun r hr => by cases hr))
    have k2 : XI2 W := by
      rw [hW]
      exact (xi2_u rfl hI.2.1)
    have k3 : XI3 W := by
      rw [hW]
      exact (xi3_u rfl hI.2.2.1)
    have kXA : XA W := by
      rw [hW]
      exact (uXA rfl hI.2.2.2.1)
    have k_xN1 : xN1 W := by
      rw [hW]
      exact (uxN1 rfl hI.2.2.2.2.1)
    have k_xN2 : xN2 W := by
      rw [hW]
      exact (uxN2 rfl hI.2.2.2.2.2.1)
    have k_xN3 : xN3 W := by
      rw [hW]
      exact (uxN3 rfl hI.2.2.2.2.2.2.1)
    have k_xN4 : xN4 W := by
      rw [hW]
      exact (uxN4 rfl hI.2.2.2.2.2.2.2.1)
    have k_xN5 : xN5 W := by
      rw [hW]
      exact (uxN5 rfl hI.2.2.2.2.2.2.2.2.1)
    have k_xN6 : xN6 W := by
      rw [hW]
      exact (uxN6 rfl hI.2.2.2.2.2.2.2.2.2.1)
    have k_xH1 : xH1 W := by
      rw [hW]
      exact (uxH1 rfl hI.2.2.2.2.2.2.2.2.2.2.1)
    have k_xK1 : xK1 W := by
      rw [hW]
      exact (uxK1 rfl hI.2.2.2.2.2.2.2.2.2.2.2.1)
    have k_xC1 : xC1 W := by
      rw [hW]
      exact (uxC1 rfl hI.2.2.2.2.2.2.2.2.2.2.2.2.1)
    have k_xRW : xRW W := by
      rw [hW]
      exact (uxRW rfl hI.2.2.2.2.2.2.2.2.2.2.2.2.2.1)
    have k_xWT : xWT W := by
      rw [hW]
      exact (uxWT rfl hI.2.2.2.2.2.2.2.2.2.2.2.2.2.2.1)
    have k_xCU : xCU W := by
      rw [hW]
      exact (uxCU rfl hI.2.2.2.2.2.2.2.2.2.2.2.2.2.2.2.1)
    have k_xG2 : xG2 W := by
      rw [hW]
      exact (uxG2 rfl hI.2.2.2.2.2.2.2.2.2.2.2.2.2.2.2.2.1)
    have k_xG3 : xG3 W := by
      rw [hW]
      exact (uxG3 rfl hI.2.2.2.2.2.2.2.2.2.2.2.2.2.2.2.2.2.1)
    have k_xG4 : xG4 W := by
      rw [hW]
      exact (uxG4 rfl hI.2.2.2.2.2.2.2.2.2.2.2.2.2.2.2.2.2.2.1)
    have k_xG5 : xG5 W := by
      rw [hW]
      exact (uxG5 rfl hI.2.2.2.2.2.2.2.2.2.2.2.2.2.2.2.2.2.2.2.1)
    have k_xG6 : xG6 W := by
      rw [hW]
      exact (uxG6 rfl hI.2.2.2.2.2.2.2.2.2.2.2.2.2.2.2.2.2.2.2.2.1)
    have k_xS1 : xS1 W := by
      rw [hW]
      exact (uxS1 rfl hI.2.2.2.2.2.2.2.2.2.2.2.2.2.2.2.2.2.2.2.2.2.1)
    have k_xS2 : xS2 W := by
      rw [hW]
      exact (uxS2 rfl hI.2.2.2.2.2.2.2.2.2.2.2.2.2.2.2.2.2.2.2.2.2.2.1)
    have k_xS3 : xS3 W := by
      rw [hW]
      exact (uxS3 rfl hI.2.2.2.2.2.2.2.2.2.2.2.2.2.2.2.2.2.2.2.2.2.2.2.1)
    have k_xS4 : xS4 W := by
      rw [hW]
      exact (uxS4 rfl hI.2.2.2.2.2.2.2.2.2.2.2.2.2.2.2.2.2.2.2.2.2.2.2.2.1)
    have k_xS5 : xS5 W := by
      rw [hW]
      exact (uxS5 rfl hI.2.2.2.2.2.2.2.2.2.2.2.2.2.2.2.2.2.2.2.2.2.2.2.2.2.1)
    have k_xS6 : xS6 W := by
      rw [hW]
      exact (uxS6 rfl hI.2.2.2.2.2.2.2.2.2.2.2.2.2.2.2.2.2.2.2.2.2.2.2.2.2.2.1)
    have k_xS7 : xS7 W := by
      rw [hW]
      exact (uxS7 rfl hI.2.2.2.2.2.2.2.2.2.2.2.2.2.2.2.2.2.2.2.2.2.2.2.2.2.2.2.1)
    have k_xS8 : xS8 W := by
      rw [hW]
      exact (uxS8 rfl hI.2.2.2.2.2.2.2.2.2.2.2.2.2.2.2.2.2.2.2.2.2.2.2.2.2.2.2.2.1)
    have k_xS9 : xS9 W := by
      rw [hW]
      exact (uxS9 rfl hI.2.2.2.2.2.2.2.2.2.2.2.2.2.2.2.2.2.2.2.2.2.2.2.2.2.2.2.2.2.1)
    have k_xSA : xSA W := by
      rw [hW]
      exact (uxSA rfl hI.2.2.2.2.2.2.2.2.2.2.2.2.2.2.2.2.2.2.2.2.2.2.2.2.2.2.2.2.2.2.1)
    have k_xSG : xSG W := by
      rw [hW]
      exact (uxSG rfl hI.2.2.2.2.2.2.2.2.2.2.2.2.2.2.2.2.2.2.2.2.2.2.2.2.2.2.2.2.2.2.2.1)
    have k_xSF : xSF W := by
      rw [hW]
      exact (uxSF rfl hI.2.2.2.2.2.2.2.2.2.2.2.2.2.2.2.2.2.2.2.2.2.2.2.2.2.2.2.2.2.2.2.2.1)
    have k_xSB : xSB W := by
      rw [hW]
      exact (uxSB rfl hI.2.2.2.2.2.2.2.2.2.2.2.2.2.2.2.2.2.2.2.2.2.2.2.2.2.2.2.2.2.2.2.2.2.1)
    have k_xSC : xSC W := by
      have r4_226 : W 4 226 = M 4 226 := by rw [hW, sU_ne (fun z => by omega)]
      have r4_227 : W 4 227 = 24 * ρ 0 + 0 := by rw [hW, sU_at]
      have r4_219 : W 4 219 = M 4 219 := by rw [hW, sU_ne (fun z => by omega)]
      intro h
      rw [r4_227, r4_219, h0]
      refine ⟨by omega, by omega, ?_⟩
      have e1 := tki_on (x := M 4 219) (w := 23) (show tLa[23]? = some (650625184 : Int) from rfl)
      rw [if_neg (by omega)] at e1
      rw [show M 4 227 = 23 by omega] at l3
      rw [← l3]
      exact e1.symm
    have k_xSD : xSD W := by
      rw [hW]
      exact (uxSD rfl hI.2.2.2.2.2.2.2.2.2.2.2.2.2.2.2.2.2.2.2.2.2.2.2.2.2.2.2.2.2.2.2.2.2.2.2.1)
    have k_xSE : xSE W := by
      rw [hW]
      exact (uxSE rfl hI.2.2.2.2.2.2.2.2.2.2.2.2.2.2.2.2.2.2.2.2.2.2.2.2.2.2.2.2.2.2.2.2.2.2.2.2.1)
    have k_xSW : xSW W := by
      rw [hW]
      exact (uxSW rfl hI.2.2.2.2.2.2.2.2.2.2.2.2.2.2.2.2.2.2.2.2.2.2.2.2.2.2.2.2.2.2.2.2.2.2.2.2.2.1)
    have k_xST : xST W := by
      rw [hW]
      exact (uxST rfl hI.2.2.2.2.2.2.2.2.2.2.2.2.2.2.2.2.2.2.2.2.2.2.2.2.2.2.2.2.2.2.2.2.2.2.2.2.2.2.1)
    have k_xSP : xSP W := by
      rw [hW]
      exact (uxSP rfl hI.2.2.2.2.2.2.2.2.2.2.2.2.2.2.2.2.2.2.2.2.2.2.2.2.2.2.2.2.2.2.2.2.2.2.2.2.2.2.2.1)
    have k_xSL : xSL W := by
      rw [hW]
      exact (uxSL rfl hI.2.2.2.2.2.2.2.2.2.2.2.2.2.2.2.2.2.2.2.2.2.2.2.2.2.2.2.2.2.2.2.2.2.2.2.2.2.2.2.2.1)
    have k_xSM : xSM W := by
      rw [hW]
      exact (uxSM rfl hI.2.2.2.2.2.2.2.2.2.2.2.2.2.2.2.2.2.2.2.2.2.2.2.2.2.2.2.2.2.2.2.2.2.2.2.2.2.2.2.2.2.1)
    have k_xSI : xSI W := by
      rw [hW]
      exact (uxSI rfl hI.2.2.2.2.2.2.2.2.2.2.2.2.2.2.2.2.2.2.2.2.2.2.2.2.2.2.2.2.2.2.2.2.2.2.2.2.2.2.2.2.2.2)
    have k_XC : XC W := ⟨k_xS1, k_xS2, k_xS3, k_xS4, k_xS5, k_xS6, k_xS7, k_xS8, k_xS9, k_xSA, k_xSG, k_xSF, k_xSB, k_xSC, k_xSD, k_xSE, k_xSW, k_xST, k_xSP, k_xSL, k_xSM, k_xSI⟩
    have kXB : XB W := ⟨k_xN1, k_xN2, k_xN3, k_xN4, k_xN5, k_xN6, k_xH1, k_xK1, k_xC1, k_xRW, k_xWT, k_xCU, k_xG2, k_xG3, k_xG4, k_xG5, k_xG6, k_XC⟩
    exact ⟨base, k2, k3, kXA, kXB⟩
-- langMissR23H
def xr_537 : qRu := (3, [[(-650625185, 0), (1, 2)]], [(4, 226, [(1, 0)]), (4, 227, [(23, 0)]), (4, 219, [(1, 2)])], [], [(4, 227, [(24, 0)])], [])
theorem xo_537 : qRok xr_537 := by
  intro ρ M h0 hf hm hI
  have f0 := hf [(-650625185, 0), (1, 2)] (by decide)
  simp only [qD, h0] at f0
  have m0 : M 4 226 = 1 * ρ 0 + 0 := hm (4, 226, [(1, 0)]) (by decide)
  have m1 : M 4 227 = 23 * ρ 0 + 0 := hm (4, 227, [(23, 0)]) (by decide)
  have m2 : M 4 219 = 1 * ρ 2 + 0 := hm (4, 219, [(1, 2)]) (by decide)
  simp only [h0] at m0 m1
  have qxSC := hI.2.2.2.2.2.2.2.2.2.2.2.2.2.2.2.2.2.2.2.2.2.2.2.2.2.2.2.2.2.2.2.2.2.2.1
  obtain ⟨l1, l2, l3⟩ := gx_xSC hI (by omega)
  refine ⟨ρ, fun _ _ => rfl, fun f h => ?_, ?_⟩
  · exact nomatch h
  · show sI (sU M 4 227 (24 * ρ 0 + 0))
    obtain ⟨W, hW⟩ : ∃ W, W = (sU M 4 227 (24 * ρ 0 + 0)) := ⟨_, rfl⟩
    rw [← hW]
    have base : sI0 W := by
      rw [hW]
      exact (si_u0 hI.1 (fun r hr => by cases hr))
    have k2 : XI2 W := by
      rw [hW]
      exact (xi2_u rfl hI.2.1)
    have k3 : XI3 W := by
      rw [hW]
      exact (xi3_u rfl hI.2.2.1)
    have kXA : XA W := by
      rw [hW]
      exact (uXA rfl hI.2.2.2.1)
    have k_xN1 : xN1 W := by
      rw [hW]
      exact (uxN1 rfl hI.2.2.2.2.1)
    have k_xN2 : xN2 W := by
      rw [hW]
      exact (uxN2 rfl hI.2.2.2.2.2.1)
    have k_xN3 : xN3 W := by
      rw [hW]
      exact (uxN3 rfl hI.2.2.2.2.2.2.1)
    have k_xN4 : xN4 W := by
      rw [hW]
      exact (uxN4 rfl hI.2.2.2.2.2.2.2.1)
    have k_xN5 : xN5 W := by
      rw [hW]
      exact (uxN5 rfl hI.2.2.2.2.2.2.2.2.1)
    have k_xN6 : xN6 W := by
      rw [hW]
      exact (uxN6 rfl hI.2.2.2.2.2.2.2.2.2.1)
    have k_xH1 : xH1 W := by
      rw [hW]
      exact (uxH1 rfl hI.2.2.2.2.2.2.2.2.2.2.1)
    have k_xK1 : xK1 W := by
      rw [hW]
      exact (uxK1 rfl hI.2.2.2.2.2.2.2.2.2.2.2.1)
    have k_xC1 : xC1 W := by
      rw [hW]
      exact (uxC1 rfl hI.2.2.2.2.2.2.2.2.2.2.2.2.1)
    have k_xRW : xRW W := by
      rw [hW]
      exact (uxRW rfl hI.2.2.2.2.2.2.2.2.2.2.2.2.2.1)
    have k_xWT : xWT W := by
      rw [hW]
      exact (uxWT rfl hI.2.2.2.2.2.2.2.2.2.2.2.2.2.2.1)
    have k_xCU : xCU W := by
      rw [hW]
      exact (uxCU rfl hI.2.2.2.2.2.2.2.2.2.2.2.2.2.2.2.1)
    have k_xG2 : xG2 W := by
      rw [hW]
      exact (uxG2 rfl hI.2.2.2.2.2.2.2.2.2.2.2.2.2.2.2.2.1)
    have k_xG3 : xG3 W := by
      rw [hW]
      exact (uxG3 rfl hI.2.2.2.2.2.2.2.2.2.2.2.2.2.2.2.2.2.1)
    have k_xG4 : xG4 W := by
      rw [hW]
      exact (uxG4 rfl hI.2.2.2.2.2.2.2.2.2.2.2.2.2.2.2.2.2.2.1)
    have k_xG5 : xG5 W := by
      rw [hW]
      exact (uxG5 rfl hI.2.2.2.2.2.2.2.2.2.2.2.2.2.2.2.2.2.2.2.1)
    have k_xG6 : xG6 W := by
      rw [hW]
      exact (uxG6 rfl hI.2.2.2.2.2.2.2.2.2.2.2.2.2.2.2.2.2.2.2.2.1)
    have k_xS1 : xS1 W := by
      rw [hW]
      exact (uxS1 rfl hI.2.2.2.2.2.2.2.2.2.2.2.2.2.2.2.2.2.2.2.2.2.1)
    have k_xS2 : xS2 W := by
      rw [hW]
      exact (uxS2 rfl hI.2.2.2.2.2.2.2.2.2.2.2.2.2.2.2.2.2.2.2.2.2.2.1)
    have k_xS3 : xS3 W := by
      rw [hW]
      exact (uxS3 rfl hI.2.2.2.2.2.2.2.2.2.2.2.2.2.2.2.2.2.2.2.2.2.2.2.1)
    have k_xS4 : xS4 W := by
      rw [hW]
      exact (uxS4 rfl hI.2.2.2.2.2.2.2.2.2.2.2.2.2.2.2.2.2.2.2.2.2.2.2.2.1)
    have k_xS5 : xS5 W := by
      rw [hW]
      exact (uxS5 rfl hI.2.2.2.2.2.2.2.2.2.2.2.2.2.2.2.2.2.2.2.2.2.2.2.2.2.1)
    have k_xS6 : xS6 W := by
      rw [hW]
      exact (uxS6 rfl hI.2.2.2.2.2.2.2.2.2.2.2.2.2.2.2.2.2.2.2.2.2.2.2.2.2.2.1)
    have k_xS7 : xS7 W := by
      rw [hW]
      exact (uxS7 rfl hI.2.2.2.2.2.2.2.2.2.2.2.2.2.2.2.2.2.2.2.2.2.2.2.2.2.2.2.1)
    have k_xS8 : xS8 W := by
      rw [hW]
      exact (uxS8 rfl hI.2.2.2.2.2.2.2.2.2.2.2.2.2.2.2.2.2.2.2.2.2.2.2.2.2.2.2.2.1)
    have k_xS9 : xS9 W := by
      rw [hW]
      exact (uxS9 rfl hI.2.2.2.2.2.2.2.2.2.2.2.2.2.2.2.2.2.2.2.2.2.2.2.2.2.2.2.2.2.1)
    have k_xSA : xSA W := by
      rw [hW]
      exact (uxSA rfl hI.2.2.2.2.2.2.2.2.2.2.2.2.2.2.2.2.2.2.2.2.2.2.2.2.2.2.2.2.2.2.1)
    have k_xSG : xSG W := by
      rw [hW]
      exact (uxSG rfl hI.2.2.2.2.2.2.2.2.2.2.2.2.2.2.2.2.2.2.2.2.2.2.2.2.2.2.2.2.2.2.2.1)
    have k_xSF : xSF W := by
      rw [hW]
      exact (uxSF rfl hI.2.2.2.2.2.2.2.2.2.2.2.2.2.2.2.2.2.2.2.2.2.2.2.2.2.2.2.2.2.2.2.2.1)
    have k_xSB : xSB W := by
      rw [hW]
      exact (uxSB rfl hI.2.2.2.2.2.2.2.2.2.2.2.2.2.2.2.2.2.2.2.2.2.2.2.2.2.2.2.2.2.2.2.2.2.1)
    have k_xSC : xSC W := by
      have r4_226 : W 4 226 = M 4 226 := by rw [hW, sU_ne (fun z => by omega)]
      have r4_227 : W 4 227 = 24 * ρ 0 + 0 := by rw [hW, sU_at]
      have r4_219 : W 4 219 = M 4 219 := by rw [hW, sU_ne (fun z => by omega)]
      intro h
      rw [r4_227, r4_219, h0]
      refine ⟨by omega, by omega, ?_⟩
      have e1 := tki_on (x := M 4 219) (w := 23) (show tLa[23]? = some (650625184 : Int) from rfl)
      rw [if_neg (by omega)] at e1
      rw [show M 4 227 = 23 by omega] at l3
      rw [← l3]
      exact e1.symm
    have k_xSD : xSD W := by
      rw [hW]
      exact (uxSD rfl hI.2.2.2.2.2.2.2.2.2.2.2.2.2.2.2.2.2.2.2.2.2.2.2.2.2.2.2.2.2.2.2.2.2.2.2.1)
    have k_xSE : xSE W := by
      rw [hW]
      exact (uxSE rfl hI.2.2.2.2.2.2.2.2.2.2.2.2.2.2.2.2.2.2.2.2.2.2.2.2.2.2.2.2.2.2.2.2.2.2.2.2.1)
    have k_xSW : xSW W := by
      rw [hW]
      exact (uxSW rfl hI.2.2.2.2.2.2.2.2.2.2.2.2.2.2.2.2.2.2.2.2.2.2.2.2.2.2.2.2.2.2.2.2.2.2.2.2.2.1)
    have k_xST : xST W := by
      rw [hW]
      exact (uxST rfl hI.2.2.2.2.2.2.2.2.2.2.2.2.2.2.2.2.2.2.2.2.2.2.2.2.2.2.2.2.2.2.2.2.2.2.2.2.2.2.1)
    have k_xSP : xSP W := by
      rw [hW]
      exact (uxSP rfl hI.2.2.2.2.2.2.2.2.2.2.2.2.2.2.2.2.2.2.2.2.2.2.2.2.2.2.2.2.2.2.2.2.2.2.2.2.2.2.2.1)
    have k_xSL : xSL W := by
      rw [hW]
      exact (uxSL rfl hI.2.2.2.2.2.2.2.2.2.2.2.2.2.2.2.2.2.2.2.2.2.2.2.2.2.2.2.2.2.2.2.2.2.2.2.2.2.2.2.2.1)
    have k_xSM : xSM W := by
      rw [hW]
      exact (uxSM rfl hI.2.2.2.2.2.2.2.2.2.2.2.2.2.2.2.2.2.2.2.2.2.2.2.2.2.2.2.2.2.2.2.2.2.2.2.2.2.2.2.2.2.1)
    have k_xSI : xSI W := by
      rw [hW]
      exact (uxSI rfl hI.2.2.2.2.2.2.2.2.2.2.2.2.2.2.2.2.2.2.2.2.2.2.2.2.2.2.2.2.2.2.2.2.2.2.2.2.2.2.2.2.2.2)
    have k_XC : XC W := ⟨k_xS1, k_xS2, k_xS3, k_xS4, k_xS5, k_xS6, k_xS7, k_xS8, k_xS9, k_xSA, k_xSG, k_xSF, k_xSB, k_xSC, k_xSD, k_xSE, k_xSW, k_xST, k_xSP, k_xSL, k_xSM, k_xSI⟩
    have kXB : XB W := ⟨k_xN1, k_xN2, k_xN3, k_xN4, k_xN5, k_xN6, k_xH1, k_xK1, k_xC1, k_xRW, k_xWT, k_xCU, k_xG2, k_xG3, k_xG4, k_xG5, k_xG6, k_XC⟩
    exact ⟨base, k2, k3, kXA, kXB⟩
-- mkName
def xr_538 : qRu := (3, [[(1, 1)], [(33554431, 0), (-1, 1)], [(1, 2)], [(31, 0), (-1, 2)]], [(91, 249, [])], [], [(91, 240, [(1, 0)]), (91, 241, [(1, 1)]), (91, 242, [(5, 0)]), (91, 243, [(32, 1)]), (91, 245, [(1, 2)]), (91, 246, []), (91, 244, [(32, 1)]), (91, 247, [(32, 1), (1, 2)])], [])
theorem xo_538 : qRok xr_538 := by
  intro ρ M h0 hf hm hI
  have f0 := hf [(1, 1)] (by decide)
  have f1 := hf [(33554431, 0), (-1, 1)] (by decide)
  have f2 := hf [(1, 2)] (by decide)
  have f3 := hf [(31, 0), (-1, 2)] (by decide)
  simp only [qD, h0] at f0 f1 f2 f3
  have m0 : M 91 249 = 0 := hm (91, 249, []) (by decide)
  have qxSD := hI.2.2.2.2.2.2.2.2.2.2.2.2.2.2.2.2.2.2.2.2.2.2.2.2.2.2.2.2.2.2.2.2.2.2.2.1
  refine ⟨ρ, fun _ _ => rfl, fun f h => ?_, ?_⟩
  · exact nomatch h
  · show sI (sU (sU (sU (sU (sU (sU (sU (sU M 91 240 (1 * ρ 0 + 0)) 91 241 (1 * ρ 1 + 0)) 91 242 (5 * ρ 0 + 0)) 91 243 (32 * ρ 1 + 0)) 91 245 (1 * ρ 2 + 0)) 91 246 (0)) 91 244 (32 * ρ 1 + 0)) 91 247 (32 * ρ 1 + (1 * ρ 2 + 0)))
    obtain ⟨W, hW⟩ : ∃ W, W = (sU (sU (sU (sU (sU (sU (sU (sU M 91 240 (1 * ρ 0 + 0)) 91 241 (1 * ρ 1 + 0)) 91 242 (5 * ρ 0 + 0)) 91 243 (32 * ρ 1 + 0)) 91 245 (1 * ρ 2 + 0)) 91 246 (0)) 91 244 (32 * ρ 1 + 0)) 91 247 (32 * ρ 1 + (1 * ρ 2 + 0))) := ⟨_, rfl⟩
    rw [← hW]
    have base : sI0 W := by
      rw [hW]
      exact (si_u0 (si_u0 (si_u0 (si_u0 (si_u0 (si_u0 (si_u0 (si_u0 hI.1 (fun r hr => by cases hr)) (fun r hr => by cases hr)) (fun r hr => by cases hr)) (fun r hr => by cases hr)) (fun r hr => by cases hr)) (fun r hr => by cases hr)) (fun r hr => by cases hr)) (fun r hr => by cases hr))
    have k2 : XI2 W := by
      rw [hW]
      exact (xi2_u rfl (xi2_u rfl (xi2_u rfl (xi2_u rfl (xi2_u rfl (xi2_u rfl (xi2_u rfl (xi2_u rfl hI.2.1))))))))
    have k3 : XI3 W := by
      rw [hW]
      exact (xi3_u rfl (xi3_u rfl (xi3_u rfl (xi3_u rfl (xi3_u rfl (xi3_u rfl (xi3_u rfl (xi3_u rfl hI.2.2.1))))))))
    have kXA : XA W := by
      rw [hW]
      exact (uXA rfl (uXA rfl (uXA rfl (uXA rfl (uXA rfl (uXA rfl (uXA rfl (uXA rfl hI.2.2.2.1))))))))
    have k_xN1 : xN1 W := by
      rw [hW]
      exact (uxN1 rfl (uxN1 rfl (uxN1 rfl (uxN1 rfl (uxN1 rfl (uxN1 rfl (uxN1 rfl (uxN1 rfl hI.2.2.2.2.1))))))))
    have k_xN2 : xN2 W := by
      rw [hW]
      exact (uxN2 rfl (uxN2 rfl (uxN2 rfl (uxN2 rfl (uxN2 rfl (uxN2 rfl (uxN2 rfl (uxN2 rfl hI.2.2.2.2.2.1))))))))
    have k_xN3 : xN3 W := by
      rw [hW]
      exact (uxN3 rfl (uxN3 rfl (uxN3 rfl (uxN3 rfl (uxN3 rfl (uxN3 rfl (uxN3 rfl (uxN3 rfl hI.2.2.2.2.2.2.1))))))))
    have k_xN4 : xN4 W := by
      rw [hW]
      exact (uxN4 rfl (uxN4 rfl (uxN4 rfl (uxN4 rfl (uxN4 rfl (uxN4 rfl (uxN4 rfl (uxN4 rfl hI.2.2.2.2.2.2.2.1))))))))
    have k_xN5 : xN5 W := by
      rw [hW]
      exact (uxN5 rfl (uxN5 rfl (uxN5 rfl (uxN5 rfl (uxN5 rfl (uxN5 rfl (uxN5 rfl (uxN5 rfl hI.2.2.2.2.2.2.2.2.1))))))))
    have k_xN6 : xN6 W := by
      rw [hW]
      exact (uxN6 rfl (uxN6 rfl (uxN6 rfl (uxN6 rfl (uxN6 rfl (uxN6 rfl (uxN6 rfl (uxN6 rfl hI.2.2.2.2.2.2.2.2.2.1))))))))
    have k_xH1 : xH1 W := by
      rw [hW]
      exact (uxH1 rfl (uxH1 rfl (uxH1 rfl (uxH1 rfl (uxH1 rfl (uxH1 rfl (uxH1 rfl (uxH1 rfl hI.2.2.2.2.2.2.2.2.2.2.1))))))))
    have k_xK1 : xK1 W := by
      rw [hW]
      exact (uxK1 rfl (uxK1 rfl (uxK1 rfl (uxK1 rfl (uxK1 rfl (uxK1 rfl (uxK1 rfl (uxK1 rfl hI.2.2.2.2.2.2.2.2.2.2.2.1))))))))
    have k_xC1 : xC1 W := by
      rw [hW]
      exact (uxC1 rfl (uxC1 rfl (uxC1 rfl (uxC1 rfl (uxC1 rfl (uxC1 rfl (uxC1 rfl (uxC1 rfl hI.2.2.2.2.2.2.2.2.2.2.2.2.1))))))))
    have k_xRW : xRW W := by
      rw [hW]
      exact (uxRW rfl (uxRW rfl (uxRW rfl (uxRW rfl (uxRW rfl (uxRW rfl (uxRW rfl (uxRW rfl hI.2.2.2.2.2.2.2.2.2.2.2.2.2.1))))))))
    have k_xWT : xWT W := by
      rw [hW]
      exact (uxWT rfl (uxWT rfl (uxWT rfl (uxWT rfl (uxWT rfl (uxWT rfl (uxWT rfl (uxWT rfl hI.2.2.2.2.2.2.2.2.2.2.2.2.2.2.1))))))))
    have k_xCU : xCU W := by
      rw [hW]
      exact (uxCU rfl (uxCU rfl (uxCU rfl (uxCU rfl (uxCU rfl (uxCU rfl (uxCU rfl (uxCU rfl hI.2.2.2.2.2.2.2.2.2.2.2.2.2.2.2.1))))))))
    have k_xG2 : xG2 W := by
      rw [hW]
      exact (uxG2 rfl (uxG2 rfl (uxG2 rfl (uxG2 rfl (uxG2 rfl (uxG2 rfl (uxG2 rfl (uxG2 rfl hI.2.2.2.2.2.2.2.2.2.2.2.2.2.2.2.2.1))))))))
    have k_xG3 : xG3 W := by
      rw [hW]
      exact (uxG3 rfl (uxG3 rfl (uxG3 rfl (uxG3 rfl (uxG3 rfl (uxG3 rfl (uxG3 rfl (uxG3 rfl hI.2.2.2.2.2.2.2.2.2.2.2.2.2.2.2.2.2.1))))))))
    have k_xG4 : xG4 W := by
      rw [hW]
      exact (uxG4 rfl (uxG4 rfl (uxG4 rfl (uxG4 rfl (uxG4 rfl (uxG4 rfl (uxG4 rfl (uxG4 rfl hI.2.2.2.2.2.2.2.2.2.2.2.2.2.2.2.2.2.2.1))))))))
    have k_xG5 : xG5 W := by
      rw [hW]
      exact (uxG5 rfl (uxG5 rfl (uxG5 rfl (uxG5 rfl (uxG5 rfl (uxG5 rfl (uxG5 rfl (uxG5 rfl hI.2.2.2.2.2.2.2.2.2.2.2.2.2.2.2.2.2.2.2.1))))))))
    have k_xG6 : xG6 W := by
      rw [hW]
      exact (uxG6 rfl (uxG6 rfl (uxG6 rfl (uxG6 rfl (uxG6 rfl (uxG6 rfl (uxG6 rfl (uxG6 rfl hI.2.2.2.2.2.2.2.2.2.2.2.2.2.2.2.2.2.2.2.2.1))))))))
    have k_xS1 : xS1 W := by
      rw [hW]
      exact (uxS1 rfl (uxS1 rfl (uxS1 rfl (uxS1 rfl (uxS1 rfl (uxS1 rfl (uxS1 rfl (uxS1 rfl hI.2.2.2.2.2.2.2.2.2.2.2.2.2.2.2.2.2.2.2.2.2.1))))))))
    have k_xS2 : xS2 W := by
      rw [hW]
      exact (uxS2 rfl (uxS2 rfl (uxS2 rfl (uxS2 rfl (uxS2 rfl (uxS2 rfl (uxS2 rfl (uxS2 rfl hI.2.2.2.2.2.2.2.2.2.2.2.2.2.2.2.2.2.2.2.2.2.2.1))))))))
    have k_xS3 : xS3 W := by
      rw [hW]
      exact (uxS3 rfl (uxS3 rfl (uxS3 rfl (uxS3 rfl (uxS3 rfl (uxS3 rfl (uxS3 rfl (uxS3 rfl hI.2.2.2.2.2.2.2.2.2.2.2.2.2.2.2.2.2.2.2.2.2.2.2.1))))))))
    have k_xS4 : xS4 W := by
      rw [hW]
      exact (uxS4 rfl (uxS4 rfl (uxS4 rfl (uxS4 rfl (uxS4 rfl (uxS4 rfl (uxS4 rfl (uxS4 rfl hI.2.2.2.2.2.2.2.2.2.2.2.2.2.2.2.2.2.2.2.2.2.2.2.2.1))))))))
    have k_xS5 : xS5 W := by
      rw [hW]
      exact (uxS5 rfl (uxS5 rfl (uxS5 rfl (uxS5 rfl (uxS5 rfl (uxS5 rfl (uxS5 rfl (uxS5 rfl hI.2.2.2.2.2.2.2.2.2.2.2.2.2.2.2.2.2.2.2.2.2.2.2.2.2.1))))))))
    have k_xS6 : xS6 W := by
      rw [hW]
      exact (uxS6 rfl (uxS6 rfl (uxS6 rfl (uxS6 rfl (uxS6 rfl (uxS6 rfl (uxS6 rfl (uxS6 rfl hI.2.2.2.2.2.2.2.2.2.2.2.2.2.2.2.2.2.2.2.2.2.2.2.2.2.2.1))))))))
    have k_xS7 : xS7 W := by
      rw [hW]
      exact (uxS7 rfl (uxS7 rfl (uxS7 rfl (uxS7 rfl (uxS7 rfl (uxS7 rfl (uxS7 rfl (uxS7 rfl hI.2.2.2.2.2.2.2.2.2.2.2.2.2.2.2.2.2.2.2.2.2.2.2.2.2.2.2.1))))))))
    have k_xS8 : xS8 W := by
      rw [hW]
      exact (uxS8 rfl (uxS8 rfl (uxS8 rfl (uxS8 rfl (uxS8 rfl (uxS8 rfl (uxS8 rfl (uxS8 rfl hI.2.2.2.2.2.2.2.2.2.2.2.2.2.2.2.2.2.2.2.2.2.2.2.2.2.2.2.2.1))))))))
    have k_xS9 : xS9 W := by
      rw [hW]
      exact (uxS9 rfl (uxS9 rfl (uxS9 rfl (uxS9 rfl (uxS9 rfl (uxS9 rfl (uxS9 rfl (uxS9 rfl hI.2.2.2.2.2.2.2.2.2.2.2.2.2.2.2.2.2.2.2.2.2.2.2.2.2.2.2.2.2.1))))))))
    have k_xSA : xSA W := by
      rw [hW]
      exact (uxSA rfl (uxSA rfl (uxSA rfl (uxSA rfl (uxSA rfl (uxSA rfl (uxSA rfl (uxSA rfl hI.2.2.2.2.2.2.2.2.2.2.2.2.2.2.2.2.2.2.2.2.2.2.2.2.2.2.2.2.2.2.1))))))))
    have k_xSG : xSG W := by
      rw [hW]
      exact (uxSG rfl (uxSG rfl (uxSG rfl (uxSG rfl (uxSG rfl (uxSG rfl (uxSG rfl (uxSG rfl hI.2.2.2.2.2.2.2.2.2.2.2.2.2.2.2.2.2.2.2.2.2.2.2.2.2.2.2.2.2.2.2.1))))))))
    have k_xSF : xSF W := by
      rw [hW]
      exact (uxSF rfl (uxSF rfl (uxSF rfl (uxSF rfl (uxSF rfl (uxSF rfl (uxSF rfl (uxSF rfl hI.2.2.2.2.2.2.2.2.2.2.2.2.2.2.2.2.2.2.2.2.2.2.2.2.2.2.2.2.2.2.2.2.1))))))))
    have k_xSB : xSB W := by
      rw [hW]
      exact (uxSB rfl (uxSB rfl (uxSB rfl (uxSB rfl (uxSB rfl (uxSB rfl (uxSB rfl (uxSB rfl hI.2.2.2.2.2.2.2.2.2.2.2.2.2.2.2.2.2.2.2.2.2.2.2.2.2.2.2.2.2.2.2.2.2.1))))))))
    have k_xSC : xSC W := by
      rw [hW]
      exact (uxSC rfl (uxSC rfl (uxSC rfl (uxSC rfl (uxSC rfl (uxSC rfl (uxSC rfl (uxSC rfl hI.2.2.2.2.2.2.2.2.2.2.2.2.2.2.2.2.2.2.2.2.2.2.2.2.2.2.2.2.2.2.2.2.2.2.1))))))))
    have k_xSD : xSD W := by
      have r91_240 : W 91 240 = 1 * ρ 0 + 0 := by rw [hW, sU_ne (fun z => by omega), sU_ne (fun z => by omega), sU_ne (fun z => by omega), sU_ne (fun z => by omega), sU_ne (fun z => by omega), sU_ne (fun z => by omega), sU_ne (fun z => by omega), sU_at]
      have r91_241 : W 91 241 = 1 * ρ 1 + 0 := by rw [hW, sU_ne (fun z => by omega), sU_ne (fun z => by omega), sU_ne (fun z => by omega), sU_ne (fun z => by omega), sU_ne (fun z => by omega), sU_ne (fun z => by omega), sU_at]
      have r91_242 : W 91 242 = 5 * ρ 0 + 0 := by rw [hW, sU_ne (fun z => by omega), sU_ne (fun z => by omega), sU_ne (fun z => by omega), sU_ne (fun z => by omega), sU_ne (fun z => by omega), sU_at]
      have r91_243 : W 91 243 = 32 * ρ 1 + 0 := by rw [hW, sU_ne (fun z => by omega), sU_ne (fun z => by omega), sU_ne (fun z => by omega), sU_ne (fun z => by omega), sU_at]
      have r91_244 : W 91 244 = 32 * ρ 1 + 0 := by rw [hW, sU_ne (fun z => by omega), sU_at]
      have r91_245 : W 91 245 = 1 * ρ 2 + 0 := by rw [hW, sU_ne (fun z => by omega), sU_ne (fun z => by omega), sU_ne (fun z => by omega), sU_at]
      have r91_246 : W 91 246 = 0 := by rw [hW, sU_ne (fun z => by omega), sU_ne (fun z => by omega), sU_at]
      have r91_247 : W 91 247 = 32 * ρ 1 + (1 * ρ 2 + 0) := by rw [hW, sU_at]
      intro h
      rw [r91_241, r91_242, r91_243, r91_244, r91_245, r91_246, r91_247]
      have hs : xop 4 (1 * ρ 1 + 0) (5 * ρ 0 + 0) = 32 * ρ 1 + 0 := by
        rw [h0, show ((5 : Int) * 1 + 0) = 5 from rfl, show (1 * ρ 1 + 0 : Int) = ρ 1 by omega, xsh5 (by omega) (by omega)]
        omega
      refine ⟨hs.symm, ?_, ?_⟩
      · have := xor_add (a := 0) (b := 32 * ρ 1) (s := 30) (by omega) (by omega) (by omega) (by omega)
        rw [show (32 * ρ 1 + 0 : Int) = 32 * ρ 1 by omega]
        rw [show ((0 : Int) * 2 ^ 30) = 0 from rfl] at this
        omega
      · rw [show (32 * ρ 1 + 0 : Int) = ρ 1 * 2 ^ 5 by omega, show (1 * ρ 2 + 0 : Int) = ρ 2 by omega, xor_add (by omega) (by omega) (by omega) (by omega)]
        omega
    have k_xSE : xSE W := by
      have r : W 91 249 = 0 := by
        have e := m0
        rw [hW, sU_ne (fun z => by omega), sU_ne (fun z => by omega), sU_ne (fun z => by omega), sU_ne (fun z => by omega), sU_ne (fun z => by omega), sU_ne (fun z => by omega), sU_ne (fun z => by omega), sU_ne (fun z => by omega)]
        omega
      intro h
      rw [r] at h
      omega
    have k_xSW : xSW W := by
      rw [hW]
      exact (uxSW rfl (uxSW rfl (uxSW rfl (uxSW rfl (uxSW rfl (uxSW rfl (uxSW rfl (uxSW rfl hI.2.2.2.2.2.2.2.2.2.2.2.2.2.2.2.2.2.2.2.2.2.2.2.2.2.2.2.2.2.2.2.2.2.2.2.2.2.1))))))))
    have k_xST : xST W := by
      rw [hW]
      exact (uxST rfl (uxST rfl (uxST rfl (uxST rfl (uxST rfl (uxST rfl (uxST rfl (uxST rfl hI.2.2.2.2.2.2.2.2.2.2.2.2.2.2.2.2.2.2.2.2.2.2.2.2.2.2.2.2.2.2.2.2.2.2.2.2.2.2.1))))))))
    have k_xSP : xSP W := by
      rw [hW]
      exact (uxSP rfl (uxSP rfl (uxSP rfl (uxSP rfl (uxSP rfl (uxSP rfl (uxSP rfl (uxSP rfl hI.2.2.2.2.2.2.2.2.2.2.2.2.2.2.2.2.2.2.2.2.2.2.2.2.2.2.2.2.2.2.2.2.2.2.2.2.2.2.2.1))))))))
    have k_xSL : xSL W := by
      rw [hW]
      exact (uxSL rfl (uxSL rfl (uxSL rfl (uxSL rfl (uxSL rfl (uxSL rfl (uxSL rfl (uxSL rfl hI.2.2.2.2.2.2.2.2.2.2.2.2.2.2.2.2.2.2.2.2.2.2.2.2.2.2.2.2.2.2.2.2.2.2.2.2.2.2.2.2.1))))))))
    have k_xSM : xSM W := by
      rw [hW]
      exact (uxSM rfl (uxSM rfl (uxSM rfl (uxSM rfl (uxSM rfl (uxSM rfl (uxSM rfl (uxSM rfl hI.2.2.2.2.2.2.2.2.2.2.2.2.2.2.2.2.2.2.2.2.2.2.2.2.2.2.2.2.2.2.2.2.2.2.2.2.2.2.2.2.2.1))))))))
    have k_xSI : xSI W := by
      rw [hW]
      exact (uxSI rfl (uxSI rfl (uxSI rfl (uxSI rfl (uxSI rfl (uxSI rfl (uxSI rfl (uxSI rfl hI.2.2.2.2.2.2.2.2.2.2.2.2.2.2.2.2.2.2.2.2.2.2.2.2.2.2.2.2.2.2.2.2.2.2.2.2.2.2.2.2.2.2))))))))
    have k_XC : XC W := ⟨k_xS1, k_xS2, k_xS3, k_xS4, k_xS5, k_xS6, k_xS7, k_xS8, k_xS9, k_xSA, k_xSG, k_xSF, k_xSB, k_xSC, k_xSD, k_xSE, k_xSW, k_xST, k_xSP, k_xSL, k_xSM, k_xSI⟩
    have kXB : XB W := ⟨k_xN1, k_xN2, k_xN3, k_xN4, k_xN5, k_xN6, k_xH1, k_xK1, k_xC1, k_xRW, k_xWT, k_xCU, k_xG2, k_xG3, k_xG4, k_xG5, k_xG6, k_XC⟩
    exact ⟨base, k2, k3, kXA, kXB⟩
-- rt5
def xr_539 : qRu := (11, [[(1, 1), (-1, 2), (-32, 3), (-64, 4), (-128, 5), (-256, 6), (-512, 7), (-1024, 8), (-65536, 9), (-131072, 10)], [(-1, 1), (1, 2), (32, 3), (64, 4), (128, 5), (256, 6), (512, 7), (1024, 8), (65536, 9), (131072, 10)], [(1, 2)], [(31, 0), (-1, 2)], [(1, 8)], [(63, 0), (-1, 8)], [(1, 3)], [(1, 0), (-1, 3)], [(1, 4)], [(1, 0), (-1, 4)], [(1, 5)], [(1, 0), (-1, 5)], [(1, 6)], [(1, 0), (-1, 6)], [(1, 7)], [(1, 0), (-1, 7)], [(1, 9)], [(1, 0), (-1, 9)], [(1, 10)], [(1, 0), (-1, 10)]], [], [], [(91, 249, [(1, 0)]), (91, 250, [(1, 1)]), (91, 251, [(5, 0)]), (91, 252, [(1, 11)]), (91, 253, [(1, 3)]), (91, 255, []), (91, 256, [(1, 12)]), (91, 257, [(1, 13)]), (91, 240, [(1, 0)]), (91, 241, [(1, 0)]), (91, 242, [(5, 0)]), (91, 243, [(32, 0)]), (91, 245, []), (91, 246, [(1, 1)]), (91, 244, [(32, 0), (1, 1), (-32, 3)]), (91, 247, [(32, 0)])], [])
theorem xo_539 : qRok xr_539 := by
  intro ρ M h0 hf hm hI
  have f0 := hf [(1, 1), (-1, 2), (-32, 3), (-64, 4), (-128, 5), (-256, 6), (-512, 7), (-1024, 8), (-65536, 9), (-131072, 10)] (by decide)
  have f1 := hf [(-1, 1), (1, 2), (32, 3), (64, 4), (128, 5), (256, 6), (512, 7), (1024, 8), (65536, 9), (131072, 10)] (by decide)
  have f2 := hf [(1, 2)] (by decide)
  have f3 := hf [(31, 0), (-1, 2)] (by decide)
  have f4 := hf [(1, 8)] (by decide)
  have f5 := hf [(63, 0), (-1, 8)] (by decide)
  have f6 := hf [(1, 3)] (by decide)
  have f7 := hf [(1, 0), (-1, 3)] (by decide)
  have f8 := hf [(1, 4)] (by decide)
  have f9 := hf [(1, 0), (-1, 4)] (by decide)
  have f10 := hf [(1, 5)] (by decide)
  have f11 := hf [(1, 0), (-1, 5)] (by decide)
  have f12 := hf [(1, 6)] (by decide)
  have f13 := hf [(1, 0), (-1, 6)] (by decide)
  have f14 := hf [(1, 7)] (by decide)
  have f15 := hf [(1, 0), (-1, 7)] (by decide)
  have f16 := hf [(1, 9)] (by decide)
  have f17 := hf [(1, 0), (-1, 9)] (by decide)
  have f18 := hf [(1, 10)] (by decide)
  have f19 := hf [(1, 0), (-1, 10)] (by decide)
  simp only [qD, h0] at f0 f1 f2 f3 f4 f5 f6 f7 f8 f9 f10 f11 f12 f13 f14 f15 f16 f17 f18 f19
  have qxSD := hI.2.2.2.2.2.2.2.2.2.2.2.2.2.2.2.2.2.2.2.2.2.2.2.2.2.2.2.2.2.2.2.2.2.2.2.1
  have qxSE := hI.2.2.2.2.2.2.2.2.2.2.2.2.2.2.2.2.2.2.2.2.2.2.2.2.2.2.2.2.2.2.2.2.2.2.2.2.1
  have xb := xbit5 (t := ρ 1) (b := ρ 3) (h := 1 * ρ 4 + 2 * ρ 5 + 4 * ρ 6 + 8 * ρ 7 + 16 * ρ 8 + 1024 * ρ 9 + 2048 * ρ 10) (l := 1 * ρ 2) (by omega) (by omega) (by omega) (by omega) (by omega)
  refine ⟨fun a => cond (Nat.blt a 11) (ρ a) (([xop 0 (ρ 1) 5, xop 1 0 32, xop 1 (xop 0 (ρ 1) 5) 255] : List Int).getD (a - 11) 0), fun a ha => ?_, fun f h => ?_, ?_⟩
  · show cond (Nat.blt a 11) (ρ a) _ = ρ a
    rw [show Nat.blt a 11 = true from Nat.ble_eq_true_of_le ha]; rfl
  · exact nomatch h
  · show sI (sU (sU (sU (sU (sU (sU (sU (sU (sU (sU (sU (sU (sU (sU (sU (sU M 91 249 (1 * ρ 0 + 0)) 91 250 (1 * ρ 1 + 0)) 91 251 (5 * ρ 0 + 0)) 91 252 (1 * (xop 0 (ρ 1) 5) + 0)) 91 253 (1 * ρ 3 + 0)) 91 255 (0)) 91 256 (1 * (xop 1 0 32) + 0)) 91 257 (1 * (xop 1 (xop 0 (ρ 1) 5) 255) + 0)) 91 240 (1 * ρ 0 + 0)) 91 241 (1 * ρ 0 + 0)) 91 242 (5 * ρ 0 + 0)) 91 243 (32 * ρ 0 + 0)) 91 245 (0)) 91 246 (1 * ρ 1 + 0)) 91 244 (32 * ρ 0 + (1 * ρ 1 + (-32 * ρ 3 + 0)))) 91 247 (32 * ρ 0 + 0))
    obtain ⟨W, hW⟩ : ∃ W, W = (sU (sU (sU (sU (sU (sU (sU (sU (sU (sU (sU (sU (sU (sU (sU (sU M 91 249 (1 * ρ 0 + 0)) 91 250 (1 * ρ 1 + 0)) 91 251 (5 * ρ 0 + 0)) 91 252 (1 * (xop 0 (ρ 1) 5) + 0)) 91 253 (1 * ρ 3 + 0)) 91 255 (0)) 91 256 (1 * (xop 1 0 32) + 0)) 91 257 (1 * (xop 1 (xop 0 (ρ 1) 5) 255) + 0)) 91 240 (1 * ρ 0 + 0)) 91 241 (1 * ρ 0 + 0)) 91 242 (5 * ρ 0 + 0)) 91 243 (32 * ρ 0 + 0)) 91 245 (0)) 91 246 (1 * ρ 1 + 0)) 91 244 (32 * ρ 0 + (1 * ρ 1 + (-32 * ρ 3 + 0)))) 91 247 (32 * ρ 0 + 0)) := ⟨_, rfl⟩
    rw [← hW]
    have base : sI0 W := by
      rw [hW]
      exact (si_u0 (si_u0 (si_u0 (si_u0 (si_u0 (si_u0 (si_u0 (si_u0 (si_u0 (si_u0 (si_u0 (si_u0 (si_u0 (si_u0 (si_u0 (si_u0 hI.1 (fun r hr => by cases hr)) (fun r hr => by cases hr)) (fun r hr => by cases hr)) (fun r hr => by cases hr)) (fun r hr => by cases hr)) (fun r hr => by cases hr)) (fun r hr => by cases hr)) (fun r hr => by cases hr)) (fun r hr => by cases hr)) (fun r hr => by cases hr)) (fun r hr => by cases hr)) (fun r hr => by cases hr)) (fun r hr => by cases hr)) (fun r hr => by cases hr)) (fun r hr => by cases hr)) (fun r hr => by cases hr))
    have k2 : XI2 W := by
      rw [hW]
      exact (xi2_u rfl (xi2_u rfl (xi2_u rfl (xi2_u rfl (xi2_u rfl (xi2_u rfl (xi2_u rfl (xi2_u rfl (xi2_u rfl (xi2_u rfl (xi2_u rfl (xi2_u rfl (xi2_u rfl (xi2_u rfl (xi2_u rfl (xi2_u rfl hI.2.1))))))))))))))))
    have k3 : XI3 W := by
      rw [hW]
      exact (xi3_u rfl (xi3_u rfl (xi3_u rfl (xi3_u rfl (xi3_u rfl (xi3_u rfl (xi3_u rfl (xi3_u rfl (xi3_u rfl (xi3_u rfl (xi3_u rfl (xi3_u rfl (xi3_u rfl (xi3_u rfl (xi3_u rfl (xi3_u rfl hI.2.2.1))))))))))))))))
    have kXA : XA W := by
      rw [hW]
      exact (uXA rfl (uXA rfl (uXA rfl (uXA rfl (uXA rfl (uXA rfl (uXA rfl (uXA rfl (uXA rfl (uXA rfl (uXA rfl (uXA rfl (uXA rfl (uXA rfl (uXA rfl (uXA rfl hI.2.2.2.1))))))))))))))))
    have k_xN1 : xN1 W := by
      rw [hW]
      exact (uxN1 rfl (uxN1 rfl (uxN1 rfl (uxN1 rfl (uxN1 rfl (uxN1 rfl (uxN1 rfl (uxN1 rfl (uxN1 rfl (uxN1 rfl (uxN1 rfl (uxN1 rfl (uxN1 rfl (uxN1 rfl (uxN1 rfl (uxN1 rfl hI.2.2.2.2.1))))))))))))))))
    have k_xN2 : xN2 W := by
      rw [hW]
      exact (uxN2 rfl (uxN2 rfl (uxN2 rfl (uxN2 rfl (uxN2 rfl (uxN2 rfl (uxN2 rfl (uxN2 rfl (uxN2 rfl (uxN2 rfl (uxN2 rfl (uxN2 rfl (uxN2 rfl (uxN2 rfl (uxN2 rfl (uxN2 rfl hI.2.2.2.2.2.1))))))))))))))))
    have k_xN3 : xN3 W := by
      rw [hW]
      exact (uxN3 rfl (uxN3 rfl (uxN3 rfl (uxN3 rfl (uxN3 rfl (uxN3 rfl (uxN3 rfl (uxN3 rfl (uxN3 rfl (uxN3 rfl (uxN3 rfl (uxN3 rfl (uxN3 rfl (uxN3 rfl (uxN3 rfl (uxN3 rfl hI.2.2.2.2.2.2.1))))))))))))))))
    have k_xN4 : xN4 W := by
      rw [hW]
      exact (uxN4 rfl (uxN4 rfl (uxN4 rfl (uxN4 rfl (uxN4 rfl (uxN4 rfl (uxN4 rfl (uxN4 rfl (uxN4 rfl (uxN4 rfl (uxN4 rfl (uxN4 rfl (uxN4 rfl (uxN4 rfl (uxN4 rfl (uxN4 rfl hI.2.2.2.2.2.2.2.1))))))))))))))))
    have k_xN5 : xN5 W := by
      rw [hW]
      exact (uxN5 rfl (uxN5 rfl (uxN5 rfl (uxN5 rfl (uxN5 rfl (uxN5 rfl (uxN5 rfl (uxN5 rfl (uxN5 rfl (uxN5 rfl (uxN5 rfl (uxN5 rfl (uxN5 rfl (uxN5 rfl (uxN5 rfl (uxN5 rfl hI.2.2.2.2.2.2.2.2.1))))))))))))))))
    have k_xN6 : xN6 W := by
      rw [hW]
      exact (uxN6 rfl (uxN6 rfl (uxN6 rfl (uxN6 rfl (uxN6 rfl (uxN6 rfl (uxN6 rfl (uxN6 rfl (uxN6 rfl (uxN6 rfl (uxN6 rfl (uxN6 rfl (uxN6 rfl (uxN6 rfl (uxN6 rfl (uxN6 rfl hI.2.2.2.2.2.2.2.2.2.1))))))))))))))))
    have k_xH1 : xH1 W := by
      rw [hW]
      exact (uxH1 rfl (uxH1 rfl (uxH1 rfl (uxH1 rfl (uxH1 rfl (uxH1 rfl (uxH1 rfl (uxH1 rfl (uxH1 rfl (uxH1 rfl (uxH1 rfl (uxH1 rfl (uxH1 rfl (uxH1 rfl (uxH1 rfl (uxH1 rfl hI.2.2.2.2.2.2.2.2.2.2.1))))))))))))))))
    have k_xK1 : xK1 W := by
      rw [hW]
      exact (uxK1 rfl (uxK1 rfl (uxK1 rfl (uxK1 rfl (uxK1 rfl (uxK1 rfl (uxK1 rfl (uxK1 rfl (uxK1 rfl (uxK1 rfl (uxK1 rfl (uxK1 rfl (uxK1 rfl (uxK1 rfl (uxK1 rfl (uxK1 rfl hI.2.2.2.2.2.2.2.2.2.2.2.1))))))))))))))))
    have k_xC1 : xC1 W := by
      rw [hW]
      exact (uxC1 rfl (uxC1 rfl (uxC1 rfl (uxC1 rfl (uxC1 rfl (uxC1 rfl (uxC1 rfl (uxC1 rfl (uxC1 rfl (uxC1 rfl (uxC1 rfl (uxC1 rfl (uxC1 rfl (uxC1 rfl (uxC1 rfl (uxC1 rfl hI.2.2.2.2.2.2.2.2.2.2.2.2.1))))))))))))))))
    have k_xRW : xRW W := by
      rw [hW]
      exact (uxRW rfl (uxRW rfl (uxRW rfl (uxRW rfl (uxRW rfl (uxRW rfl (uxRW rfl (uxRW rfl (uxRW rfl (uxRW rfl (uxRW rfl (uxRW rfl (uxRW rfl (uxRW rfl (uxRW rfl (uxRW rfl hI.2.2.2.2.2.2.2.2.2.2.2.2.2.1))))))))))))))))
    have k_xWT : xWT W := by
      rw [hW]
      exact (uxWT rfl (uxWT rfl (uxWT rfl (uxWT rfl (uxWT rfl (uxWT rfl (uxWT rfl (uxWT rfl (uxWT rfl (uxWT rfl (uxWT rfl (uxWT rfl (uxWT rfl (uxWT rfl (uxWT rfl (uxWT rfl hI.2.2.2.2.2.2.2.2.2.2.2.2.2.2.1))))))))))))))))
    have k_xCU : xCU W := by
      rw [hW]
      exact (uxCU rfl (uxCU rfl (uxCU rfl (uxCU rfl (uxCU rfl (uxCU rfl (uxCU rfl (uxCU rfl (uxCU rfl (uxCU rfl (uxCU rfl (uxCU rfl (uxCU rfl (uxCU rfl (uxCU rfl (uxCU rfl hI.2.2.2.2.2.2.2.2.2.2.2.2.2.2.2.1))))))))))))))))
    have k_xG2 : xG2 W := by
      rw [hW]
      exact (uxG2 rfl (uxG2 rfl (uxG2 rfl (uxG2 rfl (uxG2 rfl (uxG2 rfl (uxG2 rfl (uxG2 rfl (uxG2 rfl (uxG2 rfl (uxG2 rfl (uxG2 rfl (uxG2 rfl (uxG2 rfl (uxG2 rfl (uxG2 rfl hI.2.2.2.2.2.2.2.2.2.2.2.2.2.2.2.2.1))))))))))))))))
    have k_xG3 : xG3 W := by
      rw [hW]
      exact (uxG3 rfl (uxG3 rfl (uxG3 rfl (uxG3 rfl (uxG3 rfl (uxG3 rfl (uxG3 rfl (uxG3 rfl (uxG3 rfl (uxG3 rfl (uxG3 rfl (uxG3 rfl (uxG3 rfl (uxG3 rfl (uxG3 rfl (uxG3 rfl hI.2.2.2.2.2.2.2.2.2.2.2.2.2.2.2.2.2.1))))))))))))))))
    have k_xG4 : xG4 W := by
      rw [hW]
      exact (uxG4 rfl (uxG4 rfl (uxG4 rfl (uxG4 rfl (uxG4 rfl (uxG4 rfl (uxG4 rfl (uxG4 rfl (uxG4 rfl (uxG4 rfl (uxG4 rfl (uxG4 rfl (uxG4 rfl (uxG4 rfl (uxG4 rfl (uxG4 rfl hI.2.2.2.2.2.2.2.2.2.2.2.2.2.2.2.2.2.2.1))))))))))))))))
    have k_xG5 : xG5 W := by
      rw [hW]
      exact (uxG5 rfl (uxG5 rfl (uxG5 rfl (uxG5 rfl (uxG5 rfl (uxG5 rfl (uxG5 rfl (uxG5 rfl (uxG5 rfl (uxG5 rfl (uxG5 rfl (uxG5 rfl (uxG5 rfl (uxG5 rfl (uxG5 rfl (uxG5 rfl hI.2.2.2.2.2.2.2.2.2.2.2.2.2.2.2.2.2.2.2.1))))))))))))))))
    have k_xG6 : xG6 W := by
      rw [hW]
      exact (uxG6 rfl (uxG6 rfl (uxG6 rfl (uxG6 rfl (uxG6 rfl (uxG6 rfl (uxG6 rfl (uxG6 rfl (uxG6 rfl (uxG6 rfl (uxG6 rfl (uxG6 rfl (uxG6 rfl (uxG6 rfl (uxG6 rfl (uxG6 rfl hI.2.2.2.2.2.2.2.2.2.2.2.2.2.2.2.2.2.2.2.2.1))))))))))))))))
    have k_xS1 : xS1 W := by
      rw [hW]
      exact (uxS1 rfl (uxS1 rfl (uxS1 rfl (uxS1 rfl (uxS1 rfl (uxS1 rfl (uxS1 rfl (uxS1 rfl (uxS1 rfl (uxS1 rfl (uxS1 rfl (uxS1 rfl (uxS1 rfl (uxS1 rfl (uxS1 rfl (uxS1 rfl hI.2.2.2.2.2.2.2.2.2.2.2.2.2.2.2.2.2.2.2.2.2.1))))))))))))))))
    have k_xS2 : xS2 W := by
      rw [hW]
      exact (uxS2 rfl (uxS2 rfl (uxS2 rfl (uxS2 rfl (uxS2 rfl (uxS2 rfl (uxS2 rfl (uxS2 rfl (uxS2 rfl (uxS2 rfl (uxS2 rfl (uxS2 rfl (uxS2 rfl (uxS2 rfl (uxS2 rfl (uxS2 rfl hI.2.2.2.2.2.2.2.2.2.2.2.2.2.2.2.2.2.2.2.2.2.2.1))))))))))))))))
    have k_xS3 : xS3 W := by
      rw [hW]
      exact (uxS3 rfl (uxS3 rfl (uxS3 rfl (uxS3 rfl (uxS3 rfl (uxS3 rfl (uxS3 rfl (uxS3 rfl (uxS3 rfl (uxS3 rfl (uxS3 rfl (uxS3 rfl (uxS3 rfl (uxS3 rfl (uxS3 rfl (uxS3 rfl hI.2.2.2.2.2.2.2.2.2.2.2.2.2.2.2.2.2.2.2.2.2.2.2.1))))))))))))))))
    have k_xS4 : xS4 W := by
      rw [hW]
      exact (uxS4 rfl (uxS4 rfl (uxS4 rfl (uxS4 rfl (uxS4 rfl (uxS4 rfl (uxS4 rfl (uxS4 rfl (uxS4 rfl (uxS4 rfl (uxS4 rfl (uxS4 rfl (uxS4 rfl (uxS4 rfl (uxS4 rfl (uxS4 rfl hI.2.2.2.2.2.2.2.2.2.2.2.2.2.2.2.2.2.2.2.2.2.2.2.2.1))))))))))))))))
    have k_xS5 : xS5 W := by
      rw [hW]
      exact (uxS5 rfl (uxS5 rfl (uxS5 rfl (uxS5 rfl (uxS5 rfl (uxS5 rfl (uxS5 rfl (uxS5 rfl (uxS5 rfl (uxS5 rfl (uxS5 rfl (uxS5 rfl (uxS5 rfl (uxS5 rfl (uxS5 rfl (uxS5 rfl hI.2.2.2.2.2.2.2.2.2.2.2.2.2.2.2.2.2.2.2.2.2.2.2.2.2.1))))))))))))))))
    have k_xS6 : xS6 W := by
      rw [hW]
      exact (uxS6 rfl (uxS6 rfl (uxS6 rfl (uxS6 rfl (uxS6 rfl (uxS6 rfl (uxS6 rfl (uxS6 rfl (uxS6 rfl (uxS6 rfl (uxS6 rfl (uxS6 rfl (uxS6 rfl (uxS6 rfl (uxS6 rfl (uxS6 rfl hI.2.2.2.2.2.2.2.2.2.2.2.2.2.2.2.2.2.2.2.2.2.2.2.2.2.2.1))))))))))))))))
    have k_xS7 : xS7 W := by
      rw [hW]
      exact (uxS7 rfl (uxS7 rfl (uxS7 rfl (uxS7 rfl (uxS7 rfl (uxS7 rfl (uxS7 rfl (uxS7 rfl (uxS7 rfl (uxS7 rfl (uxS7 rfl (uxS7 rfl (uxS7 rfl (uxS7 rfl (uxS7 rfl (uxS7 rfl hI.2.2.2.2.2.2.2.2.2.2.2.2.2.2.2.2.2.2.2.2.2.2.2.2.2.2.2.1))))))))))))))))
    have k_xS8 : xS8 W := by
      rw [hW]
      exact (uxS8 rfl (uxS8 rfl (uxS8 rfl (uxS8 rfl (uxS8 rfl (uxS8 rfl (uxS8 rfl (uxS8 rfl (uxS8 rfl (uxS8 rfl (uxS8 rfl (uxS8 rfl (uxS8 rfl (uxS8 rfl (uxS8 rfl (uxS8 rfl hI.2.2.2.2.2.2.2.2.2.2.2.2.2.2.2.2.2.2.2.2.2.2.2.2.2.2.2.2.1))))))))))))))))
    have k_xS9 : xS9 W := by
      rw [hW]
      exact (uxS9 rfl (uxS9 rfl (uxS9 rfl (uxS9 rfl (uxS9 rfl (uxS9 rfl (uxS9 rfl (uxS9 rfl (uxS9 rfl (uxS9 rfl (uxS9 rfl (uxS9 rfl (uxS9 rfl (uxS9 rfl (uxS9 rfl (uxS9 rfl hI.2.2.2.2.2.2.2.2.2.2.2.2.2.2.2.2.2.2.2.2.2.2.2.2.2.2.2.2.2.1))))))))))))))))
    have k_xSA : xSA W := by
      rw [hW]
      exact (uxSA rfl (uxSA rfl (uxSA rfl (uxSA rfl (uxSA rfl (uxSA rfl (uxSA rfl (uxSA rfl (uxSA rfl (uxSA rfl (uxSA rfl (uxSA rfl (uxSA rfl (uxSA rfl (uxSA rfl (uxSA rfl hI.2.2.2.2.2.2.2.2.2.2.2.2.2.2.2.2.2.2.2.2.2.2.2.2.2.2.2.2.2.2.1))))))))))))))))
    have k_xSG : xSG W := by
      rw [hW]
      exact (uxSG rfl (uxSG rfl (uxSG rfl (uxSG rfl (uxSG rfl (uxSG rfl (uxSG rfl (uxSG rfl (uxSG rfl (uxSG rfl (uxSG rfl (uxSG rfl (uxSG rfl (uxSG rfl (uxSG rfl (uxSG rfl hI.2.2.2.2.2.2.2.2.2.2.2.2.2.2.2.2.2.2.2.2.2.2.2.2.2.2.2.2.2.2.2.1))))))))))))))))
    have k_xSF : xSF W := by
      rw [hW]
      exact (uxSF rfl (uxSF rfl (uxSF rfl (uxSF rfl (uxSF rfl (uxSF rfl (uxSF rfl (uxSF rfl (uxSF rfl (uxSF rfl (uxSF rfl (uxSF rfl (uxSF rfl (uxSF rfl (uxSF rfl (uxSF rfl hI.2.2.2.2.2.2.2.2.2.2.2.2.2.2.2.2.2.2.2.2.2.2.2.2.2.2.2.2.2.2.2.2.1))))))))))))))))
    have k_xSB : xSB W := by
      rw [hW]
      exact (uxSB rfl (uxSB rfl (uxSB rfl (uxSB rfl (uxSB rfl (uxSB rfl (uxSB rfl (uxSB rfl (uxSB rfl (uxSB rfl (uxSB rfl (uxSB rfl (uxSB rfl (uxSB rfl (uxSB rfl (uxSB rfl hI.2.2.2.2.2.2.2.2.2.2.2.2.2.2.2.2.2.2.2.2.2.2.2.2.2.2.2.2.2.2.2.2.2.1))))))))))))))))
    have k_xSC : xSC W := by
      rw [hW]
      exact (uxSC rfl (uxSC rfl (uxSC rfl (uxSC rfl (uxSC rfl (uxSC rfl (uxSC rfl (uxSC rfl (uxSC rfl (uxSC rfl (uxSC rfl (uxSC rfl (uxSC rfl (uxSC rfl (uxSC rfl (uxSC rfl hI.2.2.2.2.2.2.2.2.2.2.2.2.2.2.2.2.2.2.2.2.2.2.2.2.2.2.2.2.2.2.2.2.2.2.1))))))))))))))))
    have k_xSD : xSD W := by
      have r91_240 : W 91 240 = 1 * ρ 0 + 0 := by rw [hW, sU_ne (fun z => by omega), sU_ne (fun z => by omega), sU_ne (fun z => by omega), sU_ne (fun z => by omega), sU_ne (fun z => by omega), sU_ne (fun z => by omega), sU_ne (fun z => by omega), sU_at]
      have r91_241 : W 91 241 = 1 * ρ 0 + 0 := by rw [hW, sU_ne (fun z => by omega), sU_ne (fun z => by omega), sU_ne (fun z => by omega), sU_ne (fun z => by omega), sU_ne (fun z => by omega), sU_ne (fun z => by omega), sU_at]
      have r91_242 : W 91 242 = 5 * ρ 0 + 0 := by rw [hW, sU_ne (fun z => by omega), sU_ne (fun z => by omega), sU_ne (fun z => by omega), sU_ne (fun z => by omega), sU_ne (fun z => by omega), sU_at]
      have r91_243 : W 91 243 = 32 * ρ 0 + 0 := by rw [hW, sU_ne (fun z => by omega), sU_ne (fun z => by omega), sU_ne (fun z => by omega), sU_ne (fun z => by omega), sU_at]
      have r91_244 : W 91 244 = 32 * ρ 0 + (1 * ρ 1 + (-32 * ρ 3 + 0)) := by rw [hW, sU_ne (fun z => by omega), sU_at]
      have r91_245 : W 91 245 = 0 := by rw [hW, sU_ne (fun z => by omega), sU_ne (fun z => by omega), sU_ne (fun z => by omega), sU_at]
      have r91_246 : W 91 246 = 1 * ρ 1 + 0 := by rw [hW, sU_ne (fun z => by omega), sU_ne (fun z => by omega), sU_at]
      have r91_247 : W 91 247 = 32 * ρ 0 + 0 := by rw [hW, sU_at]
      intro h
      rw [r91_241, r91_242, r91_243, r91_244, r91_245, r91_246, r91_247, h0]
      refine ⟨by decide, ?_, by decide⟩
      rw [show ((32 : Int) * 1 + 0) = 32 from rfl, show (1 * ρ 1 + 0 : Int) = ρ 1 by omega, xb.2]
      omega
    have k_xSE : xSE W := by
      have r91_249 : W 91 249 = 1 * ρ 0 + 0 := by rw [hW, sU_ne (fun z => by omega), sU_ne (fun z => by omega), sU_ne (fun z => by omega), sU_ne (fun z => by omega), sU_ne (fun z => by omega), sU_ne (fun z => by omega), sU_ne (fun z => by omega), sU_ne (fun z => by omega), sU_ne (fun z => by omega), sU_ne (fun z => by omega), sU_ne (fun z => by omega), sU_ne (fun z => by omega), sU_ne (fun z => by omega), sU_ne (fun z => by omega), sU_ne (fun z => by omega), sU_at]
      have r91_250 : W 91 250 = 1 * ρ 1 + 0 := by rw [hW, sU_ne (fun z => by omega), sU_ne (fun z => by omega), sU_ne (fun z => by omega), sU_ne (fun z => by omega), sU_ne (fun z => by omega), sU_ne (fun z => by omega), sU_ne (fun z => by omega), sU_ne (fun z => by omega), sU_ne (fun z => by omega), sU_ne (fun z => by omega), sU_ne (fun z => by omega), sU_ne (fun z => by omega), sU_ne (fun z => by omega), sU_ne (fun z => by omega), sU_at]
      have r91_251 : W 91 251 = 5 * ρ 0 + 0 := by rw [hW, sU_ne (fun z => by omega), sU_ne (fun z => by omega), sU_ne (fun z => by omega), sU_ne (fun z => by omega), sU_ne (fun z => by omega), sU_ne (fun z => by omega), sU_ne (fun z => by omega), sU_ne (fun z => by omega), sU_ne (fun z => by omega), sU_ne (fun z => by omega), sU_ne (fun z => by omega), sU_ne (fun z => by omega), sU_ne (fun z => by omega), sU_at]
      have r91_252 : W 91 252 = 1 * (xop 0 (ρ 1) 5) + 0 := by rw [hW, sU_ne (fun z => by omega), sU_ne (fun z => by omega), sU_ne (fun z => by omega), sU_ne (fun z => by omega), sU_ne (fun z => by omega), sU_ne (fun z => by omega), sU_ne (fun z => by omega), sU_ne (fun z => by omega), sU_ne (fun z => by omega), sU_ne (fun z => by omega), sU_ne (fun z => by omega), sU_ne (fun z => by omega), sU_at]
      have r91_253 : W 91 253 = 1 * ρ 3 + 0 := by rw [hW, sU_ne (fun z => by omega), sU_ne (fun z => by omega), sU_ne (fun z => by omega), sU_ne (fun z => by omega), sU_ne (fun z => by omega), sU_ne (fun z => by omega), sU_ne (fun z => by omega), sU_ne (fun z => by omega), sU_ne (fun z => by omega), sU_ne (fun z => by omega), sU_ne (fun z => by omega), sU_at]
      have r91_255 : W 91 255 = 0 := by rw [hW, sU_ne (fun z => by omega), sU_ne (fun z => by omega), sU_ne (fun z => by omega), sU_ne (fun z => by omega), sU_ne (fun z => by omega), sU_ne (fun z => by omega), sU_ne (fun z => by omega), sU_ne (fun z => by omega), sU_ne (fun z => by omega), sU_ne (fun z => by omega), sU_at]
      have r91_256 : W 91 256 = 1 * (xop 1 0 32) + 0 := by rw [hW, sU_ne (fun z => by omega), sU_ne (fun z => by omega), sU_ne (fun z => by omega), sU_ne (fun z => by omega), sU_ne (fun z => by omega), sU_ne (fun z => by omega), sU_ne (fun z => by omega), sU_ne (fun z => by omega), sU_ne (fun z => by omega), sU_at]
      have r91_243 : W 91 243 = 32 * ρ 0 + 0 := by rw [hW, sU_ne (fun z => by omega), sU_ne (fun z => by omega), sU_ne (fun z => by omega), sU_ne (fun z => by omega), sU_at]
      have r91_257 : W 91 257 = 1 * (xop 1 (xop 0 (ρ 1) 5) 255) + 0 := by rw [hW, sU_ne (fun z => by omega), sU_ne (fun z => by omega), sU_ne (fun z => by omega), sU_ne (fun z => by omega), sU_ne (fun z => by omega), sU_ne (fun z => by omega), sU_ne (fun z => by omega), sU_ne (fun z => by omega), sU_at]
      intro h
      rw [r91_243, r91_250, r91_251, r91_252, r91_253, r91_255, r91_256, r91_257, h0]
      rw [show ((5 : Int) * 1 + 0) = 5 from rfl, show (1 * ρ 1 + 0 : Int) = ρ 1 by omega, show ((32 : Int) * 1 + 0) = 32 from rfl]
      refine ⟨by omega, ?_, by omega, ?_⟩
      · rw [show (1 * (xop 0 (ρ 1) 5) + 0 : Int) = xop 0 (ρ 1) 5 by omega, xb.1]
        omega
      · rw [show (1 * (xop 0 (ρ 1) 5) + 0 : Int) = xop 0 (ρ 1) 5 by omega]
        omega
    have k_xSW : xSW W := by
      rw [hW]
      exact (uxSW rfl (uxSW rfl (uxSW rfl (uxSW rfl (uxSW rfl (uxSW rfl (uxSW rfl (uxSW rfl (uxSW rfl (uxSW rfl (uxSW rfl (uxSW rfl (uxSW rfl (uxSW rfl (uxSW rfl (uxSW rfl hI.2.2.2.2.2.2.2.2.2.2.2.2.2.2.2.2.2.2.2.2.2.2.2.2.2.2.2.2.2.2.2.2.2.2.2.2.2.1))))))))))))))))
    have k_xST : xST W := by
      rw [hW]
      exact (uxST rfl (uxST rfl (uxST rfl (uxST rfl (uxST rfl (uxST rfl (uxST rfl (uxST rfl (uxST rfl (uxST rfl (uxST rfl (uxST rfl (uxST rfl (uxST rfl (uxST rfl (uxST rfl hI.2.2.2.2.2.2.2.2.2.2.2.2.2.2.2.2.2.2.2.2.2.2.2.2.2.2.2.2.2.2.2.2.2.2.2.2.2.2.1))))))))))))))))
    have k_xSP : xSP W := by
      rw [hW]
      exact (uxSP rfl (uxSP rfl (uxSP rfl (uxSP rfl (uxSP rfl (uxSP rfl (uxSP rfl (uxSP rfl (uxSP rfl (uxSP rfl (uxSP rfl (uxSP rfl (uxSP rfl (uxSP rfl (uxSP rfl (uxSP rfl hI.2.2.2.2.2.2.2.2.2.2.2.2.2.2.2.2.2.2.2.2.2.2.2.2.2.2.2.2.2.2.2.2.2.2.2.2.2.2.2.1))))))))))))))))
    have k_xSL : xSL W := by
      rw [hW]
      exact (uxSL rfl (uxSL rfl (uxSL rfl (uxSL rfl (uxSL rfl (uxSL rfl (uxSL rfl (uxSL rfl (uxSL rfl (uxSL rfl (uxSL rfl (uxSL rfl (uxSL rfl (uxSL rfl (uxSL rfl (uxSL rfl hI.2.2.2.2.2.2.2.2.2.2.2.2.2.2.2.2.2.2.2.2.2.2.2.2.2.2.2.2.2.2.2.2.2.2.2.2.2.2.2.2.1))))))))))))))))
    have k_xSM : xSM W := by
      rw [hW]
      exact (uxSM rfl (uxSM rfl (uxSM rfl (uxSM rfl (uxSM rfl (uxSM rfl (uxSM rfl (uxSM rfl (uxSM rfl (uxSM rfl (uxSM rfl (uxSM rfl (uxSM rfl (uxSM rfl (uxSM rfl (uxSM rfl hI.2.2.2.2.2.2.2.2.2.2.2.2.2.2.2.2.2.2.2.2.2.2.2.2.2.2.2.2.2.2.2.2.2.2.2.2.2.2.2.2.2.1))))))))))))))))
    have k_xSI : xSI W := by
      rw [hW]
      exact (uxSI rfl (uxSI rfl (uxSI rfl (uxSI rfl (uxSI rfl (uxSI rfl (uxSI rfl (uxSI rfl (uxSI rfl (uxSI rfl (uxSI rfl (uxSI rfl (uxSI rfl (uxSI rfl (uxSI rfl (uxSI rfl hI.2.2.2.2.2.2.2.2.2.2.2.2.2.2.2.2.2.2.2.2.2.2.2.2.2.2.2.2.2.2.2.2.2.2.2.2.2.2.2.2.2.2))))))))))))))))
    have k_XC : XC W := ⟨k_xS1, k_xS2, k_xS3, k_xS4, k_xS5, k_xS6, k_xS7, k_xS8, k_xS9, k_xSA, k_xSG, k_xSF, k_xSB, k_xSC, k_xSD, k_xSE, k_xSW, k_xST, k_xSP, k_xSL, k_xSM, k_xSI⟩
    have kXB : XB W := ⟨k_xN1, k_xN2, k_xN3, k_xN4, k_xN5, k_xN6, k_xH1, k_xK1, k_xC1, k_xRW, k_xWT, k_xCU, k_xG2, k_xG3, k_xG4, k_xG5, k_xG6, k_XC⟩
    exact ⟨base, k2, k3, kXA, kXB⟩
-- rt6
def xr_540 : qRu := (11, [[(1, 1), (-1, 2), (-32, 3), (-64, 4), (-128, 5), (-256, 6), (-512, 7), (-1024, 8), (-65536, 9), (-131072, 10)], [(-1, 1), (1, 2), (32, 3), (64, 4), (128, 5), (256, 6), (512, 7), (1024, 8), (65536, 9), (131072, 10)], [(1, 2)], [(31, 0), (-1, 2)], [(1, 8)], [(63, 0), (-1, 8)], [(1, 3)], [(1, 0), (-1, 3)], [(1, 4)], [(1, 0), (-1, 4)], [(1, 5)], [(1, 0), (-1, 5)], [(1, 6)], [(1, 0), (-1, 6)], [(1, 7)], [(1, 0), (-1, 7)], [(1, 9)], [(1, 0), (-1, 9)], [(1, 10)], [(1, 0), (-1, 10)]], [], [], [(91, 249, [(1, 0)]), (91, 250, [(1, 1)]), (91, 251, [(6, 0)]), (91, 252, [(1, 11)]), (91, 253, [(1, 4)]), (91, 255, []), (91, 256, [(1, 12)]), (91, 257, [(1, 13)]), (91, 240, [(1, 0)]), (91, 241, [(1, 0)]), (91, 242, [(6, 0)]), (91, 243, [(64, 0)]), (91, 245, []), (91, 246, [(1, 1)]), (91, 244, [(64, 0), (1, 1), (-64, 4)]), (91, 247, [(64, 0)])], [])
theorem xo_540 : qRok xr_540 := by
  intro ρ M h0 hf hm hI
  have f0 := hf [(1, 1), (-1, 2), (-32, 3), (-64, 4), (-128, 5), (-256, 6), (-512, 7), (-1024, 8), (-65536, 9), (-131072, 10)] (by decide)
  have f1 := hf [(-1, 1), (1, 2), (32, 3), (64, 4), (128, 5), (256, 6), (512, 7), (1024, 8), (65536, 9), (131072, 10)] (by decide)
  have f2 := hf [(1, 2)] (by decide)
  have f3 := hf [(31, 0), (-1, 2)] (by decide)
  have f4 := hf [(1, 8)] (by decide)
  have f5 := hf [(63, 0), (-1, 8)] (by decide)
  have f6 := hf [(1, 3)] (by decide)
  have f7 := hf [(1, 0), (-1, 3)] (by decide)
  have f8 := hf [(1, 4)] (by decide)
  have f9 := hf [(1, 0), (-1, 4)] (by decide)
  have f10 := hf [(1, 5)] (by decide)
  have f11 := hf [(1, 0), (-1, 5)] (by decide)
  have f12 := hf [(1, 6)] (by decide)
  have f13 := hf [(1, 0), (-1, 6)] (by decide)
  have f14 := hf [(1, 7)] (by decide)
  have f15 := hf [(1, 0), (-1, 7)] (by decide)
  have f16 := hf [(1, 9)] (by decide)
  have f17 := hf [(1, 0), (-1, 9)] (by decide)
  have f18 := hf [(1, 10)] (by decide)
  have f19 := hf [(1, 0), (-1, 10)] (by decide)
  simp only [qD, h0] at f0 f1 f2 f3 f4 f5 f6 f7 f8 f9 f10 f11 f12 f13 f14 f15 f16 f17 f18 f19
  have qxSD := hI.2.2.2.2.2.2.2.2.2.2.2.2.2.2.2.2.2.2.2.2.2.2.2.2.2.2.2.2.2.2.2.2.2.2.2.1
  have qxSE := hI.2.2.2.2.2.2.2.2.2.2.2.2.2.2.2.2.2.2.2.2.2.2.2.2.2.2.2.2.2.2.2.2.2.2.2.2.1
  have xb := xbit6 (t := ρ 1) (b := ρ 4) (h := 1 * ρ 5 + 2 * ρ 6 + 4 * ρ 7 + 8 * ρ 8 + 512 * ρ 9 + 1024 * ρ 10) (l := 1 * ρ 2 + 32 * ρ 3) (by omega) (by omega) (by omega) (by omega) (by omega)
  refine ⟨fun a => cond (Nat.blt a 11) (ρ a) (([xop 0 (ρ 1) 6, xop 1 0 64, xop 1 (xop 0 (ρ 1) 6) 255] : List Int).getD (a - 11) 0), fun a ha => ?_, fun f h => ?_, ?_⟩
  · show cond (Nat.blt a 11) (ρ a) _ = ρ a
    rw [show Nat.blt a 11 = true from Nat.ble_eq_true_of_le ha]; rfl
  · exact nomatch h
  · show sI (sU (sU (sU (sU (sU (sU (sU (sU (sU (sU (sU (sU (sU (sU (sU (sU M 91 249 (1 * ρ 0 + 0)) 91 250 (1 * ρ 1 + 0)) 91 251 (6 * ρ 0 + 0)) 91 252 (1 * (xop 0 (ρ 1) 6) + 0)) 91 253 (1 * ρ 4 + 0)) 91 255 (0)) 91 256 (1 * (xop 1 0 64) + 0)) 91 257 (1 * (xop 1 (xop 0 (ρ 1) 6) 255) + 0)) 91 240 (1 * ρ 0 + 0)) 91 241 (1 * ρ 0 + 0)) 91 242 (6 * ρ 0 + 0)) 91 243 (64 * ρ 0 + 0)) 91 245 (0)) 91 246 (1 * ρ 1 + 0)) 91 244 (64 * ρ 0 + (1 * ρ 1 + (-64 * ρ 4 + 0)))) 91 247 (64 * ρ 0 + 0))
    obtain ⟨W, hW⟩ : ∃ W, W = (sU (sU (sU (sU (sU (sU (sU (sU (sU (sU (sU (sU (sU (sU (sU (sU M 91 249 (1 * ρ 0 + 0)) 91 250 (1 * ρ 1 + 0)) 91 251 (6 * ρ 0 + 0)) 91 252 (1 * (xop 0 (ρ 1) 6) + 0)) 91 253 (1 * ρ 4 + 0)) 91 255 (0)) 91 256 (1 * (xop 1 0 64) + 0)) 91 257 (1 * (xop 1 (xop 0 (ρ 1) 6) 255) + 0)) 91 240 (1 * ρ 0 + 0)) 91 241 (1 * ρ 0 + 0)) 91 242 (6 * ρ 0 + 0)) 91 243 (64 * ρ 0 + 0)) 91 245 (0)) 91 246 (1 * ρ 1 + 0)) 91 244 (64 * ρ 0 + (1 * ρ 1 + (-64 * ρ 4 + 0)))) 91 247 (64 * ρ 0 + 0)) := ⟨_, rfl⟩
    rw [← hW]
    have base : sI0 W := by
      rw [hW]
      exact (si_u0 (si_u0 (si_u0 (si_u0 (si_u0 (si_u0 (si_u0 (si_u0 (si_u0 (si_u0 (si_u0 (si_u0 (si_u0 (si_u0 (si_u0 (si_u0 hI.1 (fun r hr => by cases hr)) (fun r hr => by cases hr)) (fun r hr => by cases hr)) (fun r hr => by cases hr)) (fun r hr => by cases hr)) (fun r hr => by cases hr)) (fun r hr => by cases hr)) (fun r hr => by cases hr)) (fun r hr => by cases hr)) (fun r hr => by cases hr)) (fun r hr => by cases hr)) (fun r hr => by cases hr)) (fun r hr => by cases hr)) (fun r hr => by cases hr)) (fun r hr => by cases hr)) (fun r hr => by cases hr))
    have k2 : XI2 W := by
      rw [hW]
      exact (xi2_u rfl (xi2_u rfl (xi2_u rfl (xi2_u rfl (xi2_u rfl (xi2_u rfl (xi2_u rfl (xi2_u rfl (xi2_u rfl (xi2_u rfl (xi2_u rfl (xi2_u rfl (xi2_u rfl (xi2_u rfl (xi2_u rfl (xi2_u rfl hI.2.1))))))))))))))))
    have k3 : XI3 W := by
      rw [hW]
      exact (xi3_u rfl (xi3_u rfl (xi3_u rfl (xi3_u rfl (xi3_u rfl (xi3_u rfl (xi3_u rfl (xi3_u rfl (xi3_u rfl (xi3_u rfl (xi3_u rfl (xi3_u rfl (xi3_u rfl (xi3_u rfl (xi3_u rfl (xi3_u rfl hI.2.2.1))))))))))))))))
    have kXA : XA W := by
      rw [hW]
      exact (uXA rfl (uXA rfl (uXA rfl (uXA rfl (uXA rfl (uXA rfl (uXA rfl (uXA rfl (uXA rfl (uXA rfl (uXA rfl (uXA rfl (uXA rfl (uXA rfl (uXA rfl (uXA rfl hI.2.2.2.1))))))))))))))))
    have k_xN1 : xN1 W := by
      rw [hW]
      exact (uxN1 rfl (uxN1 rfl (uxN1 rfl (uxN1 rfl (uxN1 rfl (uxN1 rfl (uxN1 rfl (uxN1 rfl (uxN1 rfl (uxN1 rfl (uxN1 rfl (uxN1 rfl (uxN1 rfl (uxN1 rfl (uxN1 rfl (uxN1 rfl hI.2.2.2.2.1))))))))))))))))
    have k_xN2 : xN2 W := by
      rw [hW]
      exact (uxN2 rfl (uxN2 rfl (uxN2 rfl (uxN2 rfl (uxN2 rfl (uxN2 rfl (uxN2 rfl (uxN2 rfl (uxN2 rfl (uxN2 rfl (uxN2 rfl (uxN2 rfl (uxN2 rfl (uxN2 rfl (uxN2 rfl (uxN2 rfl hI.2.2.2.2.2.1))))))))))))))))
    have k_xN3 : xN3 W := by
      rw [hW]
      exact (uxN3 rfl (uxN3 rfl (uxN3 rfl (uxN3 rfl (uxN3 rfl (uxN3 rfl (uxN3 rfl (uxN3 rfl (uxN3 rfl (uxN3 rfl (uxN3 rfl (uxN3 rfl (uxN3 rfl (uxN3 rfl (uxN3 rfl (uxN3 rfl hI.2.2.2.2.2.2.1))))))))))))))))
    have k_xN4 : xN4 W := by
      rw [hW]
      exact (uxN4 rfl (uxN4 rfl (uxN4 rfl (uxN4 rfl (uxN4 rfl (uxN4 rfl (uxN4 rfl (uxN4 rfl (uxN4 rfl (uxN4 rfl (uxN4 rfl (uxN4 rfl (uxN4 rfl (uxN4 rfl (uxN4 rfl (uxN4 rfl hI.2.2.2.2.2.2.2.1))))))))))))))))
    have k_xN5 : xN5 W := by
      rw [hW]
      exact (uxN5 rfl (uxN5 rfl (uxN5 rfl (uxN5 rfl (uxN5 rfl (uxN5 rfl (uxN5 rfl (uxN5 rfl (uxN5 rfl (uxN5 rfl (uxN5 rfl (uxN5 rfl (uxN5 rfl (uxN5 rfl (uxN5 rfl (uxN5 rfl hI.2.2.2.2.2.2.2.2.1))))))))))))))))
    have k_xN6 : xN6 W := by
      rw [hW]
      exact (uxN6 rfl (uxN6 rfl (uxN6 rfl (uxN6 rfl (uxN6 rfl (uxN6 rfl (uxN6 rfl (uxN6 rfl (uxN6 rfl (uxN6 rfl (uxN6 rfl (uxN6 rfl (uxN6 rfl (uxN6 rfl (uxN6 rfl (uxN6 rfl hI.2.2.2.2.2.2.2.2.2.1))))))))))))))))
    have k_xH1 : xH1 W := by
      rw [hW]
      exact (uxH1 rfl (uxH1 rfl (uxH1 rfl (uxH1 rfl (uxH1 rfl (uxH1 rfl (uxH1 rfl (uxH1 rfl (uxH1 rfl (uxH1 rfl (uxH1 rfl (uxH1 rfl (uxH1 rfl (uxH1 rfl (uxH1 rfl (uxH1 rfl hI.2.2.2.2.2.2.2.2.2.2.1))))))))))))))))
    have k_xK1 : xK1 W := by
      rw [hW]
      exact (uxK1 rfl (uxK1 rfl (uxK1 rfl (uxK1 rfl (uxK1 rfl (uxK1 rfl (uxK1 rfl (uxK1 rfl (uxK1 rfl (uxK1 rfl (uxK1 rfl (uxK1 rfl (uxK1 rfl (uxK1 rfl (uxK1 rfl (uxK1 rfl hI.2.2.2.2.2.2.2.2.2.2.2.1))))))))))))))))
    have k_xC1 : xC1 W := by
      rw [hW]
      exact (uxC1 rfl (uxC1 rfl (uxC1 rfl (uxC1 rfl (uxC1 rfl (uxC1 rfl (uxC1 rfl (uxC1 rfl (uxC1 rfl (uxC1 rfl (uxC1 rfl (uxC1 rfl (uxC1 rfl (uxC1 rfl (uxC1 rfl (uxC1 rfl hI.2.2.2.2.2.2.2.2.2.2.2.2.1))))))))))))))))
    have k_xRW : xRW W := by
      rw [hW]
      exact (uxRW rfl (uxRW rfl (uxRW rfl (uxRW rfl (uxRW rfl (uxRW rfl (uxRW rfl (uxRW rfl (uxRW rfl (uxRW rfl (uxRW rfl (uxRW rfl (uxRW rfl (uxRW rfl (uxRW rfl (uxRW rfl hI.2.2.2.2.2.2.2.2.2.2.2.2.2.1))))))))))))))))
    have k_xWT : xWT W := by
      rw [hW]
      exact (uxWT rfl (uxWT rfl (uxWT rfl (uxWT rfl (uxWT rfl (uxWT rfl (uxWT rfl (uxWT rfl (uxWT rfl (uxWT rfl (uxWT rfl (uxWT rfl (uxWT rfl (uxWT rfl (uxWT rfl (uxWT rfl hI.2.2.2.2.2.2.2.2.2.2.2.2.2.2.1))))))))))))))))
    have k_xCU : xCU W := by
      rw [hW]
      exact (uxCU rfl (uxCU rfl (uxCU rfl (uxCU rfl (uxCU rfl (uxCU rfl (uxCU rfl (uxCU rfl (uxCU rfl (uxCU rfl (uxCU rfl (uxCU rfl (uxCU rfl (uxCU rfl (uxCU rfl (uxCU rfl hI.2.2.2.2.2.2.2.2.2.2.2.2.2.2.2.1))))))))))))))))
    have k_xG2 : xG2 W := by
      rw [hW]
      exact (uxG2 rfl (uxG2 rfl (uxG2 rfl (uxG2 rfl (uxG2 rfl (uxG2 rfl (uxG2 rfl (uxG2 rfl (uxG2 rfl (uxG2 rfl (uxG2 rfl (uxG2 rfl (uxG2 rfl (uxG2 rfl (uxG2 rfl (uxG2 rfl hI.2.2.2.2.2.2.2.2.2.2.2.2.2.2.2.2.1))))))))))))))))
    have k_xG3 : xG3 W := by
      rw [hW]
      exact (uxG3 rfl (uxG3 rfl (uxG3 rfl (uxG3 rfl (uxG3 rfl (uxG3 rfl (uxG3 rfl (uxG3 rfl (uxG3 rfl (uxG3 rfl (uxG3 rfl (uxG3 rfl (uxG3 rfl (uxG3 rfl (uxG3 rfl (uxG3 rfl hI.2.2.2.2.2.2.2.2.2.2.2.2.2.2.2.2.2.1))))))))))))))))
    have k_xG4 : xG4 W := by
      rw [hW]
      exact (uxG4 rfl (uxG4 rfl (uxG4 rfl (uxG4 rfl (uxG4 rfl (uxG4 rfl (uxG4 rfl (uxG4 rfl (uxG4 rfl (uxG4 rfl (uxG4 rfl (uxG4 rfl (uxG4 rfl (uxG4 rfl (uxG4 rfl (uxG4 rfl hI.2.2.2.2.2.2.2.2.2.2.2.2.2.2.2.2.2.2.1))))))))))))))))
    have k_xG5 : xG5 W := by
      rw [hW]
      exact (uxG5 rfl (uxG5 rfl (uxG5 rfl (uxG5 rfl (uxG5 rfl (uxG5 rfl (uxG5 rfl (uxG5 rfl (uxG5 rfl (uxG5 rfl (uxG5 rfl (uxG5 rfl (uxG5 rfl (uxG5 rfl (uxG5 rfl (uxG5 rfl hI.2.2.2.2.2.2.2.2.2.2.2.2.2.2.2.2.2.2.2.1))))))))))))))))
    have k_xG6 : xG6 W := by
      rw [hW]
      exact (uxG6 rfl (uxG6 rfl (uxG6 rfl (uxG6 rfl (uxG6 rfl (uxG6 rfl (uxG6 rfl (uxG6 rfl (uxG6 rfl (uxG6 rfl (uxG6 rfl (uxG6 rfl (uxG6 rfl (uxG6 rfl (uxG6 rfl (uxG6 rfl hI.2.2.2.2.2.2.2.2.2.2.2.2.2.2.2.2.2.2.2.2.1))))))))))))))))
    have k_xS1 : xS1 W := by
      rw [hW]
      exact (uxS1 rfl (uxS1 rfl (uxS1 rfl (uxS1 rfl (uxS1 rfl (uxS1 rfl (uxS1 rfl (uxS1 rfl (uxS1 rfl (uxS1 rfl (uxS1 rfl (uxS1 rfl (uxS1 rfl (uxS1 rfl (uxS1 rfl (uxS1 rfl hI.2.2.2.2.2.2.2.2.2.2.2.2.2.2.2.2.2.2.2.2.2.1))))))))))))))))
    have k_xS2 : xS2 W := by
      rw [hW]
      exact (uxS2 rfl (uxS2 rfl (uxS2 rfl (uxS2 rfl (uxS2 rfl (uxS2 rfl (uxS2 rfl (uxS2 rfl (uxS2 rfl (uxS2 rfl (uxS2 rfl (uxS2 rfl (uxS2 rfl (uxS2 rfl (uxS2 rfl (uxS2 rfl hI.2.2.2.2.2.2.2.2.2.2.2.2.2.2.2.2.2.2.2.2.2.2.1))))))))))))))))
    have k_xS3 : xS3 W := by
      rw [hW]
      exact (uxS3 rfl (uxS3 rfl (uxS3 rfl (uxS3 rfl (uxS3 rfl (uxS3 rfl (uxS3 rfl (uxS3 rfl (uxS3 rfl (uxS3 rfl (uxS3 rfl (uxS3 rfl (uxS3 rfl (uxS3 rfl (uxS3 rfl (uxS3 rfl hI.2.2.2.2.2.2.2.2.2.2.2.2.2.2.2.2.2.2.2.2.2.2.2.1))))))))))))))))
    have k_xS4 : xS4 W := by
      rw [hW]
      exact (uxS4 rfl (uxS4 rfl (uxS4 rfl (uxS4 rfl (uxS4 rfl (uxS4 rfl (uxS4 rfl (uxS4 rfl (uxS4 rfl (uxS4 rfl (uxS4 rfl (uxS4 rfl (uxS4 rfl (uxS4 rfl (uxS4 rfl (uxS4 rfl hI.2.2.2.2.2.2.2.2.2.2.2.2.2.2.2.2.2.2.2.2.2.2.2.2.1))))))))))))))))
    have k_xS5 : xS5 W := by
      rw [hW]
      exact (uxS5 rfl (uxS5 rfl (uxS5 rfl (uxS5 rfl (uxS5 rfl (uxS5 rfl (uxS5 rfl (uxS5 rfl (uxS5 rfl (uxS5 rfl (uxS5 rfl (uxS5 rfl (uxS5 rfl (uxS5 rfl (uxS5 rfl (uxS5 rfl hI.2.2.2.2.2.2.2.2.2.2.2.2.2.2.2.2.2.2.2.2.2.2.2.2.2.1))))))))))))))))
    have k_xS6 : xS6 W := by
      rw [hW]
      exact (uxS6 rfl (uxS6 rfl (uxS6 rfl (uxS6 rfl (uxS6 rfl (uxS6 rfl (uxS6 rfl (uxS6 rfl (uxS6 rfl (uxS6 rfl (uxS6 rfl (uxS6 rfl (uxS6 rfl (uxS6 rfl (uxS6 rfl (uxS6 rfl hI.2.2.2.2.2.2.2.2.2.2.2.2.2.2.2.2.2.2.2.2.2.2.2.2.2.2.1))))))))))))))))
    have k_xS7 : xS7 W := by
      rw [hW]
      exact (uxS7 rfl (uxS7 rfl (uxS7 rfl (uxS7 rfl (uxS7 rfl (uxS7 rfl (uxS7 rfl (uxS7 rfl (uxS7 rfl (uxS7 rfl (uxS7 rfl (uxS7 rfl (uxS7 rfl (uxS7 rfl (uxS7 rfl (uxS7 rfl hI.2.2.2.2.2.2.2.2.2.2.2.2.2.2.2.2.2.2.2.2.2.2.2.2.2.2.2.1))))))))))))))))
    have k_xS8 : xS8 W := by
      rw [hW]
      exact (uxS8 rfl (uxS8 rfl (uxS8 rfl (uxS8 rfl (uxS8 rfl (uxS8 rfl (uxS8 rfl (uxS8 rfl (uxS8 rfl (uxS8 rfl (uxS8 rfl (uxS8 rfl (uxS8 rfl (uxS8 rfl (uxS8 rfl (uxS8 rfl hI.2.2.2.2.2.2.2.2.2.2.2.2.2.2.2.2.2.2.2.2.2.2.2.2.2.2.2.2.1))))))))))))))))
    have k_xS9 : xS9 W := by
      rw [hW]
      exact (uxS9 rfl (uxS9 rfl (uxS9 rfl (uxS9 rfl (uxS9 rfl (uxS9 rfl (uxS9 rfl (uxS9 rfl (uxS9 rfl (uxS9 rfl (uxS9 rfl (uxS9 rfl (uxS9 rfl (uxS9 rfl (uxS9 rfl (uxS9 rfl hI.2.2.2.2.2.2.2.2.2.2.2.2.2.2.2.2.2.2.2.2.2.2.2.2.2.2.2.2.2.1))))))))))))))))
    have k_xSA : xSA W := by
      rw [hW]
      exact (uxSA rfl (uxSA rfl (uxSA rfl (uxSA rfl (uxSA rfl (uxSA rfl (uxSA rfl (uxSA rfl (uxSA rfl (uxSA rfl (uxSA rfl (uxSA rfl (uxSA rfl (uxSA rfl (uxSA rfl (uxSA rfl hI.2.2.2.2.2.2.2.2.2.2.2.2.2.2.2.2.2.2.2.2.2.2.2.2.2.2.2.2.2.2.1))))))))))))))))
    have k_xSG : xSG W := by
      rw [hW]
      exact (uxSG rfl (uxSG rfl (uxSG rfl (uxSG rfl (uxSG rfl (uxSG rfl (uxSG rfl (uxSG rfl (uxSG rfl (uxSG rfl (uxSG rfl (uxSG rfl (uxSG rfl (uxSG rfl (uxSG rfl (uxSG rfl hI.2.2.2.2.2.2.2.2.2.2.2.2.2.2.2.2.2.2.2.2.2.2.2.2.2.2.2.2.2.2.2.1))))))))))))))))
    have k_xSF : xSF W := by
      rw [hW]
      exact (uxSF rfl (uxSF rfl (uxSF rfl (uxSF rfl (uxSF rfl (uxSF rfl (uxSF rfl (uxSF rfl (uxSF rfl (uxSF rfl (uxSF rfl (uxSF rfl (uxSF rfl (uxSF rfl (uxSF rfl (uxSF rfl hI.2.2.2.2.2.2.2.2.2.2.2.2.2.2.2.2.2.2.2.2.2.2.2.2.2.2.2.2.2.2.2.2.1))))))))))))))))
    have k_xSB : xSB W := by
      rw [hW]
      exact (uxSB rfl (uxSB rfl (uxSB rfl (uxSB rfl (uxSB rfl (uxSB rfl (uxSB rfl (uxSB rfl (uxSB rfl (uxSB rfl (uxSB rfl (uxSB rfl (uxSB rfl (uxSB rfl (uxSB rfl (uxSB rfl hI.2.2.2.2.2.2.2.2.2.2.2.2.2.2.2.2.2.2.2.2.2.2.2.2.2.2.2.2.2.2.2.2.2.1))))))))))))))))
    have k_xSC : xSC W := by
      rw [hW]
      exact (uxSC rfl (uxSC rfl (uxSC rfl (uxSC rfl (uxSC rfl (uxSC rfl (uxSC rfl (uxSC rfl (uxSC rfl (uxSC rfl (uxSC rfl (uxSC rfl (uxSC rfl (uxSC rfl (uxSC rfl (uxSC rfl hI.2.2.2.2.2.2.2.2.2.2.2.2.2.2.2.2.2.2.2.2.2.2.2.2.2.2.2.2.2.2.2.2.2.2.1))))))))))))))))
    have k_xSD : xSD W := by
      have r91_240 : W 91 240 = 1 * ρ 0 + 0 := by rw [hW, sU_ne (fun z => by omega), sU_ne (fun z => by omega), sU_ne (fun z => by omega), sU_ne (fun z => by omega), sU_ne (fun z => by omega), sU_ne (fun z => by omega), sU_ne (fun z => by omega), sU_at]
      have r91_241 : W 91 241 = 1 * ρ 0 + 0 := by rw [hW, sU_ne (fun z => by omega), sU_ne (fun z => by omega), sU_ne (fun z => by omega), sU_ne (fun z => by omega), sU_ne (fun z => by omega), sU_ne (fun z => by omega), sU_at]
      have r91_242 : W 91 242 = 6 * ρ 0 + 0 := by rw [hW, sU_ne (fun z => by omega), sU_ne (fun z => by omega), sU_ne (fun z => by omega), sU_ne (fun z => by omega), sU_ne (fun z => by omega), sU_at]
      have r91_243 : W 91 243 = 64 * ρ 0 + 0 := by rw [hW, sU_ne (fun z => by omega), sU_ne (fun z => by omega), sU_ne (fun z => by omega), sU_ne (fun z => by omega), sU_at]
      have r91_244 : W 91 244 = 64 * ρ 0 + (1 * ρ 1 + (-64 * ρ 4 + 0)) := by rw [hW, sU_ne (fun z => by omega), sU_at]
      have r91_245 : W 91 245 = 0 := by rw [hW, sU_ne (fun z => by omega), sU_ne (fun z => by omega), sU_ne (fun z => by omega), sU_at]
      have r91_246 : W 91 246 = 1 * ρ 1 + 0 := by rw [hW, sU_ne (fun z => by omega), sU_ne (fun z => by omega), sU_at]
      have r91_247 : W 91 247 = 64 * ρ 0 + 0 := by rw [hW, sU_at]
      intro h
      rw [r91_241, r91_242, r91_243, r91_244, r91_245, r91_246, r91_247, h0]
      refine ⟨by decide, ?_, by decide⟩
      rw [show ((64 : Int) * 1 + 0) = 64 from rfl, show (1 * ρ 1 + 0 : Int) = ρ 1 by omega, xb.2]
      omega
    have k_xSE : xSE W := by
      have r91_249 : W 91 249 = 1 * ρ 0 + 0 := by rw [hW, sU_ne (fun z => by omega), sU_ne (fun z => by omega), sU_ne (fun z => by omega), sU_ne (fun z => by omega), sU_ne (fun z => by omega), sU_ne (fun z => by omega), sU_ne (fun z => by omega), sU_ne (fun z => by omega), sU_ne (fun z => by omega), sU_ne (fun z => by omega), sU_ne (fun z => by omega), sU_ne (fun z => by omega), sU_ne (fun z => by omega), sU_ne (fun z => by omega), sU_ne (fun z => by omega), sU_at]
      have r91_250 : W 91 250 = 1 * ρ 1 + 0 := by rw [hW, sU_ne (fun z => by omega), sU_ne (fun z => by omega), sU_ne (fun z => by omega), sU_ne (fun z => by omega), sU_ne (fun z => by omega), sU_ne (fun z => by omega), sU_ne (fun z => by omega), sU_ne (fun z => by omega), sU_ne (fun z => by omega), sU_ne (fun z => by omega), sU_ne (fun z => by omega), sU_ne (fun z => by omega), sU_ne (fun z => by omega), sU_ne (fun z => by omega), sU_at]
      have r91_251 : W 91 251 = 6 * ρ 0 + 0 := by rw [hW, sU_ne (fun z => by omega), sU_ne (fun z => by omega), sU_ne (fun z => by omega), sU_ne (fun z => by omega), sU_ne (fun z => by omega), sU_ne (fun z => by omega), sU_ne (fun z => by omega), sU_ne (fun z => by omega), sU_ne (fun z => by omega), sU_ne (fun z => by omega), sU_ne (fun z => by omega), sU_ne (fun z => by omega), sU_ne (fun z => by omega), sU_at]
      have r91_252 : W 91 252 = 1 * (xop 0 (ρ 1) 6) + 0 := by rw [hW, sU_ne (fun z => by omega), sU_ne (fun z => by omega), sU_ne (fun z => by omega), sU_ne (fun z => by omega), sU_ne (fun z => by omega), sU_ne (fun z => by omega), sU_ne (fun z => by omega), sU_ne (fun z => by omega), sU_ne (fun z => by omega), sU_ne (fun z => by omega), sU_ne (fun z => by omega), sU_ne (fun z => by omega), sU_at]
      have r91_253 : W 91 253 = 1 * ρ 4 + 0 := by rw [hW, sU_ne (fun z => by omega), sU_ne (fun z => by omega), sU_ne (fun z => by omega), sU_ne (fun z => by omega), sU_ne (fun z => by omega), sU_ne (fun z => by omega), sU_ne (fun z => by omega), sU_ne (fun z => by omega), sU_ne (fun z => by omega), sU_ne (fun z => by omega), sU_ne (fun z => by omega), sU_at]
      have r91_255 : W 91 255 = 0 := by rw [hW, sU_ne (fun z => by omega), sU_ne (fun z => by omega), sU_ne (fun z => by omega), sU_ne (fun z => by omega), sU_ne (fun z => by omega), sU_ne (fun z => by omega), sU_ne (fun z => by omega), sU_ne (fun z => by omega), sU_ne (fun z => by omega), sU_ne (fun z => by omega), sU_at]
      have r91_256 : W 91 256 = 1 * (xop 1 0 64) + 0 := by rw [hW, sU_ne (fun z => by omega), sU_ne (fun z => by omega), sU_ne (fun z => by omega), sU_ne (fun z => by omega), sU_ne (fun z => by omega), sU_ne (fun z => by omega), sU_ne (fun z => by omega), sU_ne (fun z => by omega), sU_ne (fun z => by omega), sU_at]
      have r91_243 : W 91 243 = 64 * ρ 0 + 0 := by rw [hW, sU_ne (fun z => by omega), sU_ne (fun z => by omega), sU_ne (fun z => by omega), sU_ne (fun z => by omega), sU_at]
      have r91_257 : W 91 257 = 1 * (xop 1 (xop 0 (ρ 1) 6) 255) + 0 := by rw [hW, sU_ne (fun z => by omega), sU_ne (fun z => by omega), sU_ne (fun z => by omega), sU_ne (fun z => by omega), sU_ne (fun z => by omega), sU_ne (fun z => by omega), sU_ne (fun z => by omega), sU_ne (fun z => by omega), sU_at]
      intro h
      rw [r91_243, r91_250, r91_251, r91_252, r91_253, r91_255, r91_256, r91_257, h0]
      rw [show ((6 : Int) * 1 + 0) = 6 from rfl, show (1 * ρ 1 + 0 : Int) = ρ 1 by omega, show ((64 : Int) * 1 + 0) = 64 from rfl]
      refine ⟨by omega, ?_, by omega, ?_⟩
      · rw [show (1 * (xop 0 (ρ 1) 6) + 0 : Int) = xop 0 (ρ 1) 6 by omega, xb.1]
        omega
      · rw [show (1 * (xop 0 (ρ 1) 6) + 0 : Int) = xop 0 (ρ 1) 6 by omega]
        omega
    have k_xSW : xSW W := by
      rw [hW]
      exact (uxSW rfl (uxSW rfl (uxSW rfl (uxSW rfl (uxSW rfl (uxSW rfl (uxSW rfl (uxSW rfl (uxSW rfl (uxSW rfl (uxSW rfl (uxSW rfl (uxSW rfl (uxSW rfl (uxSW rfl (uxSW rfl hI.2.2.2.2.2.2.2.2.2.2.2.2.2.2.2.2.2.2.2.2.2.2.2.2.2.2.2.2.2.2.2.2.2.2.2.2.2.1))))))))))))))))
    have k_xST : xST W := by
      rw [hW]
      exact (uxST rfl (uxST rfl (uxST rfl (uxST rfl (uxST rfl (uxST rfl (uxST rfl (uxST rfl (uxST rfl (uxST rfl (uxST rfl (uxST rfl (uxST rfl (uxST rfl (uxST rfl (uxST rfl hI.2.2.2.2.2.2.2.2.2.2.2.2.2.2.2.2.2.2.2.2.2.2.2.2.2.2.2.2.2.2.2.2.2.2.2.2.2.2.1))))))))))))))))
    have k_xSP : xSP W := by
      rw [hW]
      exact (uxSP rfl (uxSP rfl (uxSP rfl (uxSP rfl (uxSP rfl (uxSP rfl (uxSP rfl (uxSP rfl (uxSP rfl (uxSP rfl (uxSP rfl (uxSP rfl (uxSP rfl (uxSP rfl (uxSP rfl (uxSP rfl hI.2.2.2.2.2.2.2.2.2.2.2.2.2.2.2.2.2.2.2.2.2.2.2.2.2.2.2.2.2.2.2.2.2.2.2.2.2.2.2.1))))))))))))))))
    have k_xSL : xSL W := by
      rw [hW]
      exact (uxSL rfl (uxSL rfl (uxSL rfl (uxSL rfl (uxSL rfl (uxSL rfl (uxSL rfl (uxSL rfl (uxSL rfl (uxSL rfl (uxSL rfl (uxSL rfl (uxSL rfl (uxSL rfl (uxSL rfl (uxSL rfl hI.2.2.2.2.2.2.2.2.2.2.2.2.2.2.2.2.2.2.2.2.2.2.2.2.2.2.2.2.2.2.2.2.2.2.2.2.2.2.2.2.1))))))))))))))))
    have k_xSM : xSM W := by
      rw [hW]
      exact (uxSM rfl (uxSM rfl (uxSM rfl (uxSM rfl (uxSM rfl (uxSM rfl (uxSM rfl (uxSM rfl (uxSM rfl (uxSM rfl (uxSM rfl (uxSM rfl (uxSM rfl (uxSM rfl (uxSM rfl (uxSM rfl hI.2.2.2.2.2.2.2.2.2.2.2.2.2.2.2.2.2.2.2.2.2.2.2.2.2.2.2.2.2.2.2.2.2.2.2.2.2.2.2.2.2.1))))))))))))))))
    have k_xSI : xSI W := by
      rw [hW]
      exact (uxSI rfl (uxSI rfl (uxSI rfl (uxSI rfl (uxSI rfl (uxSI rfl (uxSI rfl (uxSI rfl (uxSI rfl (uxSI rfl (uxSI rfl (uxSI rfl (uxSI rfl (uxSI rfl (uxSI rfl (uxSI rfl hI.2.2.2.2.2.2.2.2.2.2.2.2.2.2.2.2.2.2.2.2.2.2.2.2.2.2.2.2.2.2.2.2.2.2.2.2.2.2.2.2.2.2))))))))))))))))
    have k_XC : XC W := ⟨k_xS1, k_xS2, k_xS3, k_xS4, k_xS5, k_xS6, k_xS7, k_xS8, k_xS9, k_xSA, k_xSG, k_xSF, k_xSB, k_xSC, k_xSD, k_xSE, k_xSW, k_xST, k_xSP, k_xSL, k_xSM, k_xSI⟩
    have kXB : XB W := ⟨k_xN1, k_xN2, k_xN3, k_xN4, k_xN5, k_xN6, k_xH1, k_xK1, k_xC1, k_xRW, k_xWT, k_xCU, k_xG2, k_xG3, k_xG4, k_xG5, k_xG6, k_XC⟩
    exact ⟨base, k2, k3, kXA, kXB⟩
