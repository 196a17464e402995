/-! RULES OF THE REFERENCE (wip/p3/xsf.py). -/
-- w_hL
def xr_674 : qRu := (6, [[(-1, 1), (1, 4)], [(1, 1), (-1, 4)]], [(4, 350, [(28, 0)]), (4, 396, [(1, 1)]), (4, 397, [(1, 2)]), (95, 1004, [(1, 5)])], [], [], [[(1, 2), (-1, 5)], [(-1, 2), (1, 5)]])
theorem xo_674 : qRok xr_674 := by
  intro ρ M h0 hf hm hI
  have f0 := hf [(-1, 1), (1, 4)] (by decide)
  have f1 := hf [(1, 1), (-1, 4)] (by decide)
  simp only [qD, h0] at f0 f1
  have m0 : M 4 350 = 28 * ρ 0 + 0 := hm (4, 350, [(28, 0)]) (by decide)
  have m1 : M 4 396 = 1 * ρ 1 + 0 := hm (4, 396, [(1, 1)]) (by decide)
  have m2 : M 4 397 = 1 * ρ 2 + 0 := hm (4, 397, [(1, 2)]) (by decide)
  have m3 : M 95 (zIx ρ (1000 + 4)) = 1 * ρ 5 + 0 := hm (95, 1004, [(1, 5)]) (by decide)
  rw [zix_p] at m3
  simp only [h0] at m0
  obtain ⟨b1, b2, b3, b4, b5, b6⟩ := gx_xQH hI (by omega)

  rw [show (M 4 396).toNat = (ρ 4).toNat by omega] at b5
  refine ⟨ρ, fun _ _ => rfl, fun f h => ?_, ?_⟩
  · have h : f ∈ ([[(1, 2), (-1, 5)], [(-1, 2), (1, 5)]] : List qF) := h
    simp only [List.mem_cons, List.not_mem_nil, or_false] at h
    rcases h with rfl | rfl
    · show 0 ≤ 1 * ρ 2 + (-1 * ρ 5 + 0)
      (try rw [h0]); omega
    · show 0 ≤ -1 * ρ 2 + (1 * ρ 5 + 0)
      (try rw [h0]); omega
  · show sI M
    exact hI
-- w_h0
def xr_675 : qRu := (3, [], [(4, 350, [(28, 0)]), (4, 395, [(1, 1)]), (95, 0, [(1, 2)])], [], [], [[(1, 1), (-1, 2)], [(-1, 1), (1, 2)]])
theorem xo_675 : qRok xr_675 := by
  intro ρ M h0 hf hm hI
  have m0 : M 4 350 = 28 * ρ 0 + 0 := hm (4, 350, [(28, 0)]) (by decide)
  have m1 : M 4 395 = 1 * ρ 1 + 0 := hm (4, 395, [(1, 1)]) (by decide)
  have m2 : M 95 0 = 1 * ρ 2 + 0 := hm (95, 0, [(1, 2)]) (by decide)
  simp only [h0] at m0
  obtain ⟨b1, b2, b3, b4, b5, b6⟩ := gx_xQH hI (by omega)
  refine ⟨ρ, fun _ _ => rfl, fun f h => ?_, ?_⟩
  · have h : f ∈ ([[(1, 1), (-1, 2)], [(-1, 1), (1, 2)]] : List qF) := h
    simp only [List.mem_cons, List.not_mem_nil, or_false] at h
    rcases h with rfl | rfl
    · show 0 ≤ 1 * ρ 1 + (-1 * ρ 2 + 0)
      (try rw [h0]); omega
    · show 0 ≤ -1 * ρ 1 + (1 * ρ 2 + 0)
      (try rw [h0]); omega
  · show sI M
    exact hI
-- w_hQ
def xr_676 : qRu := (13, [[(1, 1), (1, 7), (-1, 8)], [(-1, 1), (-1, 7), (1, 8)], [(1, 2), (-1, 9), (1, 10)], [(-1, 2), (1, 9), (-1, 10)], [(-1, 3), (1, 4)], [(1, 3), (-1, 4)], [(1, 5), (1, 10), (-1, 11)], [(-1, 5), (-1, 10), (1, 11)]], [(4, 350, [(28, 0)]), (91, 720, [(1, 0)]), (91, 721, [(1, 1)]), (91, 722, [(1, 2)]), (91, 723, [(1, 3)]), (91, 724, [(1, 4)]), (91, 725, [(1, 5)]), (91, 726, [(1, 6)]), (4, 391, [(1, 7)]), (4, 392, [(1, 8)]), (4, 394, [(1, 9)]), (4, 395, [(1, 10)]), (4, 397, [(1, 11)]), (4, 398, [(1, 12)])], [], [], [[(1, 6), (-1, 12)], [(-1, 6), (1, 12)]])
theorem xo_676 : qRok xr_676 := by
  intro ρ M h0 hf hm hI
  have f0 := hf [(1, 1), (1, 7), (-1, 8)] (by decide)
  have f1 := hf [(-1, 1), (-1, 7), (1, 8)] (by decide)
  have f2 := hf [(1, 2), (-1, 9), (1, 10)] (by decide)
  have f3 := hf [(-1, 2), (1, 9), (-1, 10)] (by decide)
  have f4 := hf [(-1, 3), (1, 4)] (by decide)
  have f5 := hf [(1, 3), (-1, 4)] (by decide)
  have f6 := hf [(1, 5), (1, 10), (-1, 11)] (by decide)
  have f7 := hf [(-1, 5), (-1, 10), (1, 11)] (by decide)
  simp only [qD, h0] at f0 f1 f2 f3 f4 f5 f6 f7
  have m0 : M 4 350 = 28 * ρ 0 + 0 := hm (4, 350, [(28, 0)]) (by decide)
  have m1 : M 91 720 = 1 * ρ 0 + 0 := hm (91, 720, [(1, 0)]) (by decide)
  have m2 : M 91 721 = 1 * ρ 1 + 0 := hm (91, 721, [(1, 1)]) (by decide)
  have m3 : M 91 722 = 1 * ρ 2 + 0 := hm (91, 722, [(1, 2)]) (by decide)
  have m4 : M 91 723 = 1 * ρ 3 + 0 := hm (91, 723, [(1, 3)]) (by decide)
  have m5 : M 91 724 = 1 * ρ 4 + 0 := hm (91, 724, [(1, 4)]) (by decide)
  have m6 : M 91 725 = 1 * ρ 5 + 0 := hm (91, 725, [(1, 5)]) (by decide)
  have m7 : M 91 726 = 1 * ρ 6 + 0 := hm (91, 726, [(1, 6)]) (by decide)
  have m8 : M 4 391 = 1 * ρ 7 + 0 := hm (4, 391, [(1, 7)]) (by decide)
  have m9 : M 4 392 = 1 * ρ 8 + 0 := hm (4, 392, [(1, 8)]) (by decide)
  have m10 : M 4 394 = 1 * ρ 9 + 0 := hm (4, 394, [(1, 9)]) (by decide)
  have m11 : M 4 395 = 1 * ρ 10 + 0 := hm (4, 395, [(1, 10)]) (by decide)
  have m12 : M 4 397 = 1 * ρ 11 + 0 := hm (4, 397, [(1, 11)]) (by decide)
  have m13 : M 4 398 = 1 * ρ 12 + 0 := hm (4, 398, [(1, 12)]) (by decide)
  simp only [h0] at m0 m1
  obtain ⟨b1, b2, b3, b4, b5, b6⟩ := gx_xQH hI (by omega)

  obtain ⟨c1, c2⟩ := gx_xQM hI (by omega)
  rw [show M 4 392 - M 4 391 = M 91 721 by omega, show M 4 394 - M 4 395 = M 91 722 by omega, show M 4 397 - M 4 395 = M 91 725 by omega, ← c1, show M 91 723 = M 91 724 by omega, ← c2] at b6
  refine ⟨ρ, fun _ _ => rfl, fun f h => ?_, ?_⟩
  · have h : f ∈ ([[(1, 6), (-1, 12)], [(-1, 6), (1, 12)]] : List qF) := h
    simp only [List.mem_cons, List.not_mem_nil, or_false] at h
    rcases h with rfl | rfl
    · show 0 ≤ 1 * ρ 6 + (-1 * ρ 12 + 0)
      (try rw [h0]); omega
    · show 0 ≤ -1 * ρ 6 + (1 * ρ 12 + 0)
      (try rw [h0]); omega
  · show sI M
    exact hI
