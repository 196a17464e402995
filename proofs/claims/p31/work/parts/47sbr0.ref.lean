/-! RULES OF THE REFERENCE (wip/p3/xsf.py). -/
-- kt0
def xr_400 : qRu := (6, [[(-1, 0), (1, 1)], [(1, 4)], [(-1, 4)]], [(4, 100, [(1, 1)]), (3, 44, [(1, 2)]), (3, 45, [(1, 3)]), (3, 50, [(1, 4)]), (3, 51, [(1, 5)])], [], [], [[(-18, 0), (1, 2), (-1, 5)], [(18, 0), (-1, 2), (1, 5)], [(1, 5)], [(23, 0), (-1, 5)]])
theorem xo_400 : qRok xr_400 := by
  intro ρ M h0 hf hm hI
  have f0 := hf [(-1, 0), (1, 1)] (by decide)
  have f1 := hf [(1, 4)] (by decide)
  have f2 := hf [(-1, 4)] (by decide)
  simp only [qD, h0] at f0 f1 f2
  have m0 : M 4 100 = 1 * ρ 1 + 0 := hm (4, 100, [(1, 1)]) (by decide)
  have m1 : M 3 44 = 1 * ρ 2 + 0 := hm (3, 44, [(1, 2)]) (by decide)
  have m2 : M 3 45 = 1 * ρ 3 + 0 := hm (3, 45, [(1, 3)]) (by decide)
  have m3 : M 3 50 = 1 * ρ 4 + 0 := hm (3, 50, [(1, 4)]) (by decide)
  have m4 : M 3 51 = 1 * ρ 5 + 0 := hm (3, 51, [(1, 5)]) (by decide)
  have hk := xs_kr hI (by omega)
  obtain ⟨z0, z1, z2, z3, z4, z5⟩ := hk
  have z := z0 (by omega)
  refine ⟨ρ, fun _ _ => rfl, fun f h => ?_, ?_⟩
  · have h : f ∈ ([[(-18, 0), (1, 2), (-1, 5)], [(18, 0), (-1, 2), (1, 5)], [(1, 5)], [(23, 0), (-1, 5)]] : List qF) := h
    simp only [List.mem_cons, List.not_mem_nil, or_false] at h
    rcases h with rfl | rfl | rfl | rfl
    · show 0 ≤ -18 * ρ 0 + (1 * ρ 2 + (-1 * ρ 5 + 0))
      (try rw [h0]); omega
    · show 0 ≤ 18 * ρ 0 + (-1 * ρ 2 + (1 * ρ 5 + 0))
      (try rw [h0]); omega
    · show 0 ≤ 1 * ρ 5 + 0
      (try rw [h0]); omega
    · show 0 ≤ 23 * ρ 0 + (-1 * ρ 5 + 0)
      (try rw [h0]); omega
  · show sI M
    exact hI
-- kt1
def xr_401 : qRu := (6, [[(-1, 0), (1, 1)], [(-1, 0), (1, 4)], [(1, 0), (-1, 4)]], [(4, 100, [(1, 1)]), (3, 44, [(1, 2)]), (3, 45, [(1, 3)]), (3, 50, [(1, 4)]), (3, 51, [(1, 5)])], [], [], [[(-4, 0), (1, 2)], [(4, 0), (-1, 2)], [(1, 3), (-1, 5)], [(-1, 3), (1, 5)]])
theorem xo_401 : qRok xr_401 := by
  intro ρ M h0 hf hm hI
  have f0 := hf [(-1, 0), (1, 1)] (by decide)
  have f1 := hf [(-1, 0), (1, 4)] (by decide)
  have f2 := hf [(1, 0), (-1, 4)] (by decide)
  simp only [qD, h0] at f0 f1 f2
  have m0 : M 4 100 = 1 * ρ 1 + 0 := hm (4, 100, [(1, 1)]) (by decide)
  have m1 : M 3 44 = 1 * ρ 2 + 0 := hm (3, 44, [(1, 2)]) (by decide)
  have m2 : M 3 45 = 1 * ρ 3 + 0 := hm (3, 45, [(1, 3)]) (by decide)
  have m3 : M 3 50 = 1 * ρ 4 + 0 := hm (3, 50, [(1, 4)]) (by decide)
  have m4 : M 3 51 = 1 * ρ 5 + 0 := hm (3, 51, [(1, 5)]) (by decide)
  have hk := xs_kr hI (by omega)
  obtain ⟨z0, z1, z2, z3, z4, z5⟩ := hk
  have z := z1 (by omega)
  refine ⟨ρ, fun _ _ => rfl, fun f h => ?_, ?_⟩
  · have h : f ∈ ([[(-4, 0), (1, 2)], [(4, 0), (-1, 2)], [(1, 3), (-1, 5)], [(-1, 3), (1, 5)]] : List qF) := h
    simp only [List.mem_cons, List.not_mem_nil, or_false] at h
    rcases h with rfl | rfl | rfl | rfl
    · show 0 ≤ -4 * ρ 0 + (1 * ρ 2 + 0)
      (try rw [h0]); omega
    · show 0 ≤ 4 * ρ 0 + (-1 * ρ 2 + 0)
      (try rw [h0]); omega
    · show 0 ≤ 1 * ρ 3 + (-1 * ρ 5 + 0)
      (try rw [h0]); omega
    · show 0 ≤ -1 * ρ 3 + (1 * ρ 5 + 0)
      (try rw [h0]); omega
  · show sI M
    exact hI
-- kt2s
def xr_402 : qRu := (6, [[(-1, 0), (1, 1)], [(-2, 0), (1, 4)], [(2, 0), (-1, 4)], [(99999, 0), (-1, 5)]], [(4, 100, [(1, 1)]), (3, 44, [(1, 2)]), (3, 45, [(1, 3)]), (3, 50, [(1, 4)]), (3, 51, [(1, 5)])], [], [], [[(-3, 0), (1, 2)], [(3, 0), (-1, 2)], [(1, 3), (-1, 5)], [(-1, 3), (1, 5)], [(1, 5)]])
theorem xo_402 : qRok xr_402 := by
  intro ρ M h0 hf hm hI
  have f0 := hf [(-1, 0), (1, 1)] (by decide)
  have f1 := hf [(-2, 0), (1, 4)] (by decide)
  have f2 := hf [(2, 0), (-1, 4)] (by decide)
  have f3 := hf [(99999, 0), (-1, 5)] (by decide)
  simp only [qD, h0] at f0 f1 f2 f3
  have m0 : M 4 100 = 1 * ρ 1 + 0 := hm (4, 100, [(1, 1)]) (by decide)
  have m1 : M 3 44 = 1 * ρ 2 + 0 := hm (3, 44, [(1, 2)]) (by decide)
  have m2 : M 3 45 = 1 * ρ 3 + 0 := hm (3, 45, [(1, 3)]) (by decide)
  have m3 : M 3 50 = 1 * ρ 4 + 0 := hm (3, 50, [(1, 4)]) (by decide)
  have m4 : M 3 51 = 1 * ρ 5 + 0 := hm (3, 51, [(1, 5)]) (by decide)
  have hk := xs_kr hI (by omega)
  obtain ⟨z0, z1, z2, z3, z4, z5⟩ := hk
  have z := z2 (by omega)
  refine ⟨ρ, fun _ _ => rfl, fun f h => ?_, ?_⟩
  · have h : f ∈ ([[(-3, 0), (1, 2)], [(3, 0), (-1, 2)], [(1, 3), (-1, 5)], [(-1, 3), (1, 5)], [(1, 5)]] : List qF) := h
    simp only [List.mem_cons, List.not_mem_nil, or_false] at h
    rcases h with rfl | rfl | rfl | rfl | rfl
    · show 0 ≤ -3 * ρ 0 + (1 * ρ 2 + 0)
      (try rw [h0]); omega
    · show 0 ≤ 3 * ρ 0 + (-1 * ρ 2 + 0)
      (try rw [h0]); omega
    · show 0 ≤ 1 * ρ 3 + (-1 * ρ 5 + 0)
      (try rw [h0]); omega
    · show 0 ≤ -1 * ρ 3 + (1 * ρ 5 + 0)
      (try rw [h0]); omega
    · show 0 ≤ 1 * ρ 5 + 0
      (try rw [h0]); omega
  · show sI M
    exact hI
-- kt2b
def xr_403 : qRu := (6, [[(-1, 0), (1, 1)], [(-2, 0), (1, 4)], [(2, 0), (-1, 4)], [(-100000, 0), (1, 5)]], [(4, 100, [(1, 1)]), (3, 44, [(1, 2)]), (3, 45, [(1, 3)]), (3, 50, [(1, 4)]), (3, 51, [(1, 5)])], [], [], [[(-3, 0), (1, 2)], [(3, 0), (-1, 2)], [(-100000, 0), (1, 3)]])
theorem xo_403 : qRok xr_403 := by
  intro ρ M h0 hf hm hI
  have f0 := hf [(-1, 0), (1, 1)] (by decide)
  have f1 := hf [(-2, 0), (1, 4)] (by decide)
  have f2 := hf [(2, 0), (-1, 4)] (by decide)
  have f3 := hf [(-100000, 0), (1, 5)] (by decide)
  simp only [qD, h0] at f0 f1 f2 f3
  have m0 : M 4 100 = 1 * ρ 1 + 0 := hm (4, 100, [(1, 1)]) (by decide)
  have m1 : M 3 44 = 1 * ρ 2 + 0 := hm (3, 44, [(1, 2)]) (by decide)
  have m2 : M 3 45 = 1 * ρ 3 + 0 := hm (3, 45, [(1, 3)]) (by decide)
  have m3 : M 3 50 = 1 * ρ 4 + 0 := hm (3, 50, [(1, 4)]) (by decide)
  have m4 : M 3 51 = 1 * ρ 5 + 0 := hm (3, 51, [(1, 5)]) (by decide)
  have hk := xs_kr hI (by omega)
  obtain ⟨z0, z1, z2, z3, z4, z5⟩ := hk
  have z := z2 (by omega)
  refine ⟨ρ, fun _ _ => rfl, fun f h => ?_, ?_⟩
  · have h : f ∈ ([[(-3, 0), (1, 2)], [(3, 0), (-1, 2)], [(-100000, 0), (1, 3)]] : List qF) := h
    simp only [List.mem_cons, List.not_mem_nil, or_false] at h
    rcases h with rfl | rfl | rfl
    · show 0 ≤ -3 * ρ 0 + (1 * ρ 2 + 0)
      (try rw [h0]); omega
    · show 0 ≤ 3 * ρ 0 + (-1 * ρ 2 + 0)
      (try rw [h0]); omega
    · show 0 ≤ -100000 * ρ 0 + (1 * ρ 3 + 0)
      (try rw [h0]); omega
  · show sI M
    exact hI
-- kt2
def xr_404 : qRu := (6, [[(-1, 0), (1, 1)], [(-2, 0), (1, 4)], [(2, 0), (-1, 4)]], [(4, 100, [(1, 1)]), (3, 44, [(1, 2)]), (3, 45, [(1, 3)]), (3, 50, [(1, 4)]), (3, 51, [(1, 5)])], [], [], [[(-3, 0), (1, 2)], [(3, 0), (-1, 2)], [(1, 5)]])
theorem xo_404 : qRok xr_404 := by
  intro ρ M h0 hf hm hI
  have f0 := hf [(-1, 0), (1, 1)] (by decide)
  have f1 := hf [(-2, 0), (1, 4)] (by decide)
  have f2 := hf [(2, 0), (-1, 4)] (by decide)
  simp only [qD, h0] at f0 f1 f2
  have m0 : M 4 100 = 1 * ρ 1 + 0 := hm (4, 100, [(1, 1)]) (by decide)
  have m1 : M 3 44 = 1 * ρ 2 + 0 := hm (3, 44, [(1, 2)]) (by decide)
  have m2 : M 3 45 = 1 * ρ 3 + 0 := hm (3, 45, [(1, 3)]) (by decide)
  have m3 : M 3 50 = 1 * ρ 4 + 0 := hm (3, 50, [(1, 4)]) (by decide)
  have m4 : M 3 51 = 1 * ρ 5 + 0 := hm (3, 51, [(1, 5)]) (by decide)
  have hk := xs_kr hI (by omega)
  obtain ⟨z0, z1, z2, z3, z4, z5⟩ := hk
  have z := z2 (by omega)
  refine ⟨ρ, fun _ _ => rfl, fun f h => ?_, ?_⟩
  · have h : f ∈ ([[(-3, 0), (1, 2)], [(3, 0), (-1, 2)], [(1, 5)]] : List qF) := h
    simp only [List.mem_cons, List.not_mem_nil, or_false] at h
    rcases h with rfl | rfl | rfl
    · show 0 ≤ -3 * ρ 0 + (1 * ρ 2 + 0)
      (try rw [h0]); omega
    · show 0 ≤ 3 * ρ 0 + (-1 * ρ 2 + 0)
      (try rw [h0]); omega
    · show 0 ≤ 1 * ρ 5 + 0
      (try rw [h0]); omega
  · show sI M
    exact hI
-- kt3a
def xr_405 : qRu := (6, [[(-1, 0), (1, 1)], [(-3, 0), (1, 4)], [(3, 0), (-1, 4)], [(41, 0), (-1, 5)]], [(4, 100, [(1, 1)]), (3, 44, [(1, 2)]), (3, 45, [(1, 3)]), (3, 50, [(1, 4)]), (3, 51, [(1, 5)])], [], [], [[(34, 0), (1, 2), (-1, 5)], [(-34, 0), (-1, 2), (1, 5)], [(-40, 0), (1, 5)]])
theorem xo_405 : qRok xr_405 := by
  intro ρ M h0 hf hm hI
  have f0 := hf [(-1, 0), (1, 1)] (by decide)
  have f1 := hf [(-3, 0), (1, 4)] (by decide)
  have f2 := hf [(3, 0), (-1, 4)] (by decide)
  have f3 := hf [(41, 0), (-1, 5)] (by decide)
  simp only [qD, h0] at f0 f1 f2 f3
  have m0 : M 4 100 = 1 * ρ 1 + 0 := hm (4, 100, [(1, 1)]) (by decide)
  have m1 : M 3 44 = 1 * ρ 2 + 0 := hm (3, 44, [(1, 2)]) (by decide)
  have m2 : M 3 45 = 1 * ρ 3 + 0 := hm (3, 45, [(1, 3)]) (by decide)
  have m3 : M 3 50 = 1 * ρ 4 + 0 := hm (3, 50, [(1, 4)]) (by decide)
  have m4 : M 3 51 = 1 * ρ 5 + 0 := hm (3, 51, [(1, 5)]) (by decide)
  have hk := xs_kr hI (by omega)
  obtain ⟨z0, z1, z2, z3, z4, z5⟩ := hk
  have z := z3 (by omega)
  refine ⟨ρ, fun _ _ => rfl, fun f h => ?_, ?_⟩
  · have h : f ∈ ([[(34, 0), (1, 2), (-1, 5)], [(-34, 0), (-1, 2), (1, 5)], [(-40, 0), (1, 5)]] : List qF) := h
    simp only [List.mem_cons, List.not_mem_nil, or_false] at h
    rcases h with rfl | rfl | rfl
    · show 0 ≤ 34 * ρ 0 + (1 * ρ 2 + (-1 * ρ 5 + 0))
      (try rw [h0]); omega
    · show 0 ≤ -34 * ρ 0 + (-1 * ρ 2 + (1 * ρ 5 + 0))
      (try rw [h0]); omega
    · show 0 ≤ -40 * ρ 0 + (1 * ρ 5 + 0)
      (try rw [h0]); omega
  · show sI M
    exact hI
-- kt3_42
def xr_406 : qRu := (6, [[(-1, 0), (1, 1)], [(-3, 0), (1, 4)], [(3, 0), (-1, 4)], [(-42, 0), (1, 5)], [(42, 0), (-1, 5)]], [(4, 100, [(1, 1)]), (3, 44, [(1, 2)]), (3, 45, [(1, 3)]), (3, 50, [(1, 4)]), (3, 51, [(1, 5)])], [], [], [[(-10, 0), (1, 2)], [(10, 0), (-1, 2)]])
theorem xo_406 : qRok xr_406 := by
  intro ρ M h0 hf hm hI
  have f0 := hf [(-1, 0), (1, 1)] (by decide)
  have f1 := hf [(-3, 0), (1, 4)] (by decide)
  have f2 := hf [(3, 0), (-1, 4)] (by decide)
  have f3 := hf [(-42, 0), (1, 5)] (by decide)
  have f4 := hf [(42, 0), (-1, 5)] (by decide)
  simp only [qD, h0] at f0 f1 f2 f3 f4
  have m0 : M 4 100 = 1 * ρ 1 + 0 := hm (4, 100, [(1, 1)]) (by decide)
  have m1 : M 3 44 = 1 * ρ 2 + 0 := hm (3, 44, [(1, 2)]) (by decide)
  have m2 : M 3 45 = 1 * ρ 3 + 0 := hm (3, 45, [(1, 3)]) (by decide)
  have m3 : M 3 50 = 1 * ρ 4 + 0 := hm (3, 50, [(1, 4)]) (by decide)
  have m4 : M 3 51 = 1 * ρ 5 + 0 := hm (3, 51, [(1, 5)]) (by decide)
  have hk := xs_kr hI (by omega)
  obtain ⟨z0, z1, z2, z3, z4, z5⟩ := hk
  have z := z3 (by omega)
  refine ⟨ρ, fun _ _ => rfl, fun f h => ?_, ?_⟩
  · have h : f ∈ ([[(-10, 0), (1, 2)], [(10, 0), (-1, 2)]] : List qF) := h
    simp only [List.mem_cons, List.not_mem_nil, or_false] at h
    rcases h with rfl | rfl
    · show 0 ≤ -10 * ρ 0 + (1 * ρ 2 + 0)
      (try rw [h0]); omega
    · show 0 ≤ 10 * ρ 0 + (-1 * ρ 2 + 0)
      (try rw [h0]); omega
  · show sI M
    exact hI
-- kt3_43
def xr_407 : qRu := (6, [[(-1, 0), (1, 1)], [(-3, 0), (1, 4)], [(3, 0), (-1, 4)], [(-43, 0), (1, 5)], [(43, 0), (-1, 5)]], [(4, 100, [(1, 1)]), (3, 44, [(1, 2)]), (3, 45, [(1, 3)]), (3, 50, [(1, 4)]), (3, 51, [(1, 5)])], [], [], [[(-8, 0), (1, 2)], [(8, 0), (-1, 2)]])
theorem xo_407 : qRok xr_407 := by
  intro ρ M h0 hf hm hI
  have f0 := hf [(-1, 0), (1, 1)] (by decide)
  have f1 := hf [(-3, 0), (1, 4)] (by decide)
  have f2 := hf [(3, 0), (-1, 4)] (by decide)
  have f3 := hf [(-43, 0), (1, 5)] (by decide)
  have f4 := hf [(43, 0), (-1, 5)] (by decide)
  simp only [qD, h0] at f0 f1 f2 f3 f4
  have m0 : M 4 100 = 1 * ρ 1 + 0 := hm (4, 100, [(1, 1)]) (by decide)
  have m1 : M 3 44 = 1 * ρ 2 + 0 := hm (3, 44, [(1, 2)]) (by decide)
  have m2 : M 3 45 = 1 * ρ 3 + 0 := hm (3, 45, [(1, 3)]) (by decide)
  have m3 : M 3 50 = 1 * ρ 4 + 0 := hm (3, 50, [(1, 4)]) (by decide)
  have m4 : M 3 51 = 1 * ρ 5 + 0 := hm (3, 51, [(1, 5)]) (by decide)
  have hk := xs_kr hI (by omega)
  obtain ⟨z0, z1, z2, z3, z4, z5⟩ := hk
  have z := z3 (by omega)
  refine ⟨ρ, fun _ _ => rfl, fun f h => ?_, ?_⟩
  · have h : f ∈ ([[(-8, 0), (1, 2)], [(8, 0), (-1, 2)]] : List qF) := h
    simp only [List.mem_cons, List.not_mem_nil, or_false] at h
    rcases h with rfl | rfl
    · show 0 ≤ -8 * ρ 0 + (1 * ρ 2 + 0)
      (try rw [h0]); omega
    · show 0 ≤ 8 * ρ 0 + (-1 * ρ 2 + 0)
      (try rw [h0]); omega
  · show sI M
    exact hI
-- kt3_45
def xr_408 : qRu := (6, [[(-1, 0), (1, 1)], [(-3, 0), (1, 4)], [(3, 0), (-1, 4)], [(-45, 0), (1, 5)], [(45, 0), (-1, 5)]], [(4, 100, [(1, 1)]), (3, 44, [(1, 2)]), (3, 45, [(1, 3)]), (3, 50, [(1, 4)]), (3, 51, [(1, 5)])], [], [], [[(-9, 0), (1, 2)], [(9, 0), (-1, 2)]])
theorem xo_408 : qRok xr_408 := by
  intro ρ M h0 hf hm hI
  have f0 := hf [(-1, 0), (1, 1)] (by decide)
  have f1 := hf [(-3, 0), (1, 4)] (by decide)
  have f2 := hf [(3, 0), (-1, 4)] (by decide)
  have f3 := hf [(-45, 0), (1, 5)] (by decide)
  have f4 := hf [(45, 0), (-1, 5)] (by decide)
  simp only [qD, h0] at f0 f1 f2 f3 f4
  have m0 : M 4 100 = 1 * ρ 1 + 0 := hm (4, 100, [(1, 1)]) (by decide)
  have m1 : M 3 44 = 1 * ρ 2 + 0 := hm (3, 44, [(1, 2)]) (by decide)
  have m2 : M 3 45 = 1 * ρ 3 + 0 := hm (3, 45, [(1, 3)]) (by decide)
  have m3 : M 3 50 = 1 * ρ 4 + 0 := hm (3, 50, [(1, 4)]) (by decide)
  have m4 : M 3 51 = 1 * ρ 5 + 0 := hm (3, 51, [(1, 5)]) (by decide)
  have hk := xs_kr hI (by omega)
  obtain ⟨z0, z1, z2, z3, z4, z5⟩ := hk
  have z := z3 (by omega)
  refine ⟨ρ, fun _ _ => rfl, fun f h => ?_, ?_⟩
  · have h : f ∈ ([[(-9, 0), (1, 2)], [(9, 0), (-1, 2)]] : List qF) := h
    simp only [List.mem_cons, List.not_mem_nil, or_false] at h
    rcases h with rfl | rfl
    · show 0 ≤ -9 * ρ 0 + (1 * ρ 2 + 0)
      (try rw [h0]); omega
    · show 0 ≤ 9 * ρ 0 + (-1 * ρ 2 + 0)
      (try rw [h0]); omega
  · show sI M
    exact hI
-- kt3_47
def xr_409 : qRu := (6, [[(-1, 0), (1, 1)], [(-3, 0), (1, 4)], [(3, 0), (-1, 4)], [(-47, 0), (1, 5)], [(47, 0), (-1, 5)]], [(4, 100, [(1, 1)]), (3, 44, [(1, 2)]), (3, 45, [(1, 3)]), (3, 50, [(1, 4)]), (3, 51, [(1, 5)])], [], [], [[(-11, 0), (1, 2)], [(11, 0), (-1, 2)]])
theorem xo_409 : qRok xr_409 := by
  intro ρ M h0 hf hm hI
  have f0 := hf [(-1, 0), (1, 1)] (by decide)
  have f1 := hf [(-3, 0), (1, 4)] (by decide)
  have f2 := hf [(3, 0), (-1, 4)] (by decide)
  have f3 := hf [(-47, 0), (1, 5)] (by decide)
  have f4 := hf [(47, 0), (-1, 5)] (by decide)
  simp only [qD, h0] at f0 f1 f2 f3 f4
  have m0 : M 4 100 = 1 * ρ 1 + 0 := hm (4, 100, [(1, 1)]) (by decide)
  have m1 : M 3 44 = 1 * ρ 2 + 0 := hm (3, 44, [(1, 2)]) (by decide)
  have m2 : M 3 45 = 1 * ρ 3 + 0 := hm (3, 45, [(1, 3)]) (by decide)
  have m3 : M 3 50 = 1 * ρ 4 + 0 := hm (3, 50, [(1, 4)]) (by decide)
  have m4 : M 3 51 = 1 * ρ 5 + 0 := hm (3, 51, [(1, 5)]) (by decide)
  have hk := xs_kr hI (by omega)
  obtain ⟨z0, z1, z2, z3, z4, z5⟩ := hk
  have z := z3 (by omega)
  refine ⟨ρ, fun _ _ => rfl, fun f h => ?_, ?_⟩
  · have h : f ∈ ([[(-11, 0), (1, 2)], [(11, 0), (-1, 2)]] : List qF) := h
    simp only [List.mem_cons, List.not_mem_nil, or_false] at h
    rcases h with rfl | rfl
    · show 0 ≤ -11 * ρ 0 + (1 * ρ 2 + 0)
      (try rw [h0]); omega
    · show 0 ≤ 11 * ρ 0 + (-1 * ρ 2 + 0)
      (try rw [h0]); omega
  · show sI M
    exact hI
-- kt3_44
def xr_410 : qRu := (6, [[(-1, 0), (1, 1)], [(-3, 0), (1, 4)], [(3, 0), (-1, 4)], [(-44, 0), (1, 5)], [(44, 0), (-1, 5)]], [(4, 100, [(1, 1)]), (3, 44, [(1, 2)]), (3, 45, [(1, 3)]), (3, 50, [(1, 4)]), (3, 51, [(1, 5)])], [], [], [[(-1, 0)]])
theorem xo_410 : qRok xr_410 := by
  intro ρ M h0 hf hm hI
  have f0 := hf [(-1, 0), (1, 1)] (by decide)
  have f1 := hf [(-3, 0), (1, 4)] (by decide)
  have f2 := hf [(3, 0), (-1, 4)] (by decide)
  have f3 := hf [(-44, 0), (1, 5)] (by decide)
  have f4 := hf [(44, 0), (-1, 5)] (by decide)
  simp only [qD, h0] at f0 f1 f2 f3 f4
  have m0 : M 4 100 = 1 * ρ 1 + 0 := hm (4, 100, [(1, 1)]) (by decide)
  have m1 : M 3 44 = 1 * ρ 2 + 0 := hm (3, 44, [(1, 2)]) (by decide)
  have m2 : M 3 45 = 1 * ρ 3 + 0 := hm (3, 45, [(1, 3)]) (by decide)
  have m3 : M 3 50 = 1 * ρ 4 + 0 := hm (3, 50, [(1, 4)]) (by decide)
  have m4 : M 3 51 = 1 * ρ 5 + 0 := hm (3, 51, [(1, 5)]) (by decide)
  have hk := xs_kr hI (by omega)
  obtain ⟨z0, z1, z2, z3, z4, z5⟩ := hk
  have z := z3 (by omega)
  refine ⟨ρ, fun _ _ => rfl, fun f h => ?_, ?_⟩
  · have h : f ∈ ([[(-1, 0)]] : List qF) := h
    simp only [List.mem_cons, List.not_mem_nil, or_false] at h
    rcases h with rfl
    · show 0 ≤ -1 * ρ 0 + 0
      (try rw [h0]); omega
  · show sI M
    exact hI
-- kt3_46
def xr_411 : qRu := (6, [[(-1, 0), (1, 1)], [(-3, 0), (1, 4)], [(3, 0), (-1, 4)], [(-46, 0), (1, 5)], [(46, 0), (-1, 5)]], [(4, 100, [(1, 1)]), (3, 44, [(1, 2)]), (3, 45, [(1, 3)]), (3, 50, [(1, 4)]), (3, 51, [(1, 5)])], [], [], [[(-1, 0)]])
theorem xo_411 : qRok xr_411 := by
  intro ρ M h0 hf hm hI
  have f0 := hf [(-1, 0), (1, 1)] (by decide)
  have f1 := hf [(-3, 0), (1, 4)] (by decide)
  have f2 := hf [(3, 0), (-1, 4)] (by decide)
  have f3 := hf [(-46, 0), (1, 5)] (by decide)
  have f4 := hf [(46, 0), (-1, 5)] (by decide)
  simp only [qD, h0] at f0 f1 f2 f3 f4
  have m0 : M 4 100 = 1 * ρ 1 + 0 := hm (4, 100, [(1, 1)]) (by decide)
  have m1 : M 3 44 = 1 * ρ 2 + 0 := hm (3, 44, [(1, 2)]) (by decide)
  have m2 : M 3 45 = 1 * ρ 3 + 0 := hm (3, 45, [(1, 3)]) (by decide)
  have m3 : M 3 50 = 1 * ρ 4 + 0 := hm (3, 50, [(1, 4)]) (by decide)
  have m4 : M 3 51 = 1 * ρ 5 + 0 := hm (3, 51, [(1, 5)]) (by decide)
  have hk := xs_kr hI (by omega)
  obtain ⟨z0, z1, z2, z3, z4, z5⟩ := hk
  have z := z3 (by omega)
  refine ⟨ρ, fun _ _ => rfl, fun f h => ?_, ?_⟩
  · have h : f ∈ ([[(-1, 0)]] : List qF) := h
    simp only [List.mem_cons, List.not_mem_nil, or_false] at h
    rcases h with rfl
    · show 0 ≤ -1 * ρ 0 + 0
      (try rw [h0]); omega
  · show sI M
    exact hI
-- kt3c
def xr_412 : qRu := (6, [[(-1, 0), (1, 1)], [(-3, 0), (1, 4)], [(3, 0), (-1, 4)], [(-48, 0), (1, 5)], [(59, 0), (-1, 5)]], [(4, 100, [(1, 1)]), (3, 44, [(1, 2)]), (3, 45, [(1, 3)]), (3, 50, [(1, 4)]), (3, 51, [(1, 5)])], [], [], [[(-5, 0), (1, 2)], [(5, 0), (-1, 2)], [(-59, 0), (1, 5)], [(59, 0), (-1, 5)]])
theorem xo_412 : qRok xr_412 := by
  intro ρ M h0 hf hm hI
  have f0 := hf [(-1, 0), (1, 1)] (by decide)
  have f1 := hf [(-3, 0), (1, 4)] (by decide)
  have f2 := hf [(3, 0), (-1, 4)] (by decide)
  have f3 := hf [(-48, 0), (1, 5)] (by decide)
  have f4 := hf [(59, 0), (-1, 5)] (by decide)
  simp only [qD, h0] at f0 f1 f2 f3 f4
  have m0 : M 4 100 = 1 * ρ 1 + 0 := hm (4, 100, [(1, 1)]) (by decide)
  have m1 : M 3 44 = 1 * ρ 2 + 0 := hm (3, 44, [(1, 2)]) (by decide)
  have m2 : M 3 45 = 1 * ρ 3 + 0 := hm (3, 45, [(1, 3)]) (by decide)
  have m3 : M 3 50 = 1 * ρ 4 + 0 := hm (3, 50, [(1, 4)]) (by decide)
  have m4 : M 3 51 = 1 * ρ 5 + 0 := hm (3, 51, [(1, 5)]) (by decide)
  have hk := xs_kr hI (by omega)
  obtain ⟨z0, z1, z2, z3, z4, z5⟩ := hk
  have z := z3 (by omega)
  refine ⟨ρ, fun _ _ => rfl, fun f h => ?_, ?_⟩
  · have h : f ∈ ([[(-5, 0), (1, 2)], [(5, 0), (-1, 2)], [(-59, 0), (1, 5)], [(59, 0), (-1, 5)]] : List qF) := h
    simp only [List.mem_cons, List.not_mem_nil, or_false] at h
    rcases h with rfl | rfl | rfl | rfl
    · show 0 ≤ -5 * ρ 0 + (1 * ρ 2 + 0)
      (try rw [h0]); omega
    · show 0 ≤ 5 * ρ 0 + (-1 * ρ 2 + 0)
      (try rw [h0]); omega
    · show 0 ≤ -59 * ρ 0 + (1 * ρ 5 + 0)
      (try rw [h0]); omega
    · show 0 ≤ 59 * ρ 0 + (-1 * ρ 5 + 0)
      (try rw [h0]); omega
  · show sI M
    exact hI
-- kt3d
def xr_413 : qRu := (6, [[(-1, 0), (1, 1)], [(-3, 0), (1, 4)], [(3, 0), (-1, 4)], [(-60, 0), (1, 5)]], [(4, 100, [(1, 1)]), (3, 44, [(1, 2)]), (3, 45, [(1, 3)]), (3, 50, [(1, 4)]), (3, 51, [(1, 5)])], [], [], [[(-12, 0), (1, 2)], [(17, 0), (-1, 2)]])
theorem xo_413 : qRok xr_413 := by
  intro ρ M h0 hf hm hI
  have f0 := hf [(-1, 0), (1, 1)] (by decide)
  have f1 := hf [(-3, 0), (1, 4)] (by decide)
  have f2 := hf [(3, 0), (-1, 4)] (by decide)
  have f3 := hf [(-60, 0), (1, 5)] (by decide)
  simp only [qD, h0] at f0 f1 f2 f3
  have m0 : M 4 100 = 1 * ρ 1 + 0 := hm (4, 100, [(1, 1)]) (by decide)
  have m1 : M 3 44 = 1 * ρ 2 + 0 := hm (3, 44, [(1, 2)]) (by decide)
  have m2 : M 3 45 = 1 * ρ 3 + 0 := hm (3, 45, [(1, 3)]) (by decide)
  have m3 : M 3 50 = 1 * ρ 4 + 0 := hm (3, 50, [(1, 4)]) (by decide)
  have m4 : M 3 51 = 1 * ρ 5 + 0 := hm (3, 51, [(1, 5)]) (by decide)
  have hk := xs_kr hI (by omega)
  obtain ⟨z0, z1, z2, z3, z4, z5⟩ := hk
  have z := z3 (by omega)
  refine ⟨ρ, fun _ _ => rfl, fun f h => ?_, ?_⟩
  · have h : f ∈ ([[(-12, 0), (1, 2)], [(17, 0), (-1, 2)]] : List qF) := h
    simp only [List.mem_cons, List.not_mem_nil, or_false] at h
    rcases h with rfl | rfl
    · show 0 ≤ -12 * ρ 0 + (1 * ρ 2 + 0)
      (try rw [h0]); omega
    · show 0 ≤ 17 * ρ 0 + (-1 * ρ 2 + 0)
      (try rw [h0]); omega
  · show sI M
    exact hI
-- kt3x
def xr_414 : qRu := (6, [[(-1, 0), (1, 1)], [(-3, 0), (1, 4)], [(3, 0), (-1, 4)], [(-63, 0), (1, 5)], [(255, 0), (-1, 5)]], [(4, 100, [(1, 1)]), (3, 44, [(1, 2)]), (3, 45, [(1, 3)]), (3, 50, [(1, 4)]), (3, 51, [(1, 5)])], [], [], [[(-1, 0)]])
theorem xo_414 : qRok xr_414 := by
  intro ρ M h0 hf hm hI
  have f0 := hf [(-1, 0), (1, 1)] (by decide)
  have f1 := hf [(-3, 0), (1, 4)] (by decide)
  have f2 := hf [(3, 0), (-1, 4)] (by decide)
  have f3 := hf [(-63, 0), (1, 5)] (by decide)
  have f4 := hf [(255, 0), (-1, 5)] (by decide)
  simp only [qD, h0] at f0 f1 f2 f3 f4
  have m0 : M 4 100 = 1 * ρ 1 + 0 := hm (4, 100, [(1, 1)]) (by decide)
  have m1 : M 3 44 = 1 * ρ 2 + 0 := hm (3, 44, [(1, 2)]) (by decide)
  have m2 : M 3 45 = 1 * ρ 3 + 0 := hm (3, 45, [(1, 3)]) (by decide)
  have m3 : M 3 50 = 1 * ρ 4 + 0 := hm (3, 50, [(1, 4)]) (by decide)
  have m4 : M 3 51 = 1 * ρ 5 + 0 := hm (3, 51, [(1, 5)]) (by decide)
  have hk := xs_kr hI (by omega)
  obtain ⟨z0, z1, z2, z3, z4, z5⟩ := hk
  have z := z3 (by omega)
  refine ⟨ρ, fun _ _ => rfl, fun f h => ?_, ?_⟩
  · have h : f ∈ ([[(-1, 0)]] : List qF) := h
    simp only [List.mem_cons, List.not_mem_nil, or_false] at h
    rcases h with rfl
    · show 0 ≤ -1 * ρ 0 + 0
      (try rw [h0]); omega
  · show sI M
    exact hI
-- ktN
def xr_415 : qRu := (6, [[(-1, 0), (1, 1)], [(-1, 0), (1, 4)]], [(4, 100, [(1, 1)]), (3, 44, [(1, 2)]), (3, 45, [(1, 3)]), (3, 50, [(1, 4)]), (3, 51, [(1, 5)])], [], [], [[(17, 0), (-1, 2)]])
theorem xo_415 : qRok xr_415 := by
  intro ρ M h0 hf hm hI
  have f0 := hf [(-1, 0), (1, 1)] (by decide)
  have f1 := hf [(-1, 0), (1, 4)] (by decide)
  simp only [qD, h0] at f0 f1
  have m0 : M 4 100 = 1 * ρ 1 + 0 := hm (4, 100, [(1, 1)]) (by decide)
  have m1 : M 3 44 = 1 * ρ 2 + 0 := hm (3, 44, [(1, 2)]) (by decide)
  have m2 : M 3 45 = 1 * ρ 3 + 0 := hm (3, 45, [(1, 3)]) (by decide)
  have m3 : M 3 50 = 1 * ρ 4 + 0 := hm (3, 50, [(1, 4)]) (by decide)
  have m4 : M 3 51 = 1 * ρ 5 + 0 := hm (3, 51, [(1, 5)]) (by decide)
  obtain ⟨z0, z1, z2, z3, z4, z5⟩ := xs_kr hI (by omega)
  obtain ⟨o1, o2, o3⟩ := gx_xS2 hI (by omega)
  have hb := tto_b (M 92) (n := (M 4 101).toNat) (p := (M 4 102).toNat) (M 4 107) (M 4 108) (by omega)
  rw [← o3] at hb
  have hb2 : 0 ≤ M 3 50 ∧ M 3 50 ≤ 5 := hb.2.2.2.2.1
  refine ⟨ρ, fun _ _ => rfl, fun f h => ?_, ?_⟩
  · have h : f ∈ ([[(17, 0), (-1, 2)]] : List qF) := h
    simp only [List.mem_cons, List.not_mem_nil, or_false] at h
    rcases h with rfl
    · show 0 ≤ 17 * ρ 0 + (-1 * ρ 2 + 0)
      (try rw [h0]); omega
  · show sI M
    exact hI
-- kt12
def xr_416 : qRu := (6, [[(-1, 0), (1, 1)], [(-1, 0), (1, 4)], [(2, 0), (-1, 4)]], [(4, 100, [(1, 1)]), (3, 44, [(1, 2)]), (3, 45, [(1, 3)]), (3, 50, [(1, 4)]), (3, 51, [(1, 5)])], [], [], [[(-3, 0), (1, 2)], [(4, 0), (-1, 2)]])
theorem xo_416 : qRok xr_416 := by
  intro ρ M h0 hf hm hI
  have f0 := hf [(-1, 0), (1, 1)] (by decide)
  have f1 := hf [(-1, 0), (1, 4)] (by decide)
  have f2 := hf [(2, 0), (-1, 4)] (by decide)
  simp only [qD, h0] at f0 f1 f2
  have m0 : M 4 100 = 1 * ρ 1 + 0 := hm (4, 100, [(1, 1)]) (by decide)
  have m1 : M 3 44 = 1 * ρ 2 + 0 := hm (3, 44, [(1, 2)]) (by decide)
  have m2 : M 3 45 = 1 * ρ 3 + 0 := hm (3, 45, [(1, 3)]) (by decide)
  have m3 : M 3 50 = 1 * ρ 4 + 0 := hm (3, 50, [(1, 4)]) (by decide)
  have m4 : M 3 51 = 1 * ρ 5 + 0 := hm (3, 51, [(1, 5)]) (by decide)
  obtain ⟨z0, z1, z2, z3, z4, z5⟩ := xs_kr hI (by omega)
  obtain ⟨o1, o2, o3⟩ := gx_xS2 hI (by omega)
  have hb := tto_b (M 92) (n := (M 4 101).toNat) (p := (M 4 102).toNat) (M 4 107) (M 4 108) (by omega)
  rw [← o3] at hb
  have hb2 : 0 ≤ M 3 50 ∧ M 3 50 ≤ 5 := hb.2.2.2.2.1
  refine ⟨ρ, fun _ _ => rfl, fun f h => ?_, ?_⟩
  · have h : f ∈ ([[(-3, 0), (1, 2)], [(4, 0), (-1, 2)]] : List qF) := h
    simp only [List.mem_cons, List.not_mem_nil, or_false] at h
    rcases h with rfl | rfl
    · show 0 ≤ -3 * ρ 0 + (1 * ρ 2 + 0)
      (try rw [h0]); omega
    · show 0 ≤ 4 * ρ 0 + (-1 * ρ 2 + 0)
      (try rw [h0]); omega
  · show sI M
    exact hI
-- kt45
def xr_417 : qRu := (6, [[(-1, 0), (1, 1)], [(-4, 0), (1, 4)]], [(4, 100, [(1, 1)]), (3, 44, [(1, 2)]), (3, 45, [(1, 3)]), (3, 50, [(1, 4)]), (3, 51, [(1, 5)])], [], [], [[(2, 0), (-1, 2)]])
theorem xo_417 : qRok xr_417 := by
  intro ρ M h0 hf hm hI
  have f0 := hf [(-1, 0), (1, 1)] (by decide)
  have f1 := hf [(-4, 0), (1, 4)] (by decide)
  simp only [qD, h0] at f0 f1
  have m0 : M 4 100 = 1 * ρ 1 + 0 := hm (4, 100, [(1, 1)]) (by decide)
  have m1 : M 3 44 = 1 * ρ 2 + 0 := hm (3, 44, [(1, 2)]) (by decide)
  have m2 : M 3 45 = 1 * ρ 3 + 0 := hm (3, 45, [(1, 3)]) (by decide)
  have m3 : M 3 50 = 1 * ρ 4 + 0 := hm (3, 50, [(1, 4)]) (by decide)
  have m4 : M 3 51 = 1 * ρ 5 + 0 := hm (3, 51, [(1, 5)]) (by decide)
  obtain ⟨z0, z1, z2, z3, z4, z5⟩ := xs_kr hI (by omega)
  obtain ⟨o1, o2, o3⟩ := gx_xS2 hI (by omega)
  have hb := tto_b (M 92) (n := (M 4 101).toNat) (p := (M 4 102).toNat) (M 4 107) (M 4 108) (by omega)
  rw [← o3] at hb
  have hb2 : 0 ≤ M 3 50 ∧ M 3 50 ≤ 5 := hb.2.2.2.2.1
  refine ⟨ρ, fun _ _ => rfl, fun f h => ?_, ?_⟩
  · have h : f ∈ ([[(2, 0), (-1, 2)]] : List qF) := h
    simp only [List.mem_cons, List.not_mem_nil, or_false] at h
    rcases h with rfl
    · show 0 ≤ 2 * ρ 0 + (-1 * ρ 2 + 0)
      (try rw [h0]); omega
  · show sI M
    exact hI
-- kt3
def xr_418 : qRu := (6, [[(-1, 0), (1, 1)], [(-3, 0), (1, 4)], [(3, 0), (-1, 4)]], [(4, 100, [(1, 1)]), (3, 44, [(1, 2)]), (3, 45, [(1, 3)]), (3, 50, [(1, 4)]), (3, 51, [(1, 5)])], [], [], [[(-5, 0), (1, 2)], [(17, 0), (-1, 2)]])
theorem xo_418 : qRok xr_418 := by
  intro ρ M h0 hf hm hI
  have f0 := hf [(-1, 0), (1, 1)] (by decide)
  have f1 := hf [(-3, 0), (1, 4)] (by decide)
  have f2 := hf [(3, 0), (-1, 4)] (by decide)
  simp only [qD, h0] at f0 f1 f2
  have m0 : M 4 100 = 1 * ρ 1 + 0 := hm (4, 100, [(1, 1)]) (by decide)
  have m1 : M 3 44 = 1 * ρ 2 + 0 := hm (3, 44, [(1, 2)]) (by decide)
  have m2 : M 3 45 = 1 * ρ 3 + 0 := hm (3, 45, [(1, 3)]) (by decide)
  have m3 : M 3 50 = 1 * ρ 4 + 0 := hm (3, 50, [(1, 4)]) (by decide)
  have m4 : M 3 51 = 1 * ρ 5 + 0 := hm (3, 51, [(1, 5)]) (by decide)
  have hk := xs_kr hI (by omega)
  obtain ⟨z0, z1, z2, z3, z4, z5⟩ := hk
  have z := z3 (by omega)
  refine ⟨ρ, fun _ _ => rfl, fun f h => ?_, ?_⟩
  · have h : f ∈ ([[(-5, 0), (1, 2)], [(17, 0), (-1, 2)]] : List qF) := h
    simp only [List.mem_cons, List.not_mem_nil, or_false] at h
    rcases h with rfl | rfl
    · show 0 ≤ -5 * ρ 0 + (1 * ρ 2 + 0)
      (try rw [h0]); omega
    · show 0 ≤ 17 * ρ 0 + (-1 * ρ 2 + 0)
      (try rw [h0]); omega
  · show sI M
    exact hI
-- pkOff
def xr_419 : qRu := (1, [], [], [], [(4, 235, [])], [])
theorem xo_419 : qRok xr_419 := by
  intro ρ M h0 hf hm hI
  refine ⟨ρ, fun _ _ => rfl, fun f h => ?_, ?_⟩
  · exact nomatch h
  · show sI (sU M 4 235 (0))
    obtain ⟨W, hW⟩ : ∃ W, W = (sU M 4 235 (0)) := ⟨_, rfl⟩
    rw [← hW]
    have base : sI0 W := by
      rw [hW]
      exact (si_u0 hI.1 (fun r hr => by cases hr))
    have k2 : XI2 W := by
      rw [hW]
      exact (xi2_u rfl hI.2.1)
    have k3 : XI3 W := by
      rw [hW]
      exact (xi3_u rfl hI.2.2.1)
    have kXA : XA W := by
      rw [hW]
      exact (uXA rfl hI.2.2.2.1)
    have k_xN1 : xN1 W := by
      rw [hW]
      exact (uxN1 rfl hI.2.2.2.2.1)
    have k_xN2 : xN2 W := by
      rw [hW]
      exact (uxN2 rfl hI.2.2.2.2.2.1)
    have k_xN3 : xN3 W := by
      rw [hW]
      exact (uxN3 rfl hI.2.2.2.2.2.2.1)
    have k_xN4 : xN4 W := by
      rw [hW]
      exact (uxN4 rfl hI.2.2.2.2.2.2.2.1)
    have k_xN5 : xN5 W := by
      rw [hW]
      exact (uxN5 rfl hI.2.2.2.2.2.2.2.2.1)
    have k_xN6 : xN6 W := by
      rw [hW]
      exact (uxN6 rfl hI.2.2.2.2.2.2.2.2.2.1)
    have k_xH1 : xH1 W := by
      rw [hW]
      exact (uxH1 rfl hI.2.2.2.2.2.2.2.2.2.2.1)
    have k_xK1 : xK1 W := by
      rw [hW]
      exact (uxK1 rfl hI.2.2.2.2.2.2.2.2.2.2.2.1)
    have k_xC1 : xC1 W := by
      rw [hW]
      exact (uxC1 rfl hI.2.2.2.2.2.2.2.2.2.2.2.2.1)
    have k_xRW : xRW W := by
      rw [hW]
      exact (uxRW rfl hI.2.2.2.2.2.2.2.2.2.2.2.2.2.1)
    have k_xWT : xWT W := by
      rw [hW]
      exact (uxWT rfl hI.2.2.2.2.2.2.2.2.2.2.2.2.2.2.1)
    have k_xCU : xCU W := by
      rw [hW]
      exact (uxCU rfl hI.2.2.2.2.2.2.2.2.2.2.2.2.2.2.2.1)
    have k_xG2 : xG2 W := by
      rw [hW]
      exact (uxG2 rfl hI.2.2.2.2.2.2.2.2.2.2.2.2.2.2.2.2.1)
    have k_xG3 : xG3 W := by
      rw [hW]
      exact (uxG3 rfl hI.2.2.2.2.2.2.2.2.2.2.2.2.2.2.2.2.2.1)
    have k_xG4 : xG4 W := by
      rw [hW]
      exact (uxG4 rfl hI.2.2.2.2.2.2.2.2.2.2.2.2.2.2.2.2.2.2.1)
    have k_xG5 : xG5 W := by
      rw [hW]
      exact (uxG5 rfl hI.2.2.2.2.2.2.2.2.2.2.2.2.2.2.2.2.2.2.2.1)
    have k_xG6 : xG6 W := by
      rw [hW]
      exact (uxG6 rfl hI.2.2.2.2.2.2.2.2.2.2.2.2.2.2.2.2.2.2.2.2.1)
    have k_xS1 : xS1 W := by
      rw [hW]
      exact (uxS1 rfl hI.2.2.2.2.2.2.2.2.2.2.2.2.2.2.2.2.2.2.2.2.2.1)
    have k_xS2 : xS2 W := by
      rw [hW]
      exact (uxS2 rfl hI.2.2.2.2.2.2.2.2.2.2.2.2.2.2.2.2.2.2.2.2.2.2.1)
    have k_xS3 : xS3 W := by
      rw [hW]
      exact (uxS3 rfl hI.2.2.2.2.2.2.2.2.2.2.2.2.2.2.2.2.2.2.2.2.2.2.2.1)
    have k_xS4 : xS4 W := by
      rw [hW]
      exact (uxS4 rfl hI.2.2.2.2.2.2.2.2.2.2.2.2.2.2.2.2.2.2.2.2.2.2.2.2.1)
    have k_xS5 : xS5 W := by
      rw [hW]
      exact (uxS5 rfl hI.2.2.2.2.2.2.2.2.2.2.2.2.2.2.2.2.2.2.2.2.2.2.2.2.2.1)
    have k_xS6 : xS6 W := by
      rw [hW]
      exact (uxS6 rfl hI.2.2.2.2.2.2.2.2.2.2.2.2.2.2.2.2.2.2.2.2.2.2.2.2.2.2.1)
    have k_xS7 : xS7 W := by
      rw [hW]
      exact (uxS7 rfl hI.2.2.2.2.2.2.2.2.2.2.2.2.2.2.2.2.2.2.2.2.2.2.2.2.2.2.2.1)
    have k_xS8 : xS8 W := by
      rw [hW]
      exact (uxS8 rfl hI.2.2.2.2.2.2.2.2.2.2.2.2.2.2.2.2.2.2.2.2.2.2.2.2.2.2.2.2.1)
    have k_xS9 : xS9 W := by
      rw [hW]
      exact (uxS9 rfl hI.2.2.2.2.2.2.2.2.2.2.2.2.2.2.2.2.2.2.2.2.2.2.2.2.2.2.2.2.2.1)
    have k_xSA : xSA W := by
      rw [hW]
      exact (uxSA rfl hI.2.2.2.2.2.2.2.2.2.2.2.2.2.2.2.2.2.2.2.2.2.2.2.2.2.2.2.2.2.2.1)
    have k_xSG : xSG W := by
      have r : W 4 235 = 0 := by rw [hW, sU_at]
      intro h
      rw [r] at h
      omega
    have k_xSF : xSF W := by
      rw [hW]
      exact (uxSF rfl hI.2.2.2.2.2.2.2.2.2.2.2.2.2.2.2.2.2.2.2.2.2.2.2.2.2.2.2.2.2.2.2.2.1)
    have k_xSB : xSB W := by
      rw [hW]
      exact (uxSB rfl hI.2.2.2.2.2.2.2.2.2.2.2.2.2.2.2.2.2.2.2.2.2.2.2.2.2.2.2.2.2.2.2.2.2.1)
    have k_xSC : xSC W := by
      rw [hW]
      exact (uxSC rfl hI.2.2.2.2.2.2.2.2.2.2.2.2.2.2.2.2.2.2.2.2.2.2.2.2.2.2.2.2.2.2.2.2.2.2.1)
    have k_xSD : xSD W := by
      rw [hW]
      exact (uxSD rfl hI.2.2.2.2.2.2.2.2.2.2.2.2.2.2.2.2.2.2.2.2.2.2.2.2.2.2.2.2.2.2.2.2.2.2.2.1)
    have k_xSE : xSE W := by
      rw [hW]
      exact (uxSE rfl hI.2.2.2.2.2.2.2.2.2.2.2.2.2.2.2.2.2.2.2.2.2.2.2.2.2.2.2.2.2.2.2.2.2.2.2.2.1)
    have k_xSW : xSW W := by
      rw [hW]
      exact (uxSW rfl hI.2.2.2.2.2.2.2.2.2.2.2.2.2.2.2.2.2.2.2.2.2.2.2.2.2.2.2.2.2.2.2.2.2.2.2.2.2.1)
    have k_xST : xST W := by
      rw [hW]
      exact (uxST rfl hI.2.2.2.2.2.2.2.2.2.2.2.2.2.2.2.2.2.2.2.2.2.2.2.2.2.2.2.2.2.2.2.2.2.2.2.2.2.2.1)
    have k_xSP : xSP W := by
      rw [hW]
      exact (uxSP rfl hI.2.2.2.2.2.2.2.2.2.2.2.2.2.2.2.2.2.2.2.2.2.2.2.2.2.2.2.2.2.2.2.2.2.2.2.2.2.2.2.1)
    have k_xSL : xSL W := by
      rw [hW]
      exact (uxSL rfl hI.2.2.2.2.2.2.2.2.2.2.2.2.2.2.2.2.2.2.2.2.2.2.2.2.2.2.2.2.2.2.2.2.2.2.2.2.2.2.2.2.1)
    have k_xSM : xSM W := by
      rw [hW]
      exact (uxSM rfl hI.2.2.2.2.2.2.2.2.2.2.2.2.2.2.2.2.2.2.2.2.2.2.2.2.2.2.2.2.2.2.2.2.2.2.2.2.2.2.2.2.2.1)
    have k_xSI : xSI W := by
      rw [hW]
      exact (uxSI rfl hI.2.2.2.2.2.2.2.2.2.2.2.2.2.2.2.2.2.2.2.2.2.2.2.2.2.2.2.2.2.2.2.2.2.2.2.2.2.2.2.2.2.2)
    have k_XC : XC W := ⟨k_xS1, k_xS2, k_xS3, k_xS4, k_xS5, k_xS6, k_xS7, k_xS8, k_xS9, k_xSA, k_xSG, k_xSF, k_xSB, k_xSC, k_xSD, k_xSE, k_xSW, k_xST, k_xSP, k_xSL, k_xSM, k_xSI⟩
    have kXB : XB W := ⟨k_xN1, k_xN2, k_xN3, k_xN4, k_xN5, k_xN6, k_xH1, k_xK1, k_xC1, k_xRW, k_xWT, k_xCU, k_xG2, k_xG3, k_xG4, k_xG5, k_xG6, k_XC⟩
    exact ⟨base, k2, k3, kXA, kXB⟩
-- kt4
def xr_420 : qRu := (6, [[(-1, 0), (1, 1)], [(-4, 0), (1, 4)], [(4, 0), (-1, 4)]], [(4, 100, [(1, 1)]), (3, 44, [(1, 2)]), (3, 45, [(1, 3)]), (3, 50, [(1, 4)]), (3, 51, [(1, 5)])], [], [], [[(-2, 0), (1, 2)], [(2, 0), (-1, 2)]])
theorem xo_420 : qRok xr_420 := by
  intro ρ M h0 hf hm hI
  have f0 := hf [(-1, 0), (1, 1)] (by decide)
  have f1 := hf [(-4, 0), (1, 4)] (by decide)
  have f2 := hf [(4, 0), (-1, 4)] (by decide)
  simp only [qD, h0] at f0 f1 f2
  have m0 : M 4 100 = 1 * ρ 1 + 0 := hm (4, 100, [(1, 1)]) (by decide)
  have m1 : M 3 44 = 1 * ρ 2 + 0 := hm (3, 44, [(1, 2)]) (by decide)
  have m2 : M 3 45 = 1 * ρ 3 + 0 := hm (3, 45, [(1, 3)]) (by decide)
  have m3 : M 3 50 = 1 * ρ 4 + 0 := hm (3, 50, [(1, 4)]) (by decide)
  have m4 : M 3 51 = 1 * ρ 5 + 0 := hm (3, 51, [(1, 5)]) (by decide)
  have hk := xs_kr hI (by omega)
  obtain ⟨z0, z1, z2, z3, z4, z5⟩ := hk
  have z := z4 (by omega)
  refine ⟨ρ, fun _ _ => rfl, fun f h => ?_, ?_⟩
  · have h : f ∈ ([[(-2, 0), (1, 2)], [(2, 0), (-1, 2)]] : List qF) := h
    simp only [List.mem_cons, List.not_mem_nil, or_false] at h
    rcases h with rfl | rfl
    · show 0 ≤ -2 * ρ 0 + (1 * ρ 2 + 0)
      (try rw [h0]); omega
    · show 0 ≤ 2 * ρ 0 + (-1 * ρ 2 + 0)
      (try rw [h0]); omega
  · show sI M
    exact hI
-- kt5
def xr_421 : qRu := (6, [[(-1, 0), (1, 1)], [(-5, 0), (1, 4)], [(5, 0), (-1, 4)]], [(4, 100, [(1, 1)]), (3, 44, [(1, 2)]), (3, 45, [(1, 3)]), (3, 50, [(1, 4)]), (3, 51, [(1, 5)])], [], [], [[(-1, 0), (1, 2)], [(1, 0), (-1, 2)]])
theorem xo_421 : qRok xr_421 := by
  intro ρ M h0 hf hm hI
  have f0 := hf [(-1, 0), (1, 1)] (by decide)
  have f1 := hf [(-5, 0), (1, 4)] (by decide)
  have f2 := hf [(5, 0), (-1, 4)] (by decide)
  simp only [qD, h0] at f0 f1 f2
  have m0 : M 4 100 = 1 * ρ 1 + 0 := hm (4, 100, [(1, 1)]) (by decide)
  have m1 : M 3 44 = 1 * ρ 2 + 0 := hm (3, 44, [(1, 2)]) (by decide)
  have m2 : M 3 45 = 1 * ρ 3 + 0 := hm (3, 45, [(1, 3)]) (by decide)
  have m3 : M 3 50 = 1 * ρ 4 + 0 := hm (3, 50, [(1, 4)]) (by decide)
  have m4 : M 3 51 = 1 * ρ 5 + 0 := hm (3, 51, [(1, 5)]) (by decide)
  have hk := xs_kr hI (by omega)
  obtain ⟨z0, z1, z2, z3, z4, z5⟩ := hk
  have z := z5 (by omega)
  refine ⟨ρ, fun _ _ => rfl, fun f h => ?_, ?_⟩
  · have h : f ∈ ([[(-1, 0), (1, 2)], [(1, 0), (-1, 2)]] : List qF) := h
    simp only [List.mem_cons, List.not_mem_nil, or_false] at h
    rcases h with rfl | rfl
    · show 0 ≤ -1 * ρ 0 + (1 * ρ 2 + 0)
      (try rw [h0]); omega
    · show 0 ≤ 1 * ρ 0 + (-1 * ρ 2 + 0)
      (try rw [h0]); omega
  · show sI M
    exact hI
-- ktR
def xr_422 : qRu := (6, [[(-1, 0), (1, 1)]], [(4, 100, [(1, 1)]), (3, 44, [(1, 2)]), (3, 45, [(1, 3)]), (3, 50, [(1, 4)]), (3, 51, [(1, 5)])], [], [], [[(1, 4)], [(5, 0), (-1, 4)], [(-1, 0), (1, 2)], [(41, 0), (-1, 2)]])
theorem xo_422 : qRok xr_422 := by
  intro ρ M h0 hf hm hI
  have f0 := hf [(-1, 0), (1, 1)] (by decide)
  simp only [qD, h0] at f0
  have m0 : M 4 100 = 1 * ρ 1 + 0 := hm (4, 100, [(1, 1)]) (by decide)
  have m1 : M 3 44 = 1 * ρ 2 + 0 := hm (3, 44, [(1, 2)]) (by decide)
  have m2 : M 3 45 = 1 * ρ 3 + 0 := hm (3, 45, [(1, 3)]) (by decide)
  have m3 : M 3 50 = 1 * ρ 4 + 0 := hm (3, 50, [(1, 4)]) (by decide)
  have m4 : M 3 51 = 1 * ρ 5 + 0 := hm (3, 51, [(1, 5)]) (by decide)
  obtain ⟨o1, o2, o3⟩ := gx_xS2 hI (by omega)
  have hb := tto_b (M 92) (n := (M 4 101).toNat) (p := (M 4 102).toNat) (M 4 107) (M 4 108) (by omega)
  rw [← o3] at hb
  have hb1 : 1 ≤ M 3 44 ∧ M 3 44 ≤ 41 := hb.2.2.2.1
  have hb2 : 0 ≤ M 3 50 ∧ M 3 50 ≤ 5 := hb.2.2.2.2.1
  refine ⟨ρ, fun _ _ => rfl, fun f h => ?_, ?_⟩
  · have h : f ∈ ([[(1, 4)], [(5, 0), (-1, 4)], [(-1, 0), (1, 2)], [(41, 0), (-1, 2)]] : List qF) := h
    simp only [List.mem_cons, List.not_mem_nil, or_false] at h
    rcases h with rfl | rfl | rfl | rfl
    · show 0 ≤ 1 * ρ 4 + 0
      (try rw [h0]); omega
    · show 0 ≤ 5 * ρ 0 + (-1 * ρ 4 + 0)
      (try rw [h0]); omega
    · show 0 ≤ -1 * ρ 0 + (1 * ρ 2 + 0)
      (try rw [h0]); omega
    · show 0 ≤ 41 * ρ 0 + (-1 * ρ 2 + 0)
      (try rw [h0]); omega
  · show sI M
    exact hI
-- pfx0
def xr_423 : qRu := (9, [[(-1, 1), (1, 6)], [(1, 1), (-1, 6)], [(-1, 0), (-1, 1), (1, 3)], [(1, 4), (-1073741824, 8)], [(1073741823, 0), (-1, 4), (1073741824, 8)]], [(4, 214, [(1, 0)]), (4, 215, [(1, 1)]), (4, 216, [(1, 2)]), (4, 217, [(1, 3)]), (4, 219, [(1, 4)]), (4, 101, [(1, 5)]), (92, 1006, [(1, 7)])], [], [], [[(3221225472, 0), (1, 4), (-33554432, 7), (-1073741824, 8)], [(-3187671041, 0), (-1, 4), (33554432, 7), (1073741824, 8)], [(-97, 0), (1, 7)], [(122, 0), (-1, 7)]])
theorem xo_423 : qRok xr_423 := by
  intro ρ M h0 hf hm hI
  have f0 := hf [(-1, 1), (1, 6)] (by decide)
  have f1 := hf [(1, 1), (-1, 6)] (by decide)
  have f2 := hf [(-1, 0), (-1, 1), (1, 3)] (by decide)
  have f3 := hf [(1, 4), (-1073741824, 8)] (by decide)
  have f4 := hf [(1073741823, 0), (-1, 4), (1073741824, 8)] (by decide)
  simp only [qD, h0] at f0 f1 f2 f3 f4
  have m0 : M 4 214 = 1 * ρ 0 + 0 := hm (4, 214, [(1, 0)]) (by decide)
  have m1 : M 4 215 = 1 * ρ 1 + 0 := hm (4, 215, [(1, 1)]) (by decide)
  have m2 : M 4 216 = 1 * ρ 2 + 0 := hm (4, 216, [(1, 2)]) (by decide)
  have m3 : M 4 217 = 1 * ρ 3 + 0 := hm (4, 217, [(1, 3)]) (by decide)
  have m4 : M 4 219 = 1 * ρ 4 + 0 := hm (4, 219, [(1, 4)]) (by decide)
  have m5 : M 4 101 = 1 * ρ 5 + 0 := hm (4, 101, [(1, 5)]) (by decide)
  have m6 : M 92 (zIx ρ (1000 + 6)) = 1 * ρ 7 + 0 := hm (92, 1006, [(1, 7)]) (by decide)
  rw [zix_p] at m6
  simp only [h0] at m0
  obtain ⟨u1, u2, u3, u4, u5, u6, u7⟩ := gx_xSA hI (by omega)

  obtain ⟨d, hd, hz⟩ := tpk_dig (M 92) (M 4 215).toNat (M 4 217 - M 4 215).toNat
  rw [← u7] at hd
  have hl : ∀ i, i < (M 4 217 - M 4 215).toNat → 97 ≤ M 92 ((M 4 215).toNat + i) ∧ M 92 ((M 4 215).toNat + i) ≤ 122 := fun i hi => ten_all (n := (M 4 101).toNat) (q := (M 4 215).toNat) (by omega) (by omega)

  have b0 : 0 ≤ d 0 ∧ d 0 ≤ 26 := by
    by_cases h : 0 < (M 4 217 - M 4 215).toNat
    · have := hl 0 h
      have := (hz 0).1 h
      omega
    · have := (hz 0).2 (by omega)
      omega

  have b1 : 0 ≤ d 1 ∧ d 1 ≤ 26 := by
    by_cases h : 1 < (M 4 217 - M 4 215).toNat
    · have := hl 1 h
      have := (hz 1).1 h
      omega
    · have := (hz 1).2 (by omega)
      omega

  have b2 : 0 ≤ d 2 ∧ d 2 ≤ 26 := by
    by_cases h : 2 < (M 4 217 - M 4 215).toNat
    · have := hl 2 h
      have := (hz 2).1 h
      omega
    · have := (hz 2).2 (by omega)
      omega

  have b3 : 0 ≤ d 3 ∧ d 3 ≤ 26 := by
    by_cases h : 3 < (M 4 217 - M 4 215).toNat
    · have := hl 3 h
      have := (hz 3).1 h
      omega
    · have := (hz 3).2 (by omega)
      omega

  have b4 : 0 ≤ d 4 ∧ d 4 ≤ 26 := by
    by_cases h : 4 < (M 4 217 - M 4 215).toNat
    · have := hl 4 h
      have := (hz 4).1 h
      omega
    · have := (hz 4).2 (by omega)
      omega

  have b5 : 0 ≤ d 5 ∧ d 5 ≤ 26 := by
    by_cases h : 5 < (M 4 217 - M 4 215).toNat
    · have := hl 5 h
      have := (hz 5).1 h
      omega
    · have := (hz 5).2 (by omega)
      omega

  have hv := (hz 0).1 (by omega)
  have hv2 := hl 0 (by omega)
  rw [show (M 4 215).toNat + 0 = (ρ 6).toNat by omega] at hv hv2
  refine ⟨ρ, fun _ _ => rfl, fun f h => ?_, ?_⟩
  · have h : f ∈ ([[(3221225472, 0), (1, 4), (-33554432, 7), (-1073741824, 8)], [(-3187671041, 0), (-1, 4), (33554432, 7), (1073741824, 8)], [(-97, 0), (1, 7)], [(122, 0), (-1, 7)]] : List qF) := h
    simp only [List.mem_cons, List.not_mem_nil, or_false] at h
    rcases h with rfl | rfl | rfl | rfl
    · show 0 ≤ 3221225472 * ρ 0 + (1 * ρ 4 + (-33554432 * ρ 7 + (-1073741824 * ρ 8 + 0)))
      (try rw [h0]); omega
    · show 0 ≤ -3187671041 * ρ 0 + (-1 * ρ 4 + (33554432 * ρ 7 + (1073741824 * ρ 8 + 0)))
      (try rw [h0]); omega
    · show 0 ≤ -97 * ρ 0 + (1 * ρ 7 + 0)
      (try rw [h0]); omega
    · show 0 ≤ 122 * ρ 0 + (-1 * ρ 7 + 0)
      (try rw [h0]); omega
  · show sI M
    exact hI
-- pfxE0
def xr_424 : qRu := (9, [[(1, 1), (-1, 3)], [(1, 4), (-1073741824, 8)], [(1073741823, 0), (-1, 4), (1073741824, 8)]], [(4, 214, [(1, 0)]), (4, 215, [(1, 1)]), (4, 216, [(1, 2)]), (4, 217, [(1, 3)]), (4, 219, [(1, 4)]), (4, 101, [(1, 5)])], [], [], [[(1, 4), (-1073741824, 8)], [(-1, 4), (1073741824, 8)]])
theorem xo_424 : qRok xr_424 := by
  intro ρ M h0 hf hm hI
  have f0 := hf [(1, 1), (-1, 3)] (by decide)
  have f1 := hf [(1, 4), (-1073741824, 8)] (by decide)
  have f2 := hf [(1073741823, 0), (-1, 4), (1073741824, 8)] (by decide)
  simp only [qD, h0] at f0 f1 f2
  have m0 : M 4 214 = 1 * ρ 0 + 0 := hm (4, 214, [(1, 0)]) (by decide)
  have m1 : M 4 215 = 1 * ρ 1 + 0 := hm (4, 215, [(1, 1)]) (by decide)
  have m2 : M 4 216 = 1 * ρ 2 + 0 := hm (4, 216, [(1, 2)]) (by decide)
  have m3 : M 4 217 = 1 * ρ 3 + 0 := hm (4, 217, [(1, 3)]) (by decide)
  have m4 : M 4 219 = 1 * ρ 4 + 0 := hm (4, 219, [(1, 4)]) (by decide)
  have m5 : M 4 101 = 1 * ρ 5 + 0 := hm (4, 101, [(1, 5)]) (by decide)
  simp only [h0] at m0
  obtain ⟨u1, u2, u3, u4, u5, u6, u7⟩ := gx_xSA hI (by omega)

  obtain ⟨d, hd, hz⟩ := tpk_dig (M 92) (M 4 215).toNat (M 4 217 - M 4 215).toNat
  rw [← u7] at hd
  have hl : ∀ i, i < (M 4 217 - M 4 215).toNat → 97 ≤ M 92 ((M 4 215).toNat + i) ∧ M 92 ((M 4 215).toNat + i) ≤ 122 := fun i hi => ten_all (n := (M 4 101).toNat) (q := (M 4 215).toNat) (by omega) (by omega)

  have b0 : 0 ≤ d 0 ∧ d 0 ≤ 26 := by
    by_cases h : 0 < (M 4 217 - M 4 215).toNat
    · have := hl 0 h
      have := (hz 0).1 h
      omega
    · have := (hz 0).2 (by omega)
      omega

  have b1 : 0 ≤ d 1 ∧ d 1 ≤ 26 := by
    by_cases h : 1 < (M 4 217 - M 4 215).toNat
    · have := hl 1 h
      have := (hz 1).1 h
      omega
    · have := (hz 1).2 (by omega)
      omega

  have b2 : 0 ≤ d 2 ∧ d 2 ≤ 26 := by
    by_cases h : 2 < (M 4 217 - M 4 215).toNat
    · have := hl 2 h
      have := (hz 2).1 h
      omega
    · have := (hz 2).2 (by omega)
      omega

  have b3 : 0 ≤ d 3 ∧ d 3 ≤ 26 := by
    by_cases h : 3 < (M 4 217 - M 4 215).toNat
    · have := hl 3 h
      have := (hz 3).1 h
      omega
    · have := (hz 3).2 (by omega)
      omega

  have b4 : 0 ≤ d 4 ∧ d 4 ≤ 26 := by
    by_cases h : 4 < (M 4 217 - M 4 215).toNat
    · have := hl 4 h
      have := (hz 4).1 h
      omega
    · have := (hz 4).2 (by omega)
      omega

  have b5 : 0 ≤ d 5 ∧ d 5 ≤ 26 := by
    by_cases h : 5 < (M 4 217 - M 4 215).toNat
    · have := hl 5 h
      have := (hz 5).1 h
      omega
    · have := (hz 5).2 (by omega)
      omega

  have e0 := (hz 0).2 (by omega)

  have e1 := (hz 1).2 (by omega)

  have e2 := (hz 2).2 (by omega)

  have e3 := (hz 3).2 (by omega)

  have e4 := (hz 4).2 (by omega)

  have e5 := (hz 5).2 (by omega)
  refine ⟨ρ, fun _ _ => rfl, fun f h => ?_, ?_⟩
  · have h : f ∈ ([[(1, 4), (-1073741824, 8)], [(-1, 4), (1073741824, 8)]] : List qF) := h
    simp only [List.mem_cons, List.not_mem_nil, or_false] at h
    rcases h with rfl | rfl
    · show 0 ≤ 1 * ρ 4 + (-1073741824 * ρ 8 + 0)
      (try rw [h0]); omega
    · show 0 ≤ -1 * ρ 4 + (1073741824 * ρ 8 + 0)
      (try rw [h0]); omega
  · show sI M
    exact hI
-- pfxM0
def xr_425 : qRu := (9, [[(-1, 0), (-1, 1), (1, 3)], [(1, 4), (-1073741824, 8)], [(1073741823, 0), (-1, 4), (1073741824, 8)]], [(4, 214, [(1, 0)]), (4, 215, [(1, 1)]), (4, 216, [(1, 2)]), (4, 217, [(1, 3)]), (4, 219, [(1, 4)]), (4, 101, [(1, 5)])], [], [], [[(-33554432, 0), (1, 4), (-1073741824, 8)]])
theorem xo_425 : qRok xr_425 := by
  intro ρ M h0 hf hm hI
  have f0 := hf [(-1, 0), (-1, 1), (1, 3)] (by decide)
  have f1 := hf [(1, 4), (-1073741824, 8)] (by decide)
  have f2 := hf [(1073741823, 0), (-1, 4), (1073741824, 8)] (by decide)
  simp only [qD, h0] at f0 f1 f2
  have m0 : M 4 214 = 1 * ρ 0 + 0 := hm (4, 214, [(1, 0)]) (by decide)
  have m1 : M 4 215 = 1 * ρ 1 + 0 := hm (4, 215, [(1, 1)]) (by decide)
  have m2 : M 4 216 = 1 * ρ 2 + 0 := hm (4, 216, [(1, 2)]) (by decide)
  have m3 : M 4 217 = 1 * ρ 3 + 0 := hm (4, 217, [(1, 3)]) (by decide)
  have m4 : M 4 219 = 1 * ρ 4 + 0 := hm (4, 219, [(1, 4)]) (by decide)
  have m5 : M 4 101 = 1 * ρ 5 + 0 := hm (4, 101, [(1, 5)]) (by decide)
  simp only [h0] at m0
  obtain ⟨u1, u2, u3, u4, u5, u6, u7⟩ := gx_xSA hI (by omega)

  obtain ⟨d, hd, hz⟩ := tpk_dig (M 92) (M 4 215).toNat (M 4 217 - M 4 215).toNat
  rw [← u7] at hd
  have hl : ∀ i, i < (M 4 217 - M 4 215).toNat → 97 ≤ M 92 ((M 4 215).toNat + i) ∧ M 92 ((M 4 215).toNat + i) ≤ 122 := fun i hi => ten_all (n := (M 4 101).toNat) (q := (M 4 215).toNat) (by omega) (by omega)

  have b0 : 0 ≤ d 0 ∧ d 0 ≤ 26 := by
    by_cases h : 0 < (M 4 217 - M 4 215).toNat
    · have := hl 0 h
      have := (hz 0).1 h
      omega
    · have := (hz 0).2 (by omega)
      omega

  have b1 : 0 ≤ d 1 ∧ d 1 ≤ 26 := by
    by_cases h : 1 < (M 4 217 - M 4 215).toNat
    · have := hl 1 h
      have := (hz 1).1 h
      omega
    · have := (hz 1).2 (by omega)
      omega

  have b2 : 0 ≤ d 2 ∧ d 2 ≤ 26 := by
    by_cases h : 2 < (M 4 217 - M 4 215).toNat
    · have := hl 2 h
      have := (hz 2).1 h
      omega
    · have := (hz 2).2 (by omega)
      omega

  have b3 : 0 ≤ d 3 ∧ d 3 ≤ 26 := by
    by_cases h : 3 < (M 4 217 - M 4 215).toNat
    · have := hl 3 h
      have := (hz 3).1 h
      omega
    · have := (hz 3).2 (by omega)
      omega

  have b4 : 0 ≤ d 4 ∧ d 4 ≤ 26 := by
    by_cases h : 4 < (M 4 217 - M 4 215).toNat
    · have := hl 4 h
      have := (hz 4).1 h
      omega
    · have := (hz 4).2 (by omega)
      omega

  have b5 : 0 ≤ d 5 ∧ d 5 ≤ 26 := by
    by_cases h : 5 < (M 4 217 - M 4 215).toNat
    · have := hl 5 h
      have := (hz 5).1 h
      omega
    · have := (hz 5).2 (by omega)
      omega

  have hv := (hz 0).1 (by omega)
  have hv2 := hl 0 (by omega)
  refine ⟨ρ, fun _ _ => rfl, fun f h => ?_, ?_⟩
  · have h : f ∈ ([[(-33554432, 0), (1, 4), (-1073741824, 8)]] : List qF) := h
    simp only [List.mem_cons, List.not_mem_nil, or_false] at h
    rcases h with rfl
    · show 0 ≤ -33554432 * ρ 0 + (1 * ρ 4 + (-1073741824 * ρ 8 + 0))
      (try rw [h0]); omega
  · show sI M
    exact hI
-- pfx1
def xr_426 : qRu := (9, [[(-1, 0), (-1, 1), (1, 6)], [(1, 0), (1, 1), (-1, 6)], [(-2, 0), (-1, 1), (1, 3)], [(1, 4), (-33554432, 8)], [(33554431, 0), (-1, 4), (33554432, 8)]], [(4, 214, [(1, 0)]), (4, 215, [(1, 1)]), (4, 216, [(1, 2)]), (4, 217, [(1, 3)]), (4, 219, [(1, 4)]), (4, 101, [(1, 5)]), (92, 1006, [(1, 7)])], [], [], [[(100663296, 0), (1, 4), (-1048576, 7), (-33554432, 8)], [(-99614721, 0), (-1, 4), (1048576, 7), (33554432, 8)], [(-97, 0), (1, 7)], [(122, 0), (-1, 7)]])
theorem xo_426 : qRok xr_426 := by
  intro ρ M h0 hf hm hI
  have f0 := hf [(-1, 0), (-1, 1), (1, 6)] (by decide)
  have f1 := hf [(1, 0), (1, 1), (-1, 6)] (by decide)
  have f2 := hf [(-2, 0), (-1, 1), (1, 3)] (by decide)
  have f3 := hf [(1, 4), (-33554432, 8)] (by decide)
  have f4 := hf [(33554431, 0), (-1, 4), (33554432, 8)] (by decide)
  simp only [qD, h0] at f0 f1 f2 f3 f4
  have m0 : M 4 214 = 1 * ρ 0 + 0 := hm (4, 214, [(1, 0)]) (by decide)
  have m1 : M 4 215 = 1 * ρ 1 + 0 := hm (4, 215, [(1, 1)]) (by decide)
  have m2 : M 4 216 = 1 * ρ 2 + 0 := hm (4, 216, [(1, 2)]) (by decide)
  have m3 : M 4 217 = 1 * ρ 3 + 0 := hm (4, 217, [(1, 3)]) (by decide)
  have m4 : M 4 219 = 1 * ρ 4 + 0 := hm (4, 219, [(1, 4)]) (by decide)
  have m5 : M 4 101 = 1 * ρ 5 + 0 := hm (4, 101, [(1, 5)]) (by decide)
  have m6 : M 92 (zIx ρ (1000 + 6)) = 1 * ρ 7 + 0 := hm (92, 1006, [(1, 7)]) (by decide)
  rw [zix_p] at m6
  simp only [h0] at m0
  obtain ⟨u1, u2, u3, u4, u5, u6, u7⟩ := gx_xSA hI (by omega)

  obtain ⟨d, hd, hz⟩ := tpk_dig (M 92) (M 4 215).toNat (M 4 217 - M 4 215).toNat
  rw [← u7] at hd
  have hl : ∀ i, i < (M 4 217 - M 4 215).toNat → 97 ≤ M 92 ((M 4 215).toNat + i) ∧ M 92 ((M 4 215).toNat + i) ≤ 122 := fun i hi => ten_all (n := (M 4 101).toNat) (q := (M 4 215).toNat) (by omega) (by omega)

  have b0 : 0 ≤ d 0 ∧ d 0 ≤ 26 := by
    by_cases h : 0 < (M 4 217 - M 4 215).toNat
    · have := hl 0 h
      have := (hz 0).1 h
      omega
    · have := (hz 0).2 (by omega)
      omega

  have b1 : 0 ≤ d 1 ∧ d 1 ≤ 26 := by
    by_cases h : 1 < (M 4 217 - M 4 215).toNat
    · have := hl 1 h
      have := (hz 1).1 h
      omega
    · have := (hz 1).2 (by omega)
      omega

  have b2 : 0 ≤ d 2 ∧ d 2 ≤ 26 := by
    by_cases h : 2 < (M 4 217 - M 4 215).toNat
    · have := hl 2 h
      have := (hz 2).1 h
      omega
    · have := (hz 2).2 (by omega)
      omega

  have b3 : 0 ≤ d 3 ∧ d 3 ≤ 26 := by
    by_cases h : 3 < (M 4 217 - M 4 215).toNat
    · have := hl 3 h
      have := (hz 3).1 h
      omega
    · have := (hz 3).2 (by omega)
      omega

  have b4 : 0 ≤ d 4 ∧ d 4 ≤ 26 := by
    by_cases h : 4 < (M 4 217 - M 4 215).toNat
    · have := hl 4 h
      have := (hz 4).1 h
      omega
    · have := (hz 4).2 (by omega)
      omega

  have b5 : 0 ≤ d 5 ∧ d 5 ≤ 26 := by
    by_cases h : 5 < (M 4 217 - M 4 215).toNat
    · have := hl 5 h
      have := (hz 5).1 h
      omega
    · have := (hz 5).2 (by omega)
      omega

  have hv := (hz 1).1 (by omega)
  have hv2 := hl 1 (by omega)
  rw [show (M 4 215).toNat + 1 = (ρ 6).toNat by omega] at hv hv2
  refine ⟨ρ, fun _ _ => rfl, fun f h => ?_, ?_⟩
  · have h : f ∈ ([[(100663296, 0), (1, 4), (-1048576, 7), (-33554432, 8)], [(-99614721, 0), (-1, 4), (1048576, 7), (33554432, 8)], [(-97, 0), (1, 7)], [(122, 0), (-1, 7)]] : List qF) := h
    simp only [List.mem_cons, List.not_mem_nil, or_false] at h
    rcases h with rfl | rfl | rfl | rfl
    · show 0 ≤ 100663296 * ρ 0 + (1 * ρ 4 + (-1048576 * ρ 7 + (-33554432 * ρ 8 + 0)))
      (try rw [h0]); omega
    · show 0 ≤ -99614721 * ρ 0 + (-1 * ρ 4 + (1048576 * ρ 7 + (33554432 * ρ 8 + 0)))
      (try rw [h0]); omega
    · show 0 ≤ -97 * ρ 0 + (1 * ρ 7 + 0)
      (try rw [h0]); omega
    · show 0 ≤ 122 * ρ 0 + (-1 * ρ 7 + 0)
      (try rw [h0]); omega
  · show sI M
    exact hI
-- pfxE1
def xr_427 : qRu := (9, [[(1, 0), (1, 1), (-1, 3)], [(1, 4), (-33554432, 8)], [(33554431, 0), (-1, 4), (33554432, 8)]], [(4, 214, [(1, 0)]), (4, 215, [(1, 1)]), (4, 216, [(1, 2)]), (4, 217, [(1, 3)]), (4, 219, [(1, 4)]), (4, 101, [(1, 5)])], [], [], [[(1, 4), (-33554432, 8)], [(-1, 4), (33554432, 8)]])
theorem xo_427 : qRok xr_427 := by
  intro ρ M h0 hf hm hI
  have f0 := hf [(1, 0), (1, 1), (-1, 3)] (by decide)
  have f1 := hf [(1, 4), (-33554432, 8)] (by decide)
  have f2 := hf [(33554431, 0), (-1, 4), (33554432, 8)] (by decide)
  simp only [qD, h0] at f0 f1 f2
  have m0 : M 4 214 = 1 * ρ 0 + 0 := hm (4, 214, [(1, 0)]) (by decide)
  have m1 : M 4 215 = 1 * ρ 1 + 0 := hm (4, 215, [(1, 1)]) (by decide)
  have m2 : M 4 216 = 1 * ρ 2 + 0 := hm (4, 216, [(1, 2)]) (by decide)
  have m3 : M 4 217 = 1 * ρ 3 + 0 := hm (4, 217, [(1, 3)]) (by decide)
  have m4 : M 4 219 = 1 * ρ 4 + 0 := hm (4, 219, [(1, 4)]) (by decide)
  have m5 : M 4 101 = 1 * ρ 5 + 0 := hm (4, 101, [(1, 5)]) (by decide)
  simp only [h0] at m0
  obtain ⟨u1, u2, u3, u4, u5, u6, u7⟩ := gx_xSA hI (by omega)

  obtain ⟨d, hd, hz⟩ := tpk_dig (M 92) (M 4 215).toNat (M 4 217 - M 4 215).toNat
  rw [← u7] at hd
  have hl : ∀ i, i < (M 4 217 - M 4 215).toNat → 97 ≤ M 92 ((M 4 215).toNat + i) ∧ M 92 ((M 4 215).toNat + i) ≤ 122 := fun i hi => ten_all (n := (M 4 101).toNat) (q := (M 4 215).toNat) (by omega) (by omega)

  have b0 : 0 ≤ d 0 ∧ d 0 ≤ 26 := by
    by_cases h : 0 < (M 4 217 - M 4 215).toNat
    · have := hl 0 h
      have := (hz 0).1 h
      omega
    · have := (hz 0).2 (by omega)
      omega

  have b1 : 0 ≤ d 1 ∧ d 1 ≤ 26 := by
    by_cases h : 1 < (M 4 217 - M 4 215).toNat
    · have := hl 1 h
      have := (hz 1).1 h
      omega
    · have := (hz 1).2 (by omega)
      omega

  have b2 : 0 ≤ d 2 ∧ d 2 ≤ 26 := by
    by_cases h : 2 < (M 4 217 - M 4 215).toNat
    · have := hl 2 h
      have := (hz 2).1 h
      omega
    · have := (hz 2).2 (by omega)
      omega

  have b3 : 0 ≤ d 3 ∧ d 3 ≤ 26 := by
    by_cases h : 3 < (M 4 217 - M 4 215).toNat
    · have := hl 3 h
      have := (hz 3).1 h
      omega
    · have := (hz 3).2 (by omega)
      omega

  have b4 : 0 ≤ d 4 ∧ d 4 ≤ 26 := by
    by_cases h : 4 < (M 4 217 - M 4 215).toNat
    · have := hl 4 h
      have := (hz 4).1 h
      omega
    · have := (hz 4).2 (by omega)
      omega

  have b5 : 0 ≤ d 5 ∧ d 5 ≤ 26 := by
    by_cases h : 5 < (M 4 217 - M 4 215).toNat
    · have := hl 5 h
      have := (hz 5).1 h
      omega
    · have := (hz 5).2 (by omega)
      omega

  have e1 := (hz 1).2 (by omega)

  have e2 := (hz 2).2 (by omega)

  have e3 := (hz 3).2 (by omega)

  have e4 := (hz 4).2 (by omega)

  have e5 := (hz 5).2 (by omega)
  refine ⟨ρ, fun _ _ => rfl, fun f h => ?_, ?_⟩
  · have h : f ∈ ([[(1, 4), (-33554432, 8)], [(-1, 4), (33554432, 8)]] : List qF) := h
    simp only [List.mem_cons, List.not_mem_nil, or_false] at h
    rcases h with rfl | rfl
    · show 0 ≤ 1 * ρ 4 + (-33554432 * ρ 8 + 0)
      (try rw [h0]); omega
    · show 0 ≤ -1 * ρ 4 + (33554432 * ρ 8 + 0)
      (try rw [h0]); omega
  · show sI M
    exact hI
-- pfxM1
def xr_428 : qRu := (9, [[(-2, 0), (-1, 1), (1, 3)], [(1, 4), (-33554432, 8)], [(33554431, 0), (-1, 4), (33554432, 8)]], [(4, 214, [(1, 0)]), (4, 215, [(1, 1)]), (4, 216, [(1, 2)]), (4, 217, [(1, 3)]), (4, 219, [(1, 4)]), (4, 101, [(1, 5)])], [], [], [[(-1048576, 0), (1, 4), (-33554432, 8)]])
theorem xo_428 : qRok xr_428 := by
  intro ρ M h0 hf hm hI
  have f0 := hf [(-2, 0), (-1, 1), (1, 3)] (by decide)
  have f1 := hf [(1, 4), (-33554432, 8)] (by decide)
  have f2 := hf [(33554431, 0), (-1, 4), (33554432, 8)] (by decide)
  simp only [qD, h0] at f0 f1 f2
  have m0 : M 4 214 = 1 * ρ 0 + 0 := hm (4, 214, [(1, 0)]) (by decide)
  have m1 : M 4 215 = 1 * ρ 1 + 0 := hm (4, 215, [(1, 1)]) (by decide)
  have m2 : M 4 216 = 1 * ρ 2 + 0 := hm (4, 216, [(1, 2)]) (by decide)
  have m3 : M 4 217 = 1 * ρ 3 + 0 := hm (4, 217, [(1, 3)]) (by decide)
  have m4 : M 4 219 = 1 * ρ 4 + 0 := hm (4, 219, [(1, 4)]) (by decide)
  have m5 : M 4 101 = 1 * ρ 5 + 0 := hm (4, 101, [(1, 5)]) (by decide)
  simp only [h0] at m0
  obtain ⟨u1, u2, u3, u4, u5, u6, u7⟩ := gx_xSA hI (by omega)

  obtain ⟨d, hd, hz⟩ := tpk_dig (M 92) (M 4 215).toNat (M 4 217 - M 4 215).toNat
  rw [← u7] at hd
  have hl : ∀ i, i < (M 4 217 - M 4 215).toNat → 97 ≤ M 92 ((M 4 215).toNat + i) ∧ M 92 ((M 4 215).toNat + i) ≤ 122 := fun i hi => ten_all (n := (M 4 101).toNat) (q := (M 4 215).toNat) (by omega) (by omega)

  have b0 : 0 ≤ d 0 ∧ d 0 ≤ 26 := by
    by_cases h : 0 < (M 4 217 - M 4 215).toNat
    · have := hl 0 h
      have := (hz 0).1 h
      omega
    · have := (hz 0).2 (by omega)
      omega

  have b1 : 0 ≤ d 1 ∧ d 1 ≤ 26 := by
    by_cases h : 1 < (M 4 217 - M 4 215).toNat
    · have := hl 1 h
      have := (hz 1).1 h
      omega
    · have := (hz 1).2 (by omega)
      omega

  have b2 : 0 ≤ d 2 ∧ d 2 ≤ 26 := by
    by_cases h : 2 < (M 4 217 - M 4 215).toNat
    · have := hl 2 h
      have := (hz 2).1 h
      omega
    · have := (hz 2).2 (by omega)
      omega

  have b3 : 0 ≤ d 3 ∧ d 3 ≤ 26 := by
    by_cases h : 3 < (M 4 217 - M 4 215).toNat
    · have := hl 3 h
      have := (hz 3).1 h
      omega
    · have := (hz 3).2 (by omega)
      omega

  have b4 : 0 ≤ d 4 ∧ d 4 ≤ 26 := by
    by_cases h : 4 < (M 4 217 - M 4 215).toNat
    · have := hl 4 h
      have := (hz 4).1 h
      omega
    · have := (hz 4).2 (by omega)
      omega

  have b5 : 0 ≤ d 5 ∧ d 5 ≤ 26 := by
    by_cases h : 5 < (M 4 217 - M 4 215).toNat
    · have := hl 5 h
      have := (hz 5).1 h
      omega
    · have := (hz 5).2 (by omega)
      omega

  have hv := (hz 1).1 (by omega)
  have hv2 := hl 1 (by omega)
  refine ⟨ρ, fun _ _ => rfl, fun f h => ?_, ?_⟩
  · have h : f ∈ ([[(-1048576, 0), (1, 4), (-33554432, 8)]] : List qF) := h
    simp only [List.mem_cons, List.not_mem_nil, or_false] at h
    rcases h with rfl
    · show 0 ≤ -1048576 * ρ 0 + (1 * ρ 4 + (-33554432 * ρ 8 + 0))
      (try rw [h0]); omega
  · show sI M
    exact hI
-- pfx2
def xr_429 : qRu := (9, [[(-2, 0), (-1, 1), (1, 6)], [(2, 0), (1, 1), (-1, 6)], [(-3, 0), (-1, 1), (1, 3)], [(1, 4), (-1048576, 8)], [(1048575, 0), (-1, 4), (1048576, 8)]], [(4, 214, [(1, 0)]), (4, 215, [(1, 1)]), (4, 216, [(1, 2)]), (4, 217, [(1, 3)]), (4, 219, [(1, 4)]), (4, 101, [(1, 5)]), (92, 1006, [(1, 7)])], [], [], [[(3145728, 0), (1, 4), (-32768, 7), (-1048576, 8)], [(-3112961, 0), (-1, 4), (32768, 7), (1048576, 8)], [(-97, 0), (1, 7)], [(122, 0), (-1, 7)]])
theorem xo_429 : qRok xr_429 := by
  intro ρ M h0 hf hm hI
  have f0 := hf [(-2, 0), (-1, 1), (1, 6)] (by decide)
  have f1 := hf [(2, 0), (1, 1), (-1, 6)] (by decide)
  have f2 := hf [(-3, 0), (-1, 1), (1, 3)] (by decide)
  have f3 := hf [(1, 4), (-1048576, 8)] (by decide)
  have f4 := hf [(1048575, 0), (-1, 4), (1048576, 8)] (by decide)
  simp only [qD, h0] at f0 f1 f2 f3 f4
  have m0 : M 4 214 = 1 * ρ 0 + 0 := hm (4, 214, [(1, 0)]) (by decide)
  have m1 : M 4 215 = 1 * ρ 1 + 0 := hm (4, 215, [(1, 1)]) (by decide)
  have m2 : M 4 216 = 1 * ρ 2 + 0 := hm (4, 216, [(1, 2)]) (by decide)
  have m3 : M 4 217 = 1 * ρ 3 + 0 := hm (4, 217, [(1, 3)]) (by decide)
  have m4 : M 4 219 = 1 * ρ 4 + 0 := hm (4, 219, [(1, 4)]) (by decide)
  have m5 : M 4 101 = 1 * ρ 5 + 0 := hm (4, 101, [(1, 5)]) (by decide)
  have m6 : M 92 (zIx ρ (1000 + 6)) = 1 * ρ 7 + 0 := hm (92, 1006, [(1, 7)]) (by decide)
  rw [zix_p] at m6
  simp only [h0] at m0
  obtain ⟨u1, u2, u3, u4, u5, u6, u7⟩ := gx_xSA hI (by omega)

  obtain ⟨d, hd, hz⟩ := tpk_dig (M 92) (M 4 215).toNat (M 4 217 - M 4 215).toNat
  rw [← u7] at hd
  have hl : ∀ i, i < (M 4 217 - M 4 215).toNat → 97 ≤ M 92 ((M 4 215).toNat + i) ∧ M 92 ((M 4 215).toNat + i) ≤ 122 := fun i hi => ten_all (n := (M 4 101).toNat) (q := (M 4 215).toNat) (by omega) (by omega)

  have b0 : 0 ≤ d 0 ∧ d 0 ≤ 26 := by
    by_cases h : 0 < (M 4 217 - M 4 215).toNat
    · have := hl 0 h
      have := (hz 0).1 h
      omega
    · have := (hz 0).2 (by omega)
      omega

  have b1 : 0 ≤ d 1 ∧ d 1 ≤ 26 := by
    by_cases h : 1 < (M 4 217 - M 4 215).toNat
    · have := hl 1 h
      have := (hz 1).1 h
      omega
    · have := (hz 1).2 (by omega)
      omega

  have b2 : 0 ≤ d 2 ∧ d 2 ≤ 26 := by
    by_cases h : 2 < (M 4 217 - M 4 215).toNat
    · have := hl 2 h
      have := (hz 2).1 h
      omega
    · have := (hz 2).2 (by omega)
      omega

  have b3 : 0 ≤ d 3 ∧ d 3 ≤ 26 := by
    by_cases h : 3 < (M 4 217 - M 4 215).toNat
    · have := hl 3 h
      have := (hz 3).1 h
      omega
    · have := (hz 3).2 (by omega)
      omega

  have b4 : 0 ≤ d 4 ∧ d 4 ≤ 26 := by
    by_cases h : 4 < (M 4 217 - M 4 215).toNat
    · have := hl 4 h
      have := (hz 4).1 h
      omega
    · have := (hz 4).2 (by omega)
      omega

  have b5 : 0 ≤ d 5 ∧ d 5 ≤ 26 := by
    by_cases h : 5 < (M 4 217 - M 4 215).toNat
    · have := hl 5 h
      have := (hz 5).1 h
      omega
    · have := (hz 5).2 (by omega)
      omega

  have hv := (hz 2).1 (by omega)
  have hv2 := hl 2 (by omega)
  rw [show (M 4 215).toNat + 2 = (ρ 6).toNat by omega] at hv hv2
  refine ⟨ρ, fun _ _ => rfl, fun f h => ?_, ?_⟩
  · have h : f ∈ ([[(3145728, 0), (1, 4), (-32768, 7), (-1048576, 8)], [(-3112961, 0), (-1, 4), (32768, 7), (1048576, 8)], [(-97, 0), (1, 7)], [(122, 0), (-1, 7)]] : List qF) := h
    simp only [List.mem_cons, List.not_mem_nil, or_false] at h
    rcases h with rfl | rfl | rfl | rfl
    · show 0 ≤ 3145728 * ρ 0 + (1 * ρ 4 + (-32768 * ρ 7 + (-1048576 * ρ 8 + 0)))
      (try rw [h0]); omega
    · show 0 ≤ -3112961 * ρ 0 + (-1 * ρ 4 + (32768 * ρ 7 + (1048576 * ρ 8 + 0)))
      (try rw [h0]); omega
    · show 0 ≤ -97 * ρ 0 + (1 * ρ 7 + 0)
      (try rw [h0]); omega
    · show 0 ≤ 122 * ρ 0 + (-1 * ρ 7 + 0)
      (try rw [h0]); omega
  · show sI M
    exact hI
-- pfxE2
def xr_430 : qRu := (9, [[(2, 0), (1, 1), (-1, 3)], [(1, 4), (-1048576, 8)], [(1048575, 0), (-1, 4), (1048576, 8)]], [(4, 214, [(1, 0)]), (4, 215, [(1, 1)]), (4, 216, [(1, 2)]), (4, 217, [(1, 3)]), (4, 219, [(1, 4)]), (4, 101, [(1, 5)])], [], [], [[(1, 4), (-1048576, 8)], [(-1, 4), (1048576, 8)]])
theorem xo_430 : qRok xr_430 := by
  intro ρ M h0 hf hm hI
  have f0 := hf [(2, 0), (1, 1), (-1, 3)] (by decide)
  have f1 := hf [(1, 4), (-1048576, 8)] (by decide)
  have f2 := hf [(1048575, 0), (-1, 4), (1048576, 8)] (by decide)
  simp only [qD, h0] at f0 f1 f2
  have m0 : M 4 214 = 1 * ρ 0 + 0 := hm (4, 214, [(1, 0)]) (by decide)
  have m1 : M 4 215 = 1 * ρ 1 + 0 := hm (4, 215, [(1, 1)]) (by decide)
  have m2 : M 4 216 = 1 * ρ 2 + 0 := hm (4, 216, [(1, 2)]) (by decide)
  have m3 : M 4 217 = 1 * ρ 3 + 0 := hm (4, 217, [(1, 3)]) (by decide)
  have m4 : M 4 219 = 1 * ρ 4 + 0 := hm (4, 219, [(1, 4)]) (by decide)
  have m5 : M 4 101 = 1 * ρ 5 + 0 := hm (4, 101, [(1, 5)]) (by decide)
  simp only [h0] at m0
  obtain ⟨u1, u2, u3, u4, u5, u6, u7⟩ := gx_xSA hI (by omega)

  obtain ⟨d, hd, hz⟩ := tpk_dig (M 92) (M 4 215).toNat (M 4 217 - M 4 215).toNat
  rw [← u7] at hd
  have hl : ∀ i, i < (M 4 217 - M 4 215).toNat → 97 ≤ M 92 ((M 4 215).toNat + i) ∧ M 92 ((M 4 215).toNat + i) ≤ 122 := fun i hi => ten_all (n := (M 4 101).toNat) (q := (M 4 215).toNat) (by omega) (by omega)

  have b0 : 0 ≤ d 0 ∧ d 0 ≤ 26 := by
    by_cases h : 0 < (M 4 217 - M 4 215).toNat
    · have := hl 0 h
      have := (hz 0).1 h
      omega
    · have := (hz 0).2 (by omega)
      omega

  have b1 : 0 ≤ d 1 ∧ d 1 ≤ 26 := by
    by_cases h : 1 < (M 4 217 - M 4 215).toNat
    · have := hl 1 h
      have := (hz 1).1 h
      omega
    · have := (hz 1).2 (by omega)
      omega

  have b2 : 0 ≤ d 2 ∧ d 2 ≤ 26 := by
    by_cases h : 2 < (M 4 217 - M 4 215).toNat
    · have := hl 2 h
      have := (hz 2).1 h
      omega
    · have := (hz 2).2 (by omega)
      omega

  have b3 : 0 ≤ d 3 ∧ d 3 ≤ 26 := by
    by_cases h : 3 < (M 4 217 - M 4 215).toNat
    · have := hl 3 h
      have := (hz 3).1 h
      omega
    · have := (hz 3).2 (by omega)
      omega

  have b4 : 0 ≤ d 4 ∧ d 4 ≤ 26 := by
    by_cases h : 4 < (M 4 217 - M 4 215).toNat
    · have := hl 4 h
      have := (hz 4).1 h
      omega
    · have := (hz 4).2 (by omega)
      omega

  have b5 : 0 ≤ d 5 ∧ d 5 ≤ 26 := by
    by_cases h : 5 < (M 4 217 - M 4 215).toNat
    · have := hl 5 h
      have := (hz 5).1 h
      omega
    · have := (hz 5).2 (by omega)
      omega

  have e2 := (hz 2).2 (by omega)

  have e3 := (hz 3).2 (by omega)

  have e4 := (hz 4).2 (by omega)

  have e5 := (hz 5).2 (by omega)
  refine ⟨ρ, fun _ _ => rfl, fun f h => ?_, ?_⟩
  · have h : f ∈ ([[(1, 4), (-1048576, 8)], [(-1, 4), (1048576, 8)]] : List qF) := h
    simp only [List.mem_cons, List.not_mem_nil, or_false] at h
    rcases h with rfl | rfl
    · show 0 ≤ 1 * ρ 4 + (-1048576 * ρ 8 + 0)
      (try rw [h0]); omega
    · show 0 ≤ -1 * ρ 4 + (1048576 * ρ 8 + 0)
      (try rw [h0]); omega
  · show sI M
    exact hI
-- pfxM2
def xr_431 : qRu := (9, [[(-3, 0), (-1, 1), (1, 3)], [(1, 4), (-1048576, 8)], [(1048575, 0), (-1, 4), (1048576, 8)]], [(4, 214, [(1, 0)]), (4, 215, [(1, 1)]), (4, 216, [(1, 2)]), (4, 217, [(1, 3)]), (4, 219, [(1, 4)]), (4, 101, [(1, 5)])], [], [], [[(-32768, 0), (1, 4), (-1048576, 8)]])
theorem xo_431 : qRok xr_431 := by
  intro ρ M h0 hf hm hI
  have f0 := hf [(-3, 0), (-1, 1), (1, 3)] (by decide)
  have f1 := hf [(1, 4), (-1048576, 8)] (by decide)
  have f2 := hf [(1048575, 0), (-1, 4), (1048576, 8)] (by decide)
  simp only [qD, h0] at f0 f1 f2
  have m0 : M 4 214 = 1 * ρ 0 + 0 := hm (4, 214, [(1, 0)]) (by decide)
  have m1 : M 4 215 = 1 * ρ 1 + 0 := hm (4, 215, [(1, 1)]) (by decide)
  have m2 : M 4 216 = 1 * ρ 2 + 0 := hm (4, 216, [(1, 2)]) (by decide)
  have m3 : M 4 217 = 1 * ρ 3 + 0 := hm (4, 217, [(1, 3)]) (by decide)
  have m4 : M 4 219 = 1 * ρ 4 + 0 := hm (4, 219, [(1, 4)]) (by decide)
  have m5 : M 4 101 = 1 * ρ 5 + 0 := hm (4, 101, [(1, 5)]) (by decide)
  simp only [h0] at m0
  obtain ⟨u1, u2, u3, u4, u5, u6, u7⟩ := gx_xSA hI (by omega)

  obtain ⟨d, hd, hz⟩ := tpk_dig (M 92) (M 4 215).toNat (M 4 217 - M 4 215).toNat
  rw [← u7] at hd
  have hl : ∀ i, i < (M 4 217 - M 4 215).toNat → 97 ≤ M 92 ((M 4 215).toNat + i) ∧ M 92 ((M 4 215).toNat + i) ≤ 122 := fun i hi => ten_all (n := (M 4 101).toNat) (q := (M 4 215).toNat) (by omega) (by omega)

  have b0 : 0 ≤ d 0 ∧ d 0 ≤ 26 := by
    by_cases h : 0 < (M 4 217 - M 4 215).toNat
    · have := hl 0 h
      have := (hz 0).1 h
      omega
    · have := (hz 0).2 (by omega)
      omega

  have b1 : 0 ≤ d 1 ∧ d 1 ≤ 26 := by
    by_cases h : 1 < (M 4 217 - M 4 215).toNat
    · have := hl 1 h
      have := (hz 1).1 h
      omega
    · have := (hz 1).2 (by omega)
      omega

  have b2 : 0 ≤ d 2 ∧ d 2 ≤ 26 := by
    by_cases h : 2 < (M 4 217 - M 4 215).toNat
    · have := hl 2 h
      have := (hz 2).1 h
      omega
    · have := (hz 2).2 (by omega)
      omega

  have b3 : 0 ≤ d 3 ∧ d 3 ≤ 26 := by
    by_cases h : 3 < (M 4 217 - M 4 215).toNat
    · have := hl 3 h
      have := (hz 3).1 h
      omega
    · have := (hz 3).2 (by omega)
      omega

  have b4 : 0 ≤ d 4 ∧ d 4 ≤ 26 := by
    by_cases h : 4 < (M 4 217 - M 4 215).toNat
    · have := hl 4 h
      have := (hz 4).1 h
      omega
    · have := (hz 4).2 (by omega)
      omega

  have b5 : 0 ≤ d 5 ∧ d 5 ≤ 26 := by
    by_cases h : 5 < (M 4 217 - M 4 215).toNat
    · have := hl 5 h
      have := (hz 5).1 h
      omega
    · have := (hz 5).2 (by omega)
      omega

  have hv := (hz 2).1 (by omega)
  have hv2 := hl 2 (by omega)
  refine ⟨ρ, fun _ _ => rfl, fun f h => ?_, ?_⟩
  · have h : f ∈ ([[(-32768, 0), (1, 4), (-1048576, 8)]] : List qF) := h
    simp only [List.mem_cons, List.not_mem_nil, or_false] at h
    rcases h with rfl
    · show 0 ≤ -32768 * ρ 0 + (1 * ρ 4 + (-1048576 * ρ 8 + 0))
      (try rw [h0]); omega
  · show sI M
    exact hI
-- pfx3
def xr_432 : qRu := (9, [[(-3, 0), (-1, 1), (1, 6)], [(3, 0), (1, 1), (-1, 6)], [(-4, 0), (-1, 1), (1, 3)], [(1, 4), (-32768, 8)], [(32767, 0), (-1, 4), (32768, 8)]], [(4, 214, [(1, 0)]), (4, 215, [(1, 1)]), (4, 216, [(1, 2)]), (4, 217, [(1, 3)]), (4, 219, [(1, 4)]), (4, 101, [(1, 5)]), (92, 1006, [(1, 7)])], [], [], [[(98304, 0), (1, 4), (-1024, 7), (-32768, 8)], [(-97281, 0), (-1, 4), (1024, 7), (32768, 8)], [(-97, 0), (1, 7)], [(122, 0), (-1, 7)]])
theorem xo_432 : qRok xr_432 := by
  intro ρ M h0 hf hm hI
  have f0 := hf [(-3, 0), (-1, 1), (1, 6)] (by decide)
  have f1 := hf [(3, 0), (1, 1), (-1, 6)] (by decide)
  have f2 := hf [(-4, 0), (-1, 1), (1, 3)] (by decide)
  have f3 := hf [(1, 4), (-32768, 8)] (by decide)
  have f4 := hf [(32767, 0), (-1, 4), (32768, 8)] (by decide)
  simp only [qD, h0] at f0 f1 f2 f3 f4
  have m0 : M 4 214 = 1 * ρ 0 + 0 := hm (4, 214, [(1, 0)]) (by decide)
  have m1 : M 4 215 = 1 * ρ 1 + 0 := hm (4, 215, [(1, 1)]) (by decide)
  have m2 : M 4 216 = 1 * ρ 2 + 0 := hm (4, 216, [(1, 2)]) (by decide)
  have m3 : M 4 217 = 1 * ρ 3 + 0 := hm (4, 217, [(1, 3)]) (by decide)
  have m4 : M 4 219 = 1 * ρ 4 + 0 := hm (4, 219, [(1, 4)]) (by decide)
  have m5 : M 4 101 = 1 * ρ 5 + 0 := hm (4, 101, [(1, 5)]) (by decide)
  have m6 : M 92 (zIx ρ (1000 + 6)) = 1 * ρ 7 + 0 := hm (92, 1006, [(1, 7)]) (by decide)
  rw [zix_p] at m6
  simp only [h0] at m0
  obtain ⟨u1, u2, u3, u4, u5, u6, u7⟩ := gx_xSA hI (by omega)

  obtain ⟨d, hd, hz⟩ := tpk_dig (M 92) (M 4 215).toNat (M 4 217 - M 4 215).toNat
  rw [← u7] at hd
  have hl : ∀ i, i < (M 4 217 - M 4 215).toNat → 97 ≤ M 92 ((M 4 215).toNat + i) ∧ M 92 ((M 4 215).toNat + i) ≤ 122 := fun i hi => ten_all (n := (M 4 101).toNat) (q := (M 4 215).toNat) (by omega) (by omega)

  have b0 : 0 ≤ d 0 ∧ d 0 ≤ 26 := by
    by_cases h : 0 < (M 4 217 - M 4 215).toNat
    · have := hl 0 h
      have := (hz 0).1 h
      omega
    · have := (hz 0).2 (by omega)
      omega

  have b1 : 0 ≤ d 1 ∧ d 1 ≤ 26 := by
    by_cases h : 1 < (M 4 217 - M 4 215).toNat
    · have := hl 1 h
      have := (hz 1).1 h
      omega
    · have := (hz 1).2 (by omega)
      omega

  have b2 : 0 ≤ d 2 ∧ d 2 ≤ 26 := by
    by_cases h : 2 < (M 4 217 - M 4 215).toNat
    · have := hl 2 h
      have := (hz 2).1 h
      omega
    · have := (hz 2).2 (by omega)
      omega

  have b3 : 0 ≤ d 3 ∧ d 3 ≤ 26 := by
    by_cases h : 3 < (M 4 217 - M 4 215).toNat
    · have := hl 3 h
      have := (hz 3).1 h
      omega
    · have := (hz 3).2 (by omega)
      omega

  have b4 : 0 ≤ d 4 ∧ d 4 ≤ 26 := by
    by_cases h : 4 < (M 4 217 - M 4 215).toNat
    · have := hl 4 h
      have := (hz 4).1 h
      omega
    · have := (hz 4).2 (by omega)
      omega

  have b5 : 0 ≤ d 5 ∧ d 5 ≤ 26 := by
    by_cases h : 5 < (M 4 217 - M 4 215).toNat
    · have := hl 5 h
      have := (hz 5).1 h
      omega
    · have := (hz 5).2 (by omega)
      omega

  have hv := (hz 3).1 (by omega)
  have hv2 := hl 3 (by omega)
  rw [show (M 4 215).toNat + 3 = (ρ 6).toNat by omega] at hv hv2
  refine ⟨ρ, fun _ _ => rfl, fun f h => ?_, ?_⟩
  · have h : f ∈ ([[(98304, 0), (1, 4), (-1024, 7), (-32768, 8)], [(-97281, 0), (-1, 4), (1024, 7), (32768, 8)], [(-97, 0), (1, 7)], [(122, 0), (-1, 7)]] : List qF) := h
    simp only [List.mem_cons, List.not_mem_nil, or_false] at h
    rcases h with rfl | rfl | rfl | rfl
    · show 0 ≤ 98304 * ρ 0 + (1 * ρ 4 + (-1024 * ρ 7 + (-32768 * ρ 8 + 0)))
      (try rw [h0]); omega
    · show 0 ≤ -97281 * ρ 0 + (-1 * ρ 4 + (1024 * ρ 7 + (32768 * ρ 8 + 0)))
      (try rw [h0]); omega
    · show 0 ≤ -97 * ρ 0 + (1 * ρ 7 + 0)
      (try rw [h0]); omega
    · show 0 ≤ 122 * ρ 0 + (-1 * ρ 7 + 0)
      (try rw [h0]); omega
  · show sI M
    exact hI
-- pfxE3
def xr_433 : qRu := (9, [[(3, 0), (1, 1), (-1, 3)], [(1, 4), (-32768, 8)], [(32767, 0), (-1, 4), (32768, 8)]], [(4, 214, [(1, 0)]), (4, 215, [(1, 1)]), (4, 216, [(1, 2)]), (4, 217, [(1, 3)]), (4, 219, [(1, 4)]), (4, 101, [(1, 5)])], [], [], [[(1, 4), (-32768, 8)], [(-1, 4), (32768, 8)]])
theorem xo_433 : qRok xr_433 := by
  intro ρ M h0 hf hm hI
  have f0 := hf [(3, 0), (1, 1), (-1, 3)] (by decide)
  have f1 := hf [(1, 4), (-32768, 8)] (by decide)
  have f2 := hf [(32767, 0), (-1, 4), (32768, 8)] (by decide)
  simp only [qD, h0] at f0 f1 f2
  have m0 : M 4 214 = 1 * ρ 0 + 0 := hm (4, 214, [(1, 0)]) (by decide)
  have m1 : M 4 215 = 1 * ρ 1 + 0 := hm (4, 215, [(1, 1)]) (by decide)
  have m2 : M 4 216 = 1 * ρ 2 + 0 := hm (4, 216, [(1, 2)]) (by decide)
  have m3 : M 4 217 = 1 * ρ 3 + 0 := hm (4, 217, [(1, 3)]) (by decide)
  have m4 : M 4 219 = 1 * ρ 4 + 0 := hm (4, 219, [(1, 4)]) (by decide)
  have m5 : M 4 101 = 1 * ρ 5 + 0 := hm (4, 101, [(1, 5)]) (by decide)
  simp only [h0] at m0
  obtain ⟨u1, u2, u3, u4, u5, u6, u7⟩ := gx_xSA hI (by omega)

  obtain ⟨d, hd, hz⟩ := tpk_dig (M 92) (M 4 215).toNat (M 4 217 - M 4 215).toNat
  rw [← u7] at hd
  have hl : ∀ i, i < (M 4 217 - M 4 215).toNat → 97 ≤ M 92 ((M 4 215).toNat + i) ∧ M 92 ((M 4 215).toNat + i) ≤ 122 := fun i hi => ten_all (n := (M 4 101).toNat) (q := (M 4 215).toNat) (by omega) (by omega)

  have b0 : 0 ≤ d 0 ∧ d 0 ≤ 26 := by
    by_cases h : 0 < (M 4 217 - M 4 215).toNat
    · have := hl 0 h
      have := (hz 0).1 h
      omega
    · have := (hz 0).2 (by omega)
      omega

  have b1 : 0 ≤ d 1 ∧ d 1 ≤ 26 := by
    by_cases h : 1 < (M 4 217 - M 4 215).toNat
    · have := hl 1 h
      have := (hz 1).1 h
      omega
    · have := (hz 1).2 (by omega)
      omega

  have b2 : 0 ≤ d 2 ∧ d 2 ≤ 26 := by
    by_cases h : 2 < (M 4 217 - M 4 215).toNat
    · have := hl 2 h
      have := (hz 2).1 h
      omega
    · have := (hz 2).2 (by omega)
      omega

  have b3 : 0 ≤ d 3 ∧ d 3 ≤ 26 := by
    by_cases h : 3 < (M 4 217 - M 4 215).toNat
    · have := hl 3 h
      have := (hz 3).1 h
      omega
    · have := (hz 3).2 (by omega)
      omega

  have b4 : 0 ≤ d 4 ∧ d 4 ≤ 26 := by
    by_cases h : 4 < (M 4 217 - M 4 215).toNat
    · have := hl 4 h
      have := (hz 4).1 h
      omega
    · have := (hz 4).2 (by omega)
      omega

  have b5 : 0 ≤ d 5 ∧ d 5 ≤ 26 := by
    by_cases h : 5 < (M 4 217 - M 4 215).toNat
    · have := hl 5 h
      have := (hz 5).1 h
      omega
    · have := (hz 5).2 (by omega)
      omega

  have e3 := (hz 3).2 (by omega)

  have e4 := (hz 4).2 (by omega)

  have e5 := (hz 5).2 (by omega)
  refine ⟨ρ, fun _ _ => rfl, fun f h => ?_, ?_⟩
  · have h : f ∈ ([[(1, 4), (-32768, 8)], [(-1, 4), (32768, 8)]] : List qF) := h
    simp only [List.mem_cons, List.not_mem_nil, or_false] at h
    rcases h with rfl | rfl
    · show 0 ≤ 1 * ρ 4 + (-32768 * ρ 8 + 0)
      (try rw [h0]); omega
    · show 0 ≤ -1 * ρ 4 + (32768 * ρ 8 + 0)
      (try rw [h0]); omega
  · show sI M
    exact hI
-- pfxM3
def xr_434 : qRu := (9, [[(-4, 0), (-1, 1), (1, 3)], [(1, 4), (-32768, 8)], [(32767, 0), (-1, 4), (32768, 8)]], [(4, 214, [(1, 0)]), (4, 215, [(1, 1)]), (4, 216, [(1, 2)]), (4, 217, [(1, 3)]), (4, 219, [(1, 4)]), (4, 101, [(1, 5)])], [], [], [[(-1024, 0), (1, 4), (-32768, 8)]])
theorem xo_434 : qRok xr_434 := by
  intro ρ M h0 hf hm hI
  have f0 := hf [(-4, 0), (-1, 1), (1, 3)] (by decide)
  have f1 := hf [(1, 4), (-32768, 8)] (by decide)
  have f2 := hf [(32767, 0), (-1, 4), (32768, 8)] (by decide)
  simp only [qD, h0] at f0 f1 f2
  have m0 : M 4 214 = 1 * ρ 0 + 0 := hm (4, 214, [(1, 0)]) (by decide)
  have m1 : M 4 215 = 1 * ρ 1 + 0 := hm (4, 215, [(1, 1)]) (by decide)
  have m2 : M 4 216 = 1 * ρ 2 + 0 := hm (4, 216, [(1, 2)]) (by decide)
  have m3 : M 4 217 = 1 * ρ 3 + 0 := hm (4, 217, [(1, 3)]) (by decide)
  have m4 : M 4 219 = 1 * ρ 4 + 0 := hm (4, 219, [(1, 4)]) (by decide)
  have m5 : M 4 101 = 1 * ρ 5 + 0 := hm (4, 101, [(1, 5)]) (by decide)
  simp only [h0] at m0
  obtain ⟨u1, u2, u3, u4, u5, u6, u7⟩ := gx_xSA hI (by omega)

  obtain ⟨d, hd, hz⟩ := tpk_dig (M 92) (M 4 215).toNat (M 4 217 - M 4 215).toNat
  rw [← u7] at hd
  have hl : ∀ i, i < (M 4 217 - M 4 215).toNat → 97 ≤ M 92 ((M 4 215).toNat + i) ∧ M 92 ((M 4 215).toNat + i) ≤ 122 := fun i hi => ten_all (n := (M 4 101).toNat) (q := (M 4 215).toNat) (by omega) (by omega)

  have b0 : 0 ≤ d 0 ∧ d 0 ≤ 26 := by
    by_cases h : 0 < (M 4 217 - M 4 215).toNat
    · have := hl 0 h
      have := (hz 0).1 h
      omega
    · have := (hz 0).2 (by omega)
      omega

  have b1 : 0 ≤ d 1 ∧ d 1 ≤ 26 := by
    by_cases h : 1 < (M 4 217 - M 4 215).toNat
    · have := hl 1 h
      have := (hz 1).1 h
      omega
    · have := (hz 1).2 (by omega)
      omega

  have b2 : 0 ≤ d 2 ∧ d 2 ≤ 26 := by
    by_cases h : 2 < (M 4 217 - M 4 215).toNat
    · have := hl 2 h
      have := (hz 2).1 h
      omega
    · have := (hz 2).2 (by omega)
      omega

  have b3 : 0 ≤ d 3 ∧ d 3 ≤ 26 := by
    by_cases h : 3 < (M 4 217 - M 4 215).toNat
    · have := hl 3 h
      have := (hz 3).1 h
      omega
    · have := (hz 3).2 (by omega)
      omega

  have b4 : 0 ≤ d 4 ∧ d 4 ≤ 26 := by
    by_cases h : 4 < (M 4 217 - M 4 215).toNat
    · have := hl 4 h
      have := (hz 4).1 h
      omega
    · have := (hz 4).2 (by omega)
      omega

  have b5 : 0 ≤ d 5 ∧ d 5 ≤ 26 := by
    by_cases h : 5 < (M 4 217 - M 4 215).toNat
    · have := hl 5 h
      have := (hz 5).1 h
      omega
    · have := (hz 5).2 (by omega)
      omega

  have hv := (hz 3).1 (by omega)
  have hv2 := hl 3 (by omega)
  refine ⟨ρ, fun _ _ => rfl, fun f h => ?_, ?_⟩
  · have h : f ∈ ([[(-1024, 0), (1, 4), (-32768, 8)]] : List qF) := h
    simp only [List.mem_cons, List.not_mem_nil, or_false] at h
    rcases h with rfl
    · show 0 ≤ -1024 * ρ 0 + (1 * ρ 4 + (-32768 * ρ 8 + 0))
      (try rw [h0]); omega
  · show sI M
    exact hI
-- pfx4
def xr_435 : qRu := (9, [[(-4, 0), (-1, 1), (1, 6)], [(4, 0), (1, 1), (-1, 6)], [(-5, 0), (-1, 1), (1, 3)], [(1, 4), (-1024, 8)], [(1023, 0), (-1, 4), (1024, 8)]], [(4, 214, [(1, 0)]), (4, 215, [(1, 1)]), (4, 216, [(1, 2)]), (4, 217, [(1, 3)]), (4, 219, [(1, 4)]), (4, 101, [(1, 5)]), (92, 1006, [(1, 7)])], [], [], [[(3072, 0), (1, 4), (-32, 7), (-1024, 8)], [(-3041, 0), (-1, 4), (32, 7), (1024, 8)], [(-97, 0), (1, 7)], [(122, 0), (-1, 7)]])
theorem xo_435 : qRok xr_435 := by
  intro ρ M h0 hf hm hI
  have f0 := hf [(-4, 0), (-1, 1), (1, 6)] (by decide)
  have f1 := hf [(4, 0), (1, 1), (-1, 6)] (by decide)
  have f2 := hf [(-5, 0), (-1, 1), (1, 3)] (by decide)
  have f3 := hf [(1, 4), (-1024, 8)] (by decide)
  have f4 := hf [(1023, 0), (-1, 4), (1024, 8)] (by decide)
  simp only [qD, h0] at f0 f1 f2 f3 f4
  have m0 : M 4 214 = 1 * ρ 0 + 0 := hm (4, 214, [(1, 0)]) (by decide)
  have m1 : M 4 215 = 1 * ρ 1 + 0 := hm (4, 215, [(1, 1)]) (by decide)
  have m2 : M 4 216 = 1 * ρ 2 + 0 := hm (4, 216, [(1, 2)]) (by decide)
  have m3 : M 4 217 = 1 * ρ 3 + 0 := hm (4, 217, [(1, 3)]) (by decide)
  have m4 : M 4 219 = 1 * ρ 4 + 0 := hm (4, 219, [(1, 4)]) (by decide)
  have m5 : M 4 101 = 1 * ρ 5 + 0 := hm (4, 101, [(1, 5)]) (by decide)
  have m6 : M 92 (zIx ρ (1000 + 6)) = 1 * ρ 7 + 0 := hm (92, 1006, [(1, 7)]) (by decide)
  rw [zix_p] at m6
  simp only [h0] at m0
  obtain ⟨u1, u2, u3, u4, u5, u6, u7⟩ := gx_xSA hI (by omega)

  obtain ⟨d, hd, hz⟩ := tpk_dig (M 92) (M 4 215).toNat (M 4 217 - M 4 215).toNat
  rw [← u7] at hd
  have hl : ∀ i, i < (M 4 217 - M 4 215).toNat → 97 ≤ M 92 ((M 4 215).toNat + i) ∧ M 92 ((M 4 215).toNat + i) ≤ 122 := fun i hi => ten_all (n := (M 4 101).toNat) (q := (M 4 215).toNat) (by omega) (by omega)

  have b0 : 0 ≤ d 0 ∧ d 0 ≤ 26 := by
    by_cases h : 0 < (M 4 217 - M 4 215).toNat
    · have := hl 0 h
      have := (hz 0).1 h
      omega
    · have := (hz 0).2 (by omega)
      omega

  have b1 : 0 ≤ d 1 ∧ d 1 ≤ 26 := by
    by_cases h : 1 < (M 4 217 - M 4 215).toNat
    · have := hl 1 h
      have := (hz 1).1 h
      omega
    · have := (hz 1).2 (by omega)
      omega

  have b2 : 0 ≤ d 2 ∧ d 2 ≤ 26 := by
    by_cases h : 2 < (M 4 217 - M 4 215).toNat
    · have := hl 2 h
      have := (hz 2).1 h
      omega
    · have := (hz 2).2 (by omega)
      omega

  have b3 : 0 ≤ d 3 ∧ d 3 ≤ 26 := by
    by_cases h : 3 < (M 4 217 - M 4 215).toNat
    · have := hl 3 h
      have := (hz 3).1 h
      omega
    · have := (hz 3).2 (by omega)
      omega

  have b4 : 0 ≤ d 4 ∧ d 4 ≤ 26 := by
    by_cases h : 4 < (M 4 217 - M 4 215).toNat
    · have := hl 4 h
      have := (hz 4).1 h
      omega
    · have := (hz 4).2 (by omega)
      omega

  have b5 : 0 ≤ d 5 ∧ d 5 ≤ 26 := by
    by_cases h : 5 < (M 4 217 - M 4 215).toNat
    · have := hl 5 h
      have := (hz 5).1 h
      omega
    · have := (hz 5).2 (by omega)
      omega

  have hv := (hz 4).1 (by omega)
  have hv2 := hl 4 (by omega)
  rw [show (M 4 215).toNat + 4 = (ρ 6).toNat by omega] at hv hv2
  refine ⟨ρ, fun _ _ => rfl, fun f h => ?_, ?_⟩
  · have h : f ∈ ([[(3072, 0), (1, 4), (-32, 7), (-1024, 8)], [(-3041, 0), (-1, 4), (32, 7), (1024, 8)], [(-97, 0), (1, 7)], [(122, 0), (-1, 7)]] : List qF) := h
    simp only [List.mem_cons, List.not_mem_nil, or_false] at h
    rcases h with rfl | rfl | rfl | rfl
    · show 0 ≤ 3072 * ρ 0 + (1 * ρ 4 + (-32 * ρ 7 + (-1024 * ρ 8 + 0)))
      (try rw [h0]); omega
    · show 0 ≤ -3041 * ρ 0 + (-1 * ρ 4 + (32 * ρ 7 + (1024 * ρ 8 + 0)))
      (try rw [h0]); omega
    · show 0 ≤ -97 * ρ 0 + (1 * ρ 7 + 0)
      (try rw [h0]); omega
    · show 0 ≤ 122 * ρ 0 + (-1 * ρ 7 + 0)
      (try rw [h0]); omega
  · show sI M
    exact hI
-- pfxE4
def xr_436 : qRu := (9, [[(4, 0), (1, 1), (-1, 3)], [(1, 4), (-1024, 8)], [(1023, 0), (-1, 4), (1024, 8)]], [(4, 214, [(1, 0)]), (4, 215, [(1, 1)]), (4, 216, [(1, 2)]), (4, 217, [(1, 3)]), (4, 219, [(1, 4)]), (4, 101, [(1, 5)])], [], [], [[(1, 4), (-1024, 8)], [(-1, 4), (1024, 8)]])
theorem xo_436 : qRok xr_436 := by
  intro ρ M h0 hf hm hI
  have f0 := hf [(4, 0), (1, 1), (-1, 3)] (by decide)
  have f1 := hf [(1, 4), (-1024, 8)] (by decide)
  have f2 := hf [(1023, 0), (-1, 4), (1024, 8)] (by decide)
  simp only [qD, h0] at f0 f1 f2
  have m0 : M 4 214 = 1 * ρ 0 + 0 := hm (4, 214, [(1, 0)]) (by decide)
  have m1 : M 4 215 = 1 * ρ 1 + 0 := hm (4, 215, [(1, 1)]) (by decide)
  have m2 : M 4 216 = 1 * ρ 2 + 0 := hm (4, 216, [(1, 2)]) (by decide)
  have m3 : M 4 217 = 1 * ρ 3 + 0 := hm (4, 217, [(1, 3)]) (by decide)
  have m4 : M 4 219 = 1 * ρ 4 + 0 := hm (4, 219, [(1, 4)]) (by decide)
  have m5 : M 4 101 = 1 * ρ 5 + 0 := hm (4, 101, [(1, 5)]) (by decide)
  simp only [h0] at m0
  obtain ⟨u1, u2, u3, u4, u5, u6, u7⟩ := gx_xSA hI (by omega)

  obtain ⟨d, hd, hz⟩ := tpk_dig (M 92) (M 4 215).toNat (M 4 217 - M 4 215).toNat
  rw [← u7] at hd
  have hl : ∀ i, i < (M 4 217 - M 4 215).toNat → 97 ≤ M 92 ((M 4 215).toNat + i) ∧ M 92 ((M 4 215).toNat + i) ≤ 122 := fun i hi => ten_all (n := (M 4 101).toNat) (q := (M 4 215).toNat) (by omega) (by omega)

  have b0 : 0 ≤ d 0 ∧ d 0 ≤ 26 := by
    by_cases h : 0 < (M 4 217 - M 4 215).toNat
    · have := hl 0 h
      have := (hz 0).1 h
      omega
    · have := (hz 0).2 (by omega)
      omega

  have b1 : 0 ≤ d 1 ∧ d 1 ≤ 26 := by
    by_cases h : 1 < (M 4 217 - M 4 215).toNat
    · have := hl 1 h
      have := (hz 1).1 h
      omega
    · have := (hz 1).2 (by omega)
      omega

  have b2 : 0 ≤ d 2 ∧ d 2 ≤ 26 := by
    by_cases h : 2 < (M 4 217 - M 4 215).toNat
    · have := hl 2 h
      have := (hz 2).1 h
      omega
    · have := (hz 2).2 (by omega)
      omega

  have b3 : 0 ≤ d 3 ∧ d 3 ≤ 26 := by
    by_cases h : 3 < (M 4 217 - M 4 215).toNat
    · have := hl 3 h
      have := (hz 3).1 h
      omega
    · have := (hz 3).2 (by omega)
      omega

  have b4 : 0 ≤ d 4 ∧ d 4 ≤ 26 := by
    by_cases h : 4 < (M 4 217 - M 4 215).toNat
    · have := hl 4 h
      have := (hz 4).1 h
      omega
    · have := (hz 4).2 (by omega)
      omega

  have b5 : 0 ≤ d 5 ∧ d 5 ≤ 26 := by
    by_cases h : 5 < (M 4 217 - M 4 215).toNat
    · have := hl 5 h
      have := (hz 5).1 h
      omega
    · have := (hz 5).2 (by omega)
      omega

  have e4 := (hz 4).2 (by omega)

  have e5 := (hz 5).2 (by omega)
  refine ⟨ρ, fun _ _ => rfl, fun f h => ?_, ?_⟩
  · have h : f ∈ ([[(1, 4), (-1024, 8)], [(-1, 4), (1024, 8)]] : List qF) := h
    simp only [List.mem_cons, List.not_mem_nil, or_false] at h
    rcases h with rfl | rfl
    · show 0 ≤ 1 * ρ 4 + (-1024 * ρ 8 + 0)
      (try rw [h0]); omega
    · show 0 ≤ -1 * ρ 4 + (1024 * ρ 8 + 0)
      (try rw [h0]); omega
  · show sI M
    exact hI
-- pfxM4
def xr_437 : qRu := (9, [[(-5, 0), (-1, 1), (1, 3)], [(1, 4), (-1024, 8)], [(1023, 0), (-1, 4), (1024, 8)]], [(4, 214, [(1, 0)]), (4, 215, [(1, 1)]), (4, 216, [(1, 2)]), (4, 217, [(1, 3)]), (4, 219, [(1, 4)]), (4, 101, [(1, 5)])], [], [], [[(-32, 0), (1, 4), (-1024, 8)]])
theorem xo_437 : qRok xr_437 := by
  intro ρ M h0 hf hm hI
  have f0 := hf [(-5, 0), (-1, 1), (1, 3)] (by decide)
  have f1 := hf [(1, 4), (-1024, 8)] (by decide)
  have f2 := hf [(1023, 0), (-1, 4), (1024, 8)] (by decide)
  simp only [qD, h0] at f0 f1 f2
  have m0 : M 4 214 = 1 * ρ 0 + 0 := hm (4, 214, [(1, 0)]) (by decide)
  have m1 : M 4 215 = 1 * ρ 1 + 0 := hm (4, 215, [(1, 1)]) (by decide)
  have m2 : M 4 216 = 1 * ρ 2 + 0 := hm (4, 216, [(1, 2)]) (by decide)
  have m3 : M 4 217 = 1 * ρ 3 + 0 := hm (4, 217, [(1, 3)]) (by decide)
  have m4 : M 4 219 = 1 * ρ 4 + 0 := hm (4, 219, [(1, 4)]) (by decide)
  have m5 : M 4 101 = 1 * ρ 5 + 0 := hm (4, 101, [(1, 5)]) (by decide)
  simp only [h0] at m0
  obtain ⟨u1, u2, u3, u4, u5, u6, u7⟩ := gx_xSA hI (by omega)

  obtain ⟨d, hd, hz⟩ := tpk_dig (M 92) (M 4 215).toNat (M 4 217 - M 4 215).toNat
  rw [← u7] at hd
  have hl : ∀ i, i < (M 4 217 - M 4 215).toNat → 97 ≤ M 92 ((M 4 215).toNat + i) ∧ M 92 ((M 4 215).toNat + i) ≤ 122 := fun i hi => ten_all (n := (M 4 101).toNat) (q := (M 4 215).toNat) (by omega) (by omega)

  have b0 : 0 ≤ d 0 ∧ d 0 ≤ 26 := by
    by_cases h : 0 < (M 4 217 - M 4 215).toNat
    · have := hl 0 h
      have := (hz 0).1 h
      omega
    · have := (hz 0).2 (by omega)
      omega

  have b1 : 0 ≤ d 1 ∧ d 1 ≤ 26 := by
    by_cases h : 1 < (M 4 217 - M 4 215).toNat
    · have := hl 1 h
      have := (hz 1).1 h
      omega
    · have := (hz 1).2 (by omega)
      omega

  have b2 : 0 ≤ d 2 ∧ d 2 ≤ 26 := by
    by_cases h : 2 < (M 4 217 - M 4 215).toNat
    · have := hl 2 h
      have := (hz 2).1 h
      omega
    · have := (hz 2).2 (by omega)
      omega

  have b3 : 0 ≤ d 3 ∧ d 3 ≤ 26 := by
    by_cases h : 3 < (M 4 217 - M 4 215).toNat
    · have := hl 3 h
      have := (hz 3).1 h
      omega
    · have := (hz 3).2 (by omega)
      omega

  have b4 : 0 ≤ d 4 ∧ d 4 ≤ 26 := by
    by_cases h : 4 < (M 4 217 - M 4 215).toNat
    · have := hl 4 h
      have := (hz 4).1 h
      omega
    · have := (hz 4).2 (by omega)
      omega

  have b5 : 0 ≤ d 5 ∧ d 5 ≤ 26 := by
    by_cases h : 5 < (M 4 217 - M 4 215).toNat
    · have := hl 5 h
      have := (hz 5).1 h
      omega
    · have := (hz 5).2 (by omega)
      omega

  have hv := (hz 4).1 (by omega)
  have hv2 := hl 4 (by omega)
  refine ⟨ρ, fun _ _ => rfl, fun f h => ?_, ?_⟩
  · have h : f ∈ ([[(-32, 0), (1, 4), (-1024, 8)]] : List qF) := h
    simp only [List.mem_cons, List.not_mem_nil, or_false] at h
    rcases h with rfl
    · show 0 ≤ -32 * ρ 0 + (1 * ρ 4 + (-1024 * ρ 8 + 0))
      (try rw [h0]); omega
  · show sI M
    exact hI
-- pfx5
def xr_438 : qRu := (9, [[(-5, 0), (-1, 1), (1, 6)], [(5, 0), (1, 1), (-1, 6)], [(-6, 0), (-1, 1), (1, 3)], [(1, 4), (-32, 8)], [(31, 0), (-1, 4), (32, 8)]], [(4, 214, [(1, 0)]), (4, 215, [(1, 1)]), (4, 216, [(1, 2)]), (4, 217, [(1, 3)]), (4, 219, [(1, 4)]), (4, 101, [(1, 5)]), (92, 1006, [(1, 7)])], [], [], [[(96, 0), (1, 4), (-1, 7), (-32, 8)], [(-96, 0), (-1, 4), (1, 7), (32, 8)], [(-97, 0), (1, 7)], [(122, 0), (-1, 7)]])
theorem xo_438 : qRok xr_438 := by
  intro ρ M h0 hf hm hI
  have f0 := hf [(-5, 0), (-1, 1), (1, 6)] (by decide)
  have f1 := hf [(5, 0), (1, 1), (-1, 6)] (by decide)
  have f2 := hf [(-6, 0), (-1, 1), (1, 3)] (by decide)
  have f3 := hf [(1, 4), (-32, 8)] (by decide)
  have f4 := hf [(31, 0), (-1, 4), (32, 8)] (by decide)
  simp only [qD, h0] at f0 f1 f2 f3 f4
  have m0 : M 4 214 = 1 * ρ 0 + 0 := hm (4, 214, [(1, 0)]) (by decide)
  have m1 : M 4 215 = 1 * ρ 1 + 0 := hm (4, 215, [(1, 1)]) (by decide)
  have m2 : M 4 216 = 1 * ρ 2 + 0 := hm (4, 216, [(1, 2)]) (by decide)
  have m3 : M 4 217 = 1 * ρ 3 + 0 := hm (4, 217, [(1, 3)]) (by decide)
  have m4 : M 4 219 = 1 * ρ 4 + 0 := hm (4, 219, [(1, 4)]) (by decide)
  have m5 : M 4 101 = 1 * ρ 5 + 0 := hm (4, 101, [(1, 5)]) (by decide)
  have m6 : M 92 (zIx ρ (1000 + 6)) = 1 * ρ 7 + 0 := hm (92, 1006, [(1, 7)]) (by decide)
  rw [zix_p] at m6
  simp only [h0] at m0
  obtain ⟨u1, u2, u3, u4, u5, u6, u7⟩ := gx_xSA hI (by omega)

  obtain ⟨d, hd, hz⟩ := tpk_dig (M 92) (M 4 215).toNat (M 4 217 - M 4 215).toNat
  rw [← u7] at hd
  have hl : ∀ i, i < (M 4 217 - M 4 215).toNat → 97 ≤ M 92 ((M 4 215).toNat + i) ∧ M 92 ((M 4 215).toNat + i) ≤ 122 := fun i hi => ten_all (n := (M 4 101).toNat) (q := (M 4 215).toNat) (by omega) (by omega)

  have b0 : 0 ≤ d 0 ∧ d 0 ≤ 26 := by
    by_cases h : 0 < (M 4 217 - M 4 215).toNat
    · have := hl 0 h
      have := (hz 0).1 h
      omega
    · have := (hz 0).2 (by omega)
      omega

  have b1 : 0 ≤ d 1 ∧ d 1 ≤ 26 := by
    by_cases h : 1 < (M 4 217 - M 4 215).toNat
    · have := hl 1 h
      have := (hz 1).1 h
      omega
    · have := (hz 1).2 (by omega)
      omega

  have b2 : 0 ≤ d 2 ∧ d 2 ≤ 26 := by
    by_cases h : 2 < (M 4 217 - M 4 215).toNat
    · have := hl 2 h
      have := (hz 2).1 h
      omega
    · have := (hz 2).2 (by omega)
      omega

  have b3 : 0 ≤ d 3 ∧ d 3 ≤ 26 := by
    by_cases h : 3 < (M 4 217 - M 4 215).toNat
    · have := hl 3 h
      have := (hz 3).1 h
      omega
    · have := (hz 3).2 (by omega)
      omega

  have b4 : 0 ≤ d 4 ∧ d 4 ≤ 26 := by
    by_cases h : 4 < (M 4 217 - M 4 215).toNat
    · have := hl 4 h
      have := (hz 4).1 h
      omega
    · have := (hz 4).2 (by omega)
      omega

  have b5 : 0 ≤ d 5 ∧ d 5 ≤ 26 := by
    by_cases h : 5 < (M 4 217 - M 4 215).toNat
    · have := hl 5 h
      have := (hz 5).1 h
      omega
    · have := (hz 5).2 (by omega)
      omega

  have hv := (hz 5).1 (by omega)
  have hv2 := hl 5 (by omega)
  rw [show (M 4 215).toNat + 5 = (ρ 6).toNat by omega] at hv hv2
  refine ⟨ρ, fun _ _ => rfl, fun f h => ?_, ?_⟩
  · have h : f ∈ ([[(96, 0), (1, 4), (-1, 7), (-32, 8)], [(-96, 0), (-1, 4), (1, 7), (32, 8)], [(-97, 0), (1, 7)], [(122, 0), (-1, 7)]] : List qF) := h
    simp only [List.mem_cons, List.not_mem_nil, or_false] at h
    rcases h with rfl | rfl | rfl | rfl
    · show 0 ≤ 96 * ρ 0 + (1 * ρ 4 + (-1 * ρ 7 + (-32 * ρ 8 + 0)))
      (try rw [h0]); omega
    · show 0 ≤ -96 * ρ 0 + (-1 * ρ 4 + (1 * ρ 7 + (32 * ρ 8 + 0)))
      (try rw [h0]); omega
    · show 0 ≤ -97 * ρ 0 + (1 * ρ 7 + 0)
      (try rw [h0]); omega
    · show 0 ≤ 122 * ρ 0 + (-1 * ρ 7 + 0)
      (try rw [h0]); omega
  · show sI M
    exact hI
-- pfxE5
def xr_439 : qRu := (9, [[(5, 0), (1, 1), (-1, 3)], [(1, 4), (-32, 8)], [(31, 0), (-1, 4), (32, 8)]], [(4, 214, [(1, 0)]), (4, 215, [(1, 1)]), (4, 216, [(1, 2)]), (4, 217, [(1, 3)]), (4, 219, [(1, 4)]), (4, 101, [(1, 5)])], [], [], [[(1, 4), (-32, 8)], [(-1, 4), (32, 8)]])
theorem xo_439 : qRok xr_439 := by
  intro ρ M h0 hf hm hI
  have f0 := hf [(5, 0), (1, 1), (-1, 3)] (by decide)
  have f1 := hf [(1, 4), (-32, 8)] (by decide)
  have f2 := hf [(31, 0), (-1, 4), (32, 8)] (by decide)
  simp only [qD, h0] at f0 f1 f2
  have m0 : M 4 214 = 1 * ρ 0 + 0 := hm (4, 214, [(1, 0)]) (by decide)
  have m1 : M 4 215 = 1 * ρ 1 + 0 := hm (4, 215, [(1, 1)]) (by decide)
  have m2 : M 4 216 = 1 * ρ 2 + 0 := hm (4, 216, [(1, 2)]) (by decide)
  have m3 : M 4 217 = 1 * ρ 3 + 0 := hm (4, 217, [(1, 3)]) (by decide)
  have m4 : M 4 219 = 1 * ρ 4 + 0 := hm (4, 219, [(1, 4)]) (by decide)
  have m5 : M 4 101 = 1 * ρ 5 + 0 := hm (4, 101, [(1, 5)]) (by decide)
  simp only [h0] at m0
  obtain ⟨u1, u2, u3, u4, u5, u6, u7⟩ := gx_xSA hI (by omega)

  obtain ⟨d, hd, hz⟩ := tpk_dig (M 92) (M 4 215).toNat (M 4 217 - M 4 215).toNat
  rw [← u7] at hd
  have hl : ∀ i, i < (M 4 217 - M 4 215).toNat → 97 ≤ M 92 ((M 4 215).toNat + i) ∧ M 92 ((M 4 215).toNat + i) ≤ 122 := fun i hi => ten_all (n := (M 4 101).toNat) (q := (M 4 215).toNat) (by omega) (by omega)

  have b0 : 0 ≤ d 0 ∧ d 0 ≤ 26 := by
    by_cases h : 0 < (M 4 217 - M 4 215).toNat
    · have := hl 0 h
      have := (hz 0).1 h
      omega
    · have := (hz 0).2 (by omega)
      omega

  have b1 : 0 ≤ d 1 ∧ d 1 ≤ 26 := by
    by_cases h : 1 < (M 4 217 - M 4 215).toNat
    · have := hl 1 h
      have := (hz 1).1 h
      omega
    · have := (hz 1).2 (by omega)
      omega

  have b2 : 0 ≤ d 2 ∧ d 2 ≤ 26 := by
    by_cases h : 2 < (M 4 217 - M 4 215).toNat
    · have := hl 2 h
      have := (hz 2).1 h
      omega
    · have := (hz 2).2 (by omega)
      omega

  have b3 : 0 ≤ d 3 ∧ d 3 ≤ 26 := by
    by_cases h : 3 < (M 4 217 - M 4 215).toNat
    · have := hl 3 h
      have := (hz 3).1 h
      omega
    · have := (hz 3).2 (by omega)
      omega

  have b4 : 0 ≤ d 4 ∧ d 4 ≤ 26 := by
    by_cases h : 4 < (M 4 217 - M 4 215).toNat
    · have := hl 4 h
      have := (hz 4).1 h
      omega
    · have := (hz 4).2 (by omega)
      omega

  have b5 : 0 ≤ d 5 ∧ d 5 ≤ 26 := by
    by_cases h : 5 < (M 4 217 - M 4 215).toNat
    · have := hl 5 h
      have := (hz 5).1 h
      omega
    · have := (hz 5).2 (by omega)
      omega

  have e5 := (hz 5).2 (by omega)
  refine ⟨ρ, fun _ _ => rfl, fun f h => ?_, ?_⟩
  · have h : f ∈ ([[(1, 4), (-32, 8)], [(-1, 4), (32, 8)]] : List qF) := h
    simp only [List.mem_cons, List.not_mem_nil, or_false] at h
    rcases h with rfl | rfl
    · show 0 ≤ 1 * ρ 4 + (-32 * ρ 8 + 0)
      (try rw [h0]); omega
    · show 0 ≤ -1 * ρ 4 + (32 * ρ 8 + 0)
      (try rw [h0]); omega
  · show sI M
    exact hI
-- pfxM5
def xr_440 : qRu := (9, [[(-6, 0), (-1, 1), (1, 3)], [(1, 4), (-32, 8)], [(31, 0), (-1, 4), (32, 8)]], [(4, 214, [(1, 0)]), (4, 215, [(1, 1)]), (4, 216, [(1, 2)]), (4, 217, [(1, 3)]), (4, 219, [(1, 4)]), (4, 101, [(1, 5)])], [], [], [[(-1, 0), (1, 4), (-32, 8)]])
theorem xo_440 : qRok xr_440 := by
  intro ρ M h0 hf hm hI
  have f0 := hf [(-6, 0), (-1, 1), (1, 3)] (by decide)
  have f1 := hf [(1, 4), (-32, 8)] (by decide)
  have f2 := hf [(31, 0), (-1, 4), (32, 8)] (by decide)
  simp only [qD, h0] at f0 f1 f2
  have m0 : M 4 214 = 1 * ρ 0 + 0 := hm (4, 214, [(1, 0)]) (by decide)
  have m1 : M 4 215 = 1 * ρ 1 + 0 := hm (4, 215, [(1, 1)]) (by decide)
  have m2 : M 4 216 = 1 * ρ 2 + 0 := hm (4, 216, [(1, 2)]) (by decide)
  have m3 : M 4 217 = 1 * ρ 3 + 0 := hm (4, 217, [(1, 3)]) (by decide)
  have m4 : M 4 219 = 1 * ρ 4 + 0 := hm (4, 219, [(1, 4)]) (by decide)
  have m5 : M 4 101 = 1 * ρ 5 + 0 := hm (4, 101, [(1, 5)]) (by decide)
  simp only [h0] at m0
  obtain ⟨u1, u2, u3, u4, u5, u6, u7⟩ := gx_xSA hI (by omega)

  obtain ⟨d, hd, hz⟩ := tpk_dig (M 92) (M 4 215).toNat (M 4 217 - M 4 215).toNat
  rw [← u7] at hd
  have hl : ∀ i, i < (M 4 217 - M 4 215).toNat → 97 ≤ M 92 ((M 4 215).toNat + i) ∧ M 92 ((M 4 215).toNat + i) ≤ 122 := fun i hi => ten_all (n := (M 4 101).toNat) (q := (M 4 215).toNat) (by omega) (by omega)

  have b0 : 0 ≤ d 0 ∧ d 0 ≤ 26 := by
    by_cases h : 0 < (M 4 217 - M 4 215).toNat
    · have := hl 0 h
      have := (hz 0).1 h
      omega
    · have := (hz 0).2 (by omega)
      omega

  have b1 : 0 ≤ d 1 ∧ d 1 ≤ 26 := by
    by_cases h : 1 < (M 4 217 - M 4 215).toNat
    · have := hl 1 h
      have := (hz 1).1 h
      omega
    · have := (hz 1).2 (by omega)
      omega

  have b2 : 0 ≤ d 2 ∧ d 2 ≤ 26 := by
    by_cases h : 2 < (M 4 217 - M 4 215).toNat
    · have := hl 2 h
      have := (hz 2).1 h
      omega
    · have := (hz 2).2 (by omega)
      omega

  have b3 : 0 ≤ d 3 ∧ d 3 ≤ 26 := by
    by_cases h : 3 < (M 4 217 - M 4 215).toNat
    · have := hl 3 h
      have := (hz 3).1 h
      omega
    · have := (hz 3).2 (by omega)
      omega

  have b4 : 0 ≤ d 4 ∧ d 4 ≤ 26 := by
    by_cases h : 4 < (M 4 217 - M 4 215).toNat
    · have := hl 4 h
      have := (hz 4).1 h
      omega
    · have := (hz 4).2 (by omega)
      omega

  have b5 : 0 ≤ d 5 ∧ d 5 ≤ 26 := by
    by_cases h : 5 < (M 4 217 - M 4 215).toNat
    · have := hl 5 h
      have := (hz 5).1 h
      omega
    · have := (hz 5).2 (by omega)
      omega

  have hv := (hz 5).1 (by omega)
  have hv2 := hl 5 (by omega)
  refine ⟨ρ, fun _ _ => rfl, fun f h => ?_, ?_⟩
  · have h : f ∈ ([[(-1, 0), (1, 4), (-32, 8)]] : List qF) := h
    simp only [List.mem_cons, List.not_mem_nil, or_false] at h
    rcases h with rfl
    · show 0 ≤ -1 * ρ 0 + (1 * ρ 4 + (-32 * ρ 8 + 0))
      (try rw [h0]); omega
  · show sI M
    exact hI
-- pfxB
def xr_441 : qRu := (6, [], [(4, 214, [(1, 0)]), (4, 215, [(1, 1)]), (4, 216, [(1, 2)]), (4, 217, [(1, 3)]), (4, 219, [(1, 4)]), (4, 101, [(1, 5)])], [], [], [[(1, 4)], [(1073741823, 0), (-1, 4)]])
theorem xo_441 : qRok xr_441 := by
  intro ρ M h0 hf hm hI
  have m0 : M 4 214 = 1 * ρ 0 + 0 := hm (4, 214, [(1, 0)]) (by decide)
  have m1 : M 4 215 = 1 * ρ 1 + 0 := hm (4, 215, [(1, 1)]) (by decide)
  have m2 : M 4 216 = 1 * ρ 2 + 0 := hm (4, 216, [(1, 2)]) (by decide)
  have m3 : M 4 217 = 1 * ρ 3 + 0 := hm (4, 217, [(1, 3)]) (by decide)
  have m4 : M 4 219 = 1 * ρ 4 + 0 := hm (4, 219, [(1, 4)]) (by decide)
  have m5 : M 4 101 = 1 * ρ 5 + 0 := hm (4, 101, [(1, 5)]) (by decide)
  simp only [h0] at m0
  obtain ⟨u1, u2, u3, u4, u5, u6, u7⟩ := gx_xSA hI (by omega)

  obtain ⟨d, hd, hz⟩ := tpk_dig (M 92) (M 4 215).toNat (M 4 217 - M 4 215).toNat
  rw [← u7] at hd
  have hl : ∀ i, i < (M 4 217 - M 4 215).toNat → 97 ≤ M 92 ((M 4 215).toNat + i) ∧ M 92 ((M 4 215).toNat + i) ≤ 122 := fun i hi => ten_all (n := (M 4 101).toNat) (q := (M 4 215).toNat) (by omega) (by omega)

  have b0 : 0 ≤ d 0 ∧ d 0 ≤ 26 := by
    by_cases h : 0 < (M 4 217 - M 4 215).toNat
    · have := hl 0 h
      have := (hz 0).1 h
      omega
    · have := (hz 0).2 (by omega)
      omega

  have b1 : 0 ≤ d 1 ∧ d 1 ≤ 26 := by
    by_cases h : 1 < (M 4 217 - M 4 215).toNat
    · have := hl 1 h
      have := (hz 1).1 h
      omega
    · have := (hz 1).2 (by omega)
      omega

  have b2 : 0 ≤ d 2 ∧ d 2 ≤ 26 := by
    by_cases h : 2 < (M 4 217 - M 4 215).toNat
    · have := hl 2 h
      have := (hz 2).1 h
      omega
    · have := (hz 2).2 (by omega)
      omega

  have b3 : 0 ≤ d 3 ∧ d 3 ≤ 26 := by
    by_cases h : 3 < (M 4 217 - M 4 215).toNat
    · have := hl 3 h
      have := (hz 3).1 h
      omega
    · have := (hz 3).2 (by omega)
      omega

  have b4 : 0 ≤ d 4 ∧ d 4 ≤ 26 := by
    by_cases h : 4 < (M 4 217 - M 4 215).toNat
    · have := hl 4 h
      have := (hz 4).1 h
      omega
    · have := (hz 4).2 (by omega)
      omega

  have b5 : 0 ≤ d 5 ∧ d 5 ≤ 26 := by
    by_cases h : 5 < (M 4 217 - M 4 215).toNat
    · have := hl 5 h
      have := (hz 5).1 h
      omega
    · have := (hz 5).2 (by omega)
      omega
  refine ⟨ρ, fun _ _ => rfl, fun f h => ?_, ?_⟩
  · have h : f ∈ ([[(1, 4)], [(1073741823, 0), (-1, 4)]] : List qF) := h
    simp only [List.mem_cons, List.not_mem_nil, or_false] at h
    rcases h with rfl | rfl
    · show 0 ≤ 1 * ρ 4 + 0
      (try rw [h0]); omega
    · show 0 ≤ 1073741823 * ρ 0 + (-1 * ρ 4 + 0)
      (try rw [h0]); omega
  · show sI M
    exact hI
-- wHitR0_c
def xr_442 : qRu := (13, [[(-1, 0), (1, 5)], [(1, 1)], [(-1, 1), (1, 9)], [(1, 1), (-1, 9)], [(-1, 0), (-1, 1), (1, 10)], [(6, 0), (1, 9), (-1, 10)], [(-72814592, 0), (1, 11)], [(72814592, 0), (-1, 11)]], [(4, 210, [(1, 0)]), (4, 211, [(1, 1)]), (4, 101, [(1, 2)]), (3, 46, [(1, 3)]), (3, 47, [(1, 4)]), (4, 100, [(1, 5)]), (3, 44, [(1, 6)]), (3, 45, [(1, 7)]), (4, 107, [(1, 8)]), (4, 214, [(1, 0)]), (4, 215, [(1, 9)]), (4, 217, [(1, 10)]), (4, 219, [(1, 11)]), (4, 216, [(1, 12)])], [], [], [[(-1, 1), (1, 3)], [(1, 1), (-1, 3)], [(1, 4), (-1, 10)], [(-1, 4), (1, 10)], [(-18, 0), (1, 6)], [(18, 0), (-1, 6)], [(1, 7), (-1, 11)], [(-1, 7), (1, 11)]])
theorem xo_442 : qRok xr_442 := by
  intro ρ M h0 hf hm hI
  have f0 := hf [(-1, 0), (1, 5)] (by decide)
  have f1 := hf [(1, 1)] (by decide)
  have f2 := hf [(-1, 1), (1, 9)] (by decide)
  have f3 := hf [(1, 1), (-1, 9)] (by decide)
  have f4 := hf [(-1, 0), (-1, 1), (1, 10)] (by decide)
  have f5 := hf [(6, 0), (1, 9), (-1, 10)] (by decide)
  have f6 := hf [(-72814592, 0), (1, 11)] (by decide)
  have f7 := hf [(72814592, 0), (-1, 11)] (by decide)
  simp only [qD, h0] at f0 f1 f2 f3 f4 f5 f6 f7
  have m0 : M 4 210 = 1 * ρ 0 + 0 := hm (4, 210, [(1, 0)]) (by decide)
  have m1 : M 4 211 = 1 * ρ 1 + 0 := hm (4, 211, [(1, 1)]) (by decide)
  have m2 : M 4 101 = 1 * ρ 2 + 0 := hm (4, 101, [(1, 2)]) (by decide)
  have m3 : M 3 46 = 1 * ρ 3 + 0 := hm (3, 46, [(1, 3)]) (by decide)
  have m4 : M 3 47 = 1 * ρ 4 + 0 := hm (3, 47, [(1, 4)]) (by decide)
  have m5 : M 4 100 = 1 * ρ 5 + 0 := hm (4, 100, [(1, 5)]) (by decide)
  have m6 : M 3 44 = 1 * ρ 6 + 0 := hm (3, 44, [(1, 6)]) (by decide)
  have m7 : M 3 45 = 1 * ρ 7 + 0 := hm (3, 45, [(1, 7)]) (by decide)
  have m8 : M 4 107 = 1 * ρ 8 + 0 := hm (4, 107, [(1, 8)]) (by decide)
  have m9 : M 4 214 = 1 * ρ 0 + 0 := hm (4, 214, [(1, 0)]) (by decide)
  have m10 : M 4 215 = 1 * ρ 9 + 0 := hm (4, 215, [(1, 9)]) (by decide)
  have m11 : M 4 217 = 1 * ρ 10 + 0 := hm (4, 217, [(1, 10)]) (by decide)
  have m12 : M 4 219 = 1 * ρ 11 + 0 := hm (4, 219, [(1, 11)]) (by decide)
  have m13 : M 4 216 = 1 * ρ 12 + 0 := hm (4, 216, [(1, 12)]) (by decide)
  simp only [h0] at m0 m9
  obtain ⟨u1, u2, _⟩ := gx_xS8 hI (by omega)

  obtain ⟨a1, a2, a3, a4, a5, a6, a7⟩ := gx_xSA hI (by omega)
  have eq1 : (M 4 215).toNat = (M 4 211).toNat := by omega
  rw [eq1] at a6 a7
  have hgt := ten_gt (g := M 92) (lo := 97) (hi := 122) (n := (M 4 101).toNat) (q := (M 4 211).toNat) (by omega)
  have el1 : (M 4 217 - M 4 215).toNat = tEn (M 92) 97 122 (M 4 101).toNat (M 4 211).toNat - (M 4 211).toNat := by omega
  rw [el1] at a7

  obtain ⟨t1, t2, t3, t4, t5, t6⟩ := tk_of hI (by omega) (by omega) (by omega) (show tAt (M 92) (M 4 101).toNat (M 4 211).toNat (M 4 107) (M 4 108) = (18, M 4 219, ((M 4 211).toNat : Int), M 4 217, 0, 0) from by
    unfold tAt
    rw [if_neg (by omega), if_pos hgt.2]
    unfold tWo
    rw [← a7, ← a6]
    have hk : tKi (M 4 219) 0 = 18 := by
      rw [show M 4 219 = 72814592 by omega]
      decide
    have h6 : ¬ (6 < tEn (M 92) 97 122 (M 4 101).toNat (M 4 211).toNat - (M 4 211).toNat) := by omega
    unfold tWk tWs tWv
    rw [if_neg h6, if_neg h6, if_neg h6, hk]
    rfl)
  refine ⟨ρ, fun _ _ => rfl, fun f h => ?_, ?_⟩
  · have h : f ∈ ([[(-1, 1), (1, 3)], [(1, 1), (-1, 3)], [(1, 4), (-1, 10)], [(-1, 4), (1, 10)], [(-18, 0), (1, 6)], [(18, 0), (-1, 6)], [(1, 7), (-1, 11)], [(-1, 7), (1, 11)]] : List qF) := h
    simp only [List.mem_cons, List.not_mem_nil, or_false] at h
    rcases h with rfl | rfl | rfl | rfl | rfl | rfl | rfl | rfl
    · show 0 ≤ -1 * ρ 1 + (1 * ρ 3 + 0)
      (try rw [h0]); omega
    · show 0 ≤ 1 * ρ 1 + (-1 * ρ 3 + 0)
      (try rw [h0]); omega
    · show 0 ≤ 1 * ρ 4 + (-1 * ρ 10 + 0)
      (try rw [h0]); omega
    · show 0 ≤ -1 * ρ 4 + (1 * ρ 10 + 0)
      (try rw [h0]); omega
    · show 0 ≤ -18 * ρ 0 + (1 * ρ 6 + 0)
      (try rw [h0]); omega
    · show 0 ≤ 18 * ρ 0 + (-1 * ρ 6 + 0)
      (try rw [h0]); omega
    · show 0 ≤ 1 * ρ 7 + (-1 * ρ 11 + 0)
      (try rw [h0]); omega
    · show 0 ≤ -1 * ρ 7 + (1 * ρ 11 + 0)
      (try rw [h0]); omega
  · show sI M
    exact hI
-- wHitR0_r
def xr_443 : qRu := (13, [[(-1, 0), (1, 5)], [(1, 1)], [(-1, 1), (1, 9)], [(1, 1), (-1, 9)], [(-1, 0), (-1, 1), (1, 10)], [(6, 0), (1, 9), (-1, 10)], [(-72814592, 0), (1, 11)], [(72814592, 0), (-1, 11)]], [(4, 210, [(1, 0)]), (4, 211, [(1, 1)]), (4, 101, [(1, 2)]), (3, 46, [(1, 3)]), (3, 47, [(1, 4)]), (4, 100, [(1, 5)]), (3, 50, [(1, 6)]), (3, 51, [(1, 7)]), (4, 108, [(1, 8)]), (4, 214, [(1, 0)]), (4, 215, [(1, 9)]), (4, 217, [(1, 10)]), (4, 219, [(1, 11)]), (4, 216, [(1, 12)])], [], [], [[(-1, 1), (1, 3)], [(1, 1), (-1, 3)], [(1, 4), (-1, 10)], [(-1, 4), (1, 10)], [(1, 6)], [(-1, 6)], [(1, 7)], [(-1, 7)]])
theorem xo_443 : qRok xr_443 := by
  intro ρ M h0 hf hm hI
  have f0 := hf [(-1, 0), (1, 5)] (by decide)
  have f1 := hf [(1, 1)] (by decide)
  have f2 := hf [(-1, 1), (1, 9)] (by decide)
  have f3 := hf [(1, 1), (-1, 9)] (by decide)
  have f4 := hf [(-1, 0), (-1, 1), (1, 10)] (by decide)
  have f5 := hf [(6, 0), (1, 9), (-1, 10)] (by decide)
  have f6 := hf [(-72814592, 0), (1, 11)] (by decide)
  have f7 := hf [(72814592, 0), (-1, 11)] (by decide)
  simp only [qD, h0] at f0 f1 f2 f3 f4 f5 f6 f7
  have m0 : M 4 210 = 1 * ρ 0 + 0 := hm (4, 210, [(1, 0)]) (by decide)
  have m1 : M 4 211 = 1 * ρ 1 + 0 := hm (4, 211, [(1, 1)]) (by decide)
  have m2 : M 4 101 = 1 * ρ 2 + 0 := hm (4, 101, [(1, 2)]) (by decide)
  have m3 : M 3 46 = 1 * ρ 3 + 0 := hm (3, 46, [(1, 3)]) (by decide)
  have m4 : M 3 47 = 1 * ρ 4 + 0 := hm (3, 47, [(1, 4)]) (by decide)
  have m5 : M 4 100 = 1 * ρ 5 + 0 := hm (4, 100, [(1, 5)]) (by decide)
  have m6 : M 3 50 = 1 * ρ 6 + 0 := hm (3, 50, [(1, 6)]) (by decide)
  have m7 : M 3 51 = 1 * ρ 7 + 0 := hm (3, 51, [(1, 7)]) (by decide)
  have m8 : M 4 108 = 1 * ρ 8 + 0 := hm (4, 108, [(1, 8)]) (by decide)
  have m9 : M 4 214 = 1 * ρ 0 + 0 := hm (4, 214, [(1, 0)]) (by decide)
  have m10 : M 4 215 = 1 * ρ 9 + 0 := hm (4, 215, [(1, 9)]) (by decide)
  have m11 : M 4 217 = 1 * ρ 10 + 0 := hm (4, 217, [(1, 10)]) (by decide)
  have m12 : M 4 219 = 1 * ρ 11 + 0 := hm (4, 219, [(1, 11)]) (by decide)
  have m13 : M 4 216 = 1 * ρ 12 + 0 := hm (4, 216, [(1, 12)]) (by decide)
  simp only [h0] at m0 m9
  obtain ⟨u1, u2, _⟩ := gx_xS8 hI (by omega)

  obtain ⟨a1, a2, a3, a4, a5, a6, a7⟩ := gx_xSA hI (by omega)
  have eq1 : (M 4 215).toNat = (M 4 211).toNat := by omega
  rw [eq1] at a6 a7
  have hgt := ten_gt (g := M 92) (lo := 97) (hi := 122) (n := (M 4 101).toNat) (q := (M 4 211).toNat) (by omega)
  have el1 : (M 4 217 - M 4 215).toNat = tEn (M 92) 97 122 (M 4 101).toNat (M 4 211).toNat - (M 4 211).toNat := by omega
  rw [el1] at a7

  obtain ⟨t1, t2, t3, t4, t5, t6⟩ := tk_of hI (by omega) (by omega) (by omega) (show tAt (M 92) (M 4 101).toNat (M 4 211).toNat (M 4 107) (M 4 108) = (18, M 4 219, ((M 4 211).toNat : Int), M 4 217, 0, 0) from by
    unfold tAt
    rw [if_neg (by omega), if_pos hgt.2]
    unfold tWo
    rw [← a7, ← a6]
    have hk : tKi (M 4 219) 0 = 18 := by
      rw [show M 4 219 = 72814592 by omega]
      decide
    have h6 : ¬ (6 < tEn (M 92) 97 122 (M 4 101).toNat (M 4 211).toNat - (M 4 211).toNat) := by omega
    unfold tWk tWs tWv
    rw [if_neg h6, if_neg h6, if_neg h6, hk]
    rfl)
  refine ⟨ρ, fun _ _ => rfl, fun f h => ?_, ?_⟩
  · have h : f ∈ ([[(-1, 1), (1, 3)], [(1, 1), (-1, 3)], [(1, 4), (-1, 10)], [(-1, 4), (1, 10)], [(1, 6)], [(-1, 6)], [(1, 7)], [(-1, 7)]] : List qF) := h
    simp only [List.mem_cons, List.not_mem_nil, or_false] at h
    rcases h with rfl | rfl | rfl | rfl | rfl | rfl | rfl | rfl
    · show 0 ≤ -1 * ρ 1 + (1 * ρ 3 + 0)
      (try rw [h0]); omega
    · show 0 ≤ 1 * ρ 1 + (-1 * ρ 3 + 0)
      (try rw [h0]); omega
    · show 0 ≤ 1 * ρ 4 + (-1 * ρ 10 + 0)
      (try rw [h0]); omega
    · show 0 ≤ -1 * ρ 4 + (1 * ρ 10 + 0)
      (try rw [h0]); omega
    · show 0 ≤ 1 * ρ 6 + 0
      (try rw [h0]); omega
    · show 0 ≤ -1 * ρ 6 + 0
      (try rw [h0]); omega
    · show 0 ≤ 1 * ρ 7 + 0
      (try rw [h0]); omega
    · show 0 ≤ -1 * ρ 7 + 0
      (try rw [h0]); omega
  · show sI M
    exact hI
-- langMissR0L
def xr_444 : qRu := (3, [[(72814591, 0), (-1, 2)]], [(4, 226, [(1, 0)]), (4, 227, []), (4, 219, [(1, 2)])], [], [(4, 227, [(1, 0)])], [])
theorem xo_444 : qRok xr_444 := by
  intro ρ M h0 hf hm hI
  have f0 := hf [(72814591, 0), (-1, 2)] (by decide)
  simp only [qD, h0] at f0
  have m0 : M 4 226 = 1 * ρ 0 + 0 := hm (4, 226, [(1, 0)]) (by decide)
  have m1 : M 4 227 = 0 := hm (4, 227, []) (by decide)
  have m2 : M 4 219 = 1 * ρ 2 + 0 := hm (4, 219, [(1, 2)]) (by decide)
  simp only [h0] at m0
  have qxSC := hI.2.2.2.2.2.2.2.2.2.2.2.2.2.2.2.2.2.2.2.2.2.2.2.2.2.2.2.2.2.2.2.2.2.2.1
  obtain ⟨l1, l2, l3⟩ := gx_xSC hI (by omega)
  refine ⟨ρ, fun _ _ => rfl, fun f h => ?_, ?_⟩
  · exact nomatch h
  · show sI (sU M 4 227 (1 * ρ 0 + 0))
    obtain ⟨W, hW⟩ : ∃ W, W = (sU M 4 227 (1 * ρ 0 + 0)) := ⟨_, rfl⟩
    rw [← hW]
    have base : sI0 W := by
      rw [hW]
      exact (si_u0 hI.1 (fun r hr => by cases hr))
    have k2 : XI2 W := by
      rw [hW]
      exact (xi2_u rfl hI.2.1)
    have k3 : XI3 W := by
      rw [hW]
      exact (xi3_u rfl hI.2.2.1)
    have kXA : XA W := by
      rw [hW]
      exact (uXA rfl hI.2.2.2.1)
    have k_xN1 : xN1 W := by
      rw [hW]
      exact (uxN1 rfl hI.2.2.2.2.1)
    have k_xN2 : xN2 W := by
      rw [hW]
      exact (uxN2 rfl hI.2.2.2.2.2.1)
    have k_xN3 : xN3 W := by
      rw [hW]
      exact (uxN3 rfl hI.2.2.2.2.2.2.1)
    have k_xN4 : xN4 W := by
      rw [hW]
      exact (uxN4 rfl hI.2.2.2.2.2.2.2.1)
    have k_xN5 : xN5 W := by
      rw [hW]
      exact (uxN5 rfl hI.2.2.2.2.2.2.2.2.1)
    have k_xN6 : xN6 W := by
      rw [hW]
      exact (uxN6 rfl hI.2.2.2.2.2.2.2.2.2.1)
    have k_xH1 : xH1 W := by
      rw [hW]
      exact (uxH1 rfl hI.2.2.2.2.2.2.2.2.2.2.1)
    have k_xK1 : xK1 W := by
      rw [hW]
      exact (uxK1 rfl hI.2.2.2.2.2.2.2.2.2.2.2.1)
    have k_xC1 : xC1 W := by
      rw [hW]
      exact (uxC1 rfl hI.2.2.2.2.2.2.2.2.2.2.2.2.1)
    have k_xRW : xRW W := by
      rw [hW]
      exact (uxRW rfl hI.2.2.2.2.2.2.2.2.2.2.2.2.2.1)
    have k_xWT : xWT W := by
      rw [hW]
      exact (uxWT rfl hI.2.2.2.2.2.2.2.2.2.2.2.2.2.2.1)
    have k_xCU : xCU W := by
      rw [hW]
      exact (uxCU rfl hI.2.2.2.2.2.2.2.2.2.2.2.2.2.2.2.1)
    have k_xG2 : xG2 W := by
      rw [hW]
      exact (uxG2 rfl hI.2.2.2.2.2.2.2.2.2.2.2.2.2.2.2.2.1)
    have k_xG3 : xG3 W := by
      rw [hW]
      exact (uxG3 rfl hI.2.2.2.2.2.2.2.2.2.2.2.2.2.2.2.2.2.1)
    have k_xG4 : xG4 W := by
      rw [hW]
      exact (uxG4 rfl hI.2.2.2.2.2.2.2.2.2.2.2.2.2.2.2.2.2.2.1)
    have k_xG5 : xG5 W := by
      rw [hW]
      exact (uxG5 rfl hI.2.2.2.2.2.2.2.2.2.2.2.2.2.2.2.2.2.2.2.1)
    have k_xG6 : xG6 W := by
      rw [hW]
      exact (uxG6 rfl hI.2.2.2.2.2.2.2.2.2.2.2.2.2.2.2.2.2.2.2.2.1)
    have k_xS1 : xS1 W := by
      rw [hW]
      exact (uxS1 rfl hI.2.2.2.2.2.2.2.2.2.2.2.2.2.2.2.2.2.2.2.2.2.1)
    have k_xS2 : xS2 W := by
      rw [hW]
      exact (uxS2 rfl hI.2.2.2.2.2.2.2.2.2.2.2.2.2.2.2.2.2.2.2.2.2.2.1)
    have k_xS3 : xS3 W := by
      rw [hW]
      exact (uxS3 rfl hI.2.2.2.2.2.2.2.2.2.2.2.2.2.2.2.2.2.2.2.2.2.2.2.1)
    have k_xS4 : xS4 W := by
      rw [hW]
      exact (uxS4 rfl hI.2.2.2.2.2.2.2.2.2.2.2.2.2.2.2.2.2.2.2.2.2.2.2.2.1)
    have k_xS5 : xS5 W := by
      rw [hW]
      exact (uxS5 rfl hI.2.2.2.2.2.2.2.2.2.2.2.2.2.2.2.2.2.2.2.2.2.2.2.2.2.1)
    have k_xS6 : xS6 W := by
      rw [hW]
      exact (uxS6 rfl hI.2.2.2.2.2.2.2.2.2.2.2.2.2.2.2.2.2.2.2.2.2.2.2.2.2.2.1)
    have k_xS7 : xS7 W := by
      rw [hW]
      exact (uxS7 rfl hI.2.2.2.2.2.2.2.2.2.2.2.2.2.2.2.2.2.2.2.2.2.2.2.2.2.2.2.1)
    have k_xS8 : xS8 W := by
      rw [hW]
      exact (uxS8 rfl hI.2.2.2.2.2.2.2.2.2.2.2.2.2.2.2.2.2.2.2.2.2.2.2.2.2.2.2.2.1)
    have k_xS9 : xS9 W := by
      rw [hW]
      exact (uxS9 rfl hI.2.2.2.2.2.2.2.2.2.2.2.2.2.2.2.2.2.2.2.2.2.2.2.2.2.2.2.2.2.1)
    have k_xSA : xSA W := by
      rw [hW]
      exact (uxSA rfl hI.2.2.2.2.2.2.2.2.2.2.2.2.2.2.2.2.2.2.2.2.2.2.2.2.2.2.2.2.2.2.1)
    have k_xSG : xSG W := by
      rw [hW]
      exact (uxSG rfl hI.2.2.2.2.2.2.2.2.2.2.2.2.2.2.2.2.2.2.2.2.2.2.2.2.2.2.2.2.2.2.2.1)
    have k_xSF : xSF W := by
      rw [hW]
      exact (uxSF rfl hI.2.2.2.2.2.2.2.2.2.2.2.2.2.2.2.2.2.2.2.2.2.2.2.2.2.2.2.2.2.2.2.2.1)
    have k_xSB : xSB W := by
      rw [hW]
      exact (uxSB rfl hI.2.2.2.2.2.2.2.2.2.2.2.2.2.2.2.2.2.2.2.2.2.2.2.2.2.2.2.2.2.2.2.2.2.1)
    have k_xSC : xSC W := by
      have r4_226 : W 4 226 = M 4 226 := by rw [hW, sU_ne (fun z => by omega)]
      have r4_227 : W 4 227 = 1 * ρ 0 + 0 := by rw [hW, sU_at]
      have r4_219 : W 4 219 = M 4 219 := by rw [hW, sU_ne (fun z => by omega)]
      intro h
      rw [r4_227, r4_219, h0]
      refine ⟨by omega, by omega, ?_⟩
      have e1 := tki_on (x := M 4 219) (w := 0) (show tLa[0]? = some (72814592 : Int) from rfl)
      rw [if_neg (by omega)] at e1
      rw [show M 4 227 = 0 by omega] at l3
      rw [← l3]
      exact e1.symm
    have k_xSD : xSD W := by
      rw [hW]
      exact (uxSD rfl hI.2.2.2.2.2.2.2.2.2.2.2.2.2.2.2.2.2.2.2.2.2.2.2.2.2.2.2.2.2.2.2.2.2.2.2.1)
    have k_xSE : xSE W := by
      rw [hW]
      exact (uxSE rfl hI.2.2.2.2.2.2.2.2.2.2.2.2.2.2.2.2.2.2.2.2.2.2.2.2.2.2.2.2.2.2.2.2.2.2.2.2.1)
    have k_xSW : xSW W := by
      rw [hW]
      exact (uxSW rfl hI.2.2.2.2.2.2.2.2.2.2.2.2.2.2.2.2.2.2.2.2.2.2.2.2.2.2.2.2.2.2.2.2.2.2.2.2.2.1)
    have k_xST : xST W := by
      rw [hW]
      exact (uxST rfl hI.2.2.2.2.2.2.2.2.2.2.2.2.2.2.2.2.2.2.2.2.2.2.2.2.2.2.2.2.2.2.2.2.2.2.2.2.2.2.1)
    have k_xSP : xSP W := by
      rw [hW]
      exact (uxSP rfl hI.2.2.2.2.2.2.2.2.2.2.2.2.2.2.2.2.2.2.2.2.2.2.2.2.2.2.2.2.2.2.2.2.2.2.2.2.2.2.2.1)
    have k_xSL : xSL W := by
      rw [hW]
      exact (uxSL rfl hI.2.2.2.2.2.2.2.2.2.2.2.2.2.2.2.2.2.2.2.2.2.2.2.2.2.2.2.2.2.2.2.2.2.2.2.2.2.2.2.2.1)
    have k_xSM : xSM W := by
      rw [hW]
      exact (uxSM rfl hI.2.2.2.2.2.2.2.2.2.2.2.2.2.2.2.2.2.2.2.2.2.2.2.2.2.2.2.2.2.2.2.2.2.2.2.2.2.2.2.2.2.1)
    have k_xSI : xSI W := by
      rw [hW]
      exact (uxSI rfl hI.2.2.2.2.2.2.2.2.2.2.2.2.2.2.2.2.2.2.2.2.2.2.2.2.2.2.2.2.2.2.2.2.2.2.2.2.2.2.2.2.2.2)
    have k_XC : XC W := ⟨k_xS1, k_xS2, k_xS3, k_xS4, k_xS5, k_xS6, k_xS7, k_xS8, k_xS9, k_xSA, k_xSG, k_xSF, k_xSB, k_xSC, k_xSD, k_xSE, k_xSW, k_xST, k_xSP, k_xSL, k_xSM, k_xSI⟩
    have kXB : XB W := ⟨k_xN1, k_xN2, k_xN3, k_xN4, k_xN5, k_xN6, k_xH1, k_xK1, k_xC1, k_xRW, k_xWT, k_xCU, k_xG2, k_xG3, k_xG4, k_xG5, k_xG6, k_XC⟩
    exact ⟨base, k2, k3, kXA, kXB⟩
-- langMissR0H
def xr_445 : qRu := (3, [[(-72814593, 0), (1, 2)]], [(4, 226, [(1, 0)]), (4, 227, []), (4, 219, [(1, 2)])], [], [(4, 227, [(1, 0)])], [])
theorem xo_445 : qRok xr_445 := by
  intro ρ M h0 hf hm hI
  have f0 := hf [(-72814593, 0), (1, 2)] (by decide)
  simp only [qD, h0] at f0
  have m0 : M 4 226 = 1 * ρ 0 + 0 := hm (4, 226, [(1, 0)]) (by decide)
  have m1 : M 4 227 = 0 := hm (4, 227, []) (by decide)
  have m2 : M 4 219 = 1 * ρ 2 + 0 := hm (4, 219, [(1, 2)]) (by decide)
  simp only [h0] at m0
  have qxSC := hI.2.2.2.2.2.2.2.2.2.2.2.2.2.2.2.2.2.2.2.2.2.2.2.2.2.2.2.2.2.2.2.2.2.2.1
  obtain ⟨l1, l2, l3⟩ := gx_xSC hI (by omega)
  refine ⟨ρ, fun _ _ => rfl, fun f h => ?_, ?_⟩
  · exact nomatch h
  · show sI (sU M 4 227 (1 * ρ 0 + 0))
    obtain ⟨W, hW⟩ : ∃ W, W = (sU M 4 227 (1 * ρ 0 + 0)) := ⟨_, rfl⟩
    rw [← hW]
    have base : sI0 W := by
      rw [hW]
      exact (si_u0 hI.1 (fun r hr => by cases hr))
    have k2 : XI2 W := by
      rw [hW]
      exact (xi2_u rfl hI.2.1)
    have k3 : XI3 W := by
      rw [hW]
      exact (xi3_u rfl hI.2.2.1)
    have kXA : XA W := by
      rw [hW]
      exact (uXA rfl hI.2.2.2.1)
    have k_xN1 : xN1 W := by
      rw [hW]
      exact (uxN1 rfl hI.2.2.2.2.1)
    have k_xN2 : xN2 W := by
      rw [hW]
      exact (uxN2 rfl hI.2.2.2.2.2.1)
    have k_xN3 : xN3 W := by
      rw [hW]
      exact (uxN3 rfl hI.2.2.2.2.2.2.1)
    have k_xN4 : xN4 W := by
      rw [hW]
      exact (uxN4 rfl hI.2.2.2.2.2.2.2.1)
    have k_xN5 : xN5 W := by
      rw [hW]
      exact (uxN5 rfl hI.2.2.2.2.2.2.2.2.1)
    have k_xN6 : xN6 W := by
      rw [hW]
      exact (uxN6 rfl hI.2.2.2.2.2.2.2.2.2.1)
    have k_xH1 : xH1 W := by
      rw [hW]
      exact (uxH1 rfl hI.2.2.2.2.2.2.2.2.2.2.1)
    have k_xK1 : xK1 W := by
      rw [hW]
      exact (uxK1 rfl hI.2.2.2.2.2.2.2.2.2.2.2.1)
    have k_xC1 : xC1 W := by
      rw [hW]
      exact (uxC1 rfl hI.2.2.2.2.2.2.2.2.2.2.2.2.1)
    have k_xRW : xRW W := by
      rw [hW]
      exact (uxRW rfl hI.2.2.2.2.2.2.2.2.2.2.2.2.2.1)
    have k_xWT : xWT W := by
      rw [hW]
      exact (uxWT rfl hI.2.2.2.2.2.2.2.2.2.2.2.2.2.2.1)
    have k_xCU : xCU W := by
      rw [hW]
      exact (uxCU rfl hI.2.2.2.2.2.2.2.2.2.2.2.2.2.2.2.1)
    have k_xG2 : xG2 W := by
      rw [hW]
      exact (uxG2 rfl hI.2.2.2.2.2.2.2.2.2.2.2.2.2.2.2.2.1)
    have k_xG3 : xG3 W := by
      rw [hW]
      exact (uxG3 rfl hI.2.2.2.2.2.2.2.2.2.2.2.2.2.2.2.2.2.1)
    have k_xG4 : xG4 W := by
      rw [hW]
      exact (uxG4 rfl hI.2.2.2.2.2.2.2.2.2.2.2.2.2.2.2.2.2.2.1)
    have k_xG5 : xG5 W := by
      rw [hW]
      exact (uxG5 rfl hI.2.2.2.2.2.2.2.2.2.2.2.2.2.2.2.2.2.2.2.1)
    have k_xG6 : xG6 W := by
      rw [hW]
      exact (uxG6 rfl hI.2.2.2.2.2.2.2.2.2.2.2.2.2.2.2.2.2.2.2.2.1)
    have k_xS1 : xS1 W := by
      rw [hW]
      exact (uxS1 rfl hI.2.2.2.2.2.2.2.2.2.2.2.2.2.2.2.2.2.2.2.2.2.1)
    have k_xS2 : xS2 W := by
      rw [hW]
      exact (uxS2 rfl hI.2.2.2.2.2.2.2.2.2.2.2.2.2.2.2.2.2.2.2.2.2.2.1)
    have k_xS3 : xS3 W := by
      rw [hW]
      exact (uxS3 rfl hI.2.2.2.2.2.2.2.2.2.2.2.2.2.2.2.2.2.2.2.2.2.2.2.1)
    have k_xS4 : xS4 W := by
      rw [hW]
      exact (uxS4 rfl hI.2.2.2.2.2.2.2.2.2.2.2.2.2.2.2.2.2.2.2.2.2.2.2.2.1)
    have k_xS5 : xS5 W := by
      rw [hW]
      exact (uxS5 rfl hI.2.2.2.2.2.2.2.2.2.2.2.2.2.2.2.2.2.2.2.2.2.2.2.2.2.1)
    have k_xS6 : xS6 W := by
      rw [hW]
      exact (uxS6 rfl hI.2.2.2.2.2.2.2.2.2.2.2.2.2.2.2.2.2.2.2.2.2.2.2.2.2.2.1)
    have k_xS7 : xS7 W := by
      rw [hW]
      exact (uxS7 rfl hI.2.2.2.2.2.2.2.2.2.2.2.2.2.2.2.2.2.2.2.2.2.2.2.2.2.2.2.1)
    have k_xS8 : xS8 W := by
      rw [hW]
      exact (uxS8 rfl hI.2.2.2.2.2.2.2.2.2.2.2.2.2.2.2.2.2.2.2.2.2.2.2.2.2.2.2.2.1)
    have k_xS9 : xS9 W := by
      rw [hW]
      exact (uxS9 rfl hI.2.2.2.2.2.2.2.2.2.2.2.2.2.2.2.2.2.2.2.2.2.2.2.2.2.2.2.2.2.1)
    have k_xSA : xSA W := by
      rw [hW]
      exact (uxSA rfl hI.2.2.2.2.2.2.2.2.2.2.2.2.2.2.2.2.2.2.2.2.2.2.2.2.2.2.2.2.2.2.1)
    have k_xSG : xSG W := by
      rw [hW]
      exact (uxSG rfl hI.2.2.2.2.2.2.2.2.2.2.2.2.2.2.2.2.2.2.2.2.2.2.2.2.2.2.2.2.2.2.2.1)
    have k_xSF : xSF W := by
      rw [hW]
      exact (uxSF rfl hI.2.2.2.2.2.2.2.2.2.2.2.2.2.2.2.2.2.2.2.2.2.2.2.2.2.2.2.2.2.2.2.2.1)
    have k_xSB : xSB W := by
      rw [hW]
      exact (uxSB rfl hI.2.2.2.2.2.2.2.2.2.2.2.2.2.2.2.2.2.2.2.2.2.2.2.2.2.2.2.2.2.2.2.2.2.1)
    have k_xSC : xSC W := by
      have r4_226 : W 4 226 = M 4 226 := by rw [hW, sU_ne (fun z => by omega)]
      have r4_227 : W 4 227 = 1 * ρ 0 + 0 := by rw [hW, sU_at]
      have r4_219 : W 4 219 = M 4 219 := by rw [hW, sU_ne (fun z => by omega)]
      intro h
      rw [r4_227, r4_219, h0]
      refine ⟨by omega, by omega, ?_⟩
      have e1 := tki_on (x := M 4 219) (w := 0) (show tLa[0]? = some (72814592 : Int) from rfl)
      rw [if_neg (by omega)] at e1
      rw [show M 4 227 = 0 by omega] at l3
      rw [← l3]
      exact e1.symm
    have k_xSD : xSD W := by
      rw [hW]
      exact (uxSD rfl hI.2.2.2.2.2.2.2.2.2.2.2.2.2.2.2.2.2.2.2.2.2.2.2.2.2.2.2.2.2.2.2.2.2.2.2.1)
    have k_xSE : xSE W := by
      rw [hW]
      exact (uxSE rfl hI.2.2.2.2.2.2.2.2.2.2.2.2.2.2.2.2.2.2.2.2.2.2.2.2.2.2.2.2.2.2.2.2.2.2.2.2.1)
    have k_xSW : xSW W := by
      rw [hW]
      exact (uxSW rfl hI.2.2.2.2.2.2.2.2.2.2.2.2.2.2.2.2.2.2.2.2.2.2.2.2.2.2.2.2.2.2.2.2.2.2.2.2.2.1)
    have k_xST : xST W := by
      rw [hW]
      exact (uxST rfl hI.2.2.2.2.2.2.2.2.2.2.2.2.2.2.2.2.2.2.2.2.2.2.2.2.2.2.2.2.2.2.2.2.2.2.2.2.2.2.1)
    have k_xSP : xSP W := by
      rw [hW]
      exact (uxSP rfl hI.2.2.2.2.2.2.2.2.2.2.2.2.2.2.2.2.2.2.2.2.2.2.2.2.2.2.2.2.2.2.2.2.2.2.2.2.2.2.2.1)
    have k_xSL : xSL W := by
      rw [hW]
      exact (uxSL rfl hI.2.2.2.2.2.2.2.2.2.2.2.2.2.2.2.2.2.2.2.2.2.2.2.2.2.2.2.2.2.2.2.2.2.2.2.2.2.2.2.2.1)
    have k_xSM : xSM W := by
      rw [hW]
      exact (uxSM rfl hI.2.2.2.2.2.2.2.2.2.2.2.2.2.2.2.2.2.2.2.2.2.2.2.2.2.2.2.2.2.2.2.2.2.2.2.2.2.2.2.2.2.1)
    have k_xSI : xSI W := by
      rw [hW]
      exact (uxSI rfl hI.2.2.2.2.2.2.2.2.2.2.2.2.2.2.2.2.2.2.2.2.2.2.2.2.2.2.2.2.2.2.2.2.2.2.2.2.2.2.2.2.2.2)
    have k_XC : XC W := ⟨k_xS1, k_xS2, k_xS3, k_xS4, k_xS5, k_xS6, k_xS7, k_xS8, k_xS9, k_xSA, k_xSG, k_xSF, k_xSB, k_xSC, k_xSD, k_xSE, k_xSW, k_xST, k_xSP, k_xSL, k_xSM, k_xSI⟩
    have kXB : XB W := ⟨k_xN1, k_xN2, k_xN3, k_xN4, k_xN5, k_xN6, k_xH1, k_xK1, k_xC1, k_xRW, k_xWT, k_xCU, k_xG2, k_xG3, k_xG4, k_xG5, k_xG6, k_XC⟩
    exact ⟨base, k2, k3, kXA, kXB⟩
-- wHitR1_c
def xr_446 : qRu := (13, [[(-1, 0), (1, 5)], [(1, 1)], [(-1, 1), (1, 9)], [(1, 1), (-1, 9)], [(-1, 0), (-1, 1), (1, 10)], [(6, 0), (1, 9), (-1, 10)], [(-251105888, 0), (1, 11)], [(251105888, 0), (-1, 11)]], [(4, 210, [(1, 0)]), (4, 211, [(1, 1)]), (4, 101, [(1, 2)]), (3, 46, [(1, 3)]), (3, 47, [(1, 4)]), (4, 100, [(1, 5)]), (3, 44, [(1, 6)]), (3, 45, [(1, 7)]), (4, 107, [(1, 8)]), (4, 214, [(1, 0)]), (4, 215, [(1, 9)]), (4, 217, [(1, 10)]), (4, 219, [(1, 11)]), (4, 216, [(1, 12)])], [], [], [[(-1, 1), (1, 3)], [(1, 1), (-1, 3)], [(1, 4), (-1, 10)], [(-1, 4), (1, 10)], [(-19, 0), (1, 6)], [(19, 0), (-1, 6)], [(1, 7), (-1, 11)], [(-1, 7), (1, 11)]])
theorem xo_446 : qRok xr_446 := by
  intro ρ M h0 hf hm hI
  have f0 := hf [(-1, 0), (1, 5)] (by decide)
  have f1 := hf [(1, 1)] (by decide)
  have f2 := hf [(-1, 1), (1, 9)] (by decide)
  have f3 := hf [(1, 1), (-1, 9)] (by decide)
  have f4 := hf [(-1, 0), (-1, 1), (1, 10)] (by decide)
  have f5 := hf [(6, 0), (1, 9), (-1, 10)] (by decide)
  have f6 := hf [(-251105888, 0), (1, 11)] (by decide)
  have f7 := hf [(251105888, 0), (-1, 11)] (by decide)
  simp only [qD, h0] at f0 f1 f2 f3 f4 f5 f6 f7
  have m0 : M 4 210 = 1 * ρ 0 + 0 := hm (4, 210, [(1, 0)]) (by decide)
  have m1 : M 4 211 = 1 * ρ 1 + 0 := hm (4, 211, [(1, 1)]) (by decide)
  have m2 : M 4 101 = 1 * ρ 2 + 0 := hm (4, 101, [(1, 2)]) (by decide)
  have m3 : M 3 46 = 1 * ρ 3 + 0 := hm (3, 46, [(1, 3)]) (by decide)
  have m4 : M 3 47 = 1 * ρ 4 + 0 := hm (3, 47, [(1, 4)]) (by decide)
  have m5 : M 4 100 = 1 * ρ 5 + 0 := hm (4, 100, [(1, 5)]) (by decide)
  have m6 : M 3 44 = 1 * ρ 6 + 0 := hm (3, 44, [(1, 6)]) (by decide)
  have m7 : M 3 45 = 1 * ρ 7 + 0 := hm (3, 45, [(1, 7)]) (by decide)
  have m8 : M 4 107 = 1 * ρ 8 + 0 := hm (4, 107, [(1, 8)]) (by decide)
  have m9 : M 4 214 = 1 * ρ 0 + 0 := hm (4, 214, [(1, 0)]) (by decide)
  have m10 : M 4 215 = 1 * ρ 9 + 0 := hm (4, 215, [(1, 9)]) (by decide)
  have m11 : M 4 217 = 1 * ρ 10 + 0 := hm (4, 217, [(1, 10)]) (by decide)
  have m12 : M 4 219 = 1 * ρ 11 + 0 := hm (4, 219, [(1, 11)]) (by decide)
  have m13 : M 4 216 = 1 * ρ 12 + 0 := hm (4, 216, [(1, 12)]) (by decide)
  simp only [h0] at m0 m9
  obtain ⟨u1, u2, _⟩ := gx_xS8 hI (by omega)

  obtain ⟨a1, a2, a3, a4, a5, a6, a7⟩ := gx_xSA hI (by omega)
  have eq1 : (M 4 215).toNat = (M 4 211).toNat := by omega
  rw [eq1] at a6 a7
  have hgt := ten_gt (g := M 92) (lo := 97) (hi := 122) (n := (M 4 101).toNat) (q := (M 4 211).toNat) (by omega)
  have el1 : (M 4 217 - M 4 215).toNat = tEn (M 92) 97 122 (M 4 101).toNat (M 4 211).toNat - (M 4 211).toNat := by omega
  rw [el1] at a7

  obtain ⟨t1, t2, t3, t4, t5, t6⟩ := tk_of hI (by omega) (by omega) (by omega) (show tAt (M 92) (M 4 101).toNat (M 4 211).toNat (M 4 107) (M 4 108) = (19, M 4 219, ((M 4 211).toNat : Int), M 4 217, 0, 1) from by
    unfold tAt
    rw [if_neg (by omega), if_pos hgt.2]
    unfold tWo
    rw [← a7, ← a6]
    have hk : tKi (M 4 219) 0 = 19 := by
      rw [show M 4 219 = 251105888 by omega]
      decide
    have h6 : ¬ (6 < tEn (M 92) 97 122 (M 4 101).toNat (M 4 211).toNat - (M 4 211).toNat) := by omega
    unfold tWk tWs tWv
    rw [if_neg h6, if_neg h6, if_neg h6, hk]
    rfl)
  refine ⟨ρ, fun _ _ => rfl, fun f h => ?_, ?_⟩
  · have h : f ∈ ([[(-1, 1), (1, 3)], [(1, 1), (-1, 3)], [(1, 4), (-1, 10)], [(-1, 4), (1, 10)], [(-19, 0), (1, 6)], [(19, 0), (-1, 6)], [(1, 7), (-1, 11)], [(-1, 7), (1, 11)]] : List qF) := h
    simp only [List.mem_cons, List.not_mem_nil, or_false] at h
    rcases h with rfl | rfl | rfl | rfl | rfl | rfl | rfl | rfl
    · show 0 ≤ -1 * ρ 1 + (1 * ρ 3 + 0)
      (try rw [h0]); omega
    · show 0 ≤ 1 * ρ 1 + (-1 * ρ 3 + 0)
      (try rw [h0]); omega
    · show 0 ≤ 1 * ρ 4 + (-1 * ρ 10 + 0)
      (try rw [h0]); omega
    · show 0 ≤ -1 * ρ 4 + (1 * ρ 10 + 0)
      (try rw [h0]); omega
    · show 0 ≤ -19 * ρ 0 + (1 * ρ 6 + 0)
      (try rw [h0]); omega
    · show 0 ≤ 19 * ρ 0 + (-1 * ρ 6 + 0)
      (try rw [h0]); omega
    · show 0 ≤ 1 * ρ 7 + (-1 * ρ 11 + 0)
      (try rw [h0]); omega
    · show 0 ≤ -1 * ρ 7 + (1 * ρ 11 + 0)
      (try rw [h0]); omega
  · show sI M
    exact hI
-- wHitR1_r
def xr_447 : qRu := (13, [[(-1, 0), (1, 5)], [(1, 1)], [(-1, 1), (1, 9)], [(1, 1), (-1, 9)], [(-1, 0), (-1, 1), (1, 10)], [(6, 0), (1, 9), (-1, 10)], [(-251105888, 0), (1, 11)], [(251105888, 0), (-1, 11)]], [(4, 210, [(1, 0)]), (4, 211, [(1, 1)]), (4, 101, [(1, 2)]), (3, 46, [(1, 3)]), (3, 47, [(1, 4)]), (4, 100, [(1, 5)]), (3, 50, [(1, 6)]), (3, 51, [(1, 7)]), (4, 108, [(1, 8)]), (4, 214, [(1, 0)]), (4, 215, [(1, 9)]), (4, 217, [(1, 10)]), (4, 219, [(1, 11)]), (4, 216, [(1, 12)])], [], [], [[(-1, 1), (1, 3)], [(1, 1), (-1, 3)], [(1, 4), (-1, 10)], [(-1, 4), (1, 10)], [(1, 6)], [(-1, 6)], [(-1, 0), (1, 7)], [(1, 0), (-1, 7)]])
theorem xo_447 : qRok xr_447 := by
  intro ρ M h0 hf hm hI
  have f0 := hf [(-1, 0), (1, 5)] (by decide)
  have f1 := hf [(1, 1)] (by decide)
  have f2 := hf [(-1, 1), (1, 9)] (by decide)
  have f3 := hf [(1, 1), (-1, 9)] (by decide)
  have f4 := hf [(-1, 0), (-1, 1), (1, 10)] (by decide)
  have f5 := hf [(6, 0), (1, 9), (-1, 10)] (by decide)
  have f6 := hf [(-251105888, 0), (1, 11)] (by decide)
  have f7 := hf [(251105888, 0), (-1, 11)] (by decide)
  simp only [qD, h0] at f0 f1 f2 f3 f4 f5 f6 f7
  have m0 : M 4 210 = 1 * ρ 0 + 0 := hm (4, 210, [(1, 0)]) (by decide)
  have m1 : M 4 211 = 1 * ρ 1 + 0 := hm (4, 211, [(1, 1)]) (by decide)
  have m2 : M 4 101 = 1 * ρ 2 + 0 := hm (4, 101, [(1, 2)]) (by decide)
  have m3 : M 3 46 = 1 * ρ 3 + 0 := hm (3, 46, [(1, 3)]) (by decide)
  have m4 : M 3 47 = 1 * ρ 4 + 0 := hm (3, 47, [(1, 4)]) (by decide)
  have m5 : M 4 100 = 1 * ρ 5 + 0 := hm (4, 100, [(1, 5)]) (by decide)
  have m6 : M 3 50 = 1 * ρ 6 + 0 := hm (3, 50, [(1, 6)]) (by decide)
  have m7 : M 3 51 = 1 * ρ 7 + 0 := hm (3, 51, [(1, 7)]) (by decide)
  have m8 : M 4 108 = 1 * ρ 8 + 0 := hm (4, 108, [(1, 8)]) (by decide)
  have m9 : M 4 214 = 1 * ρ 0 + 0 := hm (4, 214, [(1, 0)]) (by decide)
  have m10 : M 4 215 = 1 * ρ 9 + 0 := hm (4, 215, [(1, 9)]) (by decide)
  have m11 : M 4 217 = 1 * ρ 10 + 0 := hm (4, 217, [(1, 10)]) (by decide)
  have m12 : M 4 219 = 1 * ρ 11 + 0 := hm (4, 219, [(1, 11)]) (by decide)
  have m13 : M 4 216 = 1 * ρ 12 + 0 := hm (4, 216, [(1, 12)]) (by decide)
  simp only [h0] at m0 m9
  obtain ⟨u1, u2, _⟩ := gx_xS8 hI (by omega)

  obtain ⟨a1, a2, a3, a4, a5, a6, a7⟩ := gx_xSA hI (by omega)
  have eq1 : (M 4 215).toNat = (M 4 211).toNat := by omega
  rw [eq1] at a6 a7
  have hgt := ten_gt (g := M 92) (lo := 97) (hi := 122) (n := (M 4 101).toNat) (q := (M 4 211).toNat) (by omega)
  have el1 : (M 4 217 - M 4 215).toNat = tEn (M 92) 97 122 (M 4 101).toNat (M 4 211).toNat - (M 4 211).toNat := by omega
  rw [el1] at a7

  obtain ⟨t1, t2, t3, t4, t5, t6⟩ := tk_of hI (by omega) (by omega) (by omega) (show tAt (M 92) (M 4 101).toNat (M 4 211).toNat (M 4 107) (M 4 108) = (19, M 4 219, ((M 4 211).toNat : Int), M 4 217, 0, 1) from by
    unfold tAt
    rw [if_neg (by omega), if_pos hgt.2]
    unfold tWo
    rw [← a7, ← a6]
    have hk : tKi (M 4 219) 0 = 19 := by
      rw [show M 4 219 = 251105888 by omega]
      decide
    have h6 : ¬ (6 < tEn (M 92) 97 122 (M 4 101).toNat (M 4 211).toNat - (M 4 211).toNat) := by omega
    unfold tWk tWs tWv
    rw [if_neg h6, if_neg h6, if_neg h6, hk]
    rfl)
  refine ⟨ρ, fun _ _ => rfl, fun f h => ?_, ?_⟩
  · have h : f ∈ ([[(-1, 1), (1, 3)], [(1, 1), (-1, 3)], [(1, 4), (-1, 10)], [(-1, 4), (1, 10)], [(1, 6)], [(-1, 6)], [(-1, 0), (1, 7)], [(1, 0), (-1, 7)]] : List qF) := h
    simp only [List.mem_cons, List.not_mem_nil, or_false] at h
    rcases h with rfl | rfl | rfl | rfl | rfl | rfl | rfl | rfl
    · show 0 ≤ -1 * ρ 1 + (1 * ρ 3 + 0)
      (try rw [h0]); omega
    · show 0 ≤ 1 * ρ 1 + (-1 * ρ 3 + 0)
      (try rw [h0]); omega
    · show 0 ≤ 1 * ρ 4 + (-1 * ρ 10 + 0)
      (try rw [h0]); omega
    · show 0 ≤ -1 * ρ 4 + (1 * ρ 10 + 0)
      (try rw [h0]); omega
    · show 0 ≤ 1 * ρ 6 + 0
      (try rw [h0]); omega
    · show 0 ≤ -1 * ρ 6 + 0
      (try rw [h0]); omega
    · show 0 ≤ -1 * ρ 0 + (1 * ρ 7 + 0)
      (try rw [h0]); omega
    · show 0 ≤ 1 * ρ 0 + (-1 * ρ 7 + 0)
      (try rw [h0]); omega
  · show sI M
    exact hI
-- langMissR1L
def xr_448 : qRu := (3, [[(251105887, 0), (-1, 2)]], [(4, 226, [(1, 0)]), (4, 227, [(1, 0)]), (4, 219, [(1, 2)])], [], [(4, 227, [(2, 0)])], [])
theorem xo_448 : qRok xr_448 := by
  intro ρ M h0 hf hm hI
  have f0 := hf [(251105887, 0), (-1, 2)] (by decide)
  simp only [qD, h0] at f0
  have m0 : M 4 226 = 1 * ρ 0 + 0 := hm (4, 226, [(1, 0)]) (by decide)
  have m1 : M 4 227 = 1 * ρ 0 + 0 := hm (4, 227, [(1, 0)]) (by decide)
  have m2 : M 4 219 = 1 * ρ 2 + 0 := hm (4, 219, [(1, 2)]) (by decide)
  simp only [h0] at m0 m1
  have qxSC := hI.2.2.2.2.2.2.2.2.2.2.2.2.2.2.2.2.2.2.2.2.2.2.2.2.2.2.2.2.2.2.2.2.2.2.1
  obtain ⟨l1, l2, l3⟩ := gx_xSC hI (by omega)
  refine ⟨ρ, fun _ _ => rfl, fun f h => ?_, ?_⟩
  · exact nomatch h
  · show sI (sU M 4 227 (2 * ρ 0 + 0))
    obtain ⟨W, hW⟩ : ∃ W, W = (sU M 4 227 (2 * ρ 0 + 0)) := ⟨_, rfl⟩
    rw [← hW]
    have base : sI0 W := by
      rw [hW]
      exact (si_u0 hI.1 (fun r hr => by cases hr))
    have k2 : XI2 W := by
      rw [hW]
      exact (xi2_u rfl hI.2.1)
    have k3 : XI3 W := by
      rw [hW]
      exact (xi3_u rfl hI.2.2.1)
    have kXA : XA W := by
      rw [hW]
      exact (uXA rfl hI.2.2.2.1)
    have k_xN1 : xN1 W := by
      rw [hW]
      exact (uxN1 rfl hI.2.2.2.2.1)
    have k_xN2 : xN2 W := by
      rw [hW]
      exact (uxN2 rfl hI.2.2.2.2.2.1)
    have k_xN3 : xN3 W := by
      rw [hW]
      exact (uxN3 rfl hI.2.2.2.2.2.2.1)
    have k_xN4 : xN4 W := by
      rw [hW]
      exact (uxN4 rfl hI.2.2.2.2.2.2.2.1)
    have k_xN5 : xN5 W := by
      rw [hW]
      exact (uxN5 rfl hI.2.2.2.2.2.2.2.2.1)
    have k_xN6 : xN6 W := by
      rw [hW]
      exact (uxN6 rfl hI.2.2.2.2.2.2.2.2.2.1)
    have k_xH1 : xH1 W := by
      rw [hW]
      exact (uxH1 rfl hI.2.2.2.2.2.2.2.2.2.2.1)
    have k_xK1 : xK1 W := by
      rw [hW]
      exact (uxK1 rfl hI.2.2.2.2.2.2.2.2.2.2.2.1)
    have k_xC1 : xC1 W := by
      rw [hW]
      exact (uxC1 rfl hI.2.2.2.2.2.2.2.2.2.2.2.2.1)
    have k_xRW : xRW W := by
      rw [hW]
      exact (uxRW rfl hI.2.2.2.2.2.2.2.2.2.2.2.2.2.1)
    have k_xWT : xWT W := by
      rw [hW]
      exact (uxWT rfl hI.2.2.2.2.2.2.2.2.2.2.2.2.2.2.1)
    have k_xCU : xCU W := by
      rw [hW]
      exact (uxCU rfl hI.2.2.2.2.2.2.2.2.2.2.2.2.2.2.2.1)
    have k_xG2 : xG2 W := by
      rw [hW]
      exact (uxG2 rfl hI.2.2.2.2.2.2.2.2.2.2.2.2.2.2.2.2.1)
    have k_xG3 : xG3 W := by
      rw [hW]
      exact (uxG3 rfl hI.2.2.2.2.2.2.2.2.2.2.2.2.2.2.2.2.2.1)
    have k_xG4 : xG4 W := by
      rw [hW]
      exact (uxG4 rfl hI.2.2.2.2.2.2.2.2.2.2.2.2.2.2.2.2.2.2.1)
    have k_xG5 : xG5 W := by
      rw [hW]
      exact (uxG5 rfl hI.2.2.2.2.2.2.2.2.2.2.2.2.2.2.2.2.2.2.2.1)
    have k_xG6 : xG6 W := by
      rw [hW]
      exact (uxG6 rfl hI.2.2.2.2.2.2.2.2.2.2.2.2.2.2.2.2.2.2.2.2.1)
    have k_xS1 : xS1 W := by
      rw [hW]
      exact (uxS1 rfl hI.2.2.2.2.2.2.2.2.2.2.2.2.2.2.2.2.2.2.2.2.2.1)
    have k_xS2 : xS2 W := by
      rw [hW]
      exact (uxS2 rfl hI.2.2.2.2.2.2.2.2.2.2.2.2.2.2.2.2.2.2.2.2.2.2.1)
    have k_xS3 : xS3 W := by
      rw [hW]
      exact (uxS3 rfl hI.2.2.2.2.2.2.2.2.2.2.2.2.2.2.2.2.2.2.2.2.2.2.2.1)
    have k_xS4 : xS4 W := by
      rw [hW]
      exact (uxS4 rfl hI.2.2.2.2.2.2.2.2.2.2.2.2.2.2.2.2.2.2.2.2.2.2.2.2.1)
    have k_xS5 : xS5 W := by
      rw [hW]
      exact (uxS5 rfl hI.2.2.2.2.2.2.2.2.2.2.2.2.2.2.2.2.2.2.2.2.2.2.2.2.2.1)
    have k_xS6 : xS6 W := by
      rw [hW]
      exact (uxS6 rfl hI.2.2.2.2.2.2.2.2.2.2.2.2.2.2.2.2.2.2.2.2.2.2.2.2.2.2.1)
    have k_xS7 : xS7 W := by
      rw [hW]
      exact (uxS7 rfl hI.2.2.2.2.2.2.2.2.2.2.2.2.2.2.2.2.2.2.2.2.2.2.2.2.2.2.2.1)
    have k_xS8 : xS8 W := by
      rw [hW]
      exact (uxS8 rfl hI.2.2.2.2.2.2.2.2.2.2.2.2.2.2.2.2.2.2.2.2.2.2.2.2.2.2.2.2.1)
    have k_xS9 : xS9 W := by
      rw [hW]
      exact (uxS9 rfl hI.2.2.2.2.2.2.2.2.2.2.2.2.2.2.2.2.2.2.2.2.2.2.2.2.2.2.2.2.2.1)
    have k_xSA : xSA W := by
      rw [hW]
      exact (uxSA rfl hI.2.2.2.2.2.2.2.2.2.2.2.2.2.2.2.2.2.2.2.2.2.2.2.2.2.2.2.2.2.2.1)
    have k_xSG : xSG W := by
      rw [hW]
      exact (uxSG rfl hI.2.2.2.2.2.2.2.2.2.2.2.2.2.2.2.2.2.2.2.2.2.2.2.2.2.2.2.2.2.2.2.1)
    have k_xSF : xSF W := by
      rw [hW]
      exact (uxSF rfl hI.2.2.2.2.2.2.2.2.2.2.2.2.2.2.2.2.2.2.2.2.2.2.2.2.2.2.2.2.2.2.2.2.1)
    have k_xSB : xSB W := by
      rw [hW]
      exact (uxSB rfl hI.2.2.2.2.2.2.2.2.2.2.2.2.2.2.2.2.2.2.2.2.2.2.2.2.2.2.2.2.2.2.2.2.2.1)
    have k_xSC : xSC W := by
      have r4_226 : W 4 226 = M 4 226 := by rw [hW, sU_ne (fun z => by omega)]
      have r4_227 : W 4 227 = 2 * ρ 0 + 0 := by rw [hW, sU_at]
      have r4_219 : W 4 219 = M 4 219 := by rw [hW, sU_ne (fun z => by omega)]
      intro h
      rw [r4_227, r4_219, h0]
      refine ⟨by omega, by omega, ?_⟩
      have e1 := tki_on (x := M 4 219) (w := 1) (show tLa[1]? = some (251105888 : Int) from rfl)
      rw [if_neg (by omega)] at e1
      rw [show M 4 227 = 1 by omega] at l3
      rw [← l3]
      exact e1.symm
    have k_xSD : xSD W := by
      rw [hW]
      exact (uxSD rfl hI.2.2.2.2.2.2.2.2.2.2.2.2.2.2.2.2.2.2.2.2.2.2.2.2.2.2.2.2.2.2.2.2.2.2.2.1)
    have k_xSE : xSE W := by
      rw [hW]
      exact (uxSE rfl hI.2.2.2.2.2.2.2.2.2.2.2.2.2.2.2.2.2.2.2.2.2.2.2.2.2.2.2.2.2.2.2.2.2.2.2.2.1)
    have k_xSW : xSW W := by
      rw [hW]
      exact (uxSW rfl hI.2.2.2.2.2.2.2.2.2.2.2.2.2.2.2.2.2.2.2.2.2.2.2.2.2.2.2.2.2.2.2.2.2.2.2.2.2.1)
    have k_xST : xST W := by
      rw [hW]
      exact (uxST rfl hI.2.2.2.2.2.2.2.2.2.2.2.2.2.2.2.2.2.2.2.2.2.2.2.2.2.2.2.2.2.2.2.2.2.2.2.2.2.2.1)
    have k_xSP : xSP W := by
      rw [hW]
      exact (uxSP rfl hI.2.2.2.2.2.2.2.2.2.2.2.2.2.2.2.2.2.2.2.2.2.2.2.2.2.2.2.2.2.2.2.2.2.2.2.2.2.2.2.1)
    have k_xSL : xSL W := by
      rw [hW]
      exact (uxSL rfl hI.2.2.2.2.2.2.2.2.2.2.2.2.2.2.2.2.2.2.2.2.2.2.2.2.2.2.2.2.2.2.2.2.2.2.2.2.2.2.2.2.1)
    have k_xSM : xSM W := by
      rw [hW]
      exact (uxSM rfl hI.2.2.2.2.2.2.2.2.2.2.2.2.2.2.2.2.2.2.2.2.2.2.2.2.2.2.2.2.2.2.2.2.2.2.2.2.2.2.2.2.2.1)
    have k_xSI : xSI W := by
      rw [hW]
      exact (uxSI rfl hI.2.2.2.2.2.2.2.2.2.2.2.2.2.2.2.2.2.2.2.2.2.2.2.2.2.2.2.2.2.2.2.2.2.2.2.2.2.2.2.2.2.2)
    have k_XC : XC W := ⟨k_xS1, k_xS2, k_xS3, k_xS4, k_xS5, k_xS6, k_xS7, k_xS8, k_xS9, k_xSA, k_xSG, k_xSF, k_xSB, k_xSC, k_xSD, k_xSE, k_xSW, k_xST, k_xSP, k_xSL, k_xSM, k_xSI⟩
    have kXB : XB W := ⟨k_xN1, k_xN2, k_xN3, k_xN4, k_xN5, k_xN6, k_xH1, k_xK1, k_xC1, k_xRW, k_xWT, k_xCU, k_xG2, k_xG3, k_xG4, k_xG5, k_xG6, k_XC⟩
    exact ⟨base, k2, k3, kXA, kXB⟩
-- langMissR1H
def xr_449 : qRu := (3, [[(-251105889, 0), (1, 2)]], [(4, 226, [(1, 0)]), (4, 227, [(1, 0)]), (4, 219, [(1, 2)])], [], [(4, 227, [(2, 0)])], [])
theorem xo_449 : qRok xr_449 := by
  intro ρ M h0 hf hm hI
  have f0 := hf [(-251105889, 0), (1, 2)] (by decide)
  simp only [qD, h0] at f0
  have m0 : M 4 226 = 1 * ρ 0 + 0 := hm (4, 226, [(1, 0)]) (by decide)
  have m1 : M 4 227 = 1 * ρ 0 + 0 := hm (4, 227, [(1, 0)]) (by decide)
  have m2 : M 4 219 = 1 * ρ 2 + 0 := hm (4, 219, [(1, 2)]) (by decide)
  simp only [h0] at m0 m1
  have qxSC := hI.2.2.2.2.2.2.2.2.2.2.2.2.2.2.2.2.2.2.2.2.2.2.2.2.2.2.2.2.2.2.2.2.2.2.1
  obtain ⟨l1, l2, l3⟩ := gx_xSC hI (by omega)
  refine ⟨ρ, fun _ _ => rfl, fun f h => ?_, ?_⟩
  · exact nomatch h
  · show sI (sU M 4 227 (2 * ρ 0 + 0))
    obtain ⟨W, hW⟩ : ∃ W, W = (sU M 4 227 (2 * ρ 0 + 0)) := ⟨_, rfl⟩
    rw [← hW]
    have base : sI0 W := by
      rw [hW]
      exact (si_u0 hI.1 (fun r hr => by cases hr))
    have k2 : XI2 W := by
      rw [hW]
      exact (xi2_u rfl hI.2.1)
    have k3 : XI3 W := by
      rw [hW]
      exact (xi3_u rfl hI.2.2.1)
    have kXA : XA W := by
      rw [hW]
      exact (uXA rfl hI.2.2.2.1)
    have k_xN1 : xN1 W := by
      rw [hW]
      exact (uxN1 rfl hI.2.2.2.2.1)
    have k_xN2 : xN2 W := by
      rw [hW]
      exact (uxN2 rfl hI.2.2.2.2.2.1)
    have k_xN3 : xN3 W := by
      rw [hW]
      exact (uxN3 rfl hI.2.2.2.2.2.2.1)
    have k_xN4 : xN4 W := by
      rw [hW]
      exact (uxN4 rfl hI.2.2.2.2.2.2.2.1)
    have k_xN5 : xN5 W := by
      rw [hW]
      exact (uxN5 rfl hI.2.2.2.2.2.2.2.2.1)
    have k_xN6 : xN6 W := by
      rw [hW]
      exact (uxN6 rfl hI.2.2.2.2.2.2.2.2.2.1)
    have k_xH1 : xH1 W := by
      rw [hW]
      exact (uxH1 rfl hI.2.2.2.2.2.2.2.2.2.2.1)
    have k_xK1 : xK1 W := by
      rw [hW]
      exact (uxK1 rfl hI.2.2.2.2.2.2.2.2.2.2.2.1)
    have k_xC1 : xC1 W := by
      rw [hW]
      exact (uxC1 rfl hI.2.2.2.2.2.2.2.2.2.2.2.2.1)
    have k_xRW : xRW W := by
      rw [hW]
      exact (uxRW rfl hI.2.2.2.2.2.2.2.2.2.2.2.2.2.1)
    have k_xWT : xWT W := by
      rw [hW]
      exact (uxWT rfl hI.2.2.2.2.2.2.2.2.2.2.2.2.2.2.1)
    have k_xCU : xCU W := by
      rw [hW]
      exact (uxCU rfl hI.2.2.2.2.2.2.2.2.2.2.2.2.2.2.2.1)
    have k_xG2 : xG2 W := by
      rw [hW]
      exact (uxG2 rfl hI.2.2.2.2.2.2.2.2.2.2.2.2.2.2.2.2.1)
    have k_xG3 : xG3 W := by
      rw [hW]
      exact (uxG3 rfl hI.2.2.2.2.2.2.2.2.2.2.2.2.2.2.2.2.2.1)
    have k_xG4 : xG4 W := by
      rw [hW]
      exact (uxG4 rfl hI.2.2.2.2.2.2.2.2.2.2.2.2.2.2.2.2.2.2.1)
    have k_xG5 : xG5 W := by
      rw [hW]
      exact (uxG5 rfl hI.2.2.2.2.2.2.2.2.2.2.2.2.2.2.2.2.2.2.2.1)
    have k_xG6 : xG6 W := by
      rw [hW]
      exact (uxG6 rfl hI.2.2.2.2.2.2.2.2.2.2.2.2.2.2.2.2.2.2.2.2.1)
    have k_xS1 : xS1 W := by
      rw [hW]
      exact (uxS1 rfl hI.2.2.2.2.2.2.2.2.2.2.2.2.2.2.2.2.2.2.2.2.2.1)
    have k_xS2 : xS2 W := by
      rw [hW]
      exact (uxS2 rfl hI.2.2.2.2.2.2.2.2.2.2.2.2.2.2.2.2.2.2.2.2.2.2.1)
    have k_xS3 : xS3 W := by
      rw [hW]
      exact (uxS3 rfl hI.2.2.2.2.2.2.2.2.2.2.2.2.2.2.2.2.2.2.2.2.2.2.2.1)
    have k_xS4 : xS4 W := by
      rw [hW]
      exact (uxS4 rfl hI.2.2.2.2.2.2.2.2.2.2.2.2.2.2.2.2.2.2.2.2.2.2.2.2.1)
    have k_xS5 : xS5 W := by
      rw [hW]
      exact (uxS5 rfl hI.2.2.2.2.2.2.2.2.2.2.2.2.2.2.2.2.2.2.2.2.2.2.2.2.2.1)
    have k_xS6 : xS6 W := by
      rw [hW]
      exact (uxS6 rfl hI.2.2.2.2.2.2.2.2.2.2.2.2.2.2.2.2.2.2.2.2.2.2.2.2.2.2.1)
    have k_xS7 : xS7 W := by
      rw [hW]
      exact (uxS7 rfl hI.2.2.2.2.2.2.2.2.2.2.2.2.2.2.2.2.2.2.2.2.2.2.2.2.2.2.2.1)
    have k_xS8 : xS8 W := by
      rw [hW]
      exact (uxS8 rfl hI.2.2.2.2.2.2.2.2.2.2.2.2.2.2.2.2.2.2.2.2.2.2.2.2.2.2.2.2.1)
    have k_xS9 : xS9 W := by
      rw [hW]
      exact (uxS9 rfl hI.2.2.2.2.2.2.2.2.2.2.2.2.2.2.2.2.2.2.2.2.2.2.2.2.2.2.2.2.2.1)
    have k_xSA : xSA W := by
      rw [hW]
      exact (uxSA rfl hI.2.2.2.2.2.2.2.2.2.2.2.2.2.2.2.2.2.2.2.2.2.2.2.2.2.2.2.2.2.2.1)
    have k_xSG : xSG W := by
      rw [hW]
      exact (uxSG rfl hI.2.2.2.2.2.2.2.2.2.2.2.2.2.2.2.2.2.2.2.2.2.2.2.2.2.2.2.2.2.2.2.1)
    have k_xSF : xSF W := by
      rw [hW]
      exact (uxSF rfl hI.2.2.2.2.2.2.2.2.2.2.2.2.2.2.2.2.2.2.2.2.2.2.2.2.2.2.2.2.2.2.2.2.1)
    have k_xSB : xSB W := by
      rw [hW]
      exact (uxSB rfl hI.2.2.2.2.2.2.2.2.2.2.2.2.2.2.2.2.2.2.2.2.2.2.2.2.2.2.2.2.2.2.2.2.2.1)
    have k_xSC : xSC W := by
      have r4_226 : W 4 226 = M 4 226 := by rw [hW, sU_ne (fun z => by omega)]
      have r4_227 : W 4 227 = 2 * ρ 0 + 0 := by rw [hW, sU_at]
      have r4_219 : W 4 219 = M 4 219 := by rw [hW, sU_ne (fun z => by omega)]
      intro h
      rw [r4_227, r4_219, h0]
      refine ⟨by omega, by omega, ?_⟩
      have e1 := tki_on (x := M 4 219) (w := 1) (show tLa[1]? = some (251105888 : Int) from rfl)
      rw [if_neg (by omega)] at e1
      rw [show M 4 227 = 1 by omega] at l3
      rw [← l3]
      exact e1.symm
    have k_xSD : xSD W := by
      rw [hW]
      exact (uxSD rfl hI.2.2.2.2.2.2.2.2.2.2.2.2.2.2.2.2.2.2.2.2.2.2.2.2.2.2.2.2.2.2.2.2.2.2.2.1)
    have k_xSE : xSE W := by
      rw [hW]
      exact (uxSE rfl hI.2.2.2.2.2.2.2.2.2.2.2.2.2.2.2.2.2.2.2.2.2.2.2.2.2.2.2.2.2.2.2.2.2.2.2.2.1)
    have k_xSW : xSW W := by
      rw [hW]
      exact (uxSW rfl hI.2.2.2.2.2.2.2.2.2.2.2.2.2.2.2.2.2.2.2.2.2.2.2.2.2.2.2.2.2.2.2.2.2.2.2.2.2.1)
    have k_xST : xST W := by
      rw [hW]
      exact (uxST rfl hI.2.2.2.2.2.2.2.2.2.2.2.2.2.2.2.2.2.2.2.2.2.2.2.2.2.2.2.2.2.2.2.2.2.2.2.2.2.2.1)
    have k_xSP : xSP W := by
      rw [hW]
      exact (uxSP rfl hI.2.2.2.2.2.2.2.2.2.2.2.2.2.2.2.2.2.2.2.2.2.2.2.2.2.2.2.2.2.2.2.2.2.2.2.2.2.2.2.1)
    have k_xSL : xSL W := by
      rw [hW]
      exact (uxSL rfl hI.2.2.2.2.2.2.2.2.2.2.2.2.2.2.2.2.2.2.2.2.2.2.2.2.2.2.2.2.2.2.2.2.2.2.2.2.2.2.2.2.1)
    have k_xSM : xSM W := by
      rw [hW]
      exact (uxSM rfl hI.2.2.2.2.2.2.2.2.2.2.2.2.2.2.2.2.2.2.2.2.2.2.2.2.2.2.2.2.2.2.2.2.2.2.2.2.2.2.2.2.2.1)
    have k_xSI : xSI W := by
      rw [hW]
      exact (uxSI rfl hI.2.2.2.2.2.2.2.2.2.2.2.2.2.2.2.2.2.2.2.2.2.2.2.2.2.2.2.2.2.2.2.2.2.2.2.2.2.2.2.2.2.2)
    have k_XC : XC W := ⟨k_xS1, k_xS2, k_xS3, k_xS4, k_xS5, k_xS6, k_xS7, k_xS8, k_xS9, k_xSA, k_xSG, k_xSF, k_xSB, k_xSC, k_xSD, k_xSE, k_xSW, k_xST, k_xSP, k_xSL, k_xSM, k_xSI⟩
    have kXB : XB W := ⟨k_xN1, k_xN2, k_xN3, k_xN4, k_xN5, k_xN6, k_xH1, k_xK1, k_xC1, k_xRW, k_xWT, k_xCU, k_xG2, k_xG3, k_xG4, k_xG5, k_xG6, k_XC⟩
    exact ⟨base, k2, k3, kXA, kXB⟩
-- wHitR2_c
def xr_450 : qRu := (13, [[(-1, 0), (1, 5)], [(1, 1)], [(-1, 1), (1, 9)], [(1, 1), (-1, 9)], [(-1, 0), (-1, 1), (1, 10)], [(6, 0), (1, 9), (-1, 10)], [(-68386816, 0), (1, 11)], [(68386816, 0), (-1, 11)]], [(4, 210, [(1, 0)]), (4, 211, [(1, 1)]), (4, 101, [(1, 2)]), (3, 46, [(1, 3)]), (3, 47, [(1, 4)]), (4, 100, [(1, 5)]), (3, 44, [(1, 6)]), (3, 45, [(1, 7)]), (4, 107, [(1, 8)]), (4, 214, [(1, 0)]), (4, 215, [(1, 9)]), (4, 217, [(1, 10)]), (4, 219, [(1, 11)]), (4, 216, [(1, 12)])], [], [], [[(-1, 1), (1, 3)], [(1, 1), (-1, 3)], [(1, 4), (-1, 10)], [(-1, 4), (1, 10)], [(-20, 0), (1, 6)], [(20, 0), (-1, 6)], [(1, 7), (-1, 11)], [(-1, 7), (1, 11)]])
theorem xo_450 : qRok xr_450 := by
  intro ρ M h0 hf hm hI
  have f0 := hf [(-1, 0), (1, 5)] (by decide)
  have f1 := hf [(1, 1)] (by decide)
  have f2 := hf [(-1, 1), (1, 9)] (by decide)
  have f3 := hf [(1, 1), (-1, 9)] (by decide)
  have f4 := hf [(-1, 0), (-1, 1), (1, 10)] (by decide)
  have f5 := hf [(6, 0), (1, 9), (-1, 10)] (by decide)
  have f6 := hf [(-68386816, 0), (1, 11)] (by decide)
  have f7 := hf [(68386816, 0), (-1, 11)] (by decide)
  simp only [qD, h0] at f0 f1 f2 f3 f4 f5 f6 f7
  have m0 : M 4 210 = 1 * ρ 0 + 0 := hm (4, 210, [(1, 0)]) (by decide)
  have m1 : M 4 211 = 1 * ρ 1 + 0 := hm (4, 211, [(1, 1)]) (by decide)
  have m2 : M 4 101 = 1 * ρ 2 + 0 := hm (4, 101, [(1, 2)]) (by decide)
  have m3 : M 3 46 = 1 * ρ 3 + 0 := hm (3, 46, [(1, 3)]) (by decide)
  have m4 : M 3 47 = 1 * ρ 4 + 0 := hm (3, 47, [(1, 4)]) (by decide)
  have m5 : M 4 100 = 1 * ρ 5 + 0 := hm (4, 100, [(1, 5)]) (by decide)
  have m6 : M 3 44 = 1 * ρ 6 + 0 := hm (3, 44, [(1, 6)]) (by decide)
  have m7 : M 3 45 = 1 * ρ 7 + 0 := hm (3, 45, [(1, 7)]) (by decide)
  have m8 : M 4 107 = 1 * ρ 8 + 0 := hm (4, 107, [(1, 8)]) (by decide)
  have m9 : M 4 214 = 1 * ρ 0 + 0 := hm (4, 214, [(1, 0)]) (by decide)
  have m10 : M 4 215 = 1 * ρ 9 + 0 := hm (4, 215, [(1, 9)]) (by decide)
  have m11 : M 4 217 = 1 * ρ 10 + 0 := hm (4, 217, [(1, 10)]) (by decide)
  have m12 : M 4 219 = 1 * ρ 11 + 0 := hm (4, 219, [(1, 11)]) (by decide)
  have m13 : M 4 216 = 1 * ρ 12 + 0 := hm (4, 216, [(1, 12)]) (by decide)
  simp only [h0] at m0 m9
  obtain ⟨u1, u2, _⟩ := gx_xS8 hI (by omega)

  obtain ⟨a1, a2, a3, a4, a5, a6, a7⟩ := gx_xSA hI (by omega)
  have eq1 : (M 4 215).toNat = (M 4 211).toNat := by omega
  rw [eq1] at a6 a7
  have hgt := ten_gt (g := M 92) (lo := 97) (hi := 122) (n := (M 4 101).toNat) (q := (M 4 211).toNat) (by omega)
  have el1 : (M 4 217 - M 4 215).toNat = tEn (M 92) 97 122 (M 4 101).toNat (M 4 211).toNat - (M 4 211).toNat := by omega
  rw [el1] at a7

  obtain ⟨t1, t2, t3, t4, t5, t6⟩ := tk_of hI (by omega) (by omega) (by omega) (show tAt (M 92) (M 4 101).toNat (M 4 211).toNat (M 4 107) (M 4 108) = (20, M 4 219, ((M 4 211).toNat : Int), M 4 217, 0, 2) from by
    unfold tAt
    rw [if_neg (by omega), if_pos hgt.2]
    unfold tWo
    rw [← a7, ← a6]
    have hk : tKi (M 4 219) 0 = 20 := by
      rw [show M 4 219 = 68386816 by omega]
      decide
    have h6 : ¬ (6 < tEn (M 92) 97 122 (M 4 101).toNat (M 4 211).toNat - (M 4 211).toNat) := by omega
    unfold tWk tWs tWv
    rw [if_neg h6, if_neg h6, if_neg h6, hk]
    rfl)
  refine ⟨ρ, fun _ _ => rfl, fun f h => ?_, ?_⟩
  · have h : f ∈ ([[(-1, 1), (1, 3)], [(1, 1), (-1, 3)], [(1, 4), (-1, 10)], [(-1, 4), (1, 10)], [(-20, 0), (1, 6)], [(20, 0), (-1, 6)], [(1, 7), (-1, 11)], [(-1, 7), (1, 11)]] : List qF) := h
    simp only [List.mem_cons, List.not_mem_nil, or_false] at h
    rcases h with rfl | rfl | rfl | rfl | rfl | rfl | rfl | rfl
    · show 0 ≤ -1 * ρ 1 + (1 * ρ 3 + 0)
      (try rw [h0]); omega
    · show 0 ≤ 1 * ρ 1 + (-1 * ρ 3 + 0)
      (try rw [h0]); omega
    · show 0 ≤ 1 * ρ 4 + (-1 * ρ 10 + 0)
      (try rw [h0]); omega
    · show 0 ≤ -1 * ρ 4 + (1 * ρ 10 + 0)
      (try rw [h0]); omega
    · show 0 ≤ -20 * ρ 0 + (1 * ρ 6 + 0)
      (try rw [h0]); omega
    · show 0 ≤ 20 * ρ 0 + (-1 * ρ 6 + 0)
      (try rw [h0]); omega
    · show 0 ≤ 1 * ρ 7 + (-1 * ρ 11 + 0)
      (try rw [h0]); omega
    · show 0 ≤ -1 * ρ 7 + (1 * ρ 11 + 0)
      (try rw [h0]); omega
  · show sI M
    exact hI
-- wHitR2_r
def xr_451 : qRu := (13, [[(-1, 0), (1, 5)], [(1, 1)], [(-1, 1), (1, 9)], [(1, 1), (-1, 9)], [(-1, 0), (-1, 1), (1, 10)], [(6, 0), (1, 9), (-1, 10)], [(-68386816, 0), (1, 11)], [(68386816, 0), (-1, 11)]], [(4, 210, [(1, 0)]), (4, 211, [(1, 1)]), (4, 101, [(1, 2)]), (3, 46, [(1, 3)]), (3, 47, [(1, 4)]), (4, 100, [(1, 5)]), (3, 50, [(1, 6)]), (3, 51, [(1, 7)]), (4, 108, [(1, 8)]), (4, 214, [(1, 0)]), (4, 215, [(1, 9)]), (4, 217, [(1, 10)]), (4, 219, [(1, 11)]), (4, 216, [(1, 12)])], [], [], [[(-1, 1), (1, 3)], [(1, 1), (-1, 3)], [(1, 4), (-1, 10)], [(-1, 4), (1, 10)], [(1, 6)], [(-1, 6)], [(-2, 0), (1, 7)], [(2, 0), (-1, 7)]])
theorem xo_451 : qRok xr_451 := by
  intro ρ M h0 hf hm hI
  have f0 := hf [(-1, 0), (1, 5)] (by decide)
  have f1 := hf [(1, 1)] (by decide)
  have f2 := hf [(-1, 1), (1, 9)] (by decide)
  have f3 := hf [(1, 1), (-1, 9)] (by decide)
  have f4 := hf [(-1, 0), (-1, 1), (1, 10)] (by decide)
  have f5 := hf [(6, 0), (1, 9), (-1, 10)] (by decide)
  have f6 := hf [(-68386816, 0), (1, 11)] (by decide)
  have f7 := hf [(68386816, 0), (-1, 11)] (by decide)
  simp only [qD, h0] at f0 f1 f2 f3 f4 f5 f6 f7
  have m0 : M 4 210 = 1 * ρ 0 + 0 := hm (4, 210, [(1, 0)]) (by decide)
  have m1 : M 4 211 = 1 * ρ 1 + 0 := hm (4, 211, [(1, 1)]) (by decide)
  have m2 : M 4 101 = 1 * ρ 2 + 0 := hm (4, 101, [(1, 2)]) (by decide)
  have m3 : M 3 46 = 1 * ρ 3 + 0 := hm (3, 46, [(1, 3)]) (by decide)
  have m4 : M 3 47 = 1 * ρ 4 + 0 := hm (3, 47, [(1, 4)]) (by decide)
  have m5 : M 4 100 = 1 * ρ 5 + 0 := hm (4, 100, [(1, 5)]) (by decide)
  have m6 : M 3 50 = 1 * ρ 6 + 0 := hm (3, 50, [(1, 6)]) (by decide)
  have m7 : M 3 51 = 1 * ρ 7 + 0 := hm (3, 51, [(1, 7)]) (by decide)
  have m8 : M 4 108 = 1 * ρ 8 + 0 := hm (4, 108, [(1, 8)]) (by decide)
  have m9 : M 4 214 = 1 * ρ 0 + 0 := hm (4, 214, [(1, 0)]) (by decide)
  have m10 : M 4 215 = 1 * ρ 9 + 0 := hm (4, 215, [(1, 9)]) (by decide)
  have m11 : M 4 217 = 1 * ρ 10 + 0 := hm (4, 217, [(1, 10)]) (by decide)
  have m12 : M 4 219 = 1 * ρ 11 + 0 := hm (4, 219, [(1, 11)]) (by decide)
  have m13 : M 4 216 = 1 * ρ 12 + 0 := hm (4, 216, [(1, 12)]) (by decide)
  simp only [h0] at m0 m9
  obtain ⟨u1, u2, _⟩ := gx_xS8 hI (by omega)

  obtain ⟨a1, a2, a3, a4, a5, a6, a7⟩ := gx_xSA hI (by omega)
  have eq1 : (M 4 215).toNat = (M 4 211).toNat := by omega
  rw [eq1] at a6 a7
  have hgt := ten_gt (g := M 92) (lo := 97) (hi := 122) (n := (M 4 101).toNat) (q := (M 4 211).toNat) (by omega)
  have el1 : (M 4 217 - M 4 215).toNat = tEn (M 92) 97 122 (M 4 101).toNat (M 4 211).toNat - (M 4 211).toNat := by omega
  rw [el1] at a7

  obtain ⟨t1, t2, t3, t4, t5, t6⟩ := tk_of hI (by omega) (by omega) (by omega) (show tAt (M 92) (M 4 101).toNat (M 4 211).toNat (M 4 107) (M 4 108) = (20, M 4 219, ((M 4 211).toNat : Int), M 4 217, 0, 2) from by
    unfold tAt
    rw [if_neg (by omega), if_pos hgt.2]
    unfold tWo
    rw [← a7, ← a6]
    have hk : tKi (M 4 219) 0 = 20 := by
      rw [show M 4 219 = 68386816 by omega]
      decide
    have h6 : ¬ (6 < tEn (M 92) 97 122 (M 4 101).toNat (M 4 211).toNat - (M 4 211).toNat) := by omega
    unfold tWk tWs tWv
    rw [if_neg h6, if_neg h6, if_neg h6, hk]
    rfl)
  refine ⟨ρ, fun _ _ => rfl, fun f h => ?_, ?_⟩
  · have h : f ∈ ([[(-1, 1), (1, 3)], [(1, 1), (-1, 3)], [(1, 4), (-1, 10)], [(-1, 4), (1, 10)], [(1, 6)], [(-1, 6)], [(-2, 0), (1, 7)], [(2, 0), (-1, 7)]] : List qF) := h
    simp only [List.mem_cons, List.not_mem_nil, or_false] at h
    rcases h with rfl | rfl | rfl | rfl | rfl | rfl | rfl | rfl
    · show 0 ≤ -1 * ρ 1 + (1 * ρ 3 + 0)
      (try rw [h0]); omega
    · show 0 ≤ 1 * ρ 1 + (-1 * ρ 3 + 0)
      (try rw [h0]); omega
    · show 0 ≤ 1 * ρ 4 + (-1 * ρ 10 + 0)
      (try rw [h0]); omega
    · show 0 ≤ -1 * ρ 4 + (1 * ρ 10 + 0)
      (try rw [h0]); omega
    · show 0 ≤ 1 * ρ 6 + 0
      (try rw [h0]); omega
    · show 0 ≤ -1 * ρ 6 + 0
      (try rw [h0]); omega
    · show 0 ≤ -2 * ρ 0 + (1 * ρ 7 + 0)
      (try rw [h0]); omega
    · show 0 ≤ 2 * ρ 0 + (-1 * ρ 7 + 0)
      (try rw [h0]); omega
  · show sI M
    exact hI
-- langMissR2L
def xr_452 : qRu := (3, [[(68386815, 0), (-1, 2)]], [(4, 226, [(1, 0)]), (4, 227, [(2, 0)]), (4, 219, [(1, 2)])], [], [(4, 227, [(3, 0)])], [])
theorem xo_452 : qRok xr_452 := by
  intro ρ M h0 hf hm hI
  have f0 := hf [(68386815, 0), (-1, 2)] (by decide)
  simp only [qD, h0] at f0
  have m0 : M 4 226 = 1 * ρ 0 + 0 := hm (4, 226, [(1, 0)]) (by decide)
  have m1 : M 4 227 = 2 * ρ 0 + 0 := hm (4, 227, [(2, 0)]) (by decide)
  have m2 : M 4 219 = 1 * ρ 2 + 0 := hm (4, 219, [(1, 2)]) (by decide)
  simp only [h0] at m0 m1
  have qxSC := hI.2.2.2.2.2.2.2.2.2.2.2.2.2.2.2.2.2.2.2.2.2.2.2.2.2.2.2.2.2.2.2.2.2.2.1
  obtain ⟨l1, l2, l3⟩ := gx_xSC hI (by omega)
  refine ⟨ρ, fun _ _ => rfl, fun f h => ?_, ?_⟩
  · exact nomatch h
  · show sI (sU M 4 227 (3 * ρ 0 + 0))
    obtain ⟨W, hW⟩ : ∃ W, W = (sU M 4 227 (3 * ρ 0 + 0)) := ⟨_, rfl⟩
    rw [← hW]
    have base : sI0 W := by
      rw [hW]
      exact (si_u0 hI.1 (fun r hr => by cases hr))
    have k2 : XI2 W := by
      rw [hW]
      exact (xi2_u rfl hI.2.1)
    have k3 : XI3 W := by
      rw [hW]
      exact (xi3_u rfl hI.2.2.1)
    have kXA : XA W := by
      rw [hW]
      exact (uXA rfl hI.2.2.2.1)
    have k_xN1 : xN1 W := by
      rw [hW]
      exact (uxN1 rfl hI.2.2.2.2.1)
    have k_xN2 : xN2 W := by
      rw [hW]
      exact (uxN2 rfl hI.2.2.2.2.2.1)
    have k_xN3 : xN3 W := by
      rw [hW]
      exact (uxN3 rfl hI.2.2.2.2.2.2.1)
    have k_xN4 : xN4 W := by
      rw [hW]
      exact (uxN4 rfl hI.2.2.2.2.2.2.2.1)
    have k_xN5 : xN5 W := by
      rw [hW]
      exact (uxN5 rfl hI.2.2.2.2.2.2.2.2.1)
    have k_xN6 : xN6 W := by
      rw [hW]
      exact (uxN6 rfl hI.2.2.2.2.2.2.2.2.2.1)
    have k_xH1 : xH1 W := by
      rw [hW]
      exact (uxH1 rfl hI.2.2.2.2.2.2.2.2.2.2.1)
    have k_xK1 : xK1 W := by
      rw [hW]
      exact (uxK1 rfl hI.2.2.2.2.2.2.2.2.2.2.2.1)
    have k_xC1 : xC1 W := by
      rw [hW]
      exact (uxC1 rfl hI.2.2.2.2.2.2.2.2.2.2.2.2.1)
    have k_xRW : xRW W := by
      rw [hW]
      exact (uxRW rfl hI.2.2.2.2.2.2.2.2.2.2.2.2.2.1)
    have k_xWT : xWT W := by
      rw [hW]
      exact (uxWT rfl hI.2.2.2.2.2.2.2.2.2.2.2.2.2.2.1)
    have k_xCU : xCU W := by
      rw [hW]
      exact (uxCU rfl hI.2.2.2.2.2.2.2.2.2.2.2.2.2.2.2.1)
    have k_xG2 : xG2 W := by
      rw [hW]
      exact (uxG2 rfl hI.2.2.2.2.2.2.2.2.2.2.2.2.2.2.2.2.1)
    have k_xG3 : xG3 W := by
      rw [hW]
      exact (uxG3 rfl hI.2.2.2.2.2.2.2.2.2.2.2.2.2.2.2.2.2.1)
    have k_xG4 : xG4 W := by
      rw [hW]
      exact (uxG4 rfl hI.2.2.2.2.2.2.2.2.2.2.2.2.2.2.2.2.2.2.1)
    have k_xG5 : xG5 W := by
      rw [hW]
      exact (uxG5 rfl hI.2.2.2.2.2.2.2.2.2.2.2.2.2.2.2.2.2.2.2.1)
    have k_xG6 : xG6 W := by
      rw [hW]
      exact (uxG6 rfl hI.2.2.2.2.2.2.2.2.2.2.2.2.2.2.2.2.2.2.2.2.1)
    have k_xS1 : xS1 W := by
      rw [hW]
      exact (uxS1 rfl hI.2.2.2.2.2.2.2.2.2.2.2.2.2.2.2.2.2.2.2.2.2.1)
    have k_xS2 : xS2 W := by
      rw [hW]
      exact (uxS2 rfl hI.2.2.2.2.2.2.2.2.2.2.2.2.2.2.2.2.2.2.2.2.2.2.1)
    have k_xS3 : xS3 W := by
      rw [hW]
      exact (uxS3 rfl hI.2.2.2.2.2.2.2.2.2.2.2.2.2.2.2.2.2.2.2.2.2.2.2.1)
    have k_xS4 : xS4 W := by
      rw [hW]
      exact (uxS4 rfl hI.2.2.2.2.2.2.2.2.2.2.2.2.2.2.2.2.2.2.2.2.2.2.2.2.1)
    have k_xS5 : xS5 W := by
      rw [hW]
      exact (uxS5 rfl hI.2.2.2.2.2.2.2.2.2.2.2.2.2.2.2.2.2.2.2.2.2.2.2.2.2.1)
    have k_xS6 : xS6 W := by
      rw [hW]
      exact (uxS6 rfl hI.2.2.2.2.2.2.2.2.2.2.2.2.2.2.2.2.2.2.2.2.2.2.2.2.2.2.1)
    have k_xS7 : xS7 W := by
      rw [hW]
      exact (uxS7 rfl hI.2.2.2.2.2.2.2.2.2.2.2.2.2.2.2.2.2.2.2.2.2.2.2.2.2.2.2.1)
    have k_xS8 : xS8 W := by
      rw [hW]
      exact (uxS8 rfl hI.2.2.2.2.2.2.2.2.2.2.2.2.2.2.2.2.2.2.2.2.2.2.2.2.2.2.2.2.1)
    have k_xS9 : xS9 W := by
      rw [hW]
      exact (uxS9 rfl hI.2.2.2.2.2.2.2.2.2.2.2.2.2.2.2.2.2.2.2.2.2.2.2.2.2.2.2.2.2.1)
    have k_xSA : xSA W := by
      rw [hW]
      exact (uxSA rfl hI.2.2.2.2.2.2.2.2.2.2.2.2.2.2.2.2.2.2.2.2.2.2.2.2.2.2.2.2.2.2.1)
    have k_xSG : xSG W := by
      rw [hW]
      exact (uxSG rfl hI.2.2.2.2.2.2.2.2.2.2.2.2.2.2.2.2.2.2.2.2.2.2.2.2.2.2.2.2.2.2.2.1)
    have k_xSF : xSF W := by
      rw [hW]
      exact (uxSF rfl hI.2.2.2.2.2.2.2.2.2.2.2.2.2.2.2.2.2.2.2.2.2.2.2.2.2.2.2.2.2.2.2.2.1)
    have k_xSB : xSB W := by
      rw [hW]
      exact (uxSB rfl hI.2.2.2.2.2.2.2.2.2.2.2.2.2.2.2.2.2.2.2.2.2.2.2.2.2.2.2.2.2.2.2.2.2.1)
    have k_xSC : xSC W := by
      have r4_226 : W 4 226 = M 4 226 := by rw [hW, sU_ne (fun z => by omega)]
      have r4_227 : W 4 227 = 3 * ρ 0 + 0 := by rw [hW, sU_at]
      have r4_219 : W 4 219 = M 4 219 := by rw [hW, sU_ne (fun z => by omega)]
      intro h
      rw [r4_227, r4_219, h0]
      refine ⟨by omega, by omega, ?_⟩
      have e1 := tki_on (x := M 4 219) (w := 2) (show tLa[2]? = some (68386816 : Int) from rfl)
      rw [if_neg (by omega)] at e1
      rw [show M 4 227 = 2 by omega] at l3
      rw [← l3]
      exact e1.symm
    have k_xSD : xSD W := by
      rw [hW]
      exact (uxSD rfl hI.2.2.2.2.2.2.2.2.2.2.2.2.2.2.2.2.2.2.2.2.2.2.2.2.2.2.2.2.2.2.2.2.2.2.2.1)
    have k_xSE : xSE W := by
      rw [hW]
      exact (uxSE rfl hI.2.2.2.2.2.2.2.2.2.2.2.2.2.2.2.2.2.2.2.2.2.2.2.2.2.2.2.2.2.2.2.2.2.2.2.2.1)
    have k_xSW : xSW W := by
      rw [hW]
      exact (uxSW rfl hI.2.2.2.2.2.2.2.2.2.2.2.2.2.2.2.2.2.2.2.2.2.2.2.2.2.2.2.2.2.2.2.2.2.2.2.2.2.1)
    have k_xST : xST W := by
      rw [hW]
      exact (uxST rfl hI.2.2.2.2.2.2.2.2.2.2.2.2.2.2.2.2.2.2.2.2.2.2.2.2.2.2.2.2.2.2.2.2.2.2.2.2.2.2.1)
    have k_xSP : xSP W := by
      rw [hW]
      exact (uxSP rfl hI.2.2.2.2.2.2.2.2.2.2.2.2.2.2.2.2.2.2.2.2.2.2.2.2.2.2.2.2.2.2.2.2.2.2.2.2.2.2.2.1)
    have k_xSL : xSL W := by
      rw [hW]
      exact (uxSL rfl hI.2.2.2.2.2.2.2.2.2.2.2.2.2.2.2.2.2.2.2.2.2.2.2.2.2.2.2.2.2.2.2.2.2.2.2.2.2.2.2.2.1)
    have k_xSM : xSM W := by
      rw [hW]
      exact (uxSM rfl hI.2.2.2.2.2.2.2.2.2.2.2.2.2.2.2.2.2.2.2.2.2.2.2.2.2.2.2.2.2.2.2.2.2.2.2.2.2.2.2.2.2.1)
    have k_xSI : xSI W := by
      rw [hW]
      exact (uxSI rfl hI.2.2.2.2.2.2.2.2.2.2.2.2.2.2.2.2.2.2.2.2.2.2.2.2.2.2.2.2.2.2.2.2.2.2.2.2.2.2.2.2.2.2)
    have k_XC : XC W := ⟨k_xS1, k_xS2, k_xS3, k_xS4, k_xS5, k_xS6, k_xS7, k_xS8, k_xS9, k_xSA, k_xSG, k_xSF, k_xSB, k_xSC, k_xSD, k_xSE, k_xSW, k_xST, k_xSP, k_xSL, k_xSM, k_xSI⟩
    have kXB : XB W := ⟨k_xN1, k_xN2, k_xN3, k_xN4, k_xN5, k_xN6, k_xH1, k_xK1, k_xC1, k_xRW, k_xWT, k_xCU, k_xG2, k_xG3, k_xG4, k_xG5, k_xG6, k_XC⟩
    exact ⟨base, k2, k3, kXA, kXB⟩
-- langMissR2H
def xr_453 : qRu := (3, [[(-68386817, 0), (1, 2)]], [(4, 226, [(1, 0)]), (4, 227, [(2, 0)]), (4, 219, [(1, 2)])], [], [(4, 227, [(3, 0)])], [])
theorem xo_453 : qRok xr_453 := by
  intro ρ M h0 hf hm hI
  have f0 := hf [(-68386817, 0), (1, 2)] (by decide)
  simp only [qD, h0] at f0
  have m0 : M 4 226 = 1 * ρ 0 + 0 := hm (4, 226, [(1, 0)]) (by decide)
  have m1 : M 4 227 = 2 * ρ 0 + 0 := hm (4, 227, [(2, 0)]) (by decide)
  have m2 : M 4 219 = 1 * ρ 2 + 0 := hm (4, 219, [(1, 2)]) (by decide)
  simp only [h0] at m0 m1
  have qxSC := hI.2.2.2.2.2.2.2.2.2.2.2.2.2.2.2.2.2.2.2.2.2.2.2.2.2.2.2.2.2.2.2.2.2.2.1
  obtain ⟨l1, l2, l3⟩ := gx_xSC hI (by omega)
  refine ⟨ρ, fun _ _ => rfl, fun f h => ?_, ?_⟩
  · exact nomatch h
  · show sI (sU M 4 227 (3 * ρ 0 + 0))
    obtain ⟨W, hW⟩ : ∃ W, W = (sU M 4 227 (3 * ρ 0 + 0)) := ⟨_, rfl⟩
    rw [← hW]
    have base : sI0 W := by
      rw [hW]
      exact (si_u0 hI.1 (fun r hr => by cases hr))
    have k2 : XI2 W := by
      rw [hW]
      exact (xi2_u rfl hI.2.1)
    have k3 : XI3 W := by
      rw [hW]
      exact (xi3_u rfl hI.2.2.1)
    have kXA : XA W := by
      rw [hW]
      exact (uXA rfl hI.2.2.2.1)
    have k_xN1 : xN1 W := by
      rw [hW]
      exact (uxN1 rfl hI.2.2.2.2.1)
    have k_xN2 : xN2 W := by
      rw [hW]
      exact (uxN2 rfl hI.2.2.2.2.2.1)
    have k_xN3 : xN3 W := by
      rw [hW]
      exact (uxN3 rfl hI.2.2.2.2.2.2.1)
    have k_xN4 : xN4 W := by
      rw [hW]
      exact (uxN4 rfl hI.2.2.2.2.2.2.2.1)
    have k_xN5 : xN5 W := by
      rw [hW]
      exact (uxN5 rfl hI.2.2.2.2.2.2.2.2.1)
    have k_xN6 : xN6 W := by
      rw [hW]
      exact (uxN6 rfl hI.2.2.2.2.2.2.2.2.2.1)
    have k_xH1 : xH1 W := by
      rw [hW]
      exact (uxH1 rfl hI.2.2.2.2.2.2.2.2.2.2.1)
    have k_xK1 : xK1 W := by
      rw [hW]
      exact (uxK1 rfl hI.2.2.2.2.2.2.2.2.2.2.2.1)
    have k_xC1 : xC1 W := by
      rw [hW]
      exact (uxC1 rfl hI.2.2.2.2.2.2.2.2.2.2.2.2.1)
    have k_xRW : xRW W := by
      rw [hW]
      exact (uxRW rfl hI.2.2.2.2.2.2.2.2.2.2.2.2.2.1)
    have k_xWT : xWT W := by
      rw [hW]
      exact (uxWT rfl hI.2.2.2.2.2.2.2.2.2.2.2.2.2.2.1)
    have k_xCU : xCU W := by
      rw [hW]
      exact (uxCU rfl hI.2.2.2.2.2.2.2.2.2.2.2.2.2.2.2.1)
    have k_xG2 : xG2 W := by
      rw [hW]
      exact (uxG2 rfl hI.2.2.2.2.2.2.2.2.2.2.2.2.2.2.2.2.1)
    have k_xG3 : xG3 W := by
      rw [hW]
      exact (uxG3 rfl hI.2.2.2.2.2.2.2.2.2.2.2.2.2.2.2.2.2.1)
    have k_xG4 : xG4 W := by
      rw [hW]
      exact (uxG4 rfl hI.2.2.2.2.2.2.2.2.2.2.2.2.2.2.2.2.2.2.1)
    have k_xG5 : xG5 W := by
      rw [hW]
      exact (uxG5 rfl hI.2.2.2.2.2.2.2.2.2.2.2.2.2.2.2.2.2.2.2.1)
    have k_xG6 : xG6 W := by
      rw [hW]
      exact (uxG6 rfl hI.2.2.2.2.2.2.2.2.2.2.2.2.2.2.2.2.2.2.2.2.1)
    have k_xS1 : xS1 W := by
      rw [hW]
      exact (uxS1 rfl hI.2.2.2.2.2.2.2.2.2.2.2.2.2.2.2.2.2.2.2.2.2.1)
    have k_xS2 : xS2 W := by
      rw [hW]
      exact (uxS2 rfl hI.2.2.2.2.2.2.2.2.2.2.2.2.2.2.2.2.2.2.2.2.2.2.1)
    have k_xS3 : xS3 W := by
      rw [hW]
      exact (uxS3 rfl hI.2.2.2.2.2.2.2.2.2.2.2.2.2.2.2.2.2.2.2.2.2.2.2.1)
    have k_xS4 : xS4 W := by
      rw [hW]
      exact (uxS4 rfl hI.2.2.2.2.2.2.2.2.2.2.2.2.2.2.2.2.2.2.2.2.2.2.2.2.1)
    have k_xS5 : xS5 W := by
      rw [hW]
      exact (uxS5 rfl hI.2.2.2.2.2.2.2.2.2.2.2.2.2.2.2.2.2.2.2.2.2.2.2.2.2.1)
    have k_xS6 : xS6 W := by
      rw [hW]
      exact (uxS6 rfl hI.2.2.2.2.2.2.2.2.2.2.2.2.2.2.2.2.2.2.2.2.2.2.2.2.2.2.1)
    have k_xS7 : xS7 W := by
      rw [hW]
      exact (uxS7 rfl hI.2.2.2.2.2.2.2.2.2.2.2.2.2.2.2.2.2.2.2.2.2.2.2.2.2.2.2.1)
    have k_xS8 : xS8 W := by
      rw [hW]
      exact (uxS8 rfl hI.2.2.2.2.2.2.2.2.2.2.2.2.2.2.2.2.2.2.2.2.2.2.2.2.2.2.2.2.1)
    have k_xS9 : xS9 W := by
      rw [hW]
      exact (uxS9 rfl hI.2.2.2.2.2.2.2.2.2.2.2.2.2.2.2.2.2.2.2.2.2.2.2.2.2.2.2.2.2.1)
    have k_xSA : xSA W := by
      rw [hW]
      exact (uxSA rfl hI.2.2.2.2.2.2.2.2.2.2.2.2.2.2.2.2.2.2.2.2.2.2.2.2.2.2.2.2.2.2.1)
    have k_xSG : xSG W := by
      rw [hW]
      exact (uxSG rfl hI.2.2.2.2.2.2.2.2.2.2.2.2.2.2.2.2.2.2.2.2.2.2.2.2.2.2.2.2.2.2.2.1)
    have k_xSF : xSF W := by
      rw [hW]
      exact (uxSF rfl hI.2.2.2.2.2.2.2.2.2.2.2.2.2.2.2.2.2.2.2.2.2.2.2.2.2.2.2.2.2.2.2.2.1)
    have k_xSB : xSB W := by
      rw [hW]
      exact (uxSB rfl hI.2.2.2.2.2.2.2.2.2.2.2.2.2.2.2.2.2.2.2.2.2.2.2.2.2.2.2.2.2.2.2.2.2.1)
    have k_xSC : xSC W := by
      have r4_226 : W 4 226 = M 4 226 := by rw [hW, sU_ne (fun z => by omega)]
      have r4_227 : W 4 227 = 3 * ρ 0 + 0 := by rw [hW, sU_at]
      have r4_219 : W 4 219 = M 4 219 := by rw [hW, sU_ne (fun z => by omega)]
      intro h
      rw [r4_227, r4_219, h0]
      refine ⟨by omega, by omega, ?_⟩
      have e1 := tki_on (x := M 4 219) (w := 2) (show tLa[2]? = some (68386816 : Int) from rfl)
      rw [if_neg (by omega)] at e1
      rw [show M 4 227 = 2 by omega] at l3
      rw [← l3]
      exact e1.symm
    have k_xSD : xSD W := by
      rw [hW]
      exact (uxSD rfl hI.2.2.2.2.2.2.2.2.2.2.2.2.2.2.2.2.2.2.2.2.2.2.2.2.2.2.2.2.2.2.2.2.2.2.2.1)
    have k_xSE : xSE W := by
      rw [hW]
      exact (uxSE rfl hI.2.2.2.2.2.2.2.2.2.2.2.2.2.2.2.2.2.2.2.2.2.2.2.2.2.2.2.2.2.2.2.2.2.2.2.2.1)
    have k_xSW : xSW W := by
      rw [hW]
      exact (uxSW rfl hI.2.2.2.2.2.2.2.2.2.2.2.2.2.2.2.2.2.2.2.2.2.2.2.2.2.2.2.2.2.2.2.2.2.2.2.2.2.1)
    have k_xST : xST W := by
      rw [hW]
      exact (uxST rfl hI.2.2.2.2.2.2.2.2.2.2.2.2.2.2.2.2.2.2.2.2.2.2.2.2.2.2.2.2.2.2.2.2.2.2.2.2.2.2.1)
    have k_xSP : xSP W := by
      rw [hW]
      exact (uxSP rfl hI.2.2.2.2.2.2.2.2.2.2.2.2.2.2.2.2.2.2.2.2.2.2.2.2.2.2.2.2.2.2.2.2.2.2.2.2.2.2.2.1)
    have k_xSL : xSL W := by
      rw [hW]
      exact (uxSL rfl hI.2.2.2.2.2.2.2.2.2.2.2.2.2.2.2.2.2.2.2.2.2.2.2.2.2.2.2.2.2.2.2.2.2.2.2.2.2.2.2.2.1)
    have k_xSM : xSM W := by
      rw [hW]
      exact (uxSM rfl hI.2.2.2.2.2.2.2.2.2.2.2.2.2.2.2.2.2.2.2.2.2.2.2.2.2.2.2.2.2.2.2.2.2.2.2.2.2.2.2.2.2.1)
    have k_xSI : xSI W := by
      rw [hW]
      exact (uxSI rfl hI.2.2.2.2.2.2.2.2.2.2.2.2.2.2.2.2.2.2.2.2.2.2.2.2.2.2.2.2.2.2.2.2.2.2.2.2.2.2.2.2.2.2)
    have k_XC : XC W := ⟨k_xS1, k_xS2, k_xS3, k_xS4, k_xS5, k_xS6, k_xS7, k_xS8, k_xS9, k_xSA, k_xSG, k_xSF, k_xSB, k_xSC, k_xSD, k_xSE, k_xSW, k_xST, k_xSP, k_xSL, k_xSM, k_xSI⟩
    have kXB : XB W := ⟨k_xN1, k_xN2, k_xN3, k_xN4, k_xN5, k_xN6, k_xH1, k_xK1, k_xC1, k_xRW, k_xWT, k_xCU, k_xG2, k_xG3, k_xG4, k_xG5, k_xG6, k_XC⟩
    exact ⟨base, k2, k3, kXA, kXB⟩
-- wHitR3_c
def xr_454 : qRu := (13, [[(-1, 0), (1, 5)], [(1, 1)], [(-1, 1), (1, 9)], [(1, 1), (-1, 9)], [(-1, 0), (-1, 1), (1, 10)], [(6, 0), (1, 9), (-1, 10)], [(-140000896, 0), (1, 11)], [(140000896, 0), (-1, 11)]], [(4, 210, [(1, 0)]), (4, 211, [(1, 1)]), (4, 101, [(1, 2)]), (3, 46, [(1, 3)]), (3, 47, [(1, 4)]), (4, 100, [(1, 5)]), (3, 44, [(1, 6)]), (3, 45, [(1, 7)]), (4, 107, [(1, 8)]), (4, 214, [(1, 0)]), (4, 215, [(1, 9)]), (4, 217, [(1, 10)]), (4, 219, [(1, 11)]), (4, 216, [(1, 12)])], [], [], [[(-1, 1), (1, 3)], [(1, 1), (-1, 3)], [(1, 4), (-1, 10)], [(-1, 4), (1, 10)], [(-21, 0), (1, 6)], [(21, 0), (-1, 6)], [(1, 7), (-1, 11)], [(-1, 7), (1, 11)]])
theorem xo_454 : qRok xr_454 := by
  intro ρ M h0 hf hm hI
  have f0 := hf [(-1, 0), (1, 5)] (by decide)
  have f1 := hf [(1, 1)] (by decide)
  have f2 := hf [(-1, 1), (1, 9)] (by decide)
  have f3 := hf [(1, 1), (-1, 9)] (by decide)
  have f4 := hf [(-1, 0), (-1, 1), (1, 10)] (by decide)
  have f5 := hf [(6, 0), (1, 9), (-1, 10)] (by decide)
  have f6 := hf [(-140000896, 0), (1, 11)] (by decide)
  have f7 := hf [(140000896, 0), (-1, 11)] (by decide)
  simp only [qD, h0] at f0 f1 f2 f3 f4 f5 f6 f7
  have m0 : M 4 210 = 1 * ρ 0 + 0 := hm (4, 210, [(1, 0)]) (by decide)
  have m1 : M 4 211 = 1 * ρ 1 + 0 := hm (4, 211, [(1, 1)]) (by decide)
  have m2 : M 4 101 = 1 * ρ 2 + 0 := hm (4, 101, [(1, 2)]) (by decide)
  have m3 : M 3 46 = 1 * ρ 3 + 0 := hm (3, 46, [(1, 3)]) (by decide)
  have m4 : M 3 47 = 1 * ρ 4 + 0 := hm (3, 47, [(1, 4)]) (by decide)
  have m5 : M 4 100 = 1 * ρ 5 + 0 := hm (4, 100, [(1, 5)]) (by decide)
  have m6 : M 3 44 = 1 * ρ 6 + 0 := hm (3, 44, [(1, 6)]) (by decide)
  have m7 : M 3 45 = 1 * ρ 7 + 0 := hm (3, 45, [(1, 7)]) (by decide)
  have m8 : M 4 107 = 1 * ρ 8 + 0 := hm (4, 107, [(1, 8)]) (by decide)
  have m9 : M 4 214 = 1 * ρ 0 + 0 := hm (4, 214, [(1, 0)]) (by decide)
  have m10 : M 4 215 = 1 * ρ 9 + 0 := hm (4, 215, [(1, 9)]) (by decide)
  have m11 : M 4 217 = 1 * ρ 10 + 0 := hm (4, 217, [(1, 10)]) (by decide)
  have m12 : M 4 219 = 1 * ρ 11 + 0 := hm (4, 219, [(1, 11)]) (by decide)
  have m13 : M 4 216 = 1 * ρ 12 + 0 := hm (4, 216, [(1, 12)]) (by decide)
  simp only [h0] at m0 m9
  obtain ⟨u1, u2, _⟩ := gx_xS8 hI (by omega)

  obtain ⟨a1, a2, a3, a4, a5, a6, a7⟩ := gx_xSA hI (by omega)
  have eq1 : (M 4 215).toNat = (M 4 211).toNat := by omega
  rw [eq1] at a6 a7
  have hgt := ten_gt (g := M 92) (lo := 97) (hi := 122) (n := (M 4 101).toNat) (q := (M 4 211).toNat) (by omega)
  have el1 : (M 4 217 - M 4 215).toNat = tEn (M 92) 97 122 (M 4 101).toNat (M 4 211).toNat - (M 4 211).toNat := by omega
  rw [el1] at a7

  obtain ⟨t1, t2, t3, t4, t5, t6⟩ := tk_of hI (by omega) (by omega) (by omega) (show tAt (M 92) (M 4 101).toNat (M 4 211).toNat (M 4 107) (M 4 108) = (21, M 4 219, ((M 4 211).toNat : Int), M 4 217, 0, 3) from by
    unfold tAt
    rw [if_neg (by omega), if_pos hgt.2]
    unfold tWo
    rw [← a7, ← a6]
    have hk : tKi (M 4 219) 0 = 21 := by
      rw [show M 4 219 = 140000896 by omega]
      decide
    have h6 : ¬ (6 < tEn (M 92) 97 122 (M 4 101).toNat (M 4 211).toNat - (M 4 211).toNat) := by omega
    unfold tWk tWs tWv
    rw [if_neg h6, if_neg h6, if_neg h6, hk]
    rfl)
  refine ⟨ρ, fun _ _ => rfl, fun f h => ?_, ?_⟩
  · have h : f ∈ ([[(-1, 1), (1, 3)], [(1, 1), (-1, 3)], [(1, 4), (-1, 10)], [(-1, 4), (1, 10)], [(-21, 0), (1, 6)], [(21, 0), (-1, 6)], [(1, 7), (-1, 11)], [(-1, 7), (1, 11)]] : List qF) := h
    simp only [List.mem_cons, List.not_mem_nil, or_false] at h
    rcases h with rfl | rfl | rfl | rfl | rfl | rfl | rfl | rfl
    · show 0 ≤ -1 * ρ 1 + (1 * ρ 3 + 0)
      (try rw [h0]); omega
    · show 0 ≤ 1 * ρ 1 + (-1 * ρ 3 + 0)
      (try rw [h0]); omega
    · show 0 ≤ 1 * ρ 4 + (-1 * ρ 10 + 0)
      (try rw [h0]); omega
    · show 0 ≤ -1 * ρ 4 + (1 * ρ 10 + 0)
      (try rw [h0]); omega
    · show 0 ≤ -21 * ρ 0 + (1 * ρ 6 + 0)
      (try rw [h0]); omega
    · show 0 ≤ 21 * ρ 0 + (-1 * ρ 6 + 0)
      (try rw [h0]); omega
    · show 0 ≤ 1 * ρ 7 + (-1 * ρ 11 + 0)
      (try rw [h0]); omega
    · show 0 ≤ -1 * ρ 7 + (1 * ρ 11 + 0)
      (try rw [h0]); omega
  · show sI M
    exact hI
-- wHitR3_r
def xr_455 : qRu := (13, [[(-1, 0), (1, 5)], [(1, 1)], [(-1, 1), (1, 9)], [(1, 1), (-1, 9)], [(-1, 0), (-1, 1), (1, 10)], [(6, 0), (1, 9), (-1, 10)], [(-140000896, 0), (1, 11)], [(140000896, 0), (-1, 11)]], [(4, 210, [(1, 0)]), (4, 211, [(1, 1)]), (4, 101, [(1, 2)]), (3, 46, [(1, 3)]), (3, 47, [(1, 4)]), (4, 100, [(1, 5)]), (3, 50, [(1, 6)]), (3, 51, [(1, 7)]), (4, 108, [(1, 8)]), (4, 214, [(1, 0)]), (4, 215, [(1, 9)]), (4, 217, [(1, 10)]), (4, 219, [(1, 11)]), (4, 216, [(1, 12)])], [], [], [[(-1, 1), (1, 3)], [(1, 1), (-1, 3)], [(1, 4), (-1, 10)], [(-1, 4), (1, 10)], [(1, 6)], [(-1, 6)], [(-3, 0), (1, 7)], [(3, 0), (-1, 7)]])
theorem xo_455 : qRok xr_455 := by
  intro ρ M h0 hf hm hI
  have f0 := hf [(-1, 0), (1, 5)] (by decide)
  have f1 := hf [(1, 1)] (by decide)
  have f2 := hf [(-1, 1), (1, 9)] (by decide)
  have f3 := hf [(1, 1), (-1, 9)] (by decide)
  have f4 := hf [(-1, 0), (-1, 1), (1, 10)] (by decide)
  have f5 := hf [(6, 0), (1, 9), (-1, 10)] (by decide)
  have f6 := hf [(-140000896, 0), (1, 11)] (by decide)
  have f7 := hf [(140000896, 0), (-1, 11)] (by decide)
  simp only [qD, h0] at f0 f1 f2 f3 f4 f5 f6 f7
  have m0 : M 4 210 = 1 * ρ 0 + 0 := hm (4, 210, [(1, 0)]) (by decide)
  have m1 : M 4 211 = 1 * ρ 1 + 0 := hm (4, 211, [(1, 1)]) (by decide)
  have m2 : M 4 101 = 1 * ρ 2 + 0 := hm (4, 101, [(1, 2)]) (by decide)
  have m3 : M 3 46 = 1 * ρ 3 + 0 := hm (3, 46, [(1, 3)]) (by decide)
  have m4 : M 3 47 = 1 * ρ 4 + 0 := hm (3, 47, [(1, 4)]) (by decide)
  have m5 : M 4 100 = 1 * ρ 5 + 0 := hm (4, 100, [(1, 5)]) (by decide)
  have m6 : M 3 50 = 1 * ρ 6 + 0 := hm (3, 50, [(1, 6)]) (by decide)
  have m7 : M 3 51 = 1 * ρ 7 + 0 := hm (3, 51, [(1, 7)]) (by decide)
  have m8 : M 4 108 = 1 * ρ 8 + 0 := hm (4, 108, [(1, 8)]) (by decide)
  have m9 : M 4 214 = 1 * ρ 0 + 0 := hm (4, 214, [(1, 0)]) (by decide)
  have m10 : M 4 215 = 1 * ρ 9 + 0 := hm (4, 215, [(1, 9)]) (by decide)
  have m11 : M 4 217 = 1 * ρ 10 + 0 := hm (4, 217, [(1, 10)]) (by decide)
  have m12 : M 4 219 = 1 * ρ 11 + 0 := hm (4, 219, [(1, 11)]) (by decide)
  have m13 : M 4 216 = 1 * ρ 12 + 0 := hm (4, 216, [(1, 12)]) (by decide)
  simp only [h0] at m0 m9
  obtain ⟨u1, u2, _⟩ := gx_xS8 hI (by omega)

  obtain ⟨a1, a2, a3, a4, a5, a6, a7⟩ := gx_xSA hI (by omega)
  have eq1 : (M 4 215).toNat = (M 4 211).toNat := by omega
  rw [eq1] at a6 a7
  have hgt := ten_gt (g := M 92) (lo := 97) (hi := 122) (n := (M 4 101).toNat) (q := (M 4 211).toNat) (by omega)
  have el1 : (M 4 217 - M 4 215).toNat = tEn (M 92) 97 122 (M 4 101).toNat (M 4 211).toNat - (M 4 211).toNat := by omega
  rw [el1] at a7

  obtain ⟨t1, t2, t3, t4, t5, t6⟩ := tk_of hI (by omega) (by omega) (by omega) (show tAt (M 92) (M 4 101).toNat (M 4 211).toNat (M 4 107) (M 4 108) = (21, M 4 219, ((M 4 211).toNat : Int), M 4 217, 0, 3) from by
    unfold tAt
    rw [if_neg (by omega), if_pos hgt.2]
    unfold tWo
    rw [← a7, ← a6]
    have hk : tKi (M 4 219) 0 = 21 := by
      rw [show M 4 219 = 140000896 by omega]
      decide
    have h6 : ¬ (6 < tEn (M 92) 97 122 (M 4 101).toNat (M 4 211).toNat - (M 4 211).toNat) := by omega
    unfold tWk tWs tWv
    rw [if_neg h6, if_neg h6, if_neg h6, hk]
    rfl)
  refine ⟨ρ, fun _ _ => rfl, fun f h => ?_, ?_⟩
  · have h : f ∈ ([[(-1, 1), (1, 3)], [(1, 1), (-1, 3)], [(1, 4), (-1, 10)], [(-1, 4), (1, 10)], [(1, 6)], [(-1, 6)], [(-3, 0), (1, 7)], [(3, 0), (-1, 7)]] : List qF) := h
    simp only [List.mem_cons, List.not_mem_nil, or_false] at h
    rcases h with rfl | rfl | rfl | rfl | rfl | rfl | rfl | rfl
    · show 0 ≤ -1 * ρ 1 + (1 * ρ 3 + 0)
      (try rw [h0]); omega
    · show 0 ≤ 1 * ρ 1 + (-1 * ρ 3 + 0)
      (try rw [h0]); omega
    · show 0 ≤ 1 * ρ 4 + (-1 * ρ 10 + 0)
      (try rw [h0]); omega
    · show 0 ≤ -1 * ρ 4 + (1 * ρ 10 + 0)
      (try rw [h0]); omega
    · show 0 ≤ 1 * ρ 6 + 0
      (try rw [h0]); omega
    · show 0 ≤ -1 * ρ 6 + 0
      (try rw [h0]); omega
    · show 0 ≤ -3 * ρ 0 + (1 * ρ 7 + 0)
      (try rw [h0]); omega
    · show 0 ≤ 3 * ρ 0 + (-1 * ρ 7 + 0)
      (try rw [h0]); omega
  · show sI M
    exact hI
-- langMissR3L
def xr_456 : qRu := (3, [[(140000895, 0), (-1, 2)]], [(4, 226, [(1, 0)]), (4, 227, [(3, 0)]), (4, 219, [(1, 2)])], [], [(4, 227, [(4, 0)])], [])
theorem xo_456 : qRok xr_456 := by
  intro ρ M h0 hf hm hI
  have f0 := hf [(140000895, 0), (-1, 2)] (by decide)
  simp only [qD, h0] at f0
  have m0 : M 4 226 = 1 * ρ 0 + 0 := hm (4, 226, [(1, 0)]) (by decide)
  have m1 : M 4 227 = 3 * ρ 0 + 0 := hm (4, 227, [(3, 0)]) (by decide)
  have m2 : M 4 219 = 1 * ρ 2 + 0 := hm (4, 219, [(1, 2)]) (by decide)
  simp only [h0] at m0 m1
  have qxSC := hI.2.2.2.2.2.2.2.2.2.2.2.2.2.2.2.2.2.2.2.2.2.2.2.2.2.2.2.2.2.2.2.2.2.2.1
  obtain ⟨l1, l2, l3⟩ := gx_xSC hI (by omega)
  refine ⟨ρ, fun _ _ => rfl, fun f h => ?_, ?_⟩
  · exact nomatch h
  · show sI (sU M 4 227 (4 * ρ 0 + 0))
    obtain ⟨W, hW⟩ : ∃ W, W = (sU M 4 227 (4 * ρ 0 + 0)) := ⟨_, rfl⟩
    rw [← hW]
    have base : sI0 W := by
      rw [hW]
      exact (si_u0 hI.1 (fun r hr => by cases hr))
    have k2 : XI2 W := by
      rw [hW]
      exact (xi2_u rfl hI.2.1)
    have k3 : XI3 W := by
      rw [hW]
      exact (xi3_u rfl hI.2.2.1)
    have kXA : XA W := by
      rw [hW]
      exact (uXA rfl hI.2.2.2.1)
    have k_xN1 : xN1 W := by
      rw [hW]
      exact (uxN1 rfl hI.2.2.2.2.1)
    have k_xN2 : xN2 W := by
      rw [hW]
      exact (uxN2 rfl hI.2.2.2.2.2.1)
    have k_xN3 : xN3 W := by
      rw [hW]
      exact (uxN3 rfl hI.2.2.2.2.2.2.1)
    have k_xN4 : xN4 W := by
      rw [hW]
      exact (uxN4 rfl hI.2.2.2.2.2.2.2.1)
    have k_xN5 : xN5 W := by
      rw [hW]
      exact (uxN5 rfl hI.2.2.2.2.2.2.2.2.1)
    have k_xN6 : xN6 W := by
      rw [hW]
      exact (uxN6 rfl hI.2.2.2.2.2.2.2.2.2.1)
    have k_xH1 : xH1 W := by
      rw [hW]
      exact (uxH1 rfl hI.2.2.2.2.2.2.2.2.2.2.1)
    have k_xK1 : xK1 W := by
      rw [hW]
      exact (uxK1 rfl hI.2.2.2.2.2.2.2.2.2.2.2.1)
    have k_xC1 : xC1 W := by
      rw [hW]
      exact (uxC1 rfl hI.2.2.2.2.2.2.2.2.2.2.2.2.1)
    have k_xRW : xRW W := by
      rw [hW]
      exact (uxRW rfl hI.2.2.2.2.2.2.2.2.2.2.2.2.2.1)
    have k_xWT : xWT W := by
      rw [hW]
      exact (uxWT rfl hI.2.2.2.2.2.2.2.2.2.2.2.2.2.2.1)
    have k_xCU : xCU W := by
      rw [hW]
      exact (uxCU rfl hI.2.2.2.2.2.2.2.2.2.2.2.2.2.2.2.1)
    have k_xG2 : xG2 W := by
      rw [hW]
      exact (uxG2 rfl hI.2.2.2.2.2.2.2.2.2.2.2.2.2.2.2.2.1)
    have k_xG3 : xG3 W := by
      rw [hW]
      exact (uxG3 rfl hI.2.2.2.2.2.2.2.2.2.2.2.2.2.2.2.2.2.1)
    have k_xG4 : xG4 W := by
      rw [hW]
      exact (uxG4 rfl hI.2.2.2.2.2.2.2.2.2.2.2.2.2.2.2.2.2.2.1)
    have k_xG5 : xG5 W := by
      rw [hW]
      exact (uxG5 rfl hI.2.2.2.2.2.2.2.2.2.2.2.2.2.2.2.2.2.2.2.1)
    have k_xG6 : xG6 W := by
      rw [hW]
      exact (uxG6 rfl hI.2.2.2.2.2.2.2.2.2.2.2.2.2.2.2.2.2.2.2.2.1)
    have k_xS1 : xS1 W := by
      rw [hW]
      exact (uxS1 rfl hI.2.2.2.2.2.2.2.2.2.2.2.2.2.2.2.2.2.2.2.2.2.1)
    have k_xS2 : xS2 W := by
      rw [hW]
      exact (uxS2 rfl hI.2.2.2.2.2.2.2.2.2.2.2.2.2.2.2.2.2.2.2.2.2.2.1)
    have k_xS3 : xS3 W := by
      rw [hW]
      exact (uxS3 rfl hI.2.2.2.2.2.2.2.2.2.2.2.2.2.2.2.2.2.2.2.2.2.2.2.1)
    have k_xS4 : xS4 W := by
      rw [hW]
      exact (uxS4 rfl hI.2.2.2.2.2.2.2.2.2.2.2.2.2.2.2.2.2.2.2.2.2.2.2.2.1)
    have k_xS5 : xS5 W := by
      rw [hW]
      exact (uxS5 rfl hI.2.2.2.2.2.2.2.2.2.2.2.2.2.2.2.2.2.2.2.2.2.2.2.2.2.1)
    have k_xS6 : xS6 W := by
      rw [hW]
      exact (uxS6 rfl hI.2.2.2.2.2.2.2.2.2.2.2.2.2.2.2.2.2.2.2.2.2.2.2.2.2.2.1)
    have k_xS7 : xS7 W := by
      rw [hW]
      exact (uxS7 rfl hI.2.2.2.2.2.2.2.2.2.2.2.2.2.2.2.2.2.2.2.2.2.2.2.2.2.2.2.1)
    have k_xS8 : xS8 W := by
      rw [hW]
      exact (uxS8 rfl hI.2.2.2.2.2.2.2.2.2.2.2.2.2.2.2.2.2.2.2.2.2.2.2.2.2.2.2.2.1)
    have k_xS9 : xS9 W := by
      rw [hW]
      exact (uxS9 rfl hI.2.2.2.2.2.2.2.2.2.2.2.2.2.2.2.2.2.2.2.2.2.2.2.2.2.2.2.2.2.1)
    have k_xSA : xSA W := by
      rw [hW]
      exact (uxSA rfl hI.2.2.2.2.2.2.2.2.2.2.2.2.2.2.2.2.2.2.2.2.2.2.2.2.2.2.2.2.2.2.1)
    have k_xSG : xSG W := by
      rw [hW]
      exact (uxSG rfl hI.2.2.2.2.2.2.2.2.2.2.2.2.2.2.2.2.2.2.2.2.2.2.2.2.2.2.2.2.2.2.2.1)
    have k_xSF : xSF W := by
      rw [hW]
      exact (uxSF rfl hI.2.2.2.2.2.2.2.2.2.2.2.2.2.2.2.2.2.2.2.2.2.2.2.2.2.2.2.2.2.2.2.2.1)
    have k_xSB : xSB W := by
      rw [hW]
      exact (uxSB rfl hI.2.2.2.2.2.2.2.2.2.2.2.2.2.2.2.2.2.2.2.2.2.2.2.2.2.2.2.2.2.2.2.2.2.1)
    have k_xSC : xSC W := by
      have r4_226 : W 4 226 = M 4 226 := by rw [hW, sU_ne (fun z => by omega)]
      have r4_227 : W 4 227 = 4 * ρ 0 + 0 := by rw [hW, sU_at]
      have r4_219 : W 4 219 = M 4 219 := by rw [hW, sU_ne (fun z => by omega)]
      intro h
      rw [r4_227, r4_219, h0]
      refine ⟨by omega, by omega, ?_⟩
      have e1 := tki_on (x := M 4 219) (w := 3) (show tLa[3]? = some (140000896 : Int) from rfl)
      rw [if_neg (by omega)] at e1
      rw [show M 4 227 = 3 by omega] at l3
      rw [← l3]
      exact e1.symm
    have k_xSD : xSD W := by
      rw [hW]
      exact (uxSD rfl hI.2.2.2.2.2.2.2.2.2.2.2.2.2.2.2.2.2.2.2.2.2.2.2.2.2.2.2.2.2.2.2.2.2.2.2.1)
    have k_xSE : xSE W := by
      rw [hW]
      exact (uxSE rfl hI.2.2.2.2.2.2.2.2.2.2.2.2.2.2.2.2.2.2.2.2.2.2.2.2.2.2.2.2.2.2.2.2.2.2.2.2.1)
    have k_xSW : xSW W := by
      rw [hW]
      exact (uxSW rfl hI.2.2.2.2.2.2.2.2.2.2.2.2.2.2.2.2.2.2.2.2.2.2.2.2.2.2.2.2.2.2.2.2.2.2.2.2.2.1)
    have k_xST : xST W := by
      rw [hW]
      exact (uxST rfl hI.2.2.2.2.2.2.2.2.2.2.2.2.2.2.2.2.2.2.2.2.2.2.2.2.2.2.2.2.2.2.2.2.2.2.2.2.2.2.1)
    have k_xSP : xSP W := by
      rw [hW]
      exact (uxSP rfl hI.2.2.2.2.2.2.2.2.2.2.2.2.2.2.2.2.2.2.2.2.2.2.2.2.2.2.2.2.2.2.2.2.2.2.2.2.2.2.2.1)
    have k_xSL : xSL W := by
      rw [hW]
      exact (uxSL rfl hI.2.2.2.2.2.2.2.2.2.2.2.2.2.2.2.2.2.2.2.2.2.2.2.2.2.2.2.2.2.2.2.2.2.2.2.2.2.2.2.2.1)
    have k_xSM : xSM W := by
      rw [hW]
      exact (uxSM rfl hI.2.2.2.2.2.2.2.2.2.2.2.2.2.2.2.2.2.2.2.2.2.2.2.2.2.2.2.2.2.2.2.2.2.2.2.2.2.2.2.2.2.1)
    have k_xSI : xSI W := by
      rw [hW]
      exact (uxSI rfl hI.2.2.2.2.2.2.2.2.2.2.2.2.2.2.2.2.2.2.2.2.2.2.2.2.2.2.2.2.2.2.2.2.2.2.2.2.2.2.2.2.2.2)
    have k_XC : XC W := ⟨k_xS1, k_xS2, k_xS3, k_xS4, k_xS5, k_xS6, k_xS7, k_xS8, k_xS9, k_xSA, k_xSG, k_xSF, k_xSB, k_xSC, k_xSD, k_xSE, k_xSW, k_xST, k_xSP, k_xSL, k_xSM, k_xSI⟩
    have kXB : XB W := ⟨k_xN1, k_xN2, k_xN3, k_xN4, k_xN5, k_xN6, k_xH1, k_xK1, k_xC1, k_xRW, k_xWT, k_xCU, k_xG2, k_xG3, k_xG4, k_xG5, k_xG6, k_XC⟩
    exact ⟨base, k2, k3, kXA, kXB⟩
-- langMissR3H
def xr_457 : qRu := (3, [[(-140000897, 0), (1, 2)]], [(4, 226, [(1, 0)]), (4, 227, [(3, 0)]), (4, 219, [(1, 2)])], [], [(4, 227, [(4, 0)])], [])
theorem xo_457 : qRok xr_457 := by
  intro ρ M h0 hf hm hI
  have f0 := hf [(-140000897, 0), (1, 2)] (by decide)
  simp only [qD, h0] at f0
  have m0 : M 4 226 = 1 * ρ 0 + 0 := hm (4, 226, [(1, 0)]) (by decide)
  have m1 : M 4 227 = 3 * ρ 0 + 0 := hm (4, 227, [(3, 0)]) (by decide)
  have m2 : M 4 219 = 1 * ρ 2 + 0 := hm (4, 219, [(1, 2)]) (by decide)
  simp only [h0] at m0 m1
  have qxSC := hI.2.2.2.2.2.2.2.2.2.2.2.2.2.2.2.2.2.2.2.2.2.2.2.2.2.2.2.2.2.2.2.2.2.2.1
  obtain ⟨l1, l2, l3⟩ := gx_xSC hI (by omega)
  refine ⟨ρ, fun _ _ => rfl, fun f h => ?_, ?_⟩
  · exact nomatch h
  · show sI (sU M 4 227 (4 * ρ 0 + 0))
    obtain ⟨W, hW⟩ : ∃ W, W = (sU M 4 227 (4 * ρ 0 + 0)) := ⟨_, rfl⟩
    rw [← hW]
    have base : sI0 W := by
      rw [hW]
      exact (si_u0 hI.1 (fun r hr => by cases hr))
    have k2 : XI2 W := by
      rw [hW]
      exact (xi2_u rfl hI.2.1)
    have k3 : XI3 W := by
      rw [hW]
      exact (xi3_u rfl hI.2.2.1)
    have kXA : XA W := by
      rw [hW]
      exact (uXA rfl hI.2.2.2.1)
    have k_xN1 : xN1 W := by
      rw [hW]
      exact (uxN1 rfl hI.2.2.2.2.1)
    have k_xN2 : xN2 W := by
      rw [hW]
      exact (uxN2 rfl hI.2.2.2.2.2.1)
    have k_xN3 : xN3 W := by
      rw [hW]
      exact (uxN3 rfl hI.2.2.2.2.2.2.1)
    have k_xN4 : xN4 W := by
      rw [hW]
      exact (uxN4 rfl hI.2.2.2.2.2.2.2.1)
    have k_xN5 : xN5 W := by
      rw [hW]
      exact (uxN5 rfl hI.2.2.2.2.2.2.2.2.1)
    have k_xN6 : xN6 W := by
      rw [hW]
      exact (uxN6 rfl hI.2.2.2.2.2.2.2.2.2.1)
    have k_xH1 : xH1 W := by
      rw [hW]
      exact (uxH1 rfl hI.2.2.2.2.2.2.2.2.2.2.1)
    have k_xK1 : xK1 W := by
      rw [hW]
      exact (uxK1 rfl hI.2.2.2.2.2.2.2.2.2.2.2.1)
    have k_xC1 : xC1 W := by
      rw [hW]
      exact (uxC1 rfl hI.2.2.2.2.2.2.2.2.2.2.2.2.1)
    have k_xRW : xRW W := by
      rw [hW]
      exact (uxRW rfl hI.2.2.2.2.2.2.2.2.2.2.2.2.2.1)
    have k_xWT : xWT W := by
      rw [hW]
      exact (uxWT rfl hI.2.2.2.2.2.2.2.2.2.2.2.2.2.2.1)
    have k_xCU : xCU W := by
      rw [hW]
      exact (uxCU rfl hI.2.2.2.2.2.2.2.2.2.2.2.2.2.2.2.1)
    have k_xG2 : xG2 W := by
      rw [hW]
      exact (uxG2 rfl hI.2.2.2.2.2.2.2.2.2.2.2.2.2.2.2.2.1)
    have k_xG3 : xG3 W := by
      rw [hW]
      exact (uxG3 rfl hI.2.2.2.2.2.2.2.2.2.2.2.2.2.2.2.2.2.1)
    have k_xG4 : xG4 W := by
      rw [hW]
      exact (uxG4 rfl hI.2.2.2.2.2.2.2.2.2.2.2.2.2.2.2.2.2.2.1)
    have k_xG5 : xG5 W := by
      rw [hW]
      exact (uxG5 rfl hI.2.2.2.2.2.2.2.2.2.2.2.2.2.2.2.2.2.2.2.1)
    have k_xG6 : xG6 W := by
      rw [hW]
      exact (uxG6 rfl hI.2.2.2.2.2.2.2.2.2.2.2.2.2.2.2.2.2.2.2.2.1)
    have k_xS1 : xS1 W := by
      rw [hW]
      exact (uxS1 rfl hI.2.2.2.2.2.2.2.2.2.2.2.2.2.2.2.2.2.2.2.2.2.1)
    have k_xS2 : xS2 W := by
      rw [hW]
      exact (uxS2 rfl hI.2.2.2.2.2.2.2.2.2.2.2.2.2.2.2.2.2.2.2.2.2.2.1)
    have k_xS3 : xS3 W := by
      rw [hW]
      exact (uxS3 rfl hI.2.2.2.2.2.2.2.2.2.2.2.2.2.2.2.2.2.2.2.2.2.2.2.1)
    have k_xS4 : xS4 W := by
      rw [hW]
      exact (uxS4 rfl hI.2.2.2.2.2.2.2.2.2.2.2.2.2.2.2.2.2.2.2.2.2.2.2.2.1)
    have k_xS5 : xS5 W := by
      rw [hW]
      exact (uxS5 rfl hI.2.2.2.2.2.2.2.2.2.2.2.2.2.2.2.2.2.2.2.2.2.2.2.2.2.1)
    have k_xS6 : xS6 W := by
      rw [hW]
      exact (uxS6 rfl hI.2.2.2.2.2.2.2.2.2.2.2.2.2.2.2.2.2.2.2.2.2.2.2.2.2.2.1)
    have k_xS7 : xS7 W := by
      rw [hW]
      exact (uxS7 rfl hI.2.2.2.2.2.2.2.2.2.2.2.2.2.2.2.2.2.2.2.2.2.2.2.2.2.2.2.1)
    have k_xS8 : xS8 W := by
      rw [hW]
      exact (uxS8 rfl hI.2.2.2.2.2.2.2.2.2.2.2.2.2.2.2.2.2.2.2.2.2.2.2.2.2.2.2.2.1)
    have k_xS9 : xS9 W := by
      rw [hW]
      exact (uxS9 rfl hI.2.2.2.2.2.2.2.2.2.2.2.2.2.2.2.2.2.2.2.2.2.2.2.2.2.2.2.2.2.1)
    have k_xSA : xSA W := by
      rw [hW]
      exact (uxSA rfl hI.2.2.2.2.2.2.2.2.2.2.2.2.2.2.2.2.2.2.2.2.2.2.2.2.2.2.2.2.2.2.1)
    have k_xSG : xSG W := by
      rw [hW]
      exact (uxSG rfl hI.2.2.2.2.2.2.2.2.2.2.2.2.2.2.2.2.2.2.2.2.2.2.2.2.2.2.2.2.2.2.2.1)
    have k_xSF : xSF W := by
      rw [hW]
      exact (uxSF rfl hI.2.2.2.2.2.2.2.2.2.2.2.2.2.2.2.2.2.2.2.2.2.2.2.2.2.2.2.2.2.2.2.2.1)
    have k_xSB : xSB W := by
      rw [hW]
      exact (uxSB rfl hI.2.2.2.2.2.2.2.2.2.2.2.2.2.2.2.2.2.2.2.2.2.2.2.2.2.2.2.2.2.2.2.2.2.1)
    have k_xSC : xSC W := by
      have r4_226 : W 4 226 = M 4 226 := by rw [hW, sU_ne (fun z => by omega)]
      have r4_227 : W 4 227 = 4 * ρ 0 + 0 := by rw [hW, sU_at]
      have r4_219 : W 4 219 = M 4 219 := by rw [hW, sU_ne (fun z => by omega)]
      intro h
      rw [r4_227, r4_219, h0]
      refine ⟨by omega, by omega, ?_⟩
      have e1 := tki_on (x := M 4 219) (w := 3) (show tLa[3]? = some (140000896 : Int) from rfl)
      rw [if_neg (by omega)] at e1
      rw [show M 4 227 = 3 by omega] at l3
      rw [← l3]
      exact e1.symm
    have k_xSD : xSD W := by
      rw [hW]
      exact (uxSD rfl hI.2.2.2.2.2.2.2.2.2.2.2.2.2.2.2.2.2.2.2.2.2.2.2.2.2.2.2.2.2.2.2.2.2.2.2.1)
    have k_xSE : xSE W := by
      rw [hW]
      exact (uxSE rfl hI.2.2.2.2.2.2.2.2.2.2.2.2.2.2.2.2.2.2.2.2.2.2.2.2.2.2.2.2.2.2.2.2.2.2.2.2.1)
    have k_xSW : xSW W := by
      rw [hW]
      exact (uxSW rfl hI.2.2.2.2.2.2.2.2.2.2.2.2.2.2.2.2.2.2.2.2.2.2.2.2.2.2.2.2.2.2.2.2.2.2.2.2.2.1)
    have k_xST : xST W := by
      rw [hW]
      exact (uxST rfl hI.2.2.2.2.2.2.2.2.2.2.2.2.2.2.2.2.2.2.2.2.2.2.2.2.2.2.2.2.2.2.2.2.2.2.2.2.2.2.1)
    have k_xSP : xSP W := by
      rw [hW]
      exact (uxSP rfl hI.2.2.2.2.2.2.2.2.2.2.2.2.2.2.2.2.2.2.2.2.2.2.2.2.2.2.2.2.2.2.2.2.2.2.2.2.2.2.2.1)
    have k_xSL : xSL W := by
      rw [hW]
      exact (uxSL rfl hI.2.2.2.2.2.2.2.2.2.2.2.2.2.2.2.2.2.2.2.2.2.2.2.2.2.2.2.2.2.2.2.2.2.2.2.2.2.2.2.2.1)
    have k_xSM : xSM W := by
      rw [hW]
      exact (uxSM rfl hI.2.2.2.2.2.2.2.2.2.2.2.2.2.2.2.2.2.2.2.2.2.2.2.2.2.2.2.2.2.2.2.2.2.2.2.2.2.2.2.2.2.1)
    have k_xSI : xSI W := by
      rw [hW]
      exact (uxSI rfl hI.2.2.2.2.2.2.2.2.2.2.2.2.2.2.2.2.2.2.2.2.2.2.2.2.2.2.2.2.2.2.2.2.2.2.2.2.2.2.2.2.2.2)
    have k_XC : XC W := ⟨k_xS1, k_xS2, k_xS3, k_xS4, k_xS5, k_xS6, k_xS7, k_xS8, k_xS9, k_xSA, k_xSG, k_xSF, k_xSB, k_xSC, k_xSD, k_xSE, k_xSW, k_xST, k_xSP, k_xSL, k_xSM, k_xSI⟩
    have kXB : XB W := ⟨k_xN1, k_xN2, k_xN3, k_xN4, k_xN5, k_xN6, k_xH1, k_xK1, k_xC1, k_xRW, k_xWT, k_xCU, k_xG2, k_xG3, k_xG4, k_xG5, k_xG6, k_XC⟩
    exact ⟨base, k2, k3, kXA, kXB⟩
-- wHitR4_c
def xr_458 : qRu := (13, [[(-1, 0), (1, 5)], [(1, 1)], [(-1, 1), (1, 9)], [(1, 1), (-1, 9)], [(-1, 0), (-1, 1), (1, 10)], [(6, 0), (1, 9), (-1, 10)], [(-679777472, 0), (1, 11)], [(679777472, 0), (-1, 11)]], [(4, 210, [(1, 0)]), (4, 211, [(1, 1)]), (4, 101, [(1, 2)]), (3, 46, [(1, 3)]), (3, 47, [(1, 4)]), (4, 100, [(1, 5)]), (3, 44, [(1, 6)]), (3, 45, [(1, 7)]), (4, 107, [(1, 8)]), (4, 214, [(1, 0)]), (4, 215, [(1, 9)]), (4, 217, [(1, 10)]), (4, 219, [(1, 11)]), (4, 216, [(1, 12)])], [], [], [[(-1, 1), (1, 3)], [(1, 1), (-1, 3)], [(1, 4), (-1, 10)], [(-1, 4), (1, 10)], [(-22, 0), (1, 6)], [(22, 0), (-1, 6)], [(1, 7), (-1, 11)], [(-1, 7), (1, 11)]])
theorem xo_458 : qRok xr_458 := by
  intro ρ M h0 hf hm hI
  have f0 := hf [(-1, 0), (1, 5)] (by decide)
  have f1 := hf [(1, 1)] (by decide)
  have f2 := hf [(-1, 1), (1, 9)] (by decide)
  have f3 := hf [(1, 1), (-1, 9)] (by decide)
  have f4 := hf [(-1, 0), (-1, 1), (1, 10)] (by decide)
  have f5 := hf [(6, 0), (1, 9), (-1, 10)] (by decide)
  have f6 := hf [(-679777472, 0), (1, 11)] (by decide)
  have f7 := hf [(679777472, 0), (-1, 11)] (by decide)
  simp only [qD, h0] at f0 f1 f2 f3 f4 f5 f6 f7
  have m0 : M 4 210 = 1 * ρ 0 + 0 := hm (4, 210, [(1, 0)]) (by decide)
  have m1 : M 4 211 = 1 * ρ 1 + 0 := hm (4, 211, [(1, 1)]) (by decide)
  have m2 : M 4 101 = 1 * ρ 2 + 0 := hm (4, 101, [(1, 2)]) (by decide)
  have m3 : M 3 46 = 1 * ρ 3 + 0 := hm (3, 46, [(1, 3)]) (by decide)
  have m4 : M 3 47 = 1 * ρ 4 + 0 := hm (3, 47, [(1, 4)]) (by decide)
  have m5 : M 4 100 = 1 * ρ 5 + 0 := hm (4, 100, [(1, 5)]) (by decide)
  have m6 : M 3 44 = 1 * ρ 6 + 0 := hm (3, 44, [(1, 6)]) (by decide)
  have m7 : M 3 45 = 1 * ρ 7 + 0 := hm (3, 45, [(1, 7)]) (by decide)
  have m8 : M 4 107 = 1 * ρ 8 + 0 := hm (4, 107, [(1, 8)]) (by decide)
  have m9 : M 4 214 = 1 * ρ 0 + 0 := hm (4, 214, [(1, 0)]) (by decide)
  have m10 : M 4 215 = 1 * ρ 9 + 0 := hm (4, 215, [(1, 9)]) (by decide)
  have m11 : M 4 217 = 1 * ρ 10 + 0 := hm (4, 217, [(1, 10)]) (by decide)
  have m12 : M 4 219 = 1 * ρ 11 + 0 := hm (4, 219, [(1, 11)]) (by decide)
  have m13 : M 4 216 = 1 * ρ 12 + 0 := hm (4, 216, [(1, 12)]) (by decide)
  simp only [h0] at m0 m9
  obtain ⟨u1, u2, _⟩ := gx_xS8 hI (by omega)

  obtain ⟨a1, a2, a3, a4, a5, a6, a7⟩ := gx_xSA hI (by omega)
  have eq1 : (M 4 215).toNat = (M 4 211).toNat := by omega
  rw [eq1] at a6 a7
  have hgt := ten_gt (g := M 92) (lo := 97) (hi := 122) (n := (M 4 101).toNat) (q := (M 4 211).toNat) (by omega)
  have el1 : (M 4 217 - M 4 215).toNat = tEn (M 92) 97 122 (M 4 101).toNat (M 4 211).toNat - (M 4 211).toNat := by omega
  rw [el1] at a7

  obtain ⟨t1, t2, t3, t4, t5, t6⟩ := tk_of hI (by omega) (by omega) (by omega) (show tAt (M 92) (M 4 101).toNat (M 4 211).toNat (M 4 107) (M 4 108) = (22, M 4 219, ((M 4 211).toNat : Int), M 4 217, 0, 4) from by
    unfold tAt
    rw [if_neg (by omega), if_pos hgt.2]
    unfold tWo
    rw [← a7, ← a6]
    have hk : tKi (M 4 219) 0 = 22 := by
      rw [show M 4 219 = 679777472 by omega]
      decide
    have h6 : ¬ (6 < tEn (M 92) 97 122 (M 4 101).toNat (M 4 211).toNat - (M 4 211).toNat) := by omega
    unfold tWk tWs tWv
    rw [if_neg h6, if_neg h6, if_neg h6, hk]
    rfl)
  refine ⟨ρ, fun _ _ => rfl, fun f h => ?_, ?_⟩
  · have h : f ∈ ([[(-1, 1), (1, 3)], [(1, 1), (-1, 3)], [(1, 4), (-1, 10)], [(-1, 4), (1, 10)], [(-22, 0), (1, 6)], [(22, 0), (-1, 6)], [(1, 7), (-1, 11)], [(-1, 7), (1, 11)]] : List qF) := h
    simp only [List.mem_cons, List.not_mem_nil, or_false] at h
    rcases h with rfl | rfl | rfl | rfl | rfl | rfl | rfl | rfl
    · show 0 ≤ -1 * ρ 1 + (1 * ρ 3 + 0)
      (try rw [h0]); omega
    · show 0 ≤ 1 * ρ 1 + (-1 * ρ 3 + 0)
      (try rw [h0]); omega
    · show 0 ≤ 1 * ρ 4 + (-1 * ρ 10 + 0)
      (try rw [h0]); omega
    · show 0 ≤ -1 * ρ 4 + (1 * ρ 10 + 0)
      (try rw [h0]); omega
    · show 0 ≤ -22 * ρ 0 + (1 * ρ 6 + 0)
      (try rw [h0]); omega
    · show 0 ≤ 22 * ρ 0 + (-1 * ρ 6 + 0)
      (try rw [h0]); omega
    · show 0 ≤ 1 * ρ 7 + (-1 * ρ 11 + 0)
      (try rw [h0]); omega
    · show 0 ≤ -1 * ρ 7 + (1 * ρ 11 + 0)
      (try rw [h0]); omega
  · show sI M
    exact hI
-- wHitR4_r
def xr_459 : qRu := (13, [[(-1, 0), (1, 5)], [(1, 1)], [(-1, 1), (1, 9)], [(1, 1), (-1, 9)], [(-1, 0), (-1, 1), (1, 10)], [(6, 0), (1, 9), (-1, 10)], [(-679777472, 0), (1, 11)], [(679777472, 0), (-1, 11)]], [(4, 210, [(1, 0)]), (4, 211, [(1, 1)]), (4, 101, [(1, 2)]), (3, 46, [(1, 3)]), (3, 47, [(1, 4)]), (4, 100, [(1, 5)]), (3, 50, [(1, 6)]), (3, 51, [(1, 7)]), (4, 108, [(1, 8)]), (4, 214, [(1, 0)]), (4, 215, [(1, 9)]), (4, 217, [(1, 10)]), (4, 219, [(1, 11)]), (4, 216, [(1, 12)])], [], [], [[(-1, 1), (1, 3)], [(1, 1), (-1, 3)], [(1, 4), (-1, 10)], [(-1, 4), (1, 10)], [(1, 6)], [(-1, 6)], [(-4, 0), (1, 7)], [(4, 0), (-1, 7)]])
theorem xo_459 : qRok xr_459 := by
  intro ρ M h0 hf hm hI
  have f0 := hf [(-1, 0), (1, 5)] (by decide)
  have f1 := hf [(1, 1)] (by decide)
  have f2 := hf [(-1, 1), (1, 9)] (by decide)
  have f3 := hf [(1, 1), (-1, 9)] (by decide)
  have f4 := hf [(-1, 0), (-1, 1), (1, 10)] (by decide)
  have f5 := hf [(6, 0), (1, 9), (-1, 10)] (by decide)
  have f6 := hf [(-679777472, 0), (1, 11)] (by decide)
  have f7 := hf [(679777472, 0), (-1, 11)] (by decide)
  simp only [qD, h0] at f0 f1 f2 f3 f4 f5 f6 f7
  have m0 : M 4 210 = 1 * ρ 0 + 0 := hm (4, 210, [(1, 0)]) (by decide)
  have m1 : M 4 211 = 1 * ρ 1 + 0 := hm (4, 211, [(1, 1)]) (by decide)
  have m2 : M 4 101 = 1 * ρ 2 + 0 := hm (4, 101, [(1, 2)]) (by decide)
  have m3 : M 3 46 = 1 * ρ 3 + 0 := hm (3, 46, [(1, 3)]) (by decide)
  have m4 : M 3 47 = 1 * ρ 4 + 0 := hm (3, 47, [(1, 4)]) (by decide)
  have m5 : M 4 100 = 1 * ρ 5 + 0 := hm (4, 100, [(1, 5)]) (by decide)
  have m6 : M 3 50 = 1 * ρ 6 + 0 := hm (3, 50, [(1, 6)]) (by decide)
  have m7 : M 3 51 = 1 * ρ 7 + 0 := hm (3, 51, [(1, 7)]) (by decide)
  have m8 : M 4 108 = 1 * ρ 8 + 0 := hm (4, 108, [(1, 8)]) (by decide)
  have m9 : M 4 214 = 1 * ρ 0 + 0 := hm (4, 214, [(1, 0)]) (by decide)
  have m10 : M 4 215 = 1 * ρ 9 + 0 := hm (4, 215, [(1, 9)]) (by decide)
  have m11 : M 4 217 = 1 * ρ 10 + 0 := hm (4, 217, [(1, 10)]) (by decide)
  have m12 : M 4 219 = 1 * ρ 11 + 0 := hm (4, 219, [(1, 11)]) (by decide)
  have m13 : M 4 216 = 1 * ρ 12 + 0 := hm (4, 216, [(1, 12)]) (by decide)
  simp only [h0] at m0 m9
  obtain ⟨u1, u2, _⟩ := gx_xS8 hI (by omega)

  obtain ⟨a1, a2, a3, a4, a5, a6, a7⟩ := gx_xSA hI (by omega)
  have eq1 : (M 4 215).toNat = (M 4 211).toNat := by omega
  rw [eq1] at a6 a7
  have hgt := ten_gt (g := M 92) (lo := 97) (hi := 122) (n := (M 4 101).toNat) (q := (M 4 211).toNat) (by omega)
  have el1 : (M 4 217 - M 4 215).toNat = tEn (M 92) 97 122 (M 4 101).toNat (M 4 211).toNat - (M 4 211).toNat := by omega
  rw [el1] at a7

  obtain ⟨t1, t2, t3, t4, t5, t6⟩ := tk_of hI (by omega) (by omega) (by omega) (show tAt (M 92) (M 4 101).toNat (M 4 211).toNat (M 4 107) (M 4 108) = (22, M 4 219, ((M 4 211).toNat : Int), M 4 217, 0, 4) from by
    unfold tAt
    rw [if_neg (by omega), if_pos hgt.2]
    unfold tWo
    rw [← a7, ← a6]
    have hk : tKi (M 4 219) 0 = 22 := by
      rw [show M 4 219 = 679777472 by omega]
      decide
    have h6 : ¬ (6 < tEn (M 92) 97 122 (M 4 101).toNat (M 4 211).toNat - (M 4 211).toNat) := by omega
    unfold tWk tWs tWv
    rw [if_neg h6, if_neg h6, if_neg h6, hk]
    rfl)
  refine ⟨ρ, fun _ _ => rfl, fun f h => ?_, ?_⟩
  · have h : f ∈ ([[(-1, 1), (1, 3)], [(1, 1), (-1, 3)], [(1, 4), (-1, 10)], [(-1, 4), (1, 10)], [(1, 6)], [(-1, 6)], [(-4, 0), (1, 7)], [(4, 0), (-1, 7)]] : List qF) := h
    simp only [List.mem_cons, List.not_mem_nil, or_false] at h
    rcases h with rfl | rfl | rfl | rfl | rfl | rfl | rfl | rfl
    · show 0 ≤ -1 * ρ 1 + (1 * ρ 3 + 0)
      (try rw [h0]); omega
    · show 0 ≤ 1 * ρ 1 + (-1 * ρ 3 + 0)
      (try rw [h0]); omega
    · show 0 ≤ 1 * ρ 4 + (-1 * ρ 10 + 0)
      (try rw [h0]); omega
    · show 0 ≤ -1 * ρ 4 + (1 * ρ 10 + 0)
      (try rw [h0]); omega
    · show 0 ≤ 1 * ρ 6 + 0
      (try rw [h0]); omega
    · show 0 ≤ -1 * ρ 6 + 0
      (try rw [h0]); omega
    · show 0 ≤ -4 * ρ 0 + (1 * ρ 7 + 0)
      (try rw [h0]); omega
    · show 0 ≤ 4 * ρ 0 + (-1 * ρ 7 + 0)
      (try rw [h0]); omega
  · show sI M
    exact hI
-- langMissR4L
def xr_460 : qRu := (3, [[(679777471, 0), (-1, 2)]], [(4, 226, [(1, 0)]), (4, 227, [(4, 0)]), (4, 219, [(1, 2)])], [], [(4, 227, [(5, 0)])], [])
theorem xo_460 : qRok xr_460 := by
  intro ρ M h0 hf hm hI
  have f0 := hf [(679777471, 0), (-1, 2)] (by decide)
  simp only [qD, h0] at f0
  have m0 : M 4 226 = 1 * ρ 0 + 0 := hm (4, 226, [(1, 0)]) (by decide)
  have m1 : M 4 227 = 4 * ρ 0 + 0 := hm (4, 227, [(4, 0)]) (by decide)
  have m2 : M 4 219 = 1 * ρ 2 + 0 := hm (4, 219, [(1, 2)]) (by decide)
  simp only [h0] at m0 m1
  have qxSC := hI.2.2.2.2.2.2.2.2.2.2.2.2.2.2.2.2.2.2.2.2.2.2.2.2.2.2.2.2.2.2.2.2.2.2.1
  obtain ⟨l1, l2, l3⟩ := gx_xSC hI (by omega)
  refine ⟨ρ, fun _ _ => rfl, fun f h => ?_, ?_⟩
  · exact nomatch h
  · show sI (sU M 4 227 (5 * ρ 0 + 0))
    obtain ⟨W, hW⟩ : ∃ W, W = (sU M 4 227 (5 * ρ 0 + 0)) := ⟨_, rfl⟩
    rw [← hW]
    have base : sI0 W := by
      rw [hW]
      exact (si_u0 hI.1 (fun r hr => by cases hr))
    have k2 : XI2 W := by
      rw [hW]
      exact (xi2_u rfl hI.2.1)
    have k3 : XI3 W := by
      rw [hW]
      exact (xi3_u rfl hI.2.2.1)
    have kXA : XA W := by
      rw [hW]
      exact (uXA rfl hI.2.2.2.1)
    have k_xN1 : xN1 W := by
      rw [hW]
      exact (uxN1 rfl hI.2.2.2.2.1)
    have k_xN2 : xN2 W := by
      rw [hW]
      exact (uxN2 rfl hI.2.2.2.2.2.1)
    have k_xN3 : xN3 W := by
      rw [hW]
      exact (uxN3 rfl hI.2.2.2.2.2.2.1)
    have k_xN4 : xN4 W := by
      rw [hW]
      exact (uxN4 rfl hI.2.2.2.2.2.2.2.1)
    have k_xN5 : xN5 W := by
      rw [hW]
      exact (uxN5 rfl hI.2.2.2.2.2.2.2.2.1)
    have k_xN6 : xN6 W := by
      rw [hW]
      exact (uxN6 rfl hI.2.2.2.2.2.2.2.2.2.1)
    have k_xH1 : xH1 W := by
      rw [hW]
      exact (uxH1 rfl hI.2.2.2.2.2.2.2.2.2.2.1)
    have k_xK1 : xK1 W := by
      rw [hW]
      exact (uxK1 rfl hI.2.2.2.2.2.2.2.2.2.2.2.1)
    have k_xC1 : xC1 W := by
      rw [hW]
      exact (uxC1 rfl hI.2.2.2.2.2.2.2.2.2.2.2.2.1)
    have k_xRW : xRW W := by
      rw [hW]
      exact (uxRW rfl hI.2.2.2.2.2.2.2.2.2.2.2.2.2.1)
    have k_xWT : xWT W := by
      rw [hW]
      exact (uxWT rfl hI.2.2.2.2.2.2.2.2.2.2.2.2.2.2.1)
    have k_xCU : xCU W := by
      rw [hW]
      exact (uxCU rfl hI.2.2.2.2.2.2.2.2.2.2.2.2.2.2.2.1)
    have k_xG2 : xG2 W := by
      rw [hW]
      exact (uxG2 rfl hI.2.2.2.2.2.2.2.2.2.2.2.2.2.2.2.2.1)
    have k_xG3 : xG3 W := by
      rw [hW]
      exact (uxG3 rfl hI.2.2.2.2.2.2.2.2.2.2.2.2.2.2.2.2.2.1)
    have k_xG4 : xG4 W := by
      rw [hW]
      exact (uxG4 rfl hI.2.2.2.2.2.2.2.2.2.2.2.2.2.2.2.2.2.2.1)
    have k_xG5 : xG5 W := by
      rw [hW]
      exact (uxG5 rfl hI.2.2.2.2.2.2.2.2.2.2.2.2.2.2.2.2.2.2.2.1)
    have k_xG6 : xG6 W := by
      rw [hW]
      exact (uxG6 rfl hI.2.2.2.2.2.2.2.2.2.2.2.2.2.2.2.2.2.2.2.2.1)
    have k_xS1 : xS1 W := by
      rw [hW]
      exact (uxS1 rfl hI.2.2.2.2.2.2.2.2.2.2.2.2.2.2.2.2.2.2.2.2.2.1)
    have k_xS2 : xS2 W := by
      rw [hW]
      exact (uxS2 rfl hI.2.2.2.2.2.2.2.2.2.2.2.2.2.2.2.2.2.2.2.2.2.2.1)
    have k_xS3 : xS3 W := by
      rw [hW]
      exact (uxS3 rfl hI.2.2.2.2.2.2.2.2.2.2.2.2.2.2.2.2.2.2.2.2.2.2.2.1)
    have k_xS4 : xS4 W := by
      rw [hW]
      exact (uxS4 rfl hI.2.2.2.2.2.2.2.2.2.2.2.2.2.2.2.2.2.2.2.2.2.2.2.2.1)
    have k_xS5 : xS5 W := by
      rw [hW]
      exact (uxS5 rfl hI.2.2.2.2.2.2.2.2.2.2.2.2.2.2.2.2.2.2.2.2.2.2.2.2.2.1)
    have k_xS6 : xS6 W := by
      rw [hW]
      exact (uxS6 rfl hI.2.2.2.2.2.2.2.2.2.2.2.2.2.2.2.2.2.2.2.2.2.2.2.2.2.2.1)
    have k_xS7 : xS7 W := by
      rw [hW]
      exact (uxS7 rfl hI.2.2.2.2.2.2.2.2.2.2.2.2.2.2.2.2.2.2.2.2.2.2.2.2.2.2.2.1)
    have k_xS8 : xS8 W := by
      rw [hW]
      exact (uxS8 rfl hI.2.2.2.2.2.2.2.2.2.2.2.2.2.2.2.2.2.2.2.2.2.2.2.2.2.2.2.2.1)
    have k_xS9 : xS9 W := by
      rw [hW]
      exact (uxS9 rfl hI.2.2.2.2.2.2.2.2.2.2.2.2.2.2.2.2.2.2.2.2.2.2.2.2.2.2.2.2.2.1)
    have k_xSA : xSA W := by
      rw [hW]
      exact (uxSA rfl hI.2.2.2.2.2.2.2.2.2.2.2.2.2.2.2.2.2.2.2.2.2.2.2.2.2.2.2.2.2.2.1)
    have k_xSG : xSG W := by
      rw [hW]
      exact (uxSG rfl hI.2.2.2.2.2.2.2.2.2.2.2.2.2.2.2.2.2.2.2.2.2.2.2.2.2.2.2.2.2.2.2.1)
    have k_xSF : xSF W := by
      rw [hW]
      exact (uxSF rfl hI.2.2.2.2.2.2.2.2.2.2.2.2.2.2.2.2.2.2.2.2.2.2.2.2.2.2.2.2.2.2.2.2.1)
    have k_xSB : xSB W := by
      rw [hW]
      exact (uxSB rfl hI.2.2.2.2.2.2.2.2.2.2.2.2.2.2.2.2.2.2.2.2.2.2.2.2.2.2.2.2.2.2.2.2.2.1)
    have k_xSC : xSC W := by
      have r4_226 : W 4 226 = M 4 226 := by rw [hW, sU_ne (fun z => by omega)]
      have r4_227 : W 4 227 = 5 * ρ 0 + 0 := by rw [hW, sU_at]
      have r4_219 : W 4 219 = M 4 219 := by rw [hW, sU_ne (fun z => by omega)]
      intro h
      rw [r4_227, r4_219, h0]
      refine ⟨by omega, by omega, ?_⟩
      have e1 := tki_on (x := M 4 219) (w := 4) (show tLa[4]? = some (679777472 : Int) from rfl)
      rw [if_neg (by omega)] at e1
      rw [show M 4 227 = 4 by omega] at l3
      rw [← l3]
      exact e1.symm
    have k_xSD : xSD W := by
      rw [hW]
      exact (uxSD rfl hI.2.2.2.2.2.2.2.2.2.2.2.2.2.2.2.2.2.2.2.2.2.2.2.2.2.2.2.2.2.2.2.2.2.2.2.1)
    have k_xSE : xSE W := by
      rw [hW]
      exact (uxSE rfl hI.2.2.2.2.2.2.2.2.2.2.2.2.2.2.2.2.2.2.2.2.2.2.2.2.2.2.2.2.2.2.2.2.2.2.2.2.1)
    have k_xSW : xSW W := by
      rw [hW]
      exact (uxSW rfl hI.2.2.2.2.2.2.2.2.2.2.2.2.2.2.2.2.2.2.2.2.2.2.2.2.2.2.2.2.2.2.2.2.2.2.2.2.2.1)
    have k_xST : xST W := by
      rw [hW]
      exact (uxST rfl hI.2.2.2.2.2.2.2.2.2.2.2.2.2.2.2.2.2.2.2.2.2.2.2.2.2.2.2.2.2.2.2.2.2.2.2.2.2.2.1)
    have k_xSP : xSP W := by
      rw [hW]
      exact (uxSP rfl hI.2.2.2.2.2.2.2.2.2.2.2.2.2.2.2.2.2.2.2.2.2.2.2.2.2.2.2.2.2.2.2.2.2.2.2.2.2.2.2.1)
    have k_xSL : xSL W := by
      rw [hW]
      exact (uxSL rfl hI.2.2.2.2.2.2.2.2.2.2.2.2.2.2.2.2.2.2.2.2.2.2.2.2.2.2.2.2.2.2.2.2.2.2.2.2.2.2.2.2.1)
    have k_xSM : xSM W := by
      rw [hW]
      exact (uxSM rfl hI.2.2.2.2.2.2.2.2.2.2.2.2.2.2.2.2.2.2.2.2.2.2.2.2.2.2.2.2.2.2.2.2.2.2.2.2.2.2.2.2.2.1)
    have k_xSI : xSI W := by
      rw [hW]
      exact (uxSI rfl hI.2.2.2.2.2.2.2.2.2.2.2.2.2.2.2.2.2.2.2.2.2.2.2.2.2.2.2.2.2.2.2.2.2.2.2.2.2.2.2.2.2.2)
    have k_XC : XC W := ⟨k_xS1, k_xS2, k_xS3, k_xS4, k_xS5, k_xS6, k_xS7, k_xS8, k_xS9, k_xSA, k_xSG, k_xSF, k_xSB, k_xSC, k_xSD, k_xSE, k_xSW, k_xST, k_xSP, k_xSL, k_xSM, k_xSI⟩
    have kXB : XB W := ⟨k_xN1, k_xN2, k_xN3, k_xN4, k_xN5, k_xN6, k_xH1, k_xK1, k_xC1, k_xRW, k_xWT, k_xCU, k_xG2, k_xG3, k_xG4, k_xG5, k_xG6, k_XC⟩
    exact ⟨base, k2, k3, kXA, kXB⟩
-- langMissR4H
def xr_461 : qRu := (3, [[(-679777473, 0), (1, 2)]], [(4, 226, [(1, 0)]), (4, 227, [(4, 0)]), (4, 219, [(1, 2)])], [], [(4, 227, [(5, 0)])], [])
theorem xo_461 : qRok xr_461 := by
  intro ρ M h0 hf hm hI
  have f0 := hf [(-679777473, 0), (1, 2)] (by decide)
  simp only [qD, h0] at f0
  have m0 : M 4 226 = 1 * ρ 0 + 0 := hm (4, 226, [(1, 0)]) (by decide)
  have m1 : M 4 227 = 4 * ρ 0 + 0 := hm (4, 227, [(4, 0)]) (by decide)
  have m2 : M 4 219 = 1 * ρ 2 + 0 := hm (4, 219, [(1, 2)]) (by decide)
  simp only [h0] at m0 m1
  have qxSC := hI.2.2.2.2.2.2.2.2.2.2.2.2.2.2.2.2.2.2.2.2.2.2.2.2.2.2.2.2.2.2.2.2.2.2.1
  obtain ⟨l1, l2, l3⟩ := gx_xSC hI (by omega)
  refine ⟨ρ, fun _ _ => rfl, fun f h => ?_, ?_⟩
  · exact nomatch h
  · show sI (sU M 4 227 (5 * ρ 0 + 0))
    obtain ⟨W, hW⟩ : ∃ W, W = (sU M 4 227 (5 * ρ 0 + 0)) := ⟨_, rfl⟩
    rw [← hW]
    have base : sI0 W := by
      rw [hW]
      exact (si_u0 hI.1 (fun r hr => by cases hr))
    have k2 : XI2 W := by
      rw [hW]
      exact (xi2_u rfl hI.2.1)
    have k3 : XI3 W := by
      rw [hW]
      exact (xi3_u rfl hI.2.2.1)
    have kXA : XA W := by
      rw [hW]
      exact (uXA rfl hI.2.2.2.1)
    have k_xN1 : xN1 W := by
      rw [hW]
      exact (uxN1 rfl hI.2.2.2.2.1)
    have k_xN2 : xN2 W := by
      rw [hW]
      exact (uxN2 rfl hI.2.2.2.2.2.1)
    have k_xN3 : xN3 W := by
      rw [hW]
      exact (uxN3 rfl hI.2.2.2.2.2.2.1)
    have k_xN4 : xN4 W := by
      rw [hW]
      exact (uxN4 rfl hI.2.2.2.2.2.2.2.1)
    have k_xN5 : xN5 W := by
      rw [hW]
      exact (uxN5 rfl hI.2.2.2.2.2.2.2.2.1)
    have k_xN6 : xN6 W := by
      rw [hW]
      exact (uxN6 rfl hI.2.2.2.2.2.2.2.2.2.1)
    have k_xH1 : xH1 W := by
      rw [hW]
      exact (uxH1 rfl hI.2.2.2.2.2.2.2.2.2.2.1)
    have k_xK1 : xK1 W := by
      rw [hW]
      exact (uxK1 rfl hI.2.2.2.2.2.2.2.2.2.2.2.1)
    have k_xC1 : xC1 W := by
      rw [hW]
      exact (uxC1 rfl hI.2.2.2.2.2.2.2.2.2.2.2.2.1)
    have k_xRW : xRW W := by
      rw [hW]
      exact (uxRW rfl hI.2.2.2.2.2.2.2.2.2.2.2.2.2.1)
    have k_xWT : xWT W := by
      rw [hW]
      exact (uxWT rfl hI.2.2.2.2.2.2.2.2.2.2.2.2.2.2.1)
    have k_xCU : xCU W := by
      rw [hW]
      exact (uxCU rfl hI.2.2.2.2.2.2.2.2.2.2.2.2.2.2.2.1)
    have k_xG2 : xG2 W := by
      rw [hW]
      exact (uxG2 rfl hI.2.2.2.2.2.2.2.2.2.2.2.2.2.2.2.2.1)
    have k_xG3 : xG3 W := by
      rw [hW]
      exact (uxG3 rfl hI.2.2.2.2.2.2.2.2.2.2.2.2.2.2.2.2.2.1)
    have k_xG4 : xG4 W := by
      rw [hW]
      exact (uxG4 rfl hI.2.2.2.2.2.2.2.2.2.2.2.2.2.2.2.2.2.2.1)
    have k_xG5 : xG5 W := by
      rw [hW]
      exact (uxG5 rfl hI.2.2.2.2.2.2.2.2.2.2.2.2.2.2.2.2.2.2.2.1)
    have k_xG6 : xG6 W := by
      rw [hW]
      exact (uxG6 rfl hI.2.2.2.2.2.2.2.2.2.2.2.2.2.2.2.2.2.2.2.2.1)
    have k_xS1 : xS1 W := by
      rw [hW]
      exact (uxS1 rfl hI.2.2.2.2.2.2.2.2.2.2.2.2.2.2.2.2.2.2.2.2.2.1)
    have k_xS2 : xS2 W := by
      rw [hW]
      exact (uxS2 rfl hI.2.2.2.2.2.2.2.2.2.2.2.2.2.2.2.2.2.2.2.2.2.2.1)
    have k_xS3 : xS3 W := by
      rw [hW]
      exact (uxS3 rfl hI.2.2.2.2.2.2.2.2.2.2.2.2.2.2.2.2.2.2.2.2.2.2.2.1)
    have k_xS4 : xS4 W := by
      rw [hW]
      exact (uxS4 rfl hI.2.2.2.2.2.2.2.2.2.2.2.2.2.2.2.2.2.2.2.2.2.2.2.2.1)
    have k_xS5 : xS5 W := by
      rw [hW]
      exact (uxS5 rfl hI.2.2.2.2.2.2.2.2.2.2.2.2.2.2.2.2.2.2.2.2.2.2.2.2.2.1)
    have k_xS6 : xS6 W := by
      rw [hW]
      exact (uxS6 rfl hI.2.2.2.2.2.2.2.2.2.2.2.2.2.2.2.2.2.2.2.2.2.2.2.2.2.2.1)
    have k_xS7 : xS7 W := by
      rw [hW]
      exact (uxS7 rfl hI.2.2.2.2.2.2.2.2.2.2.2.2.2.2.2.2.2.2.2.2.2.2.2.2.2.2.2.1)
    have k_xS8 : xS8 W := by
      rw [hW]
      exact (uxS8 rfl hI.2.2.2.2.2.2.2.2.2.2.2.2.2.2.2.2.2.2.2.2.2.2.2.2.2.2.2.2.1)
    have k_xS9 : xS9 W := by
      rw [hW]
      exact (uxS9 rfl hI.2.2.2.2.2.2.2.2.2.2.2.2.2.2.2.2.2.2.2.2.2.2.2.2.2.2.2.2.2.1)
    have k_xSA : xSA W := by
      rw [hW]
      exact (uxSA rfl hI.2.2.2.2.2.2.2.2.2.2.2.2.2.2.2.2.2.2.2.2.2.2.2.2.2.2.2.2.2.2.1)
    have k_xSG : xSG W := by
      rw [hW]
      exact (uxSG rfl hI.2.2.2.2.2.2.2.2.2.2.2.2.2.2.2.2.2.2.2.2.2.2.2.2.2.2.2.2.2.2.2.1)
    have k_xSF : xSF W := by
      rw [hW]
      exact (uxSF rfl hI.2.2.2.2.2.2.2.2.2.2.2.2.2.2.2.2.2.2.2.2.2.2.2.2.2.2.2.2.2.2.2.2.1)
    have k_xSB : xSB W := by
      rw [hW]
      exact (uxSB rfl hI.2.2.2.2.2.2.2.2.2.2.2.2.2.2.2.2.2.2.2.2.2.2.2.2.2.2.2.2.2.2.2.2.2.1)
    have k_xSC : xSC W := by
      have r4_226 : W 4 226 = M 4 226 := by rw [hW, sU_ne (fun z => by omega)]
      have r4_227 : W 4 227 = 5 * ρ 0 + 0 := by rw [hW, sU_at]
      have r4_219 : W 4 219 = M 4 219 := by rw [hW, sU_ne (fun z => by omega)]
      intro h
      rw [r4_227, r4_219, h0]
      refine ⟨by omega, by omega, ?_⟩
      have e1 := tki_on (x := M 4 219) (w := 4) (show tLa[4]? = some (679777472 : Int) from rfl)
      rw [if_neg (by omega)] at e1
      rw [show M 4 227 = 4 by omega] at l3
      rw [← l3]
      exact e1.symm
    have k_xSD : xSD W := by
      rw [hW]
      exact (uxSD rfl hI.2.2.2.2.2.2.2.2.2.2.2.2.2.2.2.2.2.2.2.2.2.2.2.2.2.2.2.2.2.2.2.2.2.2.2.1)
    have k_xSE : xSE W := by
      rw [hW]
      exact (uxSE rfl hI.2.2.2.2.2.2.2.2.2.2.2.2.2.2.2.2.2.2.2.2.2.2.2.2.2.2.2.2.2.2.2.2.2.2.2.2.1)
    have k_xSW : xSW W := by
      rw [hW]
      exact (uxSW rfl hI.2.2.2.2.2.2.2.2.2.2.2.2.2.2.2.2.2.2.2.2.2.2.2.2.2.2.2.2.2.2.2.2.2.2.2.2.2.1)
    have k_xST : xST W := by
      rw [hW]
      exact (uxST rfl hI.2.2.2.2.2.2.2.2.2.2.2.2.2.2.2.2.2.2.2.2.2.2.2.2.2.2.2.2.2.2.2.2.2.2.2.2.2.2.1)
    have k_xSP : xSP W := by
      rw [hW]
      exact (uxSP rfl hI.2.2.2.2.2.2.2.2.2.2.2.2.2.2.2.2.2.2.2.2.2.2.2.2.2.2.2.2.2.2.2.2.2.2.2.2.2.2.2.1)
    have k_xSL : xSL W := by
      rw [hW]
      exact (uxSL rfl hI.2.2.2.2.2.2.2.2.2.2.2.2.2.2.2.2.2.2.2.2.2.2.2.2.2.2.2.2.2.2.2.2.2.2.2.2.2.2.2.2.1)
    have k_xSM : xSM W := by
      rw [hW]
      exact (uxSM rfl hI.2.2.2.2.2.2.2.2.2.2.2.2.2.2.2.2.2.2.2.2.2.2.2.2.2.2.2.2.2.2.2.2.2.2.2.2.2.2.2.2.2.1)
    have k_xSI : xSI W := by
      rw [hW]
      exact (uxSI rfl hI.2.2.2.2.2.2.2.2.2.2.2.2.2.2.2.2.2.2.2.2.2.2.2.2.2.2.2.2.2.2.2.2.2.2.2.2.2.2.2.2.2.2)
    have k_XC : XC W := ⟨k_xS1, k_xS2, k_xS3, k_xS4, k_xS5, k_xS6, k_xS7, k_xS8, k_xS9, k_xSA, k_xSG, k_xSF, k_xSB, k_xSC, k_xSD, k_xSE, k_xSW, k_xST, k_xSP, k_xSL, k_xSM, k_xSI⟩
    have kXB : XB W := ⟨k_xN1, k_xN2, k_xN3, k_xN4, k_xN5, k_xN6, k_xH1, k_xK1, k_xC1, k_xRW, k_xWT, k_xCU, k_xG2, k_xG3, k_xG4, k_xG5, k_xG6, k_XC⟩
    exact ⟨base, k2, k3, kXA, kXB⟩
-- wHitR5_c
def xr_462 : qRu := (13, [[(-1, 0), (1, 5)], [(1, 1)], [(-1, 1), (1, 9)], [(1, 1), (-1, 9)], [(-1, 0), (-1, 1), (1, 10)], [(6, 0), (1, 9), (-1, 10)], [(-773403648, 0), (1, 11)], [(773403648, 0), (-1, 11)]], [(4, 210, [(1, 0)]), (4, 211, [(1, 1)]), (4, 101, [(1, 2)]), (3, 46, [(1, 3)]), (3, 47, [(1, 4)]), (4, 100, [(1, 5)]), (3, 44, [(1, 6)]), (3, 45, [(1, 7)]), (4, 107, [(1, 8)]), (4, 214, [(1, 0)]), (4, 215, [(1, 9)]), (4, 217, [(1, 10)]), (4, 219, [(1, 11)]), (4, 216, [(1, 12)])], [], [], [[(-1, 1), (1, 3)], [(1, 1), (-1, 3)], [(1, 4), (-1, 10)], [(-1, 4), (1, 10)], [(-23, 0), (1, 6)], [(23, 0), (-1, 6)], [(1, 7), (-1, 11)], [(-1, 7), (1, 11)]])
theorem xo_462 : qRok xr_462 := by
  intro ρ M h0 hf hm hI
  have f0 := hf [(-1, 0), (1, 5)] (by decide)
  have f1 := hf [(1, 1)] (by decide)
  have f2 := hf [(-1, 1), (1, 9)] (by decide)
  have f3 := hf [(1, 1), (-1, 9)] (by decide)
  have f4 := hf [(-1, 0), (-1, 1), (1, 10)] (by decide)
  have f5 := hf [(6, 0), (1, 9), (-1, 10)] (by decide)
  have f6 := hf [(-773403648, 0), (1, 11)] (by decide)
  have f7 := hf [(773403648, 0), (-1, 11)] (by decide)
  simp only [qD, h0] at f0 f1 f2 f3 f4 f5 f6 f7
  have m0 : M 4 210 = 1 * ρ 0 + 0 := hm (4, 210, [(1, 0)]) (by decide)
  have m1 : M 4 211 = 1 * ρ 1 + 0 := hm (4, 211, [(1, 1)]) (by decide)
  have m2 : M 4 101 = 1 * ρ 2 + 0 := hm (4, 101, [(1, 2)]) (by decide)
  have m3 : M 3 46 = 1 * ρ 3 + 0 := hm (3, 46, [(1, 3)]) (by decide)
  have m4 : M 3 47 = 1 * ρ 4 + 0 := hm (3, 47, [(1, 4)]) (by decide)
  have m5 : M 4 100 = 1 * ρ 5 + 0 := hm (4, 100, [(1, 5)]) (by decide)
  have m6 : M 3 44 = 1 * ρ 6 + 0 := hm (3, 44, [(1, 6)]) (by decide)
  have m7 : M 3 45 = 1 * ρ 7 + 0 := hm (3, 45, [(1, 7)]) (by decide)
  have m8 : M 4 107 = 1 * ρ 8 + 0 := hm (4, 107, [(1, 8)]) (by decide)
  have m9 : M 4 214 = 1 * ρ 0 + 0 := hm (4, 214, [(1, 0)]) (by decide)
  have m10 : M 4 215 = 1 * ρ 9 + 0 := hm (4, 215, [(1, 9)]) (by decide)
  have m11 : M 4 217 = 1 * ρ 10 + 0 := hm (4, 217, [(1, 10)]) (by decide)
  have m12 : M 4 219 = 1 * ρ 11 + 0 := hm (4, 219, [(1, 11)]) (by decide)
  have m13 : M 4 216 = 1 * ρ 12 + 0 := hm (4, 216, [(1, 12)]) (by decide)
  simp only [h0] at m0 m9
  obtain ⟨u1, u2, _⟩ := gx_xS8 hI (by omega)

  obtain ⟨a1, a2, a3, a4, a5, a6, a7⟩ := gx_xSA hI (by omega)
  have eq1 : (M 4 215).toNat = (M 4 211).toNat := by omega
  rw [eq1] at a6 a7
  have hgt := ten_gt (g := M 92) (lo := 97) (hi := 122) (n := (M 4 101).toNat) (q := (M 4 211).toNat) (by omega)
  have el1 : (M 4 217 - M 4 215).toNat = tEn (M 92) 97 122 (M 4 101).toNat (M 4 211).toNat - (M 4 211).toNat := by omega
  rw [el1] at a7

  obtain ⟨t1, t2, t3, t4, t5, t6⟩ := tk_of hI (by omega) (by omega) (by omega) (show tAt (M 92) (M 4 101).toNat (M 4 211).toNat (M 4 107) (M 4 108) = (23, M 4 219, ((M 4 211).toNat : Int), M 4 217, 0, 5) from by
    unfold tAt
    rw [if_neg (by omega), if_pos hgt.2]
    unfold tWo
    rw [← a7, ← a6]
    have hk : tKi (M 4 219) 0 = 23 := by
      rw [show M 4 219 = 773403648 by omega]
      decide
    have h6 : ¬ (6 < tEn (M 92) 97 122 (M 4 101).toNat (M 4 211).toNat - (M 4 211).toNat) := by omega
    unfold tWk tWs tWv
    rw [if_neg h6, if_neg h6, if_neg h6, hk]
    rfl)
  refine ⟨ρ, fun _ _ => rfl, fun f h => ?_, ?_⟩
  · have h : f ∈ ([[(-1, 1), (1, 3)], [(1, 1), (-1, 3)], [(1, 4), (-1, 10)], [(-1, 4), (1, 10)], [(-23, 0), (1, 6)], [(23, 0), (-1, 6)], [(1, 7), (-1, 11)], [(-1, 7), (1, 11)]] : List qF) := h
    simp only [List.mem_cons, List.not_mem_nil, or_false] at h
    rcases h with rfl | rfl | rfl | rfl | rfl | rfl | rfl | rfl
    · show 0 ≤ -1 * ρ 1 + (1 * ρ 3 + 0)
      (try rw [h0]); omega
    · show 0 ≤ 1 * ρ 1 + (-1 * ρ 3 + 0)
      (try rw [h0]); omega
    · show 0 ≤ 1 * ρ 4 + (-1 * ρ 10 + 0)
      (try rw [h0]); omega
    · show 0 ≤ -1 * ρ 4 + (1 * ρ 10 + 0)
      (try rw [h0]); omega
    · show 0 ≤ -23 * ρ 0 + (1 * ρ 6 + 0)
      (try rw [h0]); omega
    · show 0 ≤ 23 * ρ 0 + (-1 * ρ 6 + 0)
      (try rw [h0]); omega
    · show 0 ≤ 1 * ρ 7 + (-1 * ρ 11 + 0)
      (try rw [h0]); omega
    · show 0 ≤ -1 * ρ 7 + (1 * ρ 11 + 0)
      (try rw [h0]); omega
  · show sI M
    exact hI
-- wHitR5_r
def xr_463 : qRu := (13, [[(-1, 0), (1, 5)], [(1, 1)], [(-1, 1), (1, 9)], [(1, 1), (-1, 9)], [(-1, 0), (-1, 1), (1, 10)], [(6, 0), (1, 9), (-1, 10)], [(-773403648, 0), (1, 11)], [(773403648, 0), (-1, 11)]], [(4, 210, [(1, 0)]), (4, 211, [(1, 1)]), (4, 101, [(1, 2)]), (3, 46, [(1, 3)]), (3, 47, [(1, 4)]), (4, 100, [(1, 5)]), (3, 50, [(1, 6)]), (3, 51, [(1, 7)]), (4, 108, [(1, 8)]), (4, 214, [(1, 0)]), (4, 215, [(1, 9)]), (4, 217, [(1, 10)]), (4, 219, [(1, 11)]), (4, 216, [(1, 12)])], [], [], [[(-1, 1), (1, 3)], [(1, 1), (-1, 3)], [(1, 4), (-1, 10)], [(-1, 4), (1, 10)], [(1, 6)], [(-1, 6)], [(-5, 0), (1, 7)], [(5, 0), (-1, 7)]])
theorem xo_463 : qRok xr_463 := by
  intro ρ M h0 hf hm hI
  have f0 := hf [(-1, 0), (1, 5)] (by decide)
  have f1 := hf [(1, 1)] (by decide)
  have f2 := hf [(-1, 1), (1, 9)] (by decide)
  have f3 := hf [(1, 1), (-1, 9)] (by decide)
  have f4 := hf [(-1, 0), (-1, 1), (1, 10)] (by decide)
  have f5 := hf [(6, 0), (1, 9), (-1, 10)] (by decide)
  have f6 := hf [(-773403648, 0), (1, 11)] (by decide)
  have f7 := hf [(773403648, 0), (-1, 11)] (by decide)
  simp only [qD, h0] at f0 f1 f2 f3 f4 f5 f6 f7
  have m0 : M 4 210 = 1 * ρ 0 + 0 := hm (4, 210, [(1, 0)]) (by decide)
  have m1 : M 4 211 = 1 * ρ 1 + 0 := hm (4, 211, [(1, 1)]) (by decide)
  have m2 : M 4 101 = 1 * ρ 2 + 0 := hm (4, 101, [(1, 2)]) (by decide)
  have m3 : M 3 46 = 1 * ρ 3 + 0 := hm (3, 46, [(1, 3)]) (by decide)
  have m4 : M 3 47 = 1 * ρ 4 + 0 := hm (3, 47, [(1, 4)]) (by decide)
  have m5 : M 4 100 = 1 * ρ 5 + 0 := hm (4, 100, [(1, 5)]) (by decide)
  have m6 : M 3 50 = 1 * ρ 6 + 0 := hm (3, 50, [(1, 6)]) (by decide)
  have m7 : M 3 51 = 1 * ρ 7 + 0 := hm (3, 51, [(1, 7)]) (by decide)
  have m8 : M 4 108 = 1 * ρ 8 + 0 := hm (4, 108, [(1, 8)]) (by decide)
  have m9 : M 4 214 = 1 * ρ 0 + 0 := hm (4, 214, [(1, 0)]) (by decide)
  have m10 : M 4 215 = 1 * ρ 9 + 0 := hm (4, 215, [(1, 9)]) (by decide)
  have m11 : M 4 217 = 1 * ρ 10 + 0 := hm (4, 217, [(1, 10)]) (by decide)
  have m12 : M 4 219 = 1 * ρ 11 + 0 := hm (4, 219, [(1, 11)]) (by decide)
  have m13 : M 4 216 = 1 * ρ 12 + 0 := hm (4, 216, [(1, 12)]) (by decide)
  simp only [h0] at m0 m9
  obtain ⟨u1, u2, _⟩ := gx_xS8 hI (by omega)

  obtain ⟨a1, a2, a3, a4, a5, a6, a7⟩ := gx_xSA hI (by omega)
  have eq1 : (M 4 215).toNat = (M 4 211).toNat := by omega
  rw [eq1] at a6 a7
  have hgt := ten_gt (g := M 92) (lo := 97) (hi := 122) (n := (M 4 101).toNat) (q := (M 4 211).toNat) (by omega)
  have el1 : (M 4 217 - M 4 215).toNat = tEn (M 92) 97 122 (M 4 101).toNat (M 4 211).toNat - (M 4 211).toNat := by omega
  rw [el1] at a7

  obtain ⟨t1, t2, t3, t4, t5, t6⟩ := tk_of hI (by omega) (by omega) (by omega) (show tAt (M 92) (M 4 101).toNat (M 4 211).toNat (M 4 107) (M 4 108) = (23, M 4 219, ((M 4 211).toNat : Int), M 4 217, 0, 5) from by
    unfold tAt
    rw [if_neg (by omega), if_pos hgt.2]
    unfold tWo
    rw [← a7, ← a6]
    have hk : tKi (M 4 219) 0 = 23 := by
      rw [show M 4 219 = 773403648 by omega]
      decide
    have h6 : ¬ (6 < tEn (M 92) 97 122 (M 4 101).toNat (M 4 211).toNat - (M 4 211).toNat) := by omega
    unfold tWk tWs tWv
    rw [if_neg h6, if_neg h6, if_neg h6, hk]
    rfl)
  refine ⟨ρ, fun _ _ => rfl, fun f h => ?_, ?_⟩
  · have h : f ∈ ([[(-1, 1), (1, 3)], [(1, 1), (-1, 3)], [(1, 4), (-1, 10)], [(-1, 4), (1, 10)], [(1, 6)], [(-1, 6)], [(-5, 0), (1, 7)], [(5, 0), (-1, 7)]] : List qF) := h
    simp only [List.mem_cons, List.not_mem_nil, or_false] at h
    rcases h with rfl | rfl | rfl | rfl | rfl | rfl | rfl | rfl
    · show 0 ≤ -1 * ρ 1 + (1 * ρ 3 + 0)
      (try rw [h0]); omega
    · show 0 ≤ 1 * ρ 1 + (-1 * ρ 3 + 0)
      (try rw [h0]); omega
    · show 0 ≤ 1 * ρ 4 + (-1 * ρ 10 + 0)
      (try rw [h0]); omega
    · show 0 ≤ -1 * ρ 4 + (1 * ρ 10 + 0)
      (try rw [h0]); omega
    · show 0 ≤ 1 * ρ 6 + 0
      (try rw [h0]); omega
    · show 0 ≤ -1 * ρ 6 + 0
      (try rw [h0]); omega
    · show 0 ≤ -5 * ρ 0 + (1 * ρ 7 + 0)
      (try rw [h0]); omega
    · show 0 ≤ 5 * ρ 0 + (-1 * ρ 7 + 0)
      (try rw [h0]); omega
  · show sI M
    exact hI
-- langMissR5L
def xr_464 : qRu := (3, [[(773403647, 0), (-1, 2)]], [(4, 226, [(1, 0)]), (4, 227, [(5, 0)]), (4, 219, [(1, 2)])], [], [(4, 227, [(6, 0)])], [])
theorem xo_464 : qRok xr_464 := by
  intro ρ M h0 hf hm hI
  have f0 := hf [(773403647, 0), (-1, 2)] (by decide)
  simp only [qD, h0] at f0
  have m0 : M 4 226 = 1 * ρ 0 + 0 := hm (4, 226, [(1, 0)]) (by decide)
  have m1 : M 4 227 = 5 * ρ 0 + 0 := hm (4, 227, [(5, 0)]) (by decide)
  have m2 : M 4 219 = 1 * ρ 2 + 0 := hm (4, 219, [(1, 2)]) (by decide)
  simp only [h0] at m0 m1
  have qxSC := hI.2.2.2.2.2.2.2.2.2.2.2.2.2.2.2.2.2.2.2.2.2.2.2.2.2.2.2.2.2.2.2.2.2.2.1
  obtain ⟨l1, l2, l3⟩ := gx_xSC hI (by omega)
  refine ⟨ρ, fun _ _ => rfl, fun f h => ?_, ?_⟩
  · exact nomatch h
  · show sI (sU M 4 227 (6 * ρ 0 + 0))
    obtain ⟨W, hW⟩ : ∃ W, W = (sU M 4 227 (6 * ρ 0 + 0)) := ⟨_, rfl⟩
    rw [← hW]
    have base : sI0 W := by
      rw [hW]
      exact (si_u0 hI.1 (fun r hr => by cases hr))
    have k2 : XI2 W := by
      rw [hW]
      exact (xi2_u rfl hI.2.1)
    have k3 : XI3 W := by
      rw [hW]
      exact (xi3_u rfl hI.2.2.1)
    have kXA : XA W := by
      rw [hW]
      exact (uXA rfl hI.2.2.2.1)
    have k_xN1 : xN1 W := by
      rw [hW]
      exact (uxN1 rfl hI.2.2.2.2.1)
    have k_xN2 : xN2 W := by
      rw [hW]
      exact (uxN2 rfl hI.2.2.2.2.2.1)
    have k_xN3 : xN3 W := by
      rw [hW]
      exact (uxN3 rfl hI.2.2.2.2.2.2.1)
    have k_xN4 : xN4 W := by
      rw [hW]
      exact (uxN4 rfl hI.2.2.2.2.2.2.2.1)
    have k_xN5 : xN5 W := by
      rw [hW]
      exact (uxN5 rfl hI.2.2.2.2.2.2.2.2.1)
    have k_xN6 : xN6 W := by
      rw [hW]
      exact (uxN6 rfl hI.2.2.2.2.2.2.2.2.2.1)
    have k_xH1 : xH1 W := by
      rw [hW]
      exact (uxH1 rfl hI.2.2.2.2.2.2.2.2.2.2.1)
    have k_xK1 : xK1 W := by
      rw [hW]
      exact (uxK1 rfl hI.2.2.2.2.2.2.2.2.2.2.2.1)
    have k_xC1 : xC1 W := by
      rw [hW]
      exact (uxC1 rfl hI.2.2.2.2.2.2.2.2.2.2.2.2.1)
    have k_xRW : xRW W := by
      rw [hW]
      exact (uxRW rfl hI.2.2.2.2.2.2.2.2.2.2.2.2.2.1)
    have k_xWT : xWT W := by
      rw [hW]
      exact (uxWT rfl hI.2.2.2.2.2.2.2.2.2.2.2.2.2.2.1)
    have k_xCU : xCU W := by
      rw [hW]
      exact (uxCU rfl hI.2.2.2.2.2.2.2.2.2.2.2.2.2.2.2.1)
    have k_xG2 : xG2 W := by
      rw [hW]
      exact (uxG2 rfl hI.2.2.2.2.2.2.2.2.2.2.2.2.2.2.2.2.1)
    have k_xG3 : xG3 W := by
      rw [hW]
      exact (uxG3 rfl hI.2.2.2.2.2.2.2.2.2.2.2.2.2.2.2.2.2.1)
    have k_xG4 : xG4 W := by
      rw [hW]
      exact (uxG4 rfl hI.2.2.2.2.2.2.2.2.2.2.2.2.2.2.2.2.2.2.1)
    have k_xG5 : xG5 W := by
      rw [hW]
      exact (uxG5 rfl hI.2.2.2.2.2.2.2.2.2.2.2.2.2.2.2.2.2.2.2.1)
    have k_xG6 : xG6 W := by
      rw [hW]
      exact (uxG6 rfl hI.2.2.2.2.2.2.2.2.2.2.2.2.2.2.2.2.2.2.2.2.1)
    have k_xS1 : xS1 W := by
      rw [hW]
      exact (uxS1 rfl hI.2.2.2.2.2.2.2.2.2.2.2.2.2.2.2.2.2.2.2.2.2.1)
    have k_xS2 : xS2 W := by
      rw [hW]
      exact (uxS2 rfl hI.2.2.2.2.2.2.2.2.2.2.2.2.2.2.2.2.2.2.2.2.2.2.1)
    have k_xS3 : xS3 W := by
      rw [hW]
      exact (uxS3 rfl hI.2.2.2.2.2.2.2.2.2.2.2.2.2.2.2.2.2.2.2.2.2.2.2.1)
    have k_xS4 : xS4 W := by
      rw [hW]
      exact (uxS4 rfl hI.2.2.2.2.2.2.2.2.2.2.2.2.2.2.2.2.2.2.2.2.2.2.2.2.1)
    have k_xS5 : xS5 W := by
      rw [hW]
      exact (uxS5 rfl hI.2.2.2.2.2.2.2.2.2.2.2.2.2.2.2.2.2.2.2.2.2.2.2.2.2.1)
    have k_xS6 : xS6 W := by
      rw [hW]
      exact (uxS6 rfl hI.2.2.2.2.2.2.2.2.2.2.2.2.2.2.2.2.2.2.2.2.2.2.2.2.2.2.1)
    have k_xS7 : xS7 W := by
      rw [hW]
      exact (uxS7 rfl hI.2.2.2.2.2.2.2.2.2.2.2.2.2.2.2.2.2.2.2.2.2.2.2.2.2.2.2.1)
    have k_xS8 : xS8 W := by
      rw [hW]
      exact (uxS8 rfl hI.2.2.2.2.2.2.2.2.2.2.2.2.2.2.2.2.2.2.2.2.2.2.2.2.2.2.2.2.1)
    have k_xS9 : xS9 W := by
      rw [hW]
      exact (uxS9 rfl hI.2.2.2.2.2.2.2.2.2.2.2.2.2.2.2.2.2.2.2.2.2.2.2.2.2.2.2.2.2.1)
    have k_xSA : xSA W := by
      rw [hW]
      exact (uxSA rfl hI.2.2.2.2.2.2.2.2.2.2.2.2.2.2.2.2.2.2.2.2.2.2.2.2.2.2.2.2.2.2.1)
    have k_xSG : xSG W := by
      rw [hW]
      exact (uxSG rfl hI.2.2.2.2.2.2.2.2.2.2.2.2.2.2.2.2.2.2.2.2.2.2.2.2.2.2.2.2.2.2.2.1)
    have k_xSF : xSF W := by
      rw [hW]
      exact (uxSF rfl hI.2.2.2.2.2.2.2.2.2.2.2.2.2.2.2.2.2.2.2.2.2.2.2.2.2.2.2.2.2.2.2.2.1)
    have k_xSB : xSB W := by
      rw [hW]
      exact (uxSB rfl hI.2.2.2.2.2.2.2.2.2.2.2.2.2.2.2.2.2.2.2.2.2.2.2.2.2.2.2.2.2.2.2.2.2.1)
    have k_xSC : xSC W := by
      have r4_226 : W 4 226 = M 4 226 := by rw [hW, sU_ne (fun z => by omega)]
      have r4_227 : W 4 227 = 6 * ρ 0 + 0 := by rw [hW, sU_at]
      have r4_219 : W 4 219 = M 4 219 := by rw [hW, sU_ne (fun z => by omega)]
      intro h
      rw [r4_227, r4_219, h0]
      refine ⟨by omega, by omega, ?_⟩
      have e1 := tki_on (x := M 4 219) (w := 5) (show tLa[5]? = some (773403648 : Int) from rfl)
      rw [if_neg (by omega)] at e1
      rw [show M 4 227 = 5 by omega] at l3
      rw [← l3]
      exact e1.symm
    have k_xSD : xSD W := by
      rw [hW]
      exact (uxSD rfl hI.2.2.2.2.2.2.2.2.2.2.2.2.2.2.2.2.2.2.2.2.2.2.2.2.2.2.2.2.2.2.2.2.2.2.2.1)
    have k_xSE : xSE W := by
      rw [hW]
      exact (uxSE rfl hI.2.2.2.2.2.2.2.2.2.2.2.2.2.2.2.2.2.2.2.2.2.2.2.2.2.2.2.2.2.2.2.2.2.2.2.2.1)
    have k_xSW : xSW W := by
      rw [hW]
      exact (uxSW rfl hI.2.2.2.2.2.2.2.2.2.2.2.2.2.2.2.2.2.2.2.2.2.2.2.2.2.2.2.2.2.2.2.2.2.2.2.2.2.1)
    have k_xST : xST W := by
      rw [hW]
      exact (uxST rfl hI.2.2.2.2.2.2.2.2.2.2.2.2.2.2.2.2.2.2.2.2.2.2.2.2.2.2.2.2.2.2.2.2.2.2.2.2.2.2.1)
    have k_xSP : xSP W := by
      rw [hW]
      exact (uxSP rfl hI.2.2.2.2.2.2.2.2.2.2.2.2.2.2.2.2.2.2.2.2.2.2.2.2.2.2.2.2.2.2.2.2.2.2.2.2.2.2.2.1)
    have k_xSL : xSL W := by
      rw [hW]
      exact (uxSL rfl hI.2.2.2.2.2.2.2.2.2.2.2.2.2.2.2.2.2.2.2.2.2.2.2.2.2.2.2.2.2.2.2.2.2.2.2.2.2.2.2.2.1)
    have k_xSM : xSM W := by
      rw [hW]
      exact (uxSM rfl hI.2.2.2.2.2.2.2.2.2.2.2.2.2.2.2.2.2.2.2.2.2.2.2.2.2.2.2.2.2.2.2.2.2.2.2.2.2.2.2.2.2.1)
    have k_xSI : xSI W := by
      rw [hW]
      exact (uxSI rfl hI.2.2.2.2.2.2.2.2.2.2.2.2.2.2.2.2.2.2.2.2.2.2.2.2.2.2.2.2.2.2.2.2.2.2.2.2.2.2.2.2.2.2)
    have k_XC : XC W := ⟨k_xS1, k_xS2, k_xS3, k_xS4, k_xS5, k_xS6, k_xS7, k_xS8, k_xS9, k_xSA, k_xSG, k_xSF, k_xSB, k_xSC, k_xSD, k_xSE, k_xSW, k_xST, k_xSP, k_xSL, k_xSM, k_xSI⟩
    have kXB : XB W := ⟨k_xN1, k_xN2, k_xN3, k_xN4, k_xN5, k_xN6, k_xH1, k_xK1, k_xC1, k_xRW, k_xWT, k_xCU, k_xG2, k_xG3, k_xG4, k_xG5, k_xG6, k_XC⟩
    exact ⟨base, k2, k3, kXA, kXB⟩
-- langMissR5H
def xr_465 : qRu := (3, [[(-773403649, 0), (1, 2)]], [(4, 226, [(1, 0)]), (4, 227, [(5, 0)]), (4, 219, [(1, 2)])], [], [(4, 227, [(6, 0)])], [])
theorem xo_465 : qRok xr_465 := by
  intro ρ M h0 hf hm hI
  have f0 := hf [(-773403649, 0), (1, 2)] (by decide)
  simp only [qD, h0] at f0
  have m0 : M 4 226 = 1 * ρ 0 + 0 := hm (4, 226, [(1, 0)]) (by decide)
  have m1 : M 4 227 = 5 * ρ 0 + 0 := hm (4, 227, [(5, 0)]) (by decide)
  have m2 : M 4 219 = 1 * ρ 2 + 0 := hm (4, 219, [(1, 2)]) (by decide)
  simp only [h0] at m0 m1
  have qxSC := hI.2.2.2.2.2.2.2.2.2.2.2.2.2.2.2.2.2.2.2.2.2.2.2.2.2.2.2.2.2.2.2.2.2.2.1
  obtain ⟨l1, l2, l3⟩ := gx_xSC hI (by omega)
  refine ⟨ρ, fun _ _ => rfl, fun f h => ?_, ?_⟩
  · exact nomatch h
  · show sI (sU M 4 227 (6 * ρ 0 + 0))
    obtain ⟨W, hW⟩ : ∃ W, W = (sU M 4 227 (6 * ρ 0 + 0)) := ⟨_, rfl⟩
    rw [← hW]
    have base : sI0 W := by
      rw [hW]
      exact (si_u0 hI.1 (fun r hr => by cases hr))
    have k2 : XI2 W := by
      rw [hW]
      exact (xi2_u rfl hI.2.1)
    have k3 : XI3 W := by
      rw [hW]
      exact (xi3_u rfl hI.2.2.1)
    have kXA : XA W := by
      rw [hW]
      exact (uXA rfl hI.2.2.2.1)
    have k_xN1 : xN1 W := by
      rw [hW]
      exact (uxN1 rfl hI.2.2.2.2.1)
    have k_xN2 : xN2 W := by
      rw [hW]
      exact (uxN2 rfl hI.2.2.2.2.2.1)
    have k_xN3 : xN3 W := by
      rw [hW]
      exact (uxN3 rfl hI.2.2.2.2.2.2.1)
    have k_xN4 : xN4 W := by
      rw [hW]
      exact (uxN4 rfl hI.2.2.2.2.2.2.2.1)
    have k_xN5 : xN5 W := by
      rw [hW]
      exact (uxN5 rfl hI.2.2.2.2.2.2.2.2.1)
    have k_xN6 : xN6 W := by
      rw [hW]
      exact (uxN6 rfl hI.2.2.2.2.2.2.2.2.2.1)
    have k_xH1 : xH1 W := by
      rw [hW]
      exact (uxH1 rfl hI.2.2.2.2.2.2.2.2.2.2.1)
    have k_xK1 : xK1 W := by
      rw [hW]
      exact (uxK1 rfl hI.2.2.2.2.2.2.2.2.2.2.2.1)
    have k_xC1 : xC1 W := by
      rw [hW]
      exact (uxC1 rfl hI.2.2.2.2.2.2.2.2.2.2.2.2.1)
    have k_xRW : xRW W := by
      rw [hW]
      exact (uxRW rfl hI.2.2.2.2.2.2.2.2.2.2.2.2.2.1)
    have k_xWT : xWT W := by
      rw [hW]
      exact (uxWT rfl hI.2.2.2.2.2.2.2.2.2.2.2.2.2.2.1)
    have k_xCU : xCU W := by
      rw [hW]
      exact (uxCU rfl hI.2.2.2.2.2.2.2.2.2.2.2.2.2.2.2.1)
    have k_xG2 : xG2 W := by
      rw [hW]
      exact (uxG2 rfl hI.2.2.2.2.2.2.2.2.2.2.2.2.2.2.2.2.1)
    have k_xG3 : xG3 W := by
      rw [hW]
      exact (uxG3 rfl hI.2.2.2.2.2.2.2.2.2.2.2.2.2.2.2.2.2.1)
    have k_xG4 : xG4 W := by
      rw [hW]
      exact (uxG4 rfl hI.2.2.2.2.2.2.2.2.2.2.2.2.2.2.2.2.2.2.1)
    have k_xG5 : xG5 W := by
      rw [hW]
      exact (uxG5 rfl hI.2.2.2.2.2.2.2.2.2.2.2.2.2.2.2.2.2.2.2.1)
    have k_xG6 : xG6 W := by
      rw [hW]
      exact (uxG6 rfl hI.2.2.2.2.2.2.2.2.2.2.2.2.2.2.2.2.2.2.2.2.1)
    have k_xS1 : xS1 W := by
      rw [hW]
      exact (uxS1 rfl hI.2.2.2.2.2.2.2.2.2.2.2.2.2.2.2.2.2.2.2.2.2.1)
    have k_xS2 : xS2 W := by
      rw [hW]
      exact (uxS2 rfl hI.2.2.2.2.2.2.2.2.2.2.2.2.2.2.2.2.2.2.2.2.2.2.1)
    have k_xS3 : xS3 W := by
      rw [hW]
      exact (uxS3 rfl hI.2.2.2.2.2.2.2.2.2.2.2.2.2.2.2.2.2.2.2.2.2.2.2.1)
    have k_xS4 : xS4 W := by
      rw [hW]
      exact (uxS4 rfl hI.2.2.2.2.2.2.2.2.2.2.2.2.2.2.2.2.2.2.2.2.2.2.2.2.1)
    have k_xS5 : xS5 W := by
      rw [hW]
      exact (uxS5 rfl hI.2.2.2.2.2.2.2.2.2.2.2.2.2.2.2.2.2.2.2.2.2.2.2.2.2.1)
    have k_xS6 : xS6 W := by
      rw [hW]
      exact (uxS6 rfl hI.2.2.2.2.2.2.2.2.2.2.2.2.2.2.2.2.2.2.2.2.2.2.2.2.2.2.1)
    have k_xS7 : xS7 W := by
      rw [hW]
      exact (uxS7 rfl hI.2.2.2.2.2.2.2.2.2.2.2.2.2.2.2.2.2.2.2.2.2.2.2.2.2.2.2.1)
    have k_xS8 : xS8 W := by
      rw [hW]
      exact (uxS8 rfl hI.2.2.2.2.2.2.2.2.2.2.2.2.2.2.2.2.2.2.2.2.2.2.2.2.2.2.2.2.1)
    have k_xS9 : xS9 W := by
      rw [hW]
      exact (uxS9 rfl hI.2.2.2.2.2.2.2.2.2.2.2.2.2.2.2.2.2.2.2.2.2.2.2.2.2.2.2.2.2.1)
    have k_xSA : xSA W := by
      rw [hW]
      exact (uxSA rfl hI.2.2.2.2.2.2.2.2.2.2.2.2.2.2.2.2.2.2.2.2.2.2.2.2.2.2.2.2.2.2.1)
    have k_xSG : xSG W := by
      rw [hW]
      exact (uxSG rfl hI.2.2.2.2.2.2.2.2.2.2.2.2.2.2.2.2.2.2.2.2.2.2.2.2.2.2.2.2.2.2.2.1)
    have k_xSF : xSF W := by
      rw [hW]
      exact (uxSF rfl hI.2.2.2.2.2.2.2.2.2.2.2.2.2.2.2.2.2.2.2.2.2.2.2.2.2.2.2.2.2.2.2.2.1)
    have k_xSB : xSB W := by
      rw [hW]
      exact (uxSB rfl hI.2.2.2.2.2.2.2.2.2.2.2.2.2.2.2.2.2.2.2.2.2.2.2.2.2.2.2.2.2.2.2.2.2.1)
    have k_xSC : xSC W := by
      have r4_226 : W 4 226 = M 4 226 := by rw [hW, sU_ne (fun z => by omega)]
      have r4_227 : W 4 227 = 6 * ρ 0 + 0 := by rw [hW, sU_at]
      have r4_219 : W 4 219 = M 4 219 := by rw [hW, sU_ne (fun z => by omega)]
      intro h
      rw [r4_227, r4_219, h0]
      refine ⟨by omega, by omega, ?_⟩
      have e1 := tki_on (x := M 4 219) (w := 5) (show tLa[5]? = some (773403648 : Int) from rfl)
      rw [if_neg (by omega)] at e1
      rw [show M 4 227 = 5 by omega] at l3
      rw [← l3]
      exact e1.symm
    have k_xSD : xSD W := by
      rw [hW]
      exact (uxSD rfl hI.2.2.2.2.2.2.2.2.2.2.2.2.2.2.2.2.2.2.2.2.2.2.2.2.2.2.2.2.2.2.2.2.2.2.2.1)
    have k_xSE : xSE W := by
      rw [hW]
      exact (uxSE rfl hI.2.2.2.2.2.2.2.2.2.2.2.2.2.2.2.2.2.2.2.2.2.2.2.2.2.2.2.2.2.2.2.2.2.2.2.2.1)
    have k_xSW : xSW W := by
      rw [hW]
      exact (uxSW rfl hI.2.2.2.2.2.2.2.2.2.2.2.2.2.2.2.2.2.2.2.2.2.2.2.2.2.2.2.2.2.2.2.2.2.2.2.2.2.1)
    have k_xST : xST W := by
      rw [hW]
      exact (uxST rfl hI.2.2.2.2.2.2.2.2.2.2.2.2.2.2.2.2.2.2.2.2.2.2.2.2.2.2.2.2.2.2.2.2.2.2.2.2.2.2.1)
    have k_xSP : xSP W := by
      rw [hW]
      exact (uxSP rfl hI.2.2.2.2.2.2.2.2.2.2.2.2.2.2.2.2.2.2.2.2.2.2.2.2.2.2.2.2.2.2.2.2.2.2.2.2.2.2.2.1)
    have k_xSL : xSL W := by
      rw [hW]
      exact (uxSL rfl hI.2.2.2.2.2.2.2.2.2.2.2.2.2.2.2.2.2.2.2.2.2.2.2.2.2.2.2.2.2.2.2.2.2.2.2.2.2.2.2.2.1)
    have k_xSM : xSM W := by
      rw [hW]
      exact (uxSM rfl hI.2.2.2.2.2.2.2.2.2.2.2.2.2.2.2.2.2.2.2.2.2.2.2.2.2.2.2.2.2.2.2.2.2.2.2.2.2.2.2.2.2.1)
    have k_xSI : xSI W := by
      rw [hW]
      exact (uxSI rfl hI.2.2.2.2.2.2.2.2.2.2.2.2.2.2.2.2.2.2.2.2.2.2.2.2.2.2.2.2.2.2.2.2.2.2.2.2.2.2.2.2.2.2)
    have k_XC : XC W := ⟨k_xS1, k_xS2, k_xS3, k_xS4, k_xS5, k_xS6, k_xS7, k_xS8, k_xS9, k_xSA, k_xSG, k_xSF, k_xSB, k_xSC, k_xSD, k_xSE, k_xSW, k_xST, k_xSP, k_xSL, k_xSM, k_xSI⟩
    have kXB : XB W := ⟨k_xN1, k_xN2, k_xN3, k_xN4, k_xN5, k_xN6, k_xH1, k_xK1, k_xC1, k_xRW, k_xWT, k_xCU, k_xG2, k_xG3, k_xG4, k_xG5, k_xG6, k_XC⟩
    exact ⟨base, k2, k3, kXA, kXB⟩
-- wHitR6_c
def xr_466 : qRu := (13, [[(-1, 0), (1, 5)], [(1, 1)], [(-1, 1), (1, 9)], [(1, 1), (-1, 9)], [(-1, 0), (-1, 1), (1, 10)], [(6, 0), (1, 9), (-1, 10)], [(-284773536, 0), (1, 11)], [(284773536, 0), (-1, 11)]], [(4, 210, [(1, 0)]), (4, 211, [(1, 1)]), (4, 101, [(1, 2)]), (3, 46, [(1, 3)]), (3, 47, [(1, 4)]), (4, 100, [(1, 5)]), (3, 44, [(1, 6)]), (3, 45, [(1, 7)]), (4, 107, [(1, 8)]), (4, 214, [(1, 0)]), (4, 215, [(1, 9)]), (4, 217, [(1, 10)]), (4, 219, [(1, 11)]), (4, 216, [(1, 12)])], [], [], [[(-1, 1), (1, 3)], [(1, 1), (-1, 3)], [(1, 4), (-1, 10)], [(-1, 4), (1, 10)], [(-24, 0), (1, 6)], [(24, 0), (-1, 6)], [(1, 7), (-1, 11)], [(-1, 7), (1, 11)]])
theorem xo_466 : qRok xr_466 := by
  intro ρ M h0 hf hm hI
  have f0 := hf [(-1, 0), (1, 5)] (by decide)
  have f1 := hf [(1, 1)] (by decide)
  have f2 := hf [(-1, 1), (1, 9)] (by decide)
  have f3 := hf [(1, 1), (-1, 9)] (by decide)
  have f4 := hf [(-1, 0), (-1, 1), (1, 10)] (by decide)
  have f5 := hf [(6, 0), (1, 9), (-1, 10)] (by decide)
  have f6 := hf [(-284773536, 0), (1, 11)] (by decide)
  have f7 := hf [(284773536, 0), (-1, 11)] (by decide)
  simp only [qD, h0] at f0 f1 f2 f3 f4 f5 f6 f7
  have m0 : M 4 210 = 1 * ρ 0 + 0 := hm (4, 210, [(1, 0)]) (by decide)
  have m1 : M 4 211 = 1 * ρ 1 + 0 := hm (4, 211, [(1, 1)]) (by decide)
  have m2 : M 4 101 = 1 * ρ 2 + 0 := hm (4, 101, [(1, 2)]) (by decide)
  have m3 : M 3 46 = 1 * ρ 3 + 0 := hm (3, 46, [(1, 3)]) (by decide)
  have m4 : M 3 47 = 1 * ρ 4 + 0 := hm (3, 47, [(1, 4)]) (by decide)
  have m5 : M 4 100 = 1 * ρ 5 + 0 := hm (4, 100, [(1, 5)]) (by decide)
  have m6 : M 3 44 = 1 * ρ 6 + 0 := hm (3, 44, [(1, 6)]) (by decide)
  have m7 : M 3 45 = 1 * ρ 7 + 0 := hm (3, 45, [(1, 7)]) (by decide)
  have m8 : M 4 107 = 1 * ρ 8 + 0 := hm (4, 107, [(1, 8)]) (by decide)
  have m9 : M 4 214 = 1 * ρ 0 + 0 := hm (4, 214, [(1, 0)]) (by decide)
  have m10 : M 4 215 = 1 * ρ 9 + 0 := hm (4, 215, [(1, 9)]) (by decide)
  have m11 : M 4 217 = 1 * ρ 10 + 0 := hm (4, 217, [(1, 10)]) (by decide)
  have m12 : M 4 219 = 1 * ρ 11 + 0 := hm (4, 219, [(1, 11)]) (by decide)
  have m13 : M 4 216 = 1 * ρ 12 + 0 := hm (4, 216, [(1, 12)]) (by decide)
  simp only [h0] at m0 m9
  obtain ⟨u1, u2, _⟩ := gx_xS8 hI (by omega)

  obtain ⟨a1, a2, a3, a4, a5, a6, a7⟩ := gx_xSA hI (by omega)
  have eq1 : (M 4 215).toNat = (M 4 211).toNat := by omega
  rw [eq1] at a6 a7
  have hgt := ten_gt (g := M 92) (lo := 97) (hi := 122) (n := (M 4 101).toNat) (q := (M 4 211).toNat) (by omega)
  have el1 : (M 4 217 - M 4 215).toNat = tEn (M 92) 97 122 (M 4 101).toNat (M 4 211).toNat - (M 4 211).toNat := by omega
  rw [el1] at a7

  obtain ⟨t1, t2, t3, t4, t5, t6⟩ := tk_of hI (by omega) (by omega) (by omega) (show tAt (M 92) (M 4 101).toNat (M 4 211).toNat (M 4 107) (M 4 108) = (24, M 4 219, ((M 4 211).toNat : Int), M 4 217, 0, 6) from by
    unfold tAt
    rw [if_neg (by omega), if_pos hgt.2]
    unfold tWo
    rw [← a7, ← a6]
    have hk : tKi (M 4 219) 0 = 24 := by
      rw [show M 4 219 = 284773536 by omega]
      decide
    have h6 : ¬ (6 < tEn (M 92) 97 122 (M 4 101).toNat (M 4 211).toNat - (M 4 211).toNat) := by omega
    unfold tWk tWs tWv
    rw [if_neg h6, if_neg h6, if_neg h6, hk]
    rfl)
  refine ⟨ρ, fun _ _ => rfl, fun f h => ?_, ?_⟩
  · have h : f ∈ ([[(-1, 1), (1, 3)], [(1, 1), (-1, 3)], [(1, 4), (-1, 10)], [(-1, 4), (1, 10)], [(-24, 0), (1, 6)], [(24, 0), (-1, 6)], [(1, 7), (-1, 11)], [(-1, 7), (1, 11)]] : List qF) := h
    simp only [List.mem_cons, List.not_mem_nil, or_false] at h
    rcases h with rfl | rfl | rfl | rfl | rfl | rfl | rfl | rfl
    · show 0 ≤ -1 * ρ 1 + (1 * ρ 3 + 0)
      (try rw [h0]); omega
    · show 0 ≤ 1 * ρ 1 + (-1 * ρ 3 + 0)
      (try rw [h0]); omega
    · show 0 ≤ 1 * ρ 4 + (-1 * ρ 10 + 0)
      (try rw [h0]); omega
    · show 0 ≤ -1 * ρ 4 + (1 * ρ 10 + 0)
      (try rw [h0]); omega
    · show 0 ≤ -24 * ρ 0 + (1 * ρ 6 + 0)
      (try rw [h0]); omega
    · show 0 ≤ 24 * ρ 0 + (-1 * ρ 6 + 0)
      (try rw [h0]); omega
    · show 0 ≤ 1 * ρ 7 + (-1 * ρ 11 + 0)
      (try rw [h0]); omega
    · show 0 ≤ -1 * ρ 7 + (1 * ρ 11 + 0)
      (try rw [h0]); omega
  · show sI M
    exact hI
-- wHitR6_r
def xr_467 : qRu := (13, [[(-1, 0), (1, 5)], [(1, 1)], [(-1, 1), (1, 9)], [(1, 1), (-1, 9)], [(-1, 0), (-1, 1), (1, 10)], [(6, 0), (1, 9), (-1, 10)], [(-284773536, 0), (1, 11)], [(284773536, 0), (-1, 11)]], [(4, 210, [(1, 0)]), (4, 211, [(1, 1)]), (4, 101, [(1, 2)]), (3, 46, [(1, 3)]), (3, 47, [(1, 4)]), (4, 100, [(1, 5)]), (3, 50, [(1, 6)]), (3, 51, [(1, 7)]), (4, 108, [(1, 8)]), (4, 214, [(1, 0)]), (4, 215, [(1, 9)]), (4, 217, [(1, 10)]), (4, 219, [(1, 11)]), (4, 216, [(1, 12)])], [], [], [[(-1, 1), (1, 3)], [(1, 1), (-1, 3)], [(1, 4), (-1, 10)], [(-1, 4), (1, 10)], [(1, 6)], [(-1, 6)], [(-6, 0), (1, 7)], [(6, 0), (-1, 7)]])
theorem xo_467 : qRok xr_467 := by
  intro ρ M h0 hf hm hI
  have f0 := hf [(-1, 0), (1, 5)] (by decide)
  have f1 := hf [(1, 1)] (by decide)
  have f2 := hf [(-1, 1), (1, 9)] (by decide)
  have f3 := hf [(1, 1), (-1, 9)] (by decide)
  have f4 := hf [(-1, 0), (-1, 1), (1, 10)] (by decide)
  have f5 := hf [(6, 0), (1, 9), (-1, 10)] (by decide)
  have f6 := hf [(-284773536, 0), (1, 11)] (by decide)
  have f7 := hf [(284773536, 0), (-1, 11)] (by decide)
  simp only [qD, h0] at f0 f1 f2 f3 f4 f5 f6 f7
  have m0 : M 4 210 = 1 * ρ 0 + 0 := hm (4, 210, [(1, 0)]) (by decide)
  have m1 : M 4 211 = 1 * ρ 1 + 0 := hm (4, 211, [(1, 1)]) (by decide)
  have m2 : M 4 101 = 1 * ρ 2 + 0 := hm (4, 101, [(1, 2)]) (by decide)
  have m3 : M 3 46 = 1 * ρ 3 + 0 := hm (3, 46, [(1, 3)]) (by decide)
  have m4 : M 3 47 = 1 * ρ 4 + 0 := hm (3, 47, [(1, 4)]) (by decide)
  have m5 : M 4 100 = 1 * ρ 5 + 0 := hm (4, 100, [(1, 5)]) (by decide)
  have m6 : M 3 50 = 1 * ρ 6 + 0 := hm (3, 50, [(1, 6)]) (by decide)
  have m7 : M 3 51 = 1 * ρ 7 + 0 := hm (3, 51, [(1, 7)]) (by decide)
  have m8 : M 4 108 = 1 * ρ 8 + 0 := hm (4, 108, [(1, 8)]) (by decide)
  have m9 : M 4 214 = 1 * ρ 0 + 0 := hm (4, 214, [(1, 0)]) (by decide)
  have m10 : M 4 215 = 1 * ρ 9 + 0 := hm (4, 215, [(1, 9)]) (by decide)
  have m11 : M 4 217 = 1 * ρ 10 + 0 := hm (4, 217, [(1, 10)]) (by decide)
  have m12 : M 4 219 = 1 * ρ 11 + 0 := hm (4, 219, [(1, 11)]) (by decide)
  have m13 : M 4 216 = 1 * ρ 12 + 0 := hm (4, 216, [(1, 12)]) (by decide)
  simp only [h0] at m0 m9
  obtain ⟨u1, u2, _⟩ := gx_xS8 hI (by omega)

  obtain ⟨a1, a2, a3, a4, a5, a6, a7⟩ := gx_xSA hI (by omega)
  have eq1 : (M 4 215).toNat = (M 4 211).toNat := by omega
  rw [eq1] at a6 a7
  have hgt := ten_gt (g := M 92) (lo := 97) (hi := 122) (n := (M 4 101).toNat) (q := (M 4 211).toNat) (by omega)
  have el1 : (M 4 217 - M 4 215).toNat = tEn (M 92) 97 122 (M 4 101).toNat (M 4 211).toNat - (M 4 211).toNat := by omega
  rw [el1] at a7

  obtain ⟨t1, t2, t3, t4, t5, t6⟩ := tk_of hI (by omega) (by omega) (by omega) (show tAt (M 92) (M 4 101).toNat (M 4 211).toNat (M 4 107) (M 4 108) = (24, M 4 219, ((M 4 211).toNat : Int), M 4 217, 0, 6) from by
    unfold tAt
    rw [if_neg (by omega), if_pos hgt.2]
    unfold tWo
    rw [← a7, ← a6]
    have hk : tKi (M 4 219) 0 = 24 := by
      rw [show M 4 219 = 284773536 by omega]
      decide
    have h6 : ¬ (6 < tEn (M 92) 97 122 (M 4 101).toNat (M 4 211).toNat - (M 4 211).toNat) := by omega
    unfold tWk tWs tWv
    rw [if_neg h6, if_neg h6, if_neg h6, hk]
    rfl)
  refine ⟨ρ, fun _ _ => rfl, fun f h => ?_, ?_⟩
  · have h : f ∈ ([[(-1, 1), (1, 3)], [(1, 1), (-1, 3)], [(1, 4), (-1, 10)], [(-1, 4), (1, 10)], [(1, 6)], [(-1, 6)], [(-6, 0), (1, 7)], [(6, 0), (-1, 7)]] : List qF) := h
    simp only [List.mem_cons, List.not_mem_nil, or_false] at h
    rcases h with rfl | rfl | rfl | rfl | rfl | rfl | rfl | rfl
    · show 0 ≤ -1 * ρ 1 + (1 * ρ 3 + 0)
      (try rw [h0]); omega
    · show 0 ≤ 1 * ρ 1 + (-1 * ρ 3 + 0)
      (try rw [h0]); omega
    · show 0 ≤ 1 * ρ 4 + (-1 * ρ 10 + 0)
      (try rw [h0]); omega
    · show 0 ≤ -1 * ρ 4 + (1 * ρ 10 + 0)
      (try rw [h0]); omega
    · show 0 ≤ 1 * ρ 6 + 0
      (try rw [h0]); omega
    · show 0 ≤ -1 * ρ 6 + 0
      (try rw [h0]); omega
    · show 0 ≤ -6 * ρ 0 + (1 * ρ 7 + 0)
      (try rw [h0]); omega
    · show 0 ≤ 6 * ρ 0 + (-1 * ρ 7 + 0)
      (try rw [h0]); omega
  · show sI M
    exact hI
-- langMissR6L
def xr_468 : qRu := (3, [[(284773535, 0), (-1, 2)]], [(4, 226, [(1, 0)]), (4, 227, [(6, 0)]), (4, 219, [(1, 2)])], [], [(4, 227, [(7, 0)])], [])
theorem xo_468 : qRok xr_468 := by
  intro ρ M h0 hf hm hI
  have f0 := hf [(284773535, 0), (-1, 2)] (by decide)
  simp only [qD, h0] at f0
  have m0 : M 4 226 = 1 * ρ 0 + 0 := hm (4, 226, [(1, 0)]) (by decide)
  have m1 : M 4 227 = 6 * ρ 0 + 0 := hm (4, 227, [(6, 0)]) (by decide)
  have m2 : M 4 219 = 1 * ρ 2 + 0 := hm (4, 219, [(1, 2)]) (by decide)
  simp only [h0] at m0 m1
  have qxSC := hI.2.2.2.2.2.2.2.2.2.2.2.2.2.2.2.2.2.2.2.2.2.2.2.2.2.2.2.2.2.2.2.2.2.2.1
  obtain ⟨l1, l2, l3⟩ := gx_xSC hI (by omega)
  refine ⟨ρ, fun _ _ => rfl, fun f h => ?_, ?_⟩
  · exact nomatch h
  · show sI (sU M 4 227 (7 * ρ 0 + 0))
    obtain ⟨W, hW⟩ : ∃ W, W = (sU M 4 227 (7 * ρ 0 + 0)) := ⟨_, rfl⟩
    rw [← hW]
    have base : sI0 W := by
      rw [hW]
      exact (si_u0 hI.1 (fun r hr => by cases hr))
    have k2 : XI2 W := by
      rw [hW]
      exact (xi2_u rfl hI.2.1)
    have k3 : XI3 W := by
      rw [hW]
      exact (xi3_u rfl hI.2.2.1)
    have kXA : XA W := by
      rw [hW]
      exact (uXA rfl hI.2.2.2.1)
    have k_xN1 : xN1 W := by
      rw [hW]
      exact (uxN1 rfl hI.2.2.2.2.1)
    have k_xN2 : xN2 W := by
      rw [hW]
      exact (uxN2 rfl hI.2.2.2.2.2.1)
    have k_xN3 : xN3 W := by
      rw [hW]
      exact (uxN3 rfl hI.2.2.2.2.2.2.1)
    have k_xN4 : xN4 W := by
      rw [hW]
      exact (uxN4 rfl hI.2.2.2.2.2.2.2.1)
    have k_xN5 : xN5 W := by
      rw [hW]
      exact (uxN5 rfl hI.2.2.2.2.2.2.2.2.1)
    have k_xN6 : xN6 W := by
      rw [hW]
      exact (uxN6 rfl hI.2.2.2.2.2.2.2.2.2.1)
    have k_xH1 : xH1 W := by
      rw [hW]
      exact (uxH1 rfl hI.2.2.2.2.2.2.2.2.2.2.1)
    have k_xK1 : xK1 W := by
      rw [hW]
      exact (uxK1 rfl hI.2.2.2.2.2.2.2.2.2.2.2.1)
    have k_xC1 : xC1 W := by
      rw [hW]
      exact (uxC1 rfl hI.2.2.2.2.2.2.2.2.2.2.2.2.1)
    have k_xRW : xRW W := by
      rw [hW]
      exact (uxRW rfl hI.2.2.2.2.2.2.2.2.2.2.2.2.2.1)
    have k_xWT : xWT W := by
      rw [hW]
      exact (uxWT rfl hI.2.2.2.2.2.2.2.2.2.2.2.2.2.2.1)
    have k_xCU : xCU W := by
      rw [hW]
      exact (uxCU rfl hI.2.2.2.2.2.2.2.2.2.2.2.2.2.2.2.1)
    have k_xG2 : xG2 W := by
      rw [hW]
      exact (uxG2 rfl hI.2.2.2.2.2.2.2.2.2.2.2.2.2.2.2.2.1)
    have k_xG3 : xG3 W := by
      rw [hW]
      exact (uxG3 rfl hI.2.2.2.2.2.2.2.2.2.2.2.2.2.2.2.2.2.1)
    have k_xG4 : xG4 W := by
      rw [hW]
      exact (uxG4 rfl hI.2.2.2.2.2.2.2.2.2.2.2.2.2.2.2.2.2.2.1)
    have k_xG5 : xG5 W := by
      rw [hW]
      exact (uxG5 rfl hI.2.2.2.2.2.2.2.2.2.2.2.2.2.2.2.2.2.2.2.1)
    have k_xG6 : xG6 W := by
      rw [hW]
      exact (uxG6 rfl hI.2.2.2.2.2.2.2.2.2.2.2.2.2.2.2.2.2.2.2.2.1)
    have k_xS1 : xS1 W := by
      rw [hW]
      exact (uxS1 rfl hI.2.2.2.2.2.2.2.2.2.2.2.2.2.2.2.2.2.2.2.2.2.1)
    have k_xS2 : xS2 W := by
      rw [hW]
      exact (uxS2 rfl hI.2.2.2.2.2.2.2.2.2.2.2.2.2.2.2.2.2.2.2.2.2.2.1)
    have k_xS3 : xS3 W := by
      rw [hW]
      exact (uxS3 rfl hI.2.2.2.2.2.2.2.2.2.2.2.2.2.2.2.2.2.2.2.2.2.2.2.1)
    have k_xS4 : xS4 W := by
      rw [hW]
      exact (uxS4 rfl hI.2.2.2.2.2.2.2.2.2.2.2.2.2.2.2.2.2.2.2.2.2.2.2.2.1)
    have k_xS5 : xS5 W := by
      rw [hW]
      exact (uxS5 rfl hI.2.2.2.2.2.2.2.2.2.2.2.2.2.2.2.2.2.2.2.2.2.2.2.2.2.1)
    have k_xS6 : xS6 W := by
      rw [hW]
      exact (uxS6 rfl hI.2.2.2.2.2.2.2.2.2.2.2.2.2.2.2.2.2.2.2.2.2.2.2.2.2.2.1)
    have k_xS7 : xS7 W := by
      rw [hW]
      exact (uxS7 rfl hI.2.2.2.2.2.2.2.2.2.2.2.2.2.2.2.2.2.2.2.2.2.2.2.2.2.2.2.1)
    have k_xS8 : xS8 W := by
      rw [hW]
      exact (uxS8 rfl hI.2.2.2.2.2.2.2.2.2.2.2.2.2.2.2.2.2.2.2.2.2.2.2.2.2.2.2.2.1)
    have k_xS9 : xS9 W := by
      rw [hW]
      exact (uxS9 rfl hI.2.2.2.2.2.2.2.2.2.2.2.2.2.2.2.2.2.2.2.2.2.2.2.2.2.2.2.2.2.1)
    have k_xSA : xSA W := by
      rw [hW]
      exact (uxSA rfl hI.2.2.2.2.2.2.2.2.2.2.2.2.2.2.2.2.2.2.2.2.2.2.2.2.2.2.2.2.2.2.1)
    have k_xSG : xSG W := by
      rw [hW]
      exact (uxSG rfl hI.2.2.2.2.2.2.2.2.2.2.2.2.2.2.2.2.2.2.2.2.2.2.2.2.2.2.2.2.2.2.2.1)
    have k_xSF : xSF W := by
      rw [hW]
      exact (uxSF rfl hI.2.2.2.2.2.2.2.2.2.2.2.2.2.2.2.2.2.2.2.2.2.2.2.2.2.2.2.2.2.2.2.2.1)
    have k_xSB : xSB W := by
      rw [hW]
      exact (uxSB rfl hI.2.2.2.2.2.2.2.2.2.2.2.2.2.2.2.2.2.2.2.2.2.2.2.2.2.2.2.2.2.2.2.2.2.1)
    have k_xSC : xSC W := by
      have r4_226 : W 4 226 = M 4 226 := by rw [hW, sU_ne (fun z => by omega)]
      have r4_227 : W 4 227 = 7 * ρ 0 + 0 := by rw [hW, sU_at]
      have r4_219 : W 4 219 = M 4 219 := by rw [hW, sU_ne (fun z => by omega)]
      intro h
      rw [r4_227, r4_219, h0]
      refine ⟨by omega, by omega, ?_⟩
      have e1 := tki_on (x := M 4 219) (w := 6) (show tLa[6]? = some (284773536 : Int) from rfl)
      rw [if_neg (by omega)] at e1
      rw [show M 4 227 = 6 by omega] at l3
      rw [← l3]
      exact e1.symm
    have k_xSD : xSD W := by
      rw [hW]
      exact (uxSD rfl hI.2.2.2.2.2.2.2.2.2.2.2.2.2.2.2.2.2.2.2.2.2.2.2.2.2.2.2.2.2.2.2.2.2.2.2.1)
    have k_xSE : xSE W := by
      rw [hW]
      exact (uxSE rfl hI.2.2.2.2.2.2.2.2.2.2.2.2.2.2.2.2.2.2.2.2.2.2.2.2.2.2.2.2.2.2.2.2.2.2.2.2.1)
    have k_xSW : xSW W := by
      rw [hW]
      exact (uxSW rfl hI.2.2.2.2.2.2.2.2.2.2.2.2.2.2.2.2.2.2.2.2.2.2.2.2.2.2.2.2.2.2.2.2.2.2.2.2.2.1)
    have k_xST : xST W := by
      rw [hW]
      exact (uxST rfl hI.2.2.2.2.2.2.2.2.2.2.2.2.2.2.2.2.2.2.2.2.2.2.2.2.2.2.2.2.2.2.2.2.2.2.2.2.2.2.1)
    have k_xSP : xSP W := by
      rw [hW]
      exact (uxSP rfl hI.2.2.2.2.2.2.2.2.2.2.2.2.2.2.2.2.2.2.2.2.2.2.2.2.2.2.2.2.2.2.2.2.2.2.2.2.2.2.2.1)
    have k_xSL : xSL W := by
      rw [hW]
      exact (uxSL rfl hI.2.2.2.2.2.2.2.2.2.2.2.2.2.2.2.2.2.2.2.2.2.2.2.2.2.2.2.2.2.2.2.2.2.2.2.2.2.2.2.2.1)
    have k_xSM : xSM W := by
      rw [hW]
      exact (uxSM rfl hI.2.2.2.2.2.2.2.2.2.2.2.2.2.2.2.2.2.2.2.2.2.2.2.2.2.2.2.2.2.2.2.2.2.2.2.2.2.2.2.2.2.1)
    have k_xSI : xSI W := by
      rw [hW]
      exact (uxSI rfl hI.2.2.2.2.2.2.2.2.2.2.2.2.2.2.2.2.2.2.2.2.2.2.2.2.2.2.2.2.2.2.2.2.2.2.2.2.2.2.2.2.2.2)
    have k_XC : XC W := ⟨k_xS1, k_xS2, k_xS3, k_xS4, k_xS5, k_xS6, k_xS7, k_xS8, k_xS9, k_xSA, k_xSG, k_xSF, k_xSB, k_xSC, k_xSD, k_xSE, k_xSW, k_xST, k_xSP, k_xSL, k_xSM, k_xSI⟩
    have kXB : XB W := ⟨k_xN1, k_xN2, k_xN3, k_xN4, k_xN5, k_xN6, k_xH1, k_xK1, k_xC1, k_xRW, k_xWT, k_xCU, k_xG2, k_xG3, k_xG4, k_xG5, k_xG6, k_XC⟩
    exact ⟨base, k2, k3, kXA, kXB⟩
-- langMissR6H
def xr_469 : qRu := (3, [[(-284773537, 0), (1, 2)]], [(4, 226, [(1, 0)]), (4, 227, [(6, 0)]), (4, 219, [(1, 2)])], [], [(4, 227, [(7, 0)])], [])
theorem xo_469 : qRok xr_469 := by
  intro ρ M h0 hf hm hI
  have f0 := hf [(-284773537, 0), (1, 2)] (by decide)
  simp only [qD, h0] at f0
  have m0 : M 4 226 = 1 * ρ 0 + 0 := hm (4, 226, [(1, 0)]) (by decide)
  have m1 : M 4 227 = 6 * ρ 0 + 0 := hm (4, 227, [(6, 0)]) (by decide)
  have m2 : M 4 219 = 1 * ρ 2 + 0 := hm (4, 219, [(1, 2)]) (by decide)
  simp only [h0] at m0 m1
  have qxSC := hI.2.2.2.2.2.2.2.2.2.2.2.2.2.2.2.2.2.2.2.2.2.2.2.2.2.2.2.2.2.2.2.2.2.2.1
  obtain ⟨l1, l2, l3⟩ := gx_xSC hI (by omega)
  refine ⟨ρ, fun _ _ => rfl, fun f h => ?_, ?_⟩
  · exact nomatch h
  · show sI (sU M 4 227 (7 * ρ 0 + 0))
    obtain ⟨W, hW⟩ : ∃ W, W = (sU M 4 227 (7 * ρ 0 + 0)) := ⟨_, rfl⟩
    rw [← hW]
    have base : sI0 W := by
      rw [hW]
      exact (si_u0 hI.1 (fun r hr => by cases hr))
    have k2 : XI2 W := by
      rw [hW]
      exact (xi2_u rfl hI.2.1)
    have k3 : XI3 W := by
      rw [hW]
      exact (xi3_u rfl hI.2.2.1)
    have kXA : XA W := by
      rw [hW]
      exact (uXA rfl hI.2.2.2.1)
    have k_xN1 : xN1 W := by
      rw [hW]
      exact (uxN1 rfl hI.2.2.2.2.1)
    have k_xN2 : xN2 W := by
      rw [hW]
      exact (uxN2 rfl hI.2.2.2.2.2.1)
    have k_xN3 : xN3 W := by
      rw [hW]
      exact (uxN3 rfl hI.2.2.2.2.2.2.1)
    have k_xN4 : xN4 W := by
      rw [hW]
      exact (uxN4 rfl hI.2.2.2.2.2.2.2.1)
    have k_xN5 : xN5 W := by
      rw [hW]
      exact (uxN5 rfl hI.2.2.2.2.2.2.2.2.1)
    have k_xN6 : xN6 W := by
      rw [hW]
      exact (uxN6 rfl hI.2.2.2.2.2.2.2.2.2.1)
    have k_xH1 : xH1 W := by
      rw [hW]
      exact (uxH1 rfl hI.2.2.2.2.2.2.2.2.2.2.1)
    have k_xK1 : xK1 W := by
      rw [hW]
      exact (uxK1 rfl hI.2.2.2.2.2.2.2.2.2.2.2.1)
    have k_xC1 : xC1 W := by
      rw [hW]
      exact (uxC1 rfl hI.2.2.2.2.2.2.2.2.2.2.2.2.1)
    have k_xRW : xRW W := by
      rw [hW]
      exact (uxRW rfl hI.2.2.2.2.2.2.2.2.2.2.2.2.2.1)
    have k_xWT : xWT W := by
      rw [hW]
      exact (uxWT rfl hI.2.2.2.2.2.2.2.2.2.2.2.2.2.2.1)
    have k_xCU : xCU W := by
      rw [hW]
      exact (uxCU rfl hI.2.2.2.2.2.2.2.2.2.2.2.2.2.2.2.1)
    have k_xG2 : xG2 W := by
      rw [hW]
      exact (uxG2 rfl hI.2.2.2.2.2.2.2.2.2.2.2.2.2.2.2.2.1)
    have k_xG3 : xG3 W := by
      rw [hW]
      exact (uxG3 rfl hI.2.2.2.2.2.2.2.2.2.2.2.2.2.2.2.2.2.1)
    have k_xG4 : xG4 W := by
      rw [hW]
      exact (uxG4 rfl hI.2.2.2.2.2.2.2.2.2.2.2.2.2.2.2.2.2.2.1)
    have k_xG5 : xG5 W := by
      rw [hW]
      exact (uxG5 rfl hI.2.2.2.2.2.2.2.2.2.2.2.2.2.2.2.2.2.2.2.1)
    have k_xG6 : xG6 W := by
      rw [hW]
      exact (uxG6 rfl hI.2.2.2.2.2.2.2.2.2.2.2.2.2.2.2.2.2.2.2.2.1)
    have k_xS1 : xS1 W := by
      rw [hW]
      exact (uxS1 rfl hI.2.2.2.2.2.2.2.2.2.2.2.2.2.2.2.2.2.2.2.2.2.1)
    have k_xS2 : xS2 W := by
      rw [hW]
      exact (uxS2 rfl hI.2.2.2.2.2.2.2.2.2.2.2.2.2.2.2.2.2.2.2.2.2.2.1)
    have k_xS3 : xS3 W := by
      rw [hW]
      exact (uxS3 rfl hI.2.2.2.2.2.2.2.2.2.2.2.2.2.2.2.2.2.2.2.2.2.2.2.1)
    have k_xS4 : xS4 W := by
      rw [hW]
      exact (uxS4 rfl hI.2.2.2.2.2.2.2.2.2.2.2.2.2.2.2.2.2.2.2.2.2.2.2.2.1)
    have k_xS5 : xS5 W := by
      rw [hW]
      exact (uxS5 rfl hI.2.2.2.2.2.2.2.2.2.2.2.2.2.2.2.2.2.2.2.2.2.2.2.2.2.1)
    have k_xS6 : xS6 W := by
      rw [hW]
      exact (uxS6 rfl hI.2.2.2.2.2.2.2.2.2.2.2.2.2.2.2.2.2.2.2.2.2.2.2.2.2.2.1)
    have k_xS7 : xS7 W := by
      rw [hW]
      exact (uxS7 rfl hI.2.2.2.2.2.2.2.2.2.2.2.2.2.2.2.2.2.2.2.2.2.2.2.2.2.2.2.1)
    have k_xS8 : xS8 W := by
      rw [hW]
      exact (uxS8 rfl hI.2.2.2.2.2.2.2.2.2.2.2.2.2.2.2.2.2.2.2.2.2.2.2.2.2.2.2.2.1)
    have k_xS9 : xS9 W := by
      rw [hW]
      exact (uxS9 rfl hI.2.2.2.2.2.2.2.2.2.2.2.2.2.2.2.2.2.2.2.2.2.2.2.2.2.2.2.2.2.1)
    have k_xSA : xSA W := by
      rw [hW]
      exact (uxSA rfl hI.2.2.2.2.2.2.2.2.2.2.2.2.2.2.2.2.2.2.2.2.2.2.2.2.2.2.2.2.2.2.1)
    have k_xSG : xSG W := by
      rw [hW]
      exact (uxSG rfl hI.2.2.2.2.2.2.2.2.2.2.2.2.2.2.2.2.2.2.2.2.2.2.2.2.2.2.2.2.2.2.2.1)
    have k_xSF : xSF W := by
      rw [hW]
      exact (uxSF rfl hI.2.2.2.2.2.2.2.2.2.2.2.2.2.2.2.2.2.2.2.2.2.2.2.2.2.2.2.2.2.2.2.2.1)
    have k_xSB : xSB W := by
      rw [hW]
      exact (uxSB rfl hI.2.2.2.2.2.2.2.2.2.2.2.2.2.2.2.2.2.2.2.2.2.2.2.2.2.2.2.2.2.2.2.2.2.1)
    have k_xSC : xSC W := by
      have r4_226 : W 4 226 = M 4 226 := by rw [hW, sU_ne (fun z => by omega)]
      have r4_227 : W 4 227 = 7 * ρ 0 + 0 := by rw [hW, sU_at]
      have r4_219 : W 4 219 = M 4 219 := by rw [hW, sU_ne (fun z => by omega)]
      intro h
      rw [r4_227, r4_219, h0]
      refine ⟨by omega, by omega, ?_⟩
      have e1 := tki_on (x := M 4 219) (w := 6) (show tLa[6]? = some (284773536 : Int) from rfl)
      rw [if_neg (by omega)] at e1
      rw [show M 4 227 = 6 by omega] at l3
      rw [← l3]
      exact e1.symm
    have k_xSD : xSD W := by
      rw [hW]
      exact (uxSD rfl hI.2.2.2.2.2.2.2.2.2.2.2.2.2.2.2.2.2.2.2.2.2.2.2.2.2.2.2.2.2.2.2.2.2.2.2.1)
    have k_xSE : xSE W := by
      rw [hW]
      exact (uxSE rfl hI.2.2.2.2.2.2.2.2.2.2.2.2.2.2.2.2.2.2.2.2.2.2.2.2.2.2.2.2.2.2.2.2.2.2.2.2.1)
    have k_xSW : xSW W := by
      rw [hW]
      exact (uxSW rfl hI.2.2.2.2.2.2.2.2.2.2.2.2.2.2.2.2.2.2.2.2.2.2.2.2.2.2.2.2.2.2.2.2.2.2.2.2.2.1)
    have k_xST : xST W := by
      rw [hW]
      exact (uxST rfl hI.2.2.2.2.2.2.2.2.2.2.2.2.2.2.2.2.2.2.2.2.2.2.2.2.2.2.2.2.2.2.2.2.2.2.2.2.2.2.1)
    have k_xSP : xSP W := by
      rw [hW]
      exact (uxSP rfl hI.2.2.2.2.2.2.2.2.2.2.2.2.2.2.2.2.2.2.2.2.2.2.2.2.2.2.2.2.2.2.2.2.2.2.2.2.2.2.2.1)
    have k_xSL : xSL W := by
      rw [hW]
      exact (uxSL rfl hI.2.2.2.2.2.2.2.2.2.2.2.2.2.2.2.2.2.2.2.2.2.2.2.2.2.2.2.2.2.2.2.2.2.2.2.2.2.2.2.2.1)
    have k_xSM : xSM W := by
      rw [hW]
      exact (uxSM rfl hI.2.2.2.2.2.2.2.2.2.2.2.2.2.2.2.2.2.2.2.2.2.2.2.2.2.2.2.2.2.2.2.2.2.2.2.2.2.2.2.2.2.1)
    have k_xSI : xSI W := by
      rw [hW]
      exact (uxSI rfl hI.2.2.2.2.2.2.2.2.2.2.2.2.2.2.2.2.2.2.2.2.2.2.2.2.2.2.2.2.2.2.2.2.2.2.2.2.2.2.2.2.2.2)
    have k_XC : XC W := ⟨k_xS1, k_xS2, k_xS3, k_xS4, k_xS5, k_xS6, k_xS7, k_xS8, k_xS9, k_xSA, k_xSG, k_xSF, k_xSB, k_xSC, k_xSD, k_xSE, k_xSW, k_xST, k_xSP, k_xSL, k_xSM, k_xSI⟩
    have kXB : XB W := ⟨k_xN1, k_xN2, k_xN3, k_xN4, k_xN5, k_xN6, k_xH1, k_xK1, k_xC1, k_xRW, k_xWT, k_xCU, k_xG2, k_xG3, k_xG4, k_xG5, k_xG6, k_XC⟩
    exact ⟨base, k2, k3, kXA, kXB⟩
-- wHitR7_c
def xr_470 : qRu := (13, [[(-1, 0), (1, 5)], [(1, 1)], [(-1, 1), (1, 9)], [(1, 1), (-1, 9)], [(-1, 0), (-1, 1), (1, 10)], [(6, 0), (1, 9), (-1, 10)], [(-620237824, 0), (1, 11)], [(620237824, 0), (-1, 11)]], [(4, 210, [(1, 0)]), (4, 211, [(1, 1)]), (4, 101, [(1, 2)]), (3, 46, [(1, 3)]), (3, 47, [(1, 4)]), (4, 100, [(1, 5)]), (3, 44, [(1, 6)]), (3, 45, [(1, 7)]), (4, 107, [(1, 8)]), (4, 214, [(1, 0)]), (4, 215, [(1, 9)]), (4, 217, [(1, 10)]), (4, 219, [(1, 11)]), (4, 216, [(1, 12)])], [], [], [[(-1, 1), (1, 3)], [(1, 1), (-1, 3)], [(1, 4), (-1, 10)], [(-1, 4), (1, 10)], [(-25, 0), (1, 6)], [(25, 0), (-1, 6)], [(1, 7), (-1, 11)], [(-1, 7), (1, 11)]])
theorem xo_470 : qRok xr_470 := by
  intro ρ M h0 hf hm hI
  have f0 := hf [(-1, 0), (1, 5)] (by decide)
  have f1 := hf [(1, 1)] (by decide)
  have f2 := hf [(-1, 1), (1, 9)] (by decide)
  have f3 := hf [(1, 1), (-1, 9)] (by decide)
  have f4 := hf [(-1, 0), (-1, 1), (1, 10)] (by decide)
  have f5 := hf [(6, 0), (1, 9), (-1, 10)] (by decide)
  have f6 := hf [(-620237824, 0), (1, 11)] (by decide)
  have f7 := hf [(620237824, 0), (-1, 11)] (by decide)
  simp only [qD, h0] at f0 f1 f2 f3 f4 f5 f6 f7
  have m0 : M 4 210 = 1 * ρ 0 + 0 := hm (4, 210, [(1, 0)]) (by decide)
  have m1 : M 4 211 = 1 * ρ 1 + 0 := hm (4, 211, [(1, 1)]) (by decide)
  have m2 : M 4 101 = 1 * ρ 2 + 0 := hm (4, 101, [(1, 2)]) (by decide)
  have m3 : M 3 46 = 1 * ρ 3 + 0 := hm (3, 46, [(1, 3)]) (by decide)
  have m4 : M 3 47 = 1 * ρ 4 + 0 := hm (3, 47, [(1, 4)]) (by decide)
  have m5 : M 4 100 = 1 * ρ 5 + 0 := hm (4, 100, [(1, 5)]) (by decide)
  have m6 : M 3 44 = 1 * ρ 6 + 0 := hm (3, 44, [(1, 6)]) (by decide)
  have m7 : M 3 45 = 1 * ρ 7 + 0 := hm (3, 45, [(1, 7)]) (by decide)
  have m8 : M 4 107 = 1 * ρ 8 + 0 := hm (4, 107, [(1, 8)]) (by decide)
  have m9 : M 4 214 = 1 * ρ 0 + 0 := hm (4, 214, [(1, 0)]) (by decide)
  have m10 : M 4 215 = 1 * ρ 9 + 0 := hm (4, 215, [(1, 9)]) (by decide)
  have m11 : M 4 217 = 1 * ρ 10 + 0 := hm (4, 217, [(1, 10)]) (by decide)
  have m12 : M 4 219 = 1 * ρ 11 + 0 := hm (4, 219, [(1, 11)]) (by decide)
  have m13 : M 4 216 = 1 * ρ 12 + 0 := hm (4, 216, [(1, 12)]) (by decide)
  simp only [h0] at m0 m9
  obtain ⟨u1, u2, _⟩ := gx_xS8 hI (by omega)

  obtain ⟨a1, a2, a3, a4, a5, a6, a7⟩ := gx_xSA hI (by omega)
  have eq1 : (M 4 215).toNat = (M 4 211).toNat := by omega
  rw [eq1] at a6 a7
  have hgt := ten_gt (g := M 92) (lo := 97) (hi := 122) (n := (M 4 101).toNat) (q := (M 4 211).toNat) (by omega)
  have el1 : (M 4 217 - M 4 215).toNat = tEn (M 92) 97 122 (M 4 101).toNat (M 4 211).toNat - (M 4 211).toNat := by omega
  rw [el1] at a7

  obtain ⟨t1, t2, t3, t4, t5, t6⟩ := tk_of hI (by omega) (by omega) (by omega) (show tAt (M 92) (M 4 101).toNat (M 4 211).toNat (M 4 107) (M 4 108) = (25, M 4 219, ((M 4 211).toNat : Int), M 4 217, 0, 7) from by
    unfold tAt
    rw [if_neg (by omega), if_pos hgt.2]
    unfold tWo
    rw [← a7, ← a6]
    have hk : tKi (M 4 219) 0 = 25 := by
      rw [show M 4 219 = 620237824 by omega]
      decide
    have h6 : ¬ (6 < tEn (M 92) 97 122 (M 4 101).toNat (M 4 211).toNat - (M 4 211).toNat) := by omega
    unfold tWk tWs tWv
    rw [if_neg h6, if_neg h6, if_neg h6, hk]
    rfl)
  refine ⟨ρ, fun _ _ => rfl, fun f h => ?_, ?_⟩
  · have h : f ∈ ([[(-1, 1), (1, 3)], [(1, 1), (-1, 3)], [(1, 4), (-1, 10)], [(-1, 4), (1, 10)], [(-25, 0), (1, 6)], [(25, 0), (-1, 6)], [(1, 7), (-1, 11)], [(-1, 7), (1, 11)]] : List qF) := h
    simp only [List.mem_cons, List.not_mem_nil, or_false] at h
    rcases h with rfl | rfl | rfl | rfl | rfl | rfl | rfl | rfl
    · show 0 ≤ -1 * ρ 1 + (1 * ρ 3 + 0)
      (try rw [h0]); omega
    · show 0 ≤ 1 * ρ 1 + (-1 * ρ 3 + 0)
      (try rw [h0]); omega
    · show 0 ≤ 1 * ρ 4 + (-1 * ρ 10 + 0)
      (try rw [h0]); omega
    · show 0 ≤ -1 * ρ 4 + (1 * ρ 10 + 0)
      (try rw [h0]); omega
    · show 0 ≤ -25 * ρ 0 + (1 * ρ 6 + 0)
      (try rw [h0]); omega
    · show 0 ≤ 25 * ρ 0 + (-1 * ρ 6 + 0)
      (try rw [h0]); omega
    · show 0 ≤ 1 * ρ 7 + (-1 * ρ 11 + 0)
      (try rw [h0]); omega
    · show 0 ≤ -1 * ρ 7 + (1 * ρ 11 + 0)
      (try rw [h0]); omega
  · show sI M
    exact hI
-- wHitR7_r
def xr_471 : qRu := (13, [[(-1, 0), (1, 5)], [(1, 1)], [(-1, 1), (1, 9)], [(1, 1), (-1, 9)], [(-1, 0), (-1, 1), (1, 10)], [(6, 0), (1, 9), (-1, 10)], [(-620237824, 0), (1, 11)], [(620237824, 0), (-1, 11)]], [(4, 210, [(1, 0)]), (4, 211, [(1, 1)]), (4, 101, [(1, 2)]), (3, 46, [(1, 3)]), (3, 47, [(1, 4)]), (4, 100, [(1, 5)]), (3, 50, [(1, 6)]), (3, 51, [(1, 7)]), (4, 108, [(1, 8)]), (4, 214, [(1, 0)]), (4, 215, [(1, 9)]), (4, 217, [(1, 10)]), (4, 219, [(1, 11)]), (4, 216, [(1, 12)])], [], [], [[(-1, 1), (1, 3)], [(1, 1), (-1, 3)], [(1, 4), (-1, 10)], [(-1, 4), (1, 10)], [(1, 6)], [(-1, 6)], [(-7, 0), (1, 7)], [(7, 0), (-1, 7)]])
theorem xo_471 : qRok xr_471 := by
  intro ρ M h0 hf hm hI
  have f0 := hf [(-1, 0), (1, 5)] (by decide)
  have f1 := hf [(1, 1)] (by decide)
  have f2 := hf [(-1, 1), (1, 9)] (by decide)
  have f3 := hf [(1, 1), (-1, 9)] (by decide)
  have f4 := hf [(-1, 0), (-1, 1), (1, 10)] (by decide)
  have f5 := hf [(6, 0), (1, 9), (-1, 10)] (by decide)
  have f6 := hf [(-620237824, 0), (1, 11)] (by decide)
  have f7 := hf [(620237824, 0), (-1, 11)] (by decide)
  simp only [qD, h0] at f0 f1 f2 f3 f4 f5 f6 f7
  have m0 : M 4 210 = 1 * ρ 0 + 0 := hm (4, 210, [(1, 0)]) (by decide)
  have m1 : M 4 211 = 1 * ρ 1 + 0 := hm (4, 211, [(1, 1)]) (by decide)
  have m2 : M 4 101 = 1 * ρ 2 + 0 := hm (4, 101, [(1, 2)]) (by decide)
  have m3 : M 3 46 = 1 * ρ 3 + 0 := hm (3, 46, [(1, 3)]) (by decide)
  have m4 : M 3 47 = 1 * ρ 4 + 0 := hm (3, 47, [(1, 4)]) (by decide)
  have m5 : M 4 100 = 1 * ρ 5 + 0 := hm (4, 100, [(1, 5)]) (by decide)
  have m6 : M 3 50 = 1 * ρ 6 + 0 := hm (3, 50, [(1, 6)]) (by decide)
  have m7 : M 3 51 = 1 * ρ 7 + 0 := hm (3, 51, [(1, 7)]) (by decide)
  have m8 : M 4 108 = 1 * ρ 8 + 0 := hm (4, 108, [(1, 8)]) (by decide)
  have m9 : M 4 214 = 1 * ρ 0 + 0 := hm (4, 214, [(1, 0)]) (by decide)
  have m10 : M 4 215 = 1 * ρ 9 + 0 := hm (4, 215, [(1, 9)]) (by decide)
  have m11 : M 4 217 = 1 * ρ 10 + 0 := hm (4, 217, [(1, 10)]) (by decide)
  have m12 : M 4 219 = 1 * ρ 11 + 0 := hm (4, 219, [(1, 11)]) (by decide)
  have m13 : M 4 216 = 1 * ρ 12 + 0 := hm (4, 216, [(1, 12)]) (by decide)
  simp only [h0] at m0 m9
  obtain ⟨u1, u2, _⟩ := gx_xS8 hI (by omega)

  obtain ⟨a1, a2, a3, a4, a5, a6, a7⟩ := gx_xSA hI (by omega)
  have eq1 : (M 4 215).toNat = (M 4 211).toNat := by omega
  rw [eq1] at a6 a7
  have hgt := ten_gt (g := M 92) (lo := 97) (hi := 122) (n := (M 4 101).toNat) (q := (M 4 211).toNat) (by omega)
  have el1 : (M 4 217 - M 4 215).toNat = tEn (M 92) 97 122 (M 4 101).toNat (M 4 211).toNat - (M 4 211).toNat := by omega
  rw [el1] at a7

  obtain ⟨t1, t2, t3, t4, t5, t6⟩ := tk_of hI (by omega) (by omega) (by omega) (show tAt (M 92) (M 4 101).toNat (M 4 211).toNat (M 4 107) (M 4 108) = (25, M 4 219, ((M 4 211).toNat : Int), M 4 217, 0, 7) from by
    unfold tAt
    rw [if_neg (by omega), if_pos hgt.2]
    unfold tWo
    rw [← a7, ← a6]
    have hk : tKi (M 4 219) 0 = 25 := by
      rw [show M 4 219 = 620237824 by omega]
      decide
    have h6 : ¬ (6 < tEn (M 92) 97 122 (M 4 101).toNat (M 4 211).toNat - (M 4 211).toNat) := by omega
    unfold tWk tWs tWv
    rw [if_neg h6, if_neg h6, if_neg h6, hk]
    rfl)
  refine ⟨ρ, fun _ _ => rfl, fun f h => ?_, ?_⟩
  · have h : f ∈ ([[(-1, 1), (1, 3)], [(1, 1), (-1, 3)], [(1, 4), (-1, 10)], [(-1, 4), (1, 10)], [(1, 6)], [(-1, 6)], [(-7, 0), (1, 7)], [(7, 0), (-1, 7)]] : List qF) := h
    simp only [List.mem_cons, List.not_mem_nil, or_false] at h
    rcases h with rfl | rfl | rfl | rfl | rfl | rfl | rfl | rfl
    · show 0 ≤ -1 * ρ 1 + (1 * ρ 3 + 0)
      (try rw [h0]); omega
    · show 0 ≤ 1 * ρ 1 + (-1 * ρ 3 + 0)
      (try rw [h0]); omega
    · show 0 ≤ 1 * ρ 4 + (-1 * ρ 10 + 0)
      (try rw [h0]); omega
    · show 0 ≤ -1 * ρ 4 + (1 * ρ 10 + 0)
      (try rw [h0]); omega
    · show 0 ≤ 1 * ρ 6 + 0
      (try rw [h0]); omega
    · show 0 ≤ -1 * ρ 6 + 0
      (try rw [h0]); omega
    · show 0 ≤ -7 * ρ 0 + (1 * ρ 7 + 0)
      (try rw [h0]); omega
    · show 0 ≤ 7 * ρ 0 + (-1 * ρ 7 + 0)
      (try rw [h0]); omega
  · show sI M
    exact hI
-- langMissR7L
def xr_472 : qRu := (3, [[(620237823, 0), (-1, 2)]], [(4, 226, [(1, 0)]), (4, 227, [(7, 0)]), (4, 219, [(1, 2)])], [], [(4, 227, [(8, 0)])], [])
theorem xo_472 : qRok xr_472 := by
  intro ρ M h0 hf hm hI
  have f0 := hf [(620237823, 0), (-1, 2)] (by decide)
  simp only [qD, h0] at f0
  have m0 : M 4 226 = 1 * ρ 0 + 0 := hm (4, 226, [(1, 0)]) (by decide)
  have m1 : M 4 227 = 7 * ρ 0 + 0 := hm (4, 227, [(7, 0)]) (by decide)
  have m2 : M 4 219 = 1 * ρ 2 + 0 := hm (4, 219, [(1, 2)]) (by decide)
  simp only [h0] at m0 m1
  have qxSC := hI.2.2.2.2.2.2.2.2.2.2.2.2.2.2.2.2.2.2.2.2.2.2.2.2.2.2.2.2.2.2.2.2.2.2.1
  obtain ⟨l1, l2, l3⟩ := gx_xSC hI (by omega)
  refine ⟨ρ, fun _ _ => rfl, fun f h => ?_, ?_⟩
  · exact nomatch h
  · show sI (sU M 4 227 (8 * ρ 0 + 0))
    obtain ⟨W, hW⟩ : ∃ W, W = (sU M 4 227 (8 * ρ 0 + 0)) := ⟨_, rfl⟩
    rw [← hW]
    have base : sI0 W := by
      rw [hW]
      exact (si_u0 hI.1 (fun r hr => by cases hr))
    have k2 : XI2 W := by
      rw [hW]
      exact (xi2_u rfl hI.2.1)
    have k3 : XI3 W := by
      rw [hW]
      exact (xi3_u rfl hI.2.2.1)
    have kXA : XA W := by
      rw [hW]
      exact (uXA rfl hI.2.2.2.1)
    have k_xN1 : xN1 W := by
      rw [hW]
      exact (uxN1 rfl hI.2.2.2.2.1)
    have k_xN2 : xN2 W := by
      rw [hW]
      exact (uxN2 rfl hI.2.2.2.2.2.1)
    have k_xN3 : xN3 W := by
      rw [hW]
      exact (uxN3 rfl hI.2.2.2.2.2.2.1)
    have k_xN4 : xN4 W := by
      rw [hW]
      exact (uxN4 rfl hI.2.2.2.2.2.2.2.1)
    have k_xN5 : xN5 W := by
      rw [hW]
      exact (uxN5 rfl hI.2.2.2.2.2.2.2.2.1)
    have k_xN6 : xN6 W := by
      rw [hW]
      exact (uxN6 rfl hI.2.2.2.2.2.2.2.2.2.1)
    have k_xH1 : xH1 W := by
      rw [hW]
      exact (uxH1 rfl hI.2.2.2.2.2.2.2.2.2.2.1)
    have k_xK1 : xK1 W := by
      rw [hW]
      exact (uxK1 rfl hI.2.2.2.2.2.2.2.2.2.2.2.1)
    have k_xC1 : xC1 W := by
      rw [hW]
      exact (uxC1 rfl hI.2.2.2.2.2.2.2.2.2.2.2.2.1)
    have k_xRW : xRW W := by
      rw [hW]
      exact (uxRW rfl hI.2.2.2.2.2.2.2.2.2.2.2.2.2.1)
    have k_xWT : xWT W := by
      rw [hW]
      exact (uxWT rfl hI.2.2.2.2.2.2.2.2.2.2.2.2.2.2.1)
    have k_xCU : xCU W := by
      rw [hW]
      exact (uxCU rfl hI.2.2.2.2.2.2.2.2.2.2.2.2.2.2.2.1)
    have k_xG2 : xG2 W := by
      rw [hW]
      exact (uxG2 rfl hI.2.2.2.2.2.2.2.2.2.2.2.2.2.2.2.2.1)
    have k_xG3 : xG3 W := by
      rw [hW]
      exact (uxG3 rfl hI.2.2.2.2.2.2.2.2.2.2.2.2.2.2.2.2.2.1)
    have k_xG4 : xG4 W := by
      rw [hW]
      exact (uxG4 rfl hI.2.2.2.2.2.2.2.2.2.2.2.2.2.2.2.2.2.2.1)
    have k_xG5 : xG5 W := by
      rw [hW]
      exact (uxG5 rfl hI.2.2.2.2.2.2.2.2.2.2.2.2.2.2.2.2.2.2.2.1)
    have k_xG6 : xG6 W := by
      rw [hW]
      exact (uxG6 rfl hI.2.2.2.2.2.2.2.2.2.2.2.2.2.2.2.2.2.2.2.2.1)
    have k_xS1 : xS1 W := by
      rw [hW]
      exact (uxS1 rfl hI.2.2.2.2.2.2.2.2.2.2.2.2.2.2.2.2.2.2.2.2.2.1)
    have k_xS2 : xS2 W := by
      rw [hW]
      exact (uxS2 rfl hI.2.2.2.2.2.2.2.2.2.2.2.2.2.2.2.2.2.2.2.2.2.2.1)
    have k_xS3 : xS3 W := by
      rw [hW]
      exact (uxS3 rfl hI.2.2.2.2.2.2.2.2.2.2.2.2.2.2.2.2.2.2.2.2.2.2.2.1)
    have k_xS4 : xS4 W := by
      rw [hW]
      exact (uxS4 rfl hI.2.2.2.2.2.2.2.2.2.2.2.2.2.2.2.2.2.2.2.2.2.2.2.2.1)
    have k_xS5 : xS5 W := by
      rw [hW]
      exact (uxS5 rfl hI.2.2.2.2.2.2.2.2.2.2.2.2.2.2.2.2.2.2.2.2.2.2.2.2.2.1)
    have k_xS6 : xS6 W := by
      rw [hW]
      exact (uxS6 rfl hI.2.2.2.2.2.2.2.2.2.2.2.2.2.2.2.2.2.2.2.2.2.2.2.2.2.2.1)
    have k_xS7 : xS7 W := by
      rw [hW]
      exact (uxS7 rfl hI.2.2.2.2.2.2.2.2.2.2.2.2.2.2.2.2.2.2.2.2.2.2.2.2.2.2.2.1)
    have k_xS8 : xS8 W := by
      rw [hW]
      exact (uxS8 rfl hI.2.2.2.2.2.2.2.2.2.2.2.2.2.2.2.2.2.2.2.2.2.2.2.2.2.2.2.2.1)
    have k_xS9 : xS9 W := by
      rw [hW]
      exact (uxS9 rfl hI.2.2.2.2.2.2.2.2.2.2.2.2.2.2.2.2.2.2.2.2.2.2.2.2.2.2.2.2.2.1)
    have k_xSA : xSA W := by
      rw [hW]
      exact (uxSA rfl hI.2.2.2.2.2.2.2.2.2.2.2.2.2.2.2.2.2.2.2.2.2.2.2.2.2.2.2.2.2.2.1)
    have k_xSG : xSG W := by
      rw [hW]
      exact (uxSG rfl hI.2.2.2.2.2.2.2.2.2.2.2.2.2.2.2.2.2.2.2.2.2.2.2.2.2.2.2.2.2.2.2.1)
    have k_xSF : xSF W := by
      rw [hW]
      exact (uxSF rfl hI.2.2.2.2.2.2.2.2.2.2.2.2.2.2.2.2.2.2.2.2.2.2.2.2.2.2.2.2.2.2.2.2.1)
    have k_xSB : xSB W := by
      rw [hW]
      exact (uxSB rfl hI.2.2.2.2.2.2.2.2.2.2.2.2.2.2.2.2.2.2.2.2.2.2.2.2.2.2.2.2.2.2.2.2.2.1)
    have k_xSC : xSC W := by
      have r4_226 : W 4 226 = M 4 226 := by rw [hW, sU_ne (fun z => by omega)]
      have r4_227 : W 4 227 = 8 * ρ 0 + 0 := by rw [hW, sU_at]
      have r4_219 : W 4 219 = M 4 219 := by rw [hW, sU_ne (fun z => by omega)]
      intro h
      rw [r4_227, r4_219, h0]
      refine ⟨by omega, by omega, ?_⟩
      have e1 := tki_on (x := M 4 219) (w := 7) (show tLa[7]? = some (620237824 : Int) from rfl)
      rw [if_neg (by omega)] at e1
      rw [show M 4 227 = 7 by omega] at l3
      rw [← l3]
      exact e1.symm
    have k_xSD : xSD W := by
      rw [hW]
      exact (uxSD rfl hI.2.2.2.2.2.2.2.2.2.2.2.2.2.2.2.2.2.2.2.2.2.2.2.2.2.2.2.2.2.2.2.2.2.2.2.1)
    have k_xSE : xSE W := by
      rw [hW]
      exact (uxSE rfl hI.2.2.2.2.2.2.2.2.2.2.2.2.2.2.2.2.2.2.2.2.2.2.2.2.2.2.2.2.2.2.2.2.2.2.2.2.1)
    have k_xSW : xSW W := by
      rw [hW]
      exact (uxSW rfl hI.2.2.2.2.2.2.2.2.2.2.2.2.2.2.2.2.2.2.2.2.2.2.2.2.2.2.2.2.2.2.2.2.2.2.2.2.2.1)
    have k_xST : xST W := by
      rw [hW]
      exact (uxST rfl hI.2.2.2.2.2.2.2.2.2.2.2.2.2.2.2.2.2.2.2.2.2.2.2.2.2.2.2.2.2.2.2.2.2.2.2.2.2.2.1)
    have k_xSP : xSP W := by
      rw [hW]
      exact (uxSP rfl hI.2.2.2.2.2.2.2.2.2.2.2.2.2.2.2.2.2.2.2.2.2.2.2.2.2.2.2.2.2.2.2.2.2.2.2.2.2.2.2.1)
    have k_xSL : xSL W := by
      rw [hW]
      exact (uxSL rfl hI.2.2.2.2.2.2.2.2.2.2.2.2.2.2.2.2.2.2.2.2.2.2.2.2.2.2.2.2.2.2.2.2.2.2.2.2.2.2.2.2.1)
    have k_xSM : xSM W := by
      rw [hW]
      exact (uxSM rfl hI.2.2.2.2.2.2.2.2.2.2.2.2.2.2.2.2.2.2.2.2.2.2.2.2.2.2.2.2.2.2.2.2.2.2.2.2.2.2.2.2.2.1)
    have k_xSI : xSI W := by
      rw [hW]
      exact (uxSI rfl hI.2.2.2.2.2.2.2.2.2.2.2.2.2.2.2.2.2.2.2.2.2.2.2.2.2.2.2.2.2.2.2.2.2.2.2.2.2.2.2.2.2.2)
    have k_XC : XC W := ⟨k_xS1, k_xS2, k_xS3, k_xS4, k_xS5, k_xS6, k_xS7, k_xS8, k_xS9, k_xSA, k_xSG, k_xSF, k_xSB, k_xSC, k_xSD, k_xSE, k_xSW, k_xST, k_xSP, k_xSL, k_xSM, k_xSI⟩
    have kXB : XB W := ⟨k_xN1, k_xN2, k_xN3, k_xN4, k_xN5, k_xN6, k_xH1, k_xK1, k_xC1, k_xRW, k_xWT, k_xCU, k_xG2, k_xG3, k_xG4, k_xG5, k_xG6, k_XC⟩
    exact ⟨base, k2, k3, kXA, kXB⟩
-- langMissR7H
def xr_473 : qRu := (3, [[(-620237825, 0), (1, 2)]], [(4, 226, [(1, 0)]), (4, 227, [(7, 0)]), (4, 219, [(1, 2)])], [], [(4, 227, [(8, 0)])], [])
theorem xo_473 : qRok xr_473 := by
  intro ρ M h0 hf hm hI
  have f0 := hf [(-620237825, 0), (1, 2)] (by decide)
  simp only [qD, h0] at f0
  have m0 : M 4 226 = 1 * ρ 0 + 0 := hm (4, 226, [(1, 0)]) (by decide)
  have m1 : M 4 227 = 7 * ρ 0 + 0 := hm (4, 227, [(7, 0)]) (by decide)
  have m2 : M 4 219 = 1 * ρ 2 + 0 := hm (4, 219, [(1, 2)]) (by decide)
  simp only [h0] at m0 m1
  have qxSC := hI.2.2.2.2.2.2.2.2.2.2.2.2.2.2.2.2.2.2.2.2.2.2.2.2.2.2.2.2.2.2.2.2.2.2.1
  obtain ⟨l1, l2, l3⟩ := gx_xSC hI (by omega)
  refine ⟨ρ, fun _ _ => rfl, fun f h => ?_, ?_⟩
  · exact nomatch h
  · show sI (sU M 4 227 (8 * ρ 0 + 0))
    obtain ⟨W, hW⟩ : ∃ W, W = (sU M 4 227 (8 * ρ 0 + 0)) := ⟨_, rfl⟩
    rw [← hW]
    have base : sI0 W := by
      rw [hW]
      exact (si_u0 hI.1 (fun r hr => by cases hr))
    have k2 : XI2 W := by
      rw [hW]
      exact (xi2_u rfl hI.2.1)
    have k3 : XI3 W := by
      rw [hW]
      exact (xi3_u rfl hI.2.2.1)
    have kXA : XA W := by
      rw [hW]
      exact (uXA rfl hI.2.2.2.1)
    have k_xN1 : xN1 W := by
      rw [hW]
      exact (uxN1 rfl hI.2.2.2.2.1)
    have k_xN2 : xN2 W := by
      rw [hW]
      exact (uxN2 rfl hI.2.2.2.2.2.1)
    have k_xN3 : xN3 W := by
      rw [hW]
      exact (uxN3 rfl hI.2.2.2.2.2.2.1)
    have k_xN4 : xN4 W := by
      rw [hW]
      exact (uxN4 rfl hI.2.2.2.2.2.2.2.1)
    have k_xN5 : xN5 W := by
      rw [hW]
      exact (uxN5 rfl hI.2.2.2.2.2.2.2.2.1)
    have k_xN6 : xN6 W := by
      rw [hW]
      exact (uxN6 rfl hI.2.2.2.2.2.2.2.2.2.1)
    have k_xH1 : xH1 W := by
      rw [hW]
      exact (uxH1 rfl hI.2.2.2.2.2.2.2.2.2.2.1)
    have k_xK1 : xK1 W := by
      rw [hW]
      exact (uxK1 rfl hI.2.2.2.2.2.2.2.2.2.2.2.1)
    have k_xC1 : xC1 W := by
      rw [hW]
      exact (uxC1 rfl hI.2.2.2.2.2.2.2.2.2.2.2.2.1)
    have k_xRW : xRW W := by
      rw [hW]
      exact (uxRW rfl hI.2.2.2.2.2.2.2.2.2.2.2.2.2.1)
    have k_xWT : xWT W := by
      rw [hW]
      exact (uxWT rfl hI.2.2.2.2.2.2.2.2.2.2.2.2.2.2.1)
    have k_xCU : xCU W := by
      rw [hW]
      exact (uxCU rfl hI.2.2.2.2.2.2.2.2.2.2.2.2.2.2.2.1)
    have k_xG2 : xG2 W := by
      rw [hW]
      exact (uxG2 rfl hI.2.2.2.2.2.2.2.2.2.2.2.2.2.2.2.2.1)
    have k_xG3 : xG3 W := by
      rw [hW]
      exact (uxG3 rfl hI.2.2.2.2.2.2.2.2.2.2.2.2.2.2.2.2.2.1)
    have k_xG4 : xG4 W := by
      rw [hW]
      exact (uxG4 rfl hI.2.2.2.2.2.2.2.2.2.2.2.2.2.2.2.2.2.2.1)
    have k_xG5 : xG5 W := by
      rw [hW]
      exact (uxG5 rfl hI.2.2.2.2.2.2.2.2.2.2.2.2.2.2.2.2.2.2.2.1)
    have k_xG6 : xG6 W := by
      rw [hW]
      exact (uxG6 rfl hI.2.2.2.2.2.2.2.2.2.2.2.2.2.2.2.2.2.2.2.2.1)
    have k_xS1 : xS1 W := by
      rw [hW]
      exact (uxS1 rfl hI.2.2.2.2.2.2.2.2.2.2.2.2.2.2.2.2.2.2.2.2.2.1)
    have k_xS2 : xS2 W := by
      rw [hW]
      exact (uxS2 rfl hI.2.2.2.2.2.2.2.2.2.2.2.2.2.2.2.2.2.2.2.2.2.2.1)
    have k_xS3 : xS3 W := by
      rw [hW]
      exact (uxS3 rfl hI.2.2.2.2.2.2.2.2.2.2.2.2.2.2.2.2.2.2.2.2.2.2.2.1)
    have k_xS4 : xS4 W := by
      rw [hW]
      exact (uxS4 rfl hI.2.2.2.2.2.2.2.2.2.2.2.2.2.2.2.2.2.2.2.2.2.2.2.2.1)
    have k_xS5 : xS5 W := by
      rw [hW]
      exact (uxS5 rfl hI.2.2.2.2.2.2.2.2.2.2.2.2.2.2.2.2.2.2.2.2.2.2.2.2.2.1)
    have k_xS6 : xS6 W := by
      rw [hW]
      exact (uxS6 rfl hI.2.2.2.2.2.2.2.2.2.2.2.2.2.2.2.2.2.2.2.2.2.2.2.2.2.2.1)
    have k_xS7 : xS7 W := by
      rw [hW]
      exact (uxS7 rfl hI.2.2.2.2.2.2.2.2.2.2.2.2.2.2.2.2.2.2.2.2.2.2.2.2.2.2.2.1)
    have k_xS8 : xS8 W := by
      rw [hW]
      exact (uxS8 rfl hI.2.2.2.2.2.2.2.2.2.2.2.2.2.2.2.2.2.2.2.2.2.2.2.2.2.2.2.2.1)
    have k_xS9 : xS9 W := by
      rw [hW]
      exact (uxS9 rfl hI.2.2.2.2.2.2.2.2.2.2.2.2.2.2.2.2.2.2.2.2.2.2.2.2.2.2.2.2.2.1)
    have k_xSA : xSA W := by
      rw [hW]
      exact (uxSA rfl hI.2.2.2.2.2.2.2.2.2.2.2.2.2.2.2.2.2.2.2.2.2.2.2.2.2.2.2.2.2.2.1)
    have k_xSG : xSG W := by
      rw [hW]
      exact (uxSG rfl hI.2.2.2.2.2.2.2.2.2.2.2.2.2.2.2.2.2.2.2.2.2.2.2.2.2.2.2.2.2.2.2.1)
    have k_xSF : xSF W := by
      rw [hW]
      exact (uxSF rfl hI.2.2.2.2.2.2.2.2.2.2.2.2.2.2.2.2.2.2.2.2.2.2.2.2.2.2.2.2.2.2.2.2.1)
    have k_xSB : xSB W := by
      rw [hW]
      exact (uxSB rfl hI.2.2.2.2.2.2.2.2.2.2.2.2.2.2.2.2.2.2.2.2.2.2.2.2.2.2.2.2.2.2.2.2.2.1)
    have k_xSC : xSC W := by
      have r4_226 : W 4 226 = M 4 226 := by rw [hW, sU_ne (fun z => by omega)]
      have r4_227 : W 4 227 = 8 * ρ 0 + 0 := by rw [hW, sU_at]
      have r4_219 : W 4 219 = M 4 219 := by rw [hW, sU_ne (fun z => by omega)]
      intro h
      rw [r4_227, r4_219, h0]
      refine ⟨by omega, by omega, ?_⟩
      have e1 := tki_on (x := M 4 219) (w := 7) (show tLa[7]? = some (620237824 : Int) from rfl)
      rw [if_neg (by omega)] at e1
      rw [show M 4 227 = 7 by omega] at l3
      rw [← l3]
      exact e1.symm
    have k_xSD : xSD W := by
      rw [hW]
      exact (uxSD rfl hI.2.2.2.2.2.2.2.2.2.2.2.2.2.2.2.2.2.2.2.2.2.2.2.2.2.2.2.2.2.2.2.2.2.2.2.1)
    have k_xSE : xSE W := by
      rw [hW]
      exact (uxSE rfl hI.2.2.2.2.2.2.2.2.2.2.2.2.2.2.2.2.2.2.2.2.2.2.2.2.2.2.2.2.2.2.2.2.2.2.2.2.1)
    have k_xSW : xSW W := by
      rw [hW]
      exact (uxSW rfl hI.2.2.2.2.2.2.2.2.2.2.2.2.2.2.2.2.2.2.2.2.2.2.2.2.2.2.2.2.2.2.2.2.2.2.2.2.2.1)
    have k_xST : xST W := by
      rw [hW]
      exact (uxST rfl hI.2.2.2.2.2.2.2.2.2.2.2.2.2.2.2.2.2.2.2.2.2.2.2.2.2.2.2.2.2.2.2.2.2.2.2.2.2.2.1)
    have k_xSP : xSP W := by
      rw [hW]
      exact (uxSP rfl hI.2.2.2.2.2.2.2.2.2.2.2.2.2.2.2.2.2.2.2.2.2.2.2.2.2.2.2.2.2.2.2.2.2.2.2.2.2.2.2.1)
    have k_xSL : xSL W := by
      rw [hW]
      exact (uxSL rfl hI.2.2.2.2.2.2.2.2.2.2.2.2.2.2.2.2.2.2.2.2.2.2.2.2.2.2.2.2.2.2.2.2.2.2.2.2.2.2.2.2.1)
    have k_xSM : xSM W := by
      rw [hW]
      exact (uxSM rfl hI.2.2.2.2.2.2.2.2.2.2.2.2.2.2.2.2.2.2.2.2.2.2.2.2.2.2.2.2.2.2.2.2.2.2.2.2.2.2.2.2.2.1)
    have k_xSI : xSI W := by
      rw [hW]
      exact (uxSI rfl hI.2.2.2.2.2.2.2.2.2.2.2.2.2.2.2.2.2.2.2.2.2.2.2.2.2.2.2.2.2.2.2.2.2.2.2.2.2.2.2.2.2.2)
    have k_XC : XC W := ⟨k_xS1, k_xS2, k_xS3, k_xS4, k_xS5, k_xS6, k_xS7, k_xS8, k_xS9, k_xSA, k_xSG, k_xSF, k_xSB, k_xSC, k_xSD, k_xSE, k_xSW, k_xST, k_xSP, k_xSL, k_xSM, k_xSI⟩
    have kXB : XB W := ⟨k_xN1, k_xN2, k_xN3, k_xN4, k_xN5, k_xN6, k_xH1, k_xK1, k_xC1, k_xRW, k_xWT, k_xCU, k_xG2, k_xG3, k_xG4, k_xG5, k_xG6, k_XC⟩
    exact ⟨base, k2, k3, kXA, kXB⟩
-- wHitR8_c
def xr_474 : qRu := (13, [[(-1, 0), (1, 5)], [(1, 1)], [(-1, 1), (1, 9)], [(1, 1), (-1, 9)], [(-1, 0), (-1, 1), (1, 10)], [(6, 0), (1, 9), (-1, 10)], [(-659011744, 0), (1, 11)], [(659011744, 0), (-1, 11)]], [(4, 210, [(1, 0)]), (4, 211, [(1, 1)]), (4, 101, [(1, 2)]), (3, 46, [(1, 3)]), (3, 47, [(1, 4)]), (4, 100, [(1, 5)]), (3, 44, [(1, 6)]), (3, 45, [(1, 7)]), (4, 107, [(1, 8)]), (4, 214, [(1, 0)]), (4, 215, [(1, 9)]), (4, 217, [(1, 10)]), (4, 219, [(1, 11)]), (4, 216, [(1, 12)])], [], [], [[(-1, 1), (1, 3)], [(1, 1), (-1, 3)], [(1, 4), (-1, 10)], [(-1, 4), (1, 10)], [(-26, 0), (1, 6)], [(26, 0), (-1, 6)], [(1, 7), (-1, 11)], [(-1, 7), (1, 11)]])
theorem xo_474 : qRok xr_474 := by
  intro ρ M h0 hf hm hI
  have f0 := hf [(-1, 0), (1, 5)] (by decide)
  have f1 := hf [(1, 1)] (by decide)
  have f2 := hf [(-1, 1), (1, 9)] (by decide)
  have f3 := hf [(1, 1), (-1, 9)] (by decide)
  have f4 := hf [(-1, 0), (-1, 1), (1, 10)] (by decide)
  have f5 := hf [(6, 0), (1, 9), (-1, 10)] (by decide)
  have f6 := hf [(-659011744, 0), (1, 11)] (by decide)
  have f7 := hf [(659011744, 0), (-1, 11)] (by decide)
  simp only [qD, h0] at f0 f1 f2 f3 f4 f5 f6 f7
  have m0 : M 4 210 = 1 * ρ 0 + 0 := hm (4, 210, [(1, 0)]) (by decide)
  have m1 : M 4 211 = 1 * ρ 1 + 0 := hm (4, 211, [(1, 1)]) (by decide)
  have m2 : M 4 101 = 1 * ρ 2 + 0 := hm (4, 101, [(1, 2)]) (by decide)
  have m3 : M 3 46 = 1 * ρ 3 + 0 := hm (3, 46, [(1, 3)]) (by decide)
  have m4 : M 3 47 = 1 * ρ 4 + 0 := hm (3, 47, [(1, 4)]) (by decide)
  have m5 : M 4 100 = 1 * ρ 5 + 0 := hm (4, 100, [(1, 5)]) (by decide)
  have m6 : M 3 44 = 1 * ρ 6 + 0 := hm (3, 44, [(1, 6)]) (by decide)
  have m7 : M 3 45 = 1 * ρ 7 + 0 := hm (3, 45, [(1, 7)]) (by decide)
  have m8 : M 4 107 = 1 * ρ 8 + 0 := hm (4, 107, [(1, 8)]) (by decide)
  have m9 : M 4 214 = 1 * ρ 0 + 0 := hm (4, 214, [(1, 0)]) (by decide)
  have m10 : M 4 215 = 1 * ρ 9 + 0 := hm (4, 215, [(1, 9)]) (by decide)
  have m11 : M 4 217 = 1 * ρ 10 + 0 := hm (4, 217, [(1, 10)]) (by decide)
  have m12 : M 4 219 = 1 * ρ 11 + 0 := hm (4, 219, [(1, 11)]) (by decide)
  have m13 : M 4 216 = 1 * ρ 12 + 0 := hm (4, 216, [(1, 12)]) (by decide)
  simp only [h0] at m0 m9
  obtain ⟨u1, u2, _⟩ := gx_xS8 hI (by omega)

  obtain ⟨a1, a2, a3, a4, a5, a6, a7⟩ := gx_xSA hI (by omega)
  have eq1 : (M 4 215).toNat = (M 4 211).toNat := by omega
  rw [eq1] at a6 a7
  have hgt := ten_gt (g := M 92) (lo := 97) (hi := 122) (n := (M 4 101).toNat) (q := (M 4 211).toNat) (by omega)
  have el1 : (M 4 217 - M 4 215).toNat = tEn (M 92) 97 122 (M 4 101).toNat (M 4 211).toNat - (M 4 211).toNat := by omega
  rw [el1] at a7

  obtain ⟨t1, t2, t3, t4, t5, t6⟩ := tk_of hI (by omega) (by omega) (by omega) (show tAt (M 92) (M 4 101).toNat (M 4 211).toNat (M 4 107) (M 4 108) = (26, M 4 219, ((M 4 211).toNat : Int), M 4 217, 0, 8) from by
    unfold tAt
    rw [if_neg (by omega), if_pos hgt.2]
    unfold tWo
    rw [← a7, ← a6]
    have hk : tKi (M 4 219) 0 = 26 := by
      rw [show M 4 219 = 659011744 by omega]
      decide
    have h6 : ¬ (6 < tEn (M 92) 97 122 (M 4 101).toNat (M 4 211).toNat - (M 4 211).toNat) := by omega
    unfold tWk tWs tWv
    rw [if_neg h6, if_neg h6, if_neg h6, hk]
    rfl)
  refine ⟨ρ, fun _ _ => rfl, fun f h => ?_, ?_⟩
  · have h : f ∈ ([[(-1, 1), (1, 3)], [(1, 1), (-1, 3)], [(1, 4), (-1, 10)], [(-1, 4), (1, 10)], [(-26, 0), (1, 6)], [(26, 0), (-1, 6)], [(1, 7), (-1, 11)], [(-1, 7), (1, 11)]] : List qF) := h
    simp only [List.mem_cons, List.not_mem_nil, or_false] at h
    rcases h with rfl | rfl | rfl | rfl | rfl | rfl | rfl | rfl
    · show 0 ≤ -1 * ρ 1 + (1 * ρ 3 + 0)
      (try rw [h0]); omega
    · show 0 ≤ 1 * ρ 1 + (-1 * ρ 3 + 0)
      (try rw [h0]); omega
    · show 0 ≤ 1 * ρ 4 + (-1 * ρ 10 + 0)
      (try rw [h0]); omega
    · show 0 ≤ -1 * ρ 4 + (1 * ρ 10 + 0)
      (try rw [h0]); omega
    · show 0 ≤ -26 * ρ 0 + (1 * ρ 6 + 0)
      (try rw [h0]); omega
    · show 0 ≤ 26 * ρ 0 + (-1 * ρ 6 + 0)
      (try rw [h0]); omega
    · show 0 ≤ 1 * ρ 7 + (-1 * ρ 11 + 0)
      (try rw [h0]); omega
    · show 0 ≤ -1 * ρ 7 + (1 * ρ 11 + 0)
      (try rw [h0]); omega
  · show sI M
    exact hI
-- wHitR8_r
def xr_475 : qRu := (13, [[(-1, 0), (1, 5)], [(1, 1)], [(-1, 1), (1, 9)], [(1, 1), (-1, 9)], [(-1, 0), (-1, 1), (1, 10)], [(6, 0), (1, 9), (-1, 10)], [(-659011744, 0), (1, 11)], [(659011744, 0), (-1, 11)]], [(4, 210, [(1, 0)]), (4, 211, [(1, 1)]), (4, 101, [(1, 2)]), (3, 46, [(1, 3)]), (3, 47, [(1, 4)]), (4, 100, [(1, 5)]), (3, 50, [(1, 6)]), (3, 51, [(1, 7)]), (4, 108, [(1, 8)]), (4, 214, [(1, 0)]), (4, 215, [(1, 9)]), (4, 217, [(1, 10)]), (4, 219, [(1, 11)]), (4, 216, [(1, 12)])], [], [], [[(-1, 1), (1, 3)], [(1, 1), (-1, 3)], [(1, 4), (-1, 10)], [(-1, 4), (1, 10)], [(1, 6)], [(-1, 6)], [(-8, 0), (1, 7)], [(8, 0), (-1, 7)]])
theorem xo_475 : qRok xr_475 := by
  intro ρ M h0 hf hm hI
  have f0 := hf [(-1, 0), (1, 5)] (by decide)
  have f1 := hf [(1, 1)] (by decide)
  have f2 := hf [(-1, 1), (1, 9)] (by decide)
  have f3 := hf [(1, 1), (-1, 9)] (by decide)
  have f4 := hf [(-1, 0), (-1, 1), (1, 10)] (by decide)
  have f5 := hf [(6, 0), (1, 9), (-1, 10)] (by decide)
  have f6 := hf [(-659011744, 0), (1, 11)] (by decide)
  have f7 := hf [(659011744, 0), (-1, 11)] (by decide)
  simp only [qD, h0] at f0 f1 f2 f3 f4 f5 f6 f7
  have m0 : M 4 210 = 1 * ρ 0 + 0 := hm (4, 210, [(1, 0)]) (by decide)
  have m1 : M 4 211 = 1 * ρ 1 + 0 := hm (4, 211, [(1, 1)]) (by decide)
  have m2 : M 4 101 = 1 * ρ 2 + 0 := hm (4, 101, [(1, 2)]) (by decide)
  have m3 : M 3 46 = 1 * ρ 3 + 0 := hm (3, 46, [(1, 3)]) (by decide)
  have m4 : M 3 47 = 1 * ρ 4 + 0 := hm (3, 47, [(1, 4)]) (by decide)
  have m5 : M 4 100 = 1 * ρ 5 + 0 := hm (4, 100, [(1, 5)]) (by decide)
  have m6 : M 3 50 = 1 * ρ 6 + 0 := hm (3, 50, [(1, 6)]) (by decide)
  have m7 : M 3 51 = 1 * ρ 7 + 0 := hm (3, 51, [(1, 7)]) (by decide)
  have m8 : M 4 108 = 1 * ρ 8 + 0 := hm (4, 108, [(1, 8)]) (by decide)
  have m9 : M 4 214 = 1 * ρ 0 + 0 := hm (4, 214, [(1, 0)]) (by decide)
  have m10 : M 4 215 = 1 * ρ 9 + 0 := hm (4, 215, [(1, 9)]) (by decide)
  have m11 : M 4 217 = 1 * ρ 10 + 0 := hm (4, 217, [(1, 10)]) (by decide)
  have m12 : M 4 219 = 1 * ρ 11 + 0 := hm (4, 219, [(1, 11)]) (by decide)
  have m13 : M 4 216 = 1 * ρ 12 + 0 := hm (4, 216, [(1, 12)]) (by decide)
  simp only [h0] at m0 m9
  obtain ⟨u1, u2, _⟩ := gx_xS8 hI (by omega)

  obtain ⟨a1, a2, a3, a4, a5, a6, a7⟩ := gx_xSA hI (by omega)
  have eq1 : (M 4 215).toNat = (M 4 211).toNat := by omega
  rw [eq1] at a6 a7
  have hgt := ten_gt (g := M 92) (lo := 97) (hi := 122) (n := (M 4 101).toNat) (q := (M 4 211).toNat) (by omega)
  have el1 : (M 4 217 - M 4 215).toNat = tEn (M 92) 97 122 (M 4 101).toNat (M 4 211).toNat - (M 4 211).toNat := by omega
  rw [el1] at a7

  obtain ⟨t1, t2, t3, t4, t5, t6⟩ := tk_of hI (by omega) (by omega) (by omega) (show tAt (M 92) (M 4 101).toNat (M 4 211).toNat (M 4 107) (M 4 108) = (26, M 4 219, ((M 4 211).toNat : Int), M 4 217, 0, 8) from by
    unfold tAt
    rw [if_neg (by omega), if_pos hgt.2]
    unfold tWo
    rw [← a7, ← a6]
    have hk : tKi (M 4 219) 0 = 26 := by
      rw [show M 4 219 = 659011744 by omega]
      decide
    have h6 : ¬ (6 < tEn (M 92) 97 122 (M 4 101).toNat (M 4 211).toNat - (M 4 211).toNat) := by omega
    unfold tWk tWs tWv
    rw [if_neg h6, if_neg h6, if_neg h6, hk]
    rfl)
  refine ⟨ρ, fun _ _ => rfl, fun f h => ?_, ?_⟩
  · have h : f ∈ ([[(-1, 1), (1, 3)], [(1, 1), (-1, 3)], [(1, 4), (-1, 10)], [(-1, 4), (1, 10)], [(1, 6)], [(-1, 6)], [(-8, 0), (1, 7)], [(8, 0), (-1, 7)]] : List qF) := h
    simp only [List.mem_cons, List.not_mem_nil, or_false] at h
    rcases h with rfl | rfl | rfl | rfl | rfl | rfl | rfl | rfl
    · show 0 ≤ -1 * ρ 1 + (1 * ρ 3 + 0)
      (try rw [h0]); omega
    · show 0 ≤ 1 * ρ 1 + (-1 * ρ 3 + 0)
      (try rw [h0]); omega
    · show 0 ≤ 1 * ρ 4 + (-1 * ρ 10 + 0)
      (try rw [h0]); omega
    · show 0 ≤ -1 * ρ 4 + (1 * ρ 10 + 0)
      (try rw [h0]); omega
    · show 0 ≤ 1 * ρ 6 + 0
      (try rw [h0]); omega
    · show 0 ≤ -1 * ρ 6 + 0
      (try rw [h0]); omega
    · show 0 ≤ -8 * ρ 0 + (1 * ρ 7 + 0)
      (try rw [h0]); omega
    · show 0 ≤ 8 * ρ 0 + (-1 * ρ 7 + 0)
      (try rw [h0]); omega
  · show sI M
    exact hI
-- langMissR8L
def xr_476 : qRu := (3, [[(659011743, 0), (-1, 2)]], [(4, 226, [(1, 0)]), (4, 227, [(8, 0)]), (4, 219, [(1, 2)])], [], [(4, 227, [(9, 0)])], [])
theorem xo_476 : qRok xr_476 := by
  intro ρ M h0 hf hm hI
  have f0 := hf [(659011743, 0), (-1, 2)] (by decide)
  simp only [qD, h0] at f0
  have m0 : M 4 226 = 1 * ρ 0 + 0 := hm (4, 226, [(1, 0)]) (by decide)
  have m1 : M 4 227 = 8 * ρ 0 + 0 := hm (4, 227, [(8, 0)]) (by decide)
  have m2 : M 4 219 = 1 * ρ 2 + 0 := hm (4, 219, [(1, 2)]) (by decide)
  simp only [h0] at m0 m1
  have qxSC := hI.2.2.2.2.2.2.2.2.2.2.2.2.2.2.2.2.2.2.2.2.2.2.2.2.2.2.2.2.2.2.2.2.2.2.1
  obtain ⟨l1, l2, l3⟩ := gx_xSC hI (by omega)
  refine ⟨ρ, fun _ _ => rfl, fun f h => ?_, ?_⟩
  · exact nomatch h
  · show sI (sU M 4 227 (9 * ρ 0 + 0))
    obtain ⟨W, hW⟩ : ∃ W, W = (sU M 4 227 (9 * ρ 0 + 0)) := ⟨_, rfl⟩
    rw [← hW]
    have base : sI0 W := by
      rw [hW]
      exact (si_u0 hI.1 (fun r hr => by cases hr))
    have k2 : XI2 W := by
      rw [hW]
      exact (xi2_u rfl hI.2.1)
    have k3 : XI3 W := by
      rw [hW]
      exact (xi3_u rfl hI.2.2.1)
    have kXA : XA W := by
      rw [hW]
      exact (uXA rfl hI.2.2.2.1)
    have k_xN1 : xN1 W := by
      rw [hW]
      exact (uxN1 rfl hI.2.2.2.2.1)
    have k_xN2 : xN2 W := by
      rw [hW]
      exact (uxN2 rfl hI.2.2.2.2.2.1)
    have k_xN3 : xN3 W := by
      rw [hW]
      exact (uxN3 rfl hI.2.2.2.2.2.2.1)
    have k_xN4 : xN4 W := by
      rw [hW]
      exact (uxN4 rfl hI.2.2.2.2.2.2.2.1)
    have k_xN5 : xN5 W := by
      rw [hW]
      exact (uxN5 rfl hI.2.2.2.2.2.2.2.2.1)
    have k_xN6 : xN6 W := by
      rw [hW]
      exact (uxN6 rfl hI.2.2.2.2.2.2.2.2.2.1)
    have k_xH1 : xH1 W := by
      rw [hW]
      exact (uxH1 rfl hI.2.2.2.2.2.2.2.2.2.2.1)
    have k_xK1 : xK1 W := by
      rw [hW]
      exact (uxK1 rfl hI.2.2.2.2.2.2.2.2.2.2.2.1)
    have k_xC1 : xC1 W := by
      rw [hW]
      exact (uxC1 rfl hI.2.2.2.2.2.2.2.2.2.2.2.2.1)
    have k_xRW : xRW W := by
      rw [hW]
      exact (uxRW rfl hI.2.2.2.2.2.2.2.2.2.2.2.2.2.1)
    have k_xWT : xWT W := by
      rw [hW]
      exact (uxWT rfl hI.2.2.2.2.2.2.2.2.2.2.2.2.2.2.1)
    have k_xCU : xCU W := by
      rw [hW]
      exact (uxCU rfl hI.2.2.2.2.2.2.2.2.2.2.2.2.2.2.2.1)
    have k_xG2 : xG2 W := by
      rw [hW]
      exact (uxG2 rfl hI.2.2.2.2.2.2.2.2.2.2.2.2.2.2.2.2.1)
    have k_xG3 : xG3 W := by
      rw [hW]
      exact (uxG3 rfl hI.2.2.2.2.2.2.2.2.2.2.2.2.2.2.2.2.2.1)
    have k_xG4 : xG4 W := by
      rw [hW]
      exact (uxG4 rfl hI.2.2.2.2.2.2.2.2.2.2.2.2.2.2.2.2.2.2.1)
    have k_xG5 : xG5 W := by
      rw [hW]
      exact (uxG5 rfl hI.2.2.2.2.2.2.2.2.2.2.2.2.2.2.2.2.2.2.2.1)
    have k_xG6 : xG6 W := by
      rw [hW]
      exact (uxG6 rfl hI.2.2.2.2.2.2.2.2.2.2.2.2.2.2.2.2.2.2.2.2.1)
    have k_xS1 : xS1 W := by
      rw [hW]
      exact (uxS1 rfl hI.2.2.2.2.2.2.2.2.2.2.2.2.2.2.2.2.2.2.2.2.2.1)
    have k_xS2 : xS2 W := by
      rw [hW]
      exact (uxS2 rfl hI.2.2.2.2.2.2.2.2.2.2.2.2.2.2.2.2.2.2.2.2.2.2.1)
    have k_xS3 : xS3 W := by
      rw [hW]
      exact (uxS3 rfl hI.2.2.2.2.2.2.2.2.2.2.2.2.2.2.2.2.2.2.2.2.2.2.2.1)
    have k_xS4 : xS4 W := by
      rw [hW]
      exact (uxS4 rfl hI.2.2.2.2.2.2.2.2.2.2.2.2.2.2.2.2.2.2.2.2.2.2.2.2.1)
    have k_xS5 : xS5 W := by
      rw [hW]
      exact (uxS5 rfl hI.2.2.2.2.2.2.2.2.2.2.2.2.2.2.2.2.2.2.2.2.2.2.2.2.2.1)
    have k_xS6 : xS6 W := by
      rw [hW]
      exact (uxS6 rfl hI.2.2.2.2.2.2.2.2.2.2.2.2.2.2.2.2.2.2.2.2.2.2.2.2.2.2.1)
    have k_xS7 : xS7 W := by
      rw [hW]
      exact (uxS7 rfl hI.2.2.2.2.2.2.2.2.2.2.2.2.2.2.2.2.2.2.2.2.2.2.2.2.2.2.2.1)
    have k_xS8 : xS8 W := by
      rw [hW]
      exact (uxS8 rfl hI.2.2.2.2.2.2.2.2.2.2.2.2.2.2.2.2.2.2.2.2.2.2.2.2.2.2.2.2.1)
    have k_xS9 : xS9 W := by
      rw [hW]
      exact (uxS9 rfl hI.2.2.2.2.2.2.2.2.2.2.2.2.2.2.2.2.2.2.2.2.2.2.2.2.2.2.2.2.2.1)
    have k_xSA : xSA W := by
      rw [hW]
      exact (uxSA rfl hI.2.2.2.2.2.2.2.2.2.2.2.2.2.2.2.2.2.2.2.2.2.2.2.2.2.2.2.2.2.2.1)
    have k_xSG : xSG W := by
      rw [hW]
      exact (uxSG rfl hI.2.2.2.2.2.2.2.2.2.2.2.2.2.2.2.2.2.2.2.2.2.2.2.2.2.2.2.2.2.2.2.1)
    have k_xSF : xSF W := by
      rw [hW]
      exact (uxSF rfl hI.2.2.2.2.2.2.2.2.2.2.2.2.2.2.2.2.2.2.2.2.2.2.2.2.2.2.2.2.2.2.2.2.1)
    have k_xSB : xSB W := by
      rw [hW]
      exact (uxSB rfl hI.2.2.2.2.2.2.2.2.2.2.2.2.2.2.2.2.2.2.2.2.2.2.2.2.2.2.2.2.2.2.2.2.2.1)
    have k_xSC : xSC W := by
      have r4_226 : W 4 226 = M 4 226 := by rw [hW, sU_ne (fun z => by omega)]
      have r4_227 : W 4 227 = 9 * ρ 0 + 0 := by rw [hW, sU_at]
      have r4_219 : W 4 219 = M 4 219 := by rw [hW, sU_ne (fun z => by omega)]
      intro h
      rw [r4_227, r4_219, h0]
      refine ⟨by omega, by omega, ?_⟩
      have e1 := tki_on (x := M 4 219) (w := 8) (show tLa[8]? = some (659011744 : Int) from rfl)
      rw [if_neg (by omega)] at e1
      rw [show M 4 227 = 8 by omega] at l3
      rw [← l3]
      exact e1.symm
    have k_xSD : xSD W := by
      rw [hW]
      exact (uxSD rfl hI.2.2.2.2.2.2.2.2.2.2.2.2.2.2.2.2.2.2.2.2.2.2.2.2.2.2.2.2.2.2.2.2.2.2.2.1)
    have k_xSE : xSE W := by
      rw [hW]
      exact (uxSE rfl hI.2.2.2.2.2.2.2.2.2.2.2.2.2.2.2.2.2.2.2.2.2.2.2.2.2.2.2.2.2.2.2.2.2.2.2.2.1)
    have k_xSW : xSW W := by
      rw [hW]
      exact (uxSW rfl hI.2.2.2.2.2.2.2.2.2.2.2.2.2.2.2.2.2.2.2.2.2.2.2.2.2.2.2.2.2.2.2.2.2.2.2.2.2.1)
    have k_xST : xST W := by
      rw [hW]
      exact (uxST rfl hI.2.2.2.2.2.2.2.2.2.2.2.2.2.2.2.2.2.2.2.2.2.2.2.2.2.2.2.2.2.2.2.2.2.2.2.2.2.2.1)
    have k_xSP : xSP W := by
      rw [hW]
      exact (uxSP rfl hI.2.2.2.2.2.2.2.2.2.2.2.2.2.2.2.2.2.2.2.2.2.2.2.2.2.2.2.2.2.2.2.2.2.2.2.2.2.2.2.1)
    have k_xSL : xSL W := by
      rw [hW]
      exact (uxSL rfl hI.2.2.2.2.2.2.2.2.2.2.2.2.2.2.2.2.2.2.2.2.2.2.2.2.2.2.2.2.2.2.2.2.2.2.2.2.2.2.2.2.1)
    have k_xSM : xSM W := by
      rw [hW]
      exact (uxSM rfl hI.2.2.2.2.2.2.2.2.2.2.2.2.2.2.2.2.2.2.2.2.2.2.2.2.2.2.2.2.2.2.2.2.2.2.2.2.2.2.2.2.2.1)
    have k_xSI : xSI W := by
      rw [hW]
      exact (uxSI rfl hI.2.2.2.2.2.2.2.2.2.2.2.2.2.2.2.2.2.2.2.2.2.2.2.2.2.2.2.2.2.2.2.2.2.2.2.2.2.2.2.2.2.2)
    have k_XC : XC W := ⟨k_xS1, k_xS2, k_xS3, k_xS4, k_xS5, k_xS6, k_xS7, k_xS8, k_xS9, k_xSA, k_xSG, k_xSF, k_xSB, k_xSC, k_xSD, k_xSE, k_xSW, k_xST, k_xSP, k_xSL, k_xSM, k_xSI⟩
    have kXB : XB W := ⟨k_xN1, k_xN2, k_xN3, k_xN4, k_xN5, k_xN6, k_xH1, k_xK1, k_xC1, k_xRW, k_xWT, k_xCU, k_xG2, k_xG3, k_xG4, k_xG5, k_xG6, k_XC⟩
    exact ⟨base, k2, k3, kXA, kXB⟩
-- langMissR8H
def xr_477 : qRu := (3, [[(-659011745, 0), (1, 2)]], [(4, 226, [(1, 0)]), (4, 227, [(8, 0)]), (4, 219, [(1, 2)])], [], [(4, 227, [(9, 0)])], [])
theorem xo_477 : qRok xr_477 := by
  intro ρ M h0 hf hm hI
  have f0 := hf [(-659011745, 0), (1, 2)] (by decide)
  simp only [qD, h0] at f0
  have m0 : M 4 226 = 1 * ρ 0 + 0 := hm (4, 226, [(1, 0)]) (by decide)
  have m1 : M 4 227 = 8 * ρ 0 + 0 := hm (4, 227, [(8, 0)]) (by decide)
  have m2 : M 4 219 = 1 * ρ 2 + 0 := hm (4, 219, [(1, 2)]) (by decide)
  simp only [h0] at m0 m1
  have qxSC := hI.2.2.2.2.2.2.2.2.2.2.2.2.2.2.2.2.2.2.2.2.2.2.2.2.2.2.2.2.2.2.2.2.2.2.1
  obtain ⟨l1, l2, l3⟩ := gx_xSC hI (by omega)
  refine ⟨ρ, fun _ _ => rfl, fun f h => ?_, ?_⟩
  · exact nomatch h
  · show sI (sU M 4 227 (9 * ρ 0 + 0))
    obtain ⟨W, hW⟩ : ∃ W, W = (sU M 4 227 (9 * ρ 0 + 0)) := ⟨_, rfl⟩
    rw [← hW]
    have base : sI0 W := by
      rw [hW]
      exact (si_u0 hI.1 (fun r hr => by cases hr))
    have k2 : XI2 W := by
      rw [hW]
      exact (xi2_u rfl hI.2.1)
    have k3 : XI3 W := by
      rw [hW]
      exact (xi3_u rfl hI.2.2.1)
    have kXA : XA W := by
      rw [hW]
      exact (uXA rfl hI.2.2.2.1)
    have k_xN1 : xN1 W := by
      rw [hW]
      exact (uxN1 rfl hI.2.2.2.2.1)
    have k_xN2 : xN2 W := by
      rw [hW]
      exact (uxN2 rfl hI.2.2.2.2.2.1)
    have k_xN3 : xN3 W := by
      rw [hW]
      exact (uxN3 rfl hI.2.2.2.2.2.2.1)
    have k_xN4 : xN4 W := by
      rw [hW]
      exact (uxN4 rfl hI.2.2.2.2.2.2.2.1)
    have k_xN5 : xN5 W := by
      rw [hW]
      exact (uxN5 rfl hI.2.2.2.2.2.2.2.2.1)
    have k_xN6 : xN6 W := by
      rw [hW]
      exact (uxN6 rfl hI.2.2.2.2.2.2.2.2.2.1)
    have k_xH1 : xH1 W := by
      rw [hW]
      exact (uxH1 rfl hI.2.2.2.2.2.2.2.2.2.2.1)
    have k_xK1 : xK1 W := by
      rw [hW]
      exact (uxK1 rfl hI.2.2.2.2.2.2.2.2.2.2.2.1)
    have k_xC1 : xC1 W := by
      rw [hW]
      exact (uxC1 rfl hI.2.2.2.2.2.2.2.2.2.2.2.2.1)
    have k_xRW : xRW W := by
      rw [hW]
      exact (uxRW rfl hI.2.2.2.2.2.2.2.2.2.2.2.2.2.1)
    have k_xWT : xWT W := by
      rw [hW]
      exact (uxWT rfl hI.2.2.2.2.2.2.2.2.2.2.2.2.2.2.1)
    have k_xCU : xCU W := by
      rw [hW]
      exact (uxCU rfl hI.2.2.2.2.2.2.2.2.2.2.2.2.2.2.2.1)
    have k_xG2 : xG2 W := by
      rw [hW]
      exact (uxG2 rfl hI.2.2.2.2.2.2.2.2.2.2.2.2.2.2.2.2.1)
    have k_xG3 : xG3 W := by
      rw [hW]
      exact (uxG3 rfl hI.2.2.2.2.2.2.2.2.2.2.2.2.2.2.2.2.2.1)
    have k_xG4 : xG4 W := by
      rw [hW]
      exact (uxG4 rfl hI.2.2.2.2.2.2.2.2.2.2.2.2.2.2.2.2.2.2.1)
    have k_xG5 : xG5 W := by
      rw [hW]
      exact (uxG5 rfl hI.2.2.2.2.2.2.2.2.2.2.2.2.2.2.2.2.2.2.2.1)
    have k_xG6 : xG6 W := by
      rw [hW]
      exact (uxG6 rfl hI.2.2.2.2.2.2.2.2.2.2.2.2.2.2.2.2.2.2.2.2.1)
    have k_xS1 : xS1 W := by
      rw [hW]
      exact (uxS1 rfl hI.2.2.2.2.2.2.2.2.2.2.2.2.2.2.2.2.2.2.2.2.2.1)
    have k_xS2 : xS2 W := by
      rw [hW]
      exact (uxS2 rfl hI.2.2.2.2.2.2.2.2.2.2.2.2.2.2.2.2.2.2.2.2.2.2.1)
    have k_xS3 : xS3 W := by
      rw [hW]
      exact (uxS3 rfl hI.2.2.2.2.2.2.2.2.2.2.2.2.2.2.2.2.2.2.2.2.2.2.2.1)
    have k_xS4 : xS4 W := by
      rw [hW]
      exact (uxS4 rfl hI.2.2.2.2.2.2.2.2.2.2.2.2.2.2.2.2.2.2.2.2.2.2.2.2.1)
    have k_xS5 : xS5 W := by
      rw [hW]
      exact (uxS5 rfl hI.2.2.2.2.2.2.2.2.2.2.2.2.2.2.2.2.2.2.2.2.2.2.2.2.2.1)
    have k_xS6 : xS6 W := by
      rw [hW]
      exact (uxS6 rfl hI.2.2.2.2.2.2.2.2.2.2.2.2.2.2.2.2.2.2.2.2.2.2.2.2.2.2.1)
    have k_xS7 : xS7 W := by
      rw [hW]
      exact (uxS7 rfl hI.2.2.2.2.2.2.2.2.2.2.2.2.2.2.2.2.2.2.2.2.2.2.2.2.2.2.2.1)
    have k_xS8 : xS8 W := by
      rw [hW]
      exact (uxS8 rfl hI.2.2.2.2.2.2.2.2.2.2.2.2.2.2.2.2.2.2.2.2.2.2.2.2.2.2.2.2.1)
    have k_xS9 : xS9 W := by
      rw [hW]
      exact (uxS9 rfl hI.2.2.2.2.2.2.2.2.2.2.2.2.2.2.2.2.2.2.2.2.2.2.2.2.2.2.2.2.2.1)
    have k_xSA : xSA W := by
      rw [hW]
      exact (uxSA rfl hI.2.2.2.2.2.2.2.2.2.2.2.2.2.2.2.2.2.2.2.2.2.2.2.2.2.2.2.2.2.2.1)
    have k_xSG : xSG W := by
      rw [hW]
      exact (uxSG rfl hI.2.2.2.2.2.2.2.2.2.2.2.2.2.2.2.2.2.2.2.2.2.2.2.2.2.2.2.2.2.2.2.1)
    have k_xSF : xSF W := by
      rw [hW]
      exact (uxSF rfl hI.2.2.2.2.2.2.2.2.2.2.2.2.2.2.2.2.2.2.2.2.2.2.2.2.2.2.2.2.2.2.2.2.1)
    have k_xSB : xSB W := by
      rw [hW]
      exact (uxSB rfl hI.2.2.2.2.2.2.2.2.2.2.2.2.2.2.2.2.2.2.2.2.2.2.2.2.2.2.2.2.2.2.2.2.2.1)
    have k_xSC : xSC W := by
      have r4_226 : W 4 226 = M 4 226 := by rw [hW, sU_ne (fun z => by omega)]
      have r4_227 : W 4 227 = 9 * ρ 0 + 0 := by rw [hW, sU_at]
      have r4_219 : W 4 219 = M 4 219 := by rw [hW, sU_ne (fun z => by omega)]
      intro h
      rw [r4_227, r4_219, h0]
      refine ⟨by omega, by omega, ?_⟩
      have e1 := tki_on (x := M 4 219) (w := 8) (show tLa[8]? = some (659011744 : Int) from rfl)
      rw [if_neg (by omega)] at e1
      rw [show M 4 227 = 8 by omega] at l3
      rw [← l3]
      exact e1.symm
    have k_xSD : xSD W := by
      rw [hW]
      exact (uxSD rfl hI.2.2.2.2.2.2.2.2.2.2.2.2.2.2.2.2.2.2.2.2.2.2.2.2.2.2.2.2.2.2.2.2.2.2.2.1)
    have k_xSE : xSE W := by
      rw [hW]
      exact (uxSE rfl hI.2.2.2.2.2.2.2.2.2.2.2.2.2.2.2.2.2.2.2.2.2.2.2.2.2.2.2.2.2.2.2.2.2.2.2.2.1)
    have k_xSW : xSW W := by
      rw [hW]
      exact (uxSW rfl hI.2.2.2.2.2.2.2.2.2.2.2.2.2.2.2.2.2.2.2.2.2.2.2.2.2.2.2.2.2.2.2.2.2.2.2.2.2.1)
    have k_xST : xST W := by
      rw [hW]
      exact (uxST rfl hI.2.2.2.2.2.2.2.2.2.2.2.2.2.2.2.2.2.2.2.2.2.2.2.2.2.2.2.2.2.2.2.2.2.2.2.2.2.2.1)
    have k_xSP : xSP W := by
      rw [hW]
      exact (uxSP rfl hI.2.2.2.2.2.2.2.2.2.2.2.2.2.2.2.2.2.2.2.2.2.2.2.2.2.2.2.2.2.2.2.2.2.2.2.2.2.2.2.1)
    have k_xSL : xSL W := by
      rw [hW]
      exact (uxSL rfl hI.2.2.2.2.2.2.2.2.2.2.2.2.2.2.2.2.2.2.2.2.2.2.2.2.2.2.2.2.2.2.2.2.2.2.2.2.2.2.2.2.1)
    have k_xSM : xSM W := by
      rw [hW]
      exact (uxSM rfl hI.2.2.2.2.2.2.2.2.2.2.2.2.2.2.2.2.2.2.2.2.2.2.2.2.2.2.2.2.2.2.2.2.2.2.2.2.2.2.2.2.2.1)
    have k_xSI : xSI W := by
      rw [hW]
      exact (uxSI rfl hI.2.2.2.2.2.2.2.2.2.2.2.2.2.2.2.2.2.2.2.2.2.2.2.2.2.2.2.2.2.2.2.2.2.2.2.2.2.2.2.2.2.2)
    have k_XC : XC W := ⟨k_xS1, k_xS2, k_xS3, k_xS4, k_xS5, k_xS6, k_xS7, k_xS8, k_xS9, k_xSA, k_xSG, k_xSF, k_xSB, k_xSC, k_xSD, k_xSE, k_xSW, k_xST, k_xSP, k_xSL, k_xSM, k_xSI⟩
    have kXB : XB W := ⟨k_xN1, k_xN2, k_xN3, k_xN4, k_xN5, k_xN6, k_xH1, k_xK1, k_xC1, k_xRW, k_xWT, k_xCU, k_xG2, k_xG3, k_xG4, k_xG5, k_xG6, k_XC⟩
    exact ⟨base, k2, k3, kXA, kXB⟩
-- wHitR9_c
def xr_478 : qRu := (13, [[(-1, 0), (1, 5)], [(1, 1)], [(-1, 1), (1, 9)], [(1, 1), (-1, 9)], [(-1, 0), (-1, 1), (1, 10)], [(6, 0), (1, 9), (-1, 10)], [(-642945024, 0), (1, 11)], [(642945024, 0), (-1, 11)]], [(4, 210, [(1, 0)]), (4, 211, [(1, 1)]), (4, 101, [(1, 2)]), (3, 46, [(1, 3)]), (3, 47, [(1, 4)]), (4, 100, [(1, 5)]), (3, 44, [(1, 6)]), (3, 45, [(1, 7)]), (4, 107, [(1, 8)]), (4, 214, [(1, 0)]), (4, 215, [(1, 9)]), (4, 217, [(1, 10)]), (4, 219, [(1, 11)]), (4, 216, [(1, 12)])], [], [], [[(-1, 1), (1, 3)], [(1, 1), (-1, 3)], [(1, 4), (-1, 10)], [(-1, 4), (1, 10)], [(-27, 0), (1, 6)], [(27, 0), (-1, 6)], [(1, 7), (-1, 11)], [(-1, 7), (1, 11)]])
theorem xo_478 : qRok xr_478 := by
  intro ρ M h0 hf hm hI
  have f0 := hf [(-1, 0), (1, 5)] (by decide)
  have f1 := hf [(1, 1)] (by decide)
  have f2 := hf [(-1, 1), (1, 9)] (by decide)
  have f3 := hf [(1, 1), (-1, 9)] (by decide)
  have f4 := hf [(-1, 0), (-1, 1), (1, 10)] (by decide)
  have f5 := hf [(6, 0), (1, 9), (-1, 10)] (by decide)
  have f6 := hf [(-642945024, 0), (1, 11)] (by decide)
  have f7 := hf [(642945024, 0), (-1, 11)] (by decide)
  simp only [qD, h0] at f0 f1 f2 f3 f4 f5 f6 f7
  have m0 : M 4 210 = 1 * ρ 0 + 0 := hm (4, 210, [(1, 0)]) (by decide)
  have m1 : M 4 211 = 1 * ρ 1 + 0 := hm (4, 211, [(1, 1)]) (by decide)
  have m2 : M 4 101 = 1 * ρ 2 + 0 := hm (4, 101, [(1, 2)]) (by decide)
  have m3 : M 3 46 = 1 * ρ 3 + 0 := hm (3, 46, [(1, 3)]) (by decide)
  have m4 : M 3 47 = 1 * ρ 4 + 0 := hm (3, 47, [(1, 4)]) (by decide)
  have m5 : M 4 100 = 1 * ρ 5 + 0 := hm (4, 100, [(1, 5)]) (by decide)
  have m6 : M 3 44 = 1 * ρ 6 + 0 := hm (3, 44, [(1, 6)]) (by decide)
  have m7 : M 3 45 = 1 * ρ 7 + 0 := hm (3, 45, [(1, 7)]) (by decide)
  have m8 : M 4 107 = 1 * ρ 8 + 0 := hm (4, 107, [(1, 8)]) (by decide)
  have m9 : M 4 214 = 1 * ρ 0 + 0 := hm (4, 214, [(1, 0)]) (by decide)
  have m10 : M 4 215 = 1 * ρ 9 + 0 := hm (4, 215, [(1, 9)]) (by decide)
  have m11 : M 4 217 = 1 * ρ 10 + 0 := hm (4, 217, [(1, 10)]) (by decide)
  have m12 : M 4 219 = 1 * ρ 11 + 0 := hm (4, 219, [(1, 11)]) (by decide)
  have m13 : M 4 216 = 1 * ρ 12 + 0 := hm (4, 216, [(1, 12)]) (by decide)
  simp only [h0] at m0 m9
  obtain ⟨u1, u2, _⟩ := gx_xS8 hI (by omega)

  obtain ⟨a1, a2, a3, a4, a5, a6, a7⟩ := gx_xSA hI (by omega)
  have eq1 : (M 4 215).toNat = (M 4 211).toNat := by omega
  rw [eq1] at a6 a7
  have hgt := ten_gt (g := M 92) (lo := 97) (hi := 122) (n := (M 4 101).toNat) (q := (M 4 211).toNat) (by omega)
  have el1 : (M 4 217 - M 4 215).toNat = tEn (M 92) 97 122 (M 4 101).toNat (M 4 211).toNat - (M 4 211).toNat := by omega
  rw [el1] at a7

  obtain ⟨t1, t2, t3, t4, t5, t6⟩ := tk_of hI (by omega) (by omega) (by omega) (show tAt (M 92) (M 4 101).toNat (M 4 211).toNat (M 4 107) (M 4 108) = (27, M 4 219, ((M 4 211).toNat : Int), M 4 217, 0, 9) from by
    unfold tAt
    rw [if_neg (by omega), if_pos hgt.2]
    unfold tWo
    rw [← a7, ← a6]
    have hk : tKi (M 4 219) 0 = 27 := by
      rw [show M 4 219 = 642945024 by omega]
      decide
    have h6 : ¬ (6 < tEn (M 92) 97 122 (M 4 101).toNat (M 4 211).toNat - (M 4 211).toNat) := by omega
    unfold tWk tWs tWv
    rw [if_neg h6, if_neg h6, if_neg h6, hk]
    rfl)
  refine ⟨ρ, fun _ _ => rfl, fun f h => ?_, ?_⟩
  · have h : f ∈ ([[(-1, 1), (1, 3)], [(1, 1), (-1, 3)], [(1, 4), (-1, 10)], [(-1, 4), (1, 10)], [(-27, 0), (1, 6)], [(27, 0), (-1, 6)], [(1, 7), (-1, 11)], [(-1, 7), (1, 11)]] : List qF) := h
    simp only [List.mem_cons, List.not_mem_nil, or_false] at h
    rcases h with rfl | rfl | rfl | rfl | rfl | rfl | rfl | rfl
    · show 0 ≤ -1 * ρ 1 + (1 * ρ 3 + 0)
      (try rw [h0]); omega
    · show 0 ≤ 1 * ρ 1 + (-1 * ρ 3 + 0)
      (try rw [h0]); omega
    · show 0 ≤ 1 * ρ 4 + (-1 * ρ 10 + 0)
      (try rw [h0]); omega
    · show 0 ≤ -1 * ρ 4 + (1 * ρ 10 + 0)
      (try rw [h0]); omega
    · show 0 ≤ -27 * ρ 0 + (1 * ρ 6 + 0)
      (try rw [h0]); omega
    · show 0 ≤ 27 * ρ 0 + (-1 * ρ 6 + 0)
      (try rw [h0]); omega
    · show 0 ≤ 1 * ρ 7 + (-1 * ρ 11 + 0)
      (try rw [h0]); omega
    · show 0 ≤ -1 * ρ 7 + (1 * ρ 11 + 0)
      (try rw [h0]); omega
  · show sI M
    exact hI
-- wHitR9_r
def xr_479 : qRu := (13, [[(-1, 0), (1, 5)], [(1, 1)], [(-1, 1), (1, 9)], [(1, 1), (-1, 9)], [(-1, 0), (-1, 1), (1, 10)], [(6, 0), (1, 9), (-1, 10)], [(-642945024, 0), (1, 11)], [(642945024, 0), (-1, 11)]], [(4, 210, [(1, 0)]), (4, 211, [(1, 1)]), (4, 101, [(1, 2)]), (3, 46, [(1, 3)]), (3, 47, [(1, 4)]), (4, 100, [(1, 5)]), (3, 50, [(1, 6)]), (3, 51, [(1, 7)]), (4, 108, [(1, 8)]), (4, 214, [(1, 0)]), (4, 215, [(1, 9)]), (4, 217, [(1, 10)]), (4, 219, [(1, 11)]), (4, 216, [(1, 12)])], [], [], [[(-1, 1), (1, 3)], [(1, 1), (-1, 3)], [(1, 4), (-1, 10)], [(-1, 4), (1, 10)], [(1, 6)], [(-1, 6)], [(-9, 0), (1, 7)], [(9, 0), (-1, 7)]])
theorem xo_479 : qRok xr_479 := by
  intro ρ M h0 hf hm hI
  have f0 := hf [(-1, 0), (1, 5)] (by decide)
  have f1 := hf [(1, 1)] (by decide)
  have f2 := hf [(-1, 1), (1, 9)] (by decide)
  have f3 := hf [(1, 1), (-1, 9)] (by decide)
  have f4 := hf [(-1, 0), (-1, 1), (1, 10)] (by decide)
  have f5 := hf [(6, 0), (1, 9), (-1, 10)] (by decide)
  have f6 := hf [(-642945024, 0), (1, 11)] (by decide)
  have f7 := hf [(642945024, 0), (-1, 11)] (by decide)
  simp only [qD, h0] at f0 f1 f2 f3 f4 f5 f6 f7
  have m0 : M 4 210 = 1 * ρ 0 + 0 := hm (4, 210, [(1, 0)]) (by decide)
  have m1 : M 4 211 = 1 * ρ 1 + 0 := hm (4, 211, [(1, 1)]) (by decide)
  have m2 : M 4 101 = 1 * ρ 2 + 0 := hm (4, 101, [(1, 2)]) (by decide)
  have m3 : M 3 46 = 1 * ρ 3 + 0 := hm (3, 46, [(1, 3)]) (by decide)
  have m4 : M 3 47 = 1 * ρ 4 + 0 := hm (3, 47, [(1, 4)]) (by decide)
  have m5 : M 4 100 = 1 * ρ 5 + 0 := hm (4, 100, [(1, 5)]) (by decide)
  have m6 : M 3 50 = 1 * ρ 6 + 0 := hm (3, 50, [(1, 6)]) (by decide)
  have m7 : M 3 51 = 1 * ρ 7 + 0 := hm (3, 51, [(1, 7)]) (by decide)
  have m8 : M 4 108 = 1 * ρ 8 + 0 := hm (4, 108, [(1, 8)]) (by decide)
  have m9 : M 4 214 = 1 * ρ 0 + 0 := hm (4, 214, [(1, 0)]) (by decide)
  have m10 : M 4 215 = 1 * ρ 9 + 0 := hm (4, 215, [(1, 9)]) (by decide)
  have m11 : M 4 217 = 1 * ρ 10 + 0 := hm (4, 217, [(1, 10)]) (by decide)
  have m12 : M 4 219 = 1 * ρ 11 + 0 := hm (4, 219, [(1, 11)]) (by decide)
  have m13 : M 4 216 = 1 * ρ 12 + 0 := hm (4, 216, [(1, 12)]) (by decide)
  simp only [h0] at m0 m9
  obtain ⟨u1, u2, _⟩ := gx_xS8 hI (by omega)

  obtain ⟨a1, a2, a3, a4, a5, a6, a7⟩ := gx_xSA hI (by omega)
  have eq1 : (M 4 215).toNat = (M 4 211).toNat := by omega
  rw [eq1] at a6 a7
  have hgt := ten_gt (g := M 92) (lo := 97) (hi := 122) (n := (M 4 101).toNat) (q := (M 4 211).toNat) (by omega)
  have el1 : (M 4 217 - M 4 215).toNat = tEn (M 92) 97 122 (M 4 101).toNat (M 4 211).toNat - (M 4 211).toNat := by omega
  rw [el1] at a7

  obtain ⟨t1, t2, t3, t4, t5, t6⟩ := tk_of hI (by omega) (by omega) (by omega) (show tAt (M 92) (M 4 101).toNat (M 4 211).toNat (M 4 107) (M 4 108) = (27, M 4 219, ((M 4 211).toNat : Int), M 4 217, 0, 9) from by
    unfold tAt
    rw [if_neg (by omega), if_pos hgt.2]
    unfold tWo
    rw [← a7, ← a6]
    have hk : tKi (M 4 219) 0 = 27 := by
      rw [show M 4 219 = 642945024 by omega]
      decide
    have h6 : ¬ (6 < tEn (M 92) 97 122 (M 4 101).toNat (M 4 211).toNat - (M 4 211).toNat) := by omega
    unfold tWk tWs tWv
    rw [if_neg h6, if_neg h6, if_neg h6, hk]
    rfl)
  refine ⟨ρ, fun _ _ => rfl, fun f h => ?_, ?_⟩
  · have h : f ∈ ([[(-1, 1), (1, 3)], [(1, 1), (-1, 3)], [(1, 4), (-1, 10)], [(-1, 4), (1, 10)], [(1, 6)], [(-1, 6)], [(-9, 0), (1, 7)], [(9, 0), (-1, 7)]] : List qF) := h
    simp only [List.mem_cons, List.not_mem_nil, or_false] at h
    rcases h with rfl | rfl | rfl | rfl | rfl | rfl | rfl | rfl
    · show 0 ≤ -1 * ρ 1 + (1 * ρ 3 + 0)
      (try rw [h0]); omega
    · show 0 ≤ 1 * ρ 1 + (-1 * ρ 3 + 0)
      (try rw [h0]); omega
    · show 0 ≤ 1 * ρ 4 + (-1 * ρ 10 + 0)
      (try rw [h0]); omega
    · show 0 ≤ -1 * ρ 4 + (1 * ρ 10 + 0)
      (try rw [h0]); omega
    · show 0 ≤ 1 * ρ 6 + 0
      (try rw [h0]); omega
    · show 0 ≤ -1 * ρ 6 + 0
      (try rw [h0]); omega
    · show 0 ≤ -9 * ρ 0 + (1 * ρ 7 + 0)
      (try rw [h0]); omega
    · show 0 ≤ 9 * ρ 0 + (-1 * ρ 7 + 0)
      (try rw [h0]); omega
  · show sI M
    exact hI
-- langMissR9L
def xr_480 : qRu := (3, [[(642945023, 0), (-1, 2)]], [(4, 226, [(1, 0)]), (4, 227, [(9, 0)]), (4, 219, [(1, 2)])], [], [(4, 227, [(10, 0)])], [])
theorem xo_480 : qRok xr_480 := by
  intro ρ M h0 hf hm hI
  have f0 := hf [(642945023, 0), (-1, 2)] (by decide)
  simp only [qD, h0] at f0
  have m0 : M 4 226 = 1 * ρ 0 + 0 := hm (4, 226, [(1, 0)]) (by decide)
  have m1 : M 4 227 = 9 * ρ 0 + 0 := hm (4, 227, [(9, 0)]) (by decide)
  have m2 : M 4 219 = 1 * ρ 2 + 0 := hm (4, 219, [(1, 2)]) (by decide)
  simp only [h0] at m0 m1
  have qxSC := hI.2.2.2.2.2.2.2.2.2.2.2.2.2.2.2.2.2.2.2.2.2.2.2.2.2.2.2.2.2.2.2.2.2.2.1
  obtain ⟨l1, l2, l3⟩ := gx_xSC hI (by omega)
  refine ⟨ρ, fun _ _ => rfl, fun f h => ?_, ?_⟩
  · exact nomatch h
  · show sI (sU M 4 227 (10 * ρ 0 + 0))
    obtain ⟨W, hW⟩ : ∃ W, W = (sU M 4 227 (10 * ρ 0 + 0)) := ⟨_, rfl⟩
    rw [← hW]
    have base : sI0 W := by
      rw [hW]
      exact (si_u0 hI.1 (fun r hr => by cases hr))
    have k2 : XI2 W := by
      rw [hW]
      exact (xi2_u rfl hI.2.1)
    have k3 : XI3 W := by
      rw [hW]
      exact (xi3_u rfl hI.2.2.1)
    have kXA : XA W := by
      rw [hW]
      exact (uXA rfl hI.2.2.2.1)
    have k_xN1 : xN1 W := by
      rw [hW]
      exact (uxN1 rfl hI.2.2.2.2.1)
    have k_xN2 : xN2 W := by
      rw [hW]
      exact (uxN2 rfl hI.2.2.2.2.2.1)
    have k_xN3 : xN3 W := by
      rw [hW]
      exact (uxN3 rfl hI.2.2.2.2.2.2.1)
    have k_xN4 : xN4 W := by
      rw [hW]
      exact (uxN4 rfl hI.2.2.2.2.2.2.2.1)
    have k_xN5 : xN5 W := by
      rw [hW]
      exact (uxN5 rfl hI.2.2.2.2.2.2.2.2.1)
    have k_xN6 : xN6 W := by
      rw [hW]
      exact (uxN6 rfl hI.2.2.2.2.2.2.2.2.2.1)
    have k_xH1 : xH1 W := by
      rw [hW]
      exact (uxH1 rfl hI.2.2.2.2.2.2.2.2.2.2.1)
    have k_xK1 : xK1 W := by
      rw [hW]
      exact (uxK1 rfl hI.2.2.2.2.2.2.2.2.2.2.2.1)
    have k_xC1 : xC1 W := by
      rw [hW]
      exact (uxC1 rfl hI.2.2.2.2.2.2.2.2.2.2.2.2.1)
    have k_xRW : xRW W := by
      rw [hW]
      exact (uxRW rfl hI.2.2.2.2.2.2.2.2.2.2.2.2.2.1)
    have k_xWT : xWT W := by
      rw [hW]
      exact (uxWT rfl hI.2.2.2.2.2.2.2.2.2.2.2.2.2.2.1)
    have k_xCU : xCU W := by
      rw [hW]
      exact (uxCU rfl hI.2.2.2.2.2.2.2.2.2.2.2.2.2.2.2.1)
    have k_xG2 : xG2 W := by
      rw [hW]
      exact (uxG2 rfl hI.2.2.2.2.2.2.2.2.2.2.2.2.2.2.2.2.1)
    have k_xG3 : xG3 W := by
      rw [hW]
      exact (uxG3 rfl hI.2.2.2.2.2.2.2.2.2.2.2.2.2.2.2.2.2.1)
    have k_xG4 : xG4 W := by
      rw [hW]
      exact (uxG4 rfl hI.2.2.2.2.2.2.2.2.2.2.2.2.2.2.2.2.2.2.1)
    have k_xG5 : xG5 W := by
      rw [hW]
      exact (uxG5 rfl hI.2.2.2.2.2.2.2.2.2.2.2.2.2.2.2.2.2.2.2.1)
    have k_xG6 : xG6 W := by
      rw [hW]
      exact (uxG6 rfl hI.2.2.2.2.2.2.2.2.2.2.2.2.2.2.2.2.2.2.2.2.1)
    have k_xS1 : xS1 W := by
      rw [hW]
      exact (uxS1 rfl hI.2.2.2.2.2.2.2.2.2.2.2.2.2.2.2.2.2.2.2.2.2.1)
    have k_xS2 : xS2 W := by
      rw [hW]
      exact (uxS2 rfl hI.2.2.2.2.2.2.2.2.2.2.2.2.2.2.2.2.2.2.2.2.2.2.1)
    have k_xS3 : xS3 W := by
      rw [hW]
      exact (uxS3 rfl hI.2.2.2.2.2.2.2.2.2.2.2.2.2.2.2.2.2.2.2.2.2.2.2.1)
    have k_xS4 : xS4 W := by
      rw [hW]
      exact (uxS4 rfl hI.2.2.2.2.2.2.2.2.2.2.2.2.2.2.2.2.2.2.2.2.2.2.2.2.1)
    have k_xS5 : xS5 W := by
      rw [hW]
      exact (uxS5 rfl hI.2.2.2.2.2.2.2.2.2.2.2.2.2.2.2.2.2.2.2.2.2.2.2.2.2.1)
    have k_xS6 : xS6 W := by
      rw [hW]
      exact (uxS6 rfl hI.2.2.2.2.2.2.2.2.2.2.2.2.2.2.2.2.2.2.2.2.2.2.2.2.2.2.1)
    have k_xS7 : xS7 W := by
      rw [hW]
      exact (uxS7 rfl hI.2.2.2.2.2.2.2.2.2.2.2.2.2.2.2.2.2.2.2.2.2.2.2.2.2.2.2.1)
    have k_xS8 : xS8 W := by
      rw [hW]
      exact (uxS8 rfl hI.2.2.2.2.2.2.2.2.2.2.2.2.2.2.2.2.2.2.2.2.2.2.2.2.2.2.2.2.1)
    have k_xS9 : xS9 W := by
      rw [hW]
      exact (uxS9 rfl hI.2.2.2.2.2.2.2.2.2.2.2.2.2.2.2.2.2.2.2.2.2.2.2.2.2.2.2.2.2.1)
    have k_xSA : xSA W := by
      rw [hW]
      exact (uxSA rfl hI.2.2.2.2.2.2.2.2.2.2.2.2.2.2.2.2.2.2.2.2.2.2.2.2.2.2.2.2.2.2.1)
    have k_xSG : xSG W := by
      rw [hW]
      exact (uxSG rfl hI.2.2.2.2.2.2.2.2.2.2.2.2.2.2.2.2.2.2.2.2.2.2.2.2.2.2.2.2.2.2.2.1)
    have k_xSF : xSF W := by
      rw [hW]
      exact (uxSF rfl hI.2.2.2.2.2.2.2.2.2.2.2.2.2.2.2.2.2.2.2.2.2.2.2.2.2.2.2.2.2.2.2.2.1)
    have k_xSB : xSB W := by
      rw [hW]
      exact (uxSB rfl hI.2.2.2.2.2.2.2.2.2.2.2.2.2.2.2.2.2.2.2.2.2.2.2.2.2.2.2.2.2.2.2.2.2.1)
    have k_xSC : xSC W := by
      have r4_226 : W 4 226 = M 4 226 := by rw [hW, sU_ne (fun z => by omega)]
      have r4_227 : W 4 227 = 10 * ρ 0 + 0 := by rw [hW, sU_at]
      have r4_219 : W 4 219 = M 4 219 := by rw [hW, sU_ne (fun z => by omega)]
      intro h
      rw [r4_227, r4_219, h0]
      refine ⟨by omega, by omega, ?_⟩
      have e1 := tki_on (x := M 4 219) (w := 9) (show tLa[9]? = some (642945024 : Int) from rfl)
      rw [if_neg (by omega)] at e1
      rw [show M 4 227 = 9 by omega] at l3
      rw [← l3]
      exact e1.symm
    have k_xSD : xSD W := by
      rw [hW]
      exact (uxSD rfl hI.2.2.2.2.2.2.2.2.2.2.2.2.2.2.2.2.2.2.2.2.2.2.2.2.2.2.2.2.2.2.2.2.2.2.2.1)
    have k_xSE : xSE W := by
      rw [hW]
      exact (uxSE rfl hI.2.2.2.2.2.2.2.2.2.2.2.2.2.2.2.2.2.2.2.2.2.2.2.2.2.2.2.2.2.2.2.2.2.2.2.2.1)
    have k_xSW : xSW W := by
      rw [hW]
      exact (uxSW rfl hI.2.2.2.2.2.2.2.2.2.2.2.2.2.2.2.2.2.2.2.2.2.2.2.2.2.2.2.2.2.2.2.2.2.2.2.2.2.1)
    have k_xST : xST W := by
      rw [hW]
      exact (uxST rfl hI.2.2.2.2.2.2.2.2.2.2.2.2.2.2.2.2.2.2.2.2.2.2.2.2.2.2.2.2.2.2.2.2.2.2.2.2.2.2.1)
    have k_xSP : xSP W := by
      rw [hW]
      exact (uxSP rfl hI.2.2.2.2.2.2.2.2.2.2.2.2.2.2.2.2.2.2.2.2.2.2.2.2.2.2.2.2.2.2.2.2.2.2.2.2.2.2.2.1)
    have k_xSL : xSL W := by
      rw [hW]
      exact (uxSL rfl hI.2.2.2.2.2.2.2.2.2.2.2.2.2.2.2.2.2.2.2.2.2.2.2.2.2.2.2.2.2.2.2.2.2.2.2.2.2.2.2.2.1)
    have k_xSM : xSM W := by
      rw [hW]
      exact (uxSM rfl hI.2.2.2.2.2.2.2.2.2.2.2.2.2.2.2.2.2.2.2.2.2.2.2.2.2.2.2.2.2.2.2.2.2.2.2.2.2.2.2.2.2.1)
    have k_xSI : xSI W := by
      rw [hW]
      exact (uxSI rfl hI.2.2.2.2.2.2.2.2.2.2.2.2.2.2.2.2.2.2.2.2.2.2.2.2.2.2.2.2.2.2.2.2.2.2.2.2.2.2.2.2.2.2)
    have k_XC : XC W := ⟨k_xS1, k_xS2, k_xS3, k_xS4, k_xS5, k_xS6, k_xS7, k_xS8, k_xS9, k_xSA, k_xSG, k_xSF, k_xSB, k_xSC, k_xSD, k_xSE, k_xSW, k_xST, k_xSP, k_xSL, k_xSM, k_xSI⟩
    have kXB : XB W := ⟨k_xN1, k_xN2, k_xN3, k_xN4, k_xN5, k_xN6, k_xH1, k_xK1, k_xC1, k_xRW, k_xWT, k_xCU, k_xG2, k_xG3, k_xG4, k_xG5, k_xG6, k_XC⟩
    exact ⟨base, k2, k3, kXA, kXB⟩
-- langMissR9H
def xr_481 : qRu := (3, [[(-642945025, 0), (1, 2)]], [(4, 226, [(1, 0)]), (4, 227, [(9, 0)]), (4, 219, [(1, 2)])], [], [(4, 227, [(10, 0)])], [])
theorem xo_481 : qRok xr_481 := by
  intro ρ M h0 hf hm hI
  have f0 := hf [(-642945025, 0), (1, 2)] (by decide)
  simp only [qD, h0] at f0
  have m0 : M 4 226 = 1 * ρ 0 + 0 := hm (4, 226, [(1, 0)]) (by decide)
  have m1 : M 4 227 = 9 * ρ 0 + 0 := hm (4, 227, [(9, 0)]) (by decide)
  have m2 : M 4 219 = 1 * ρ 2 + 0 := hm (4, 219, [(1, 2)]) (by decide)
  simp only [h0] at m0 m1
  have qxSC := hI.2.2.2.2.2.2.2.2.2.2.2.2.2.2.2.2.2.2.2.2.2.2.2.2.2.2.2.2.2.2.2.2.2.2.1
  obtain ⟨l1, l2, l3⟩ := gx_xSC hI (by omega)
  refine ⟨ρ, fun _ _ => rfl, fun f h => ?_, ?_⟩
  · exact nomatch h
  · show sI (sU M 4 227 (10 * ρ 0 + 0))
    obtain ⟨W, hW⟩ : ∃ W, W = (sU M 4 227 (10 * ρ 0 + 0)) := ⟨_, rfl⟩
    rw [← hW]
    have base : sI0 W := by
      rw [hW]
      exact (si_u0 hI.1 (fun r hr => by cases hr))
    have k2 : XI2 W := by
      rw [hW]
      exact (xi2_u rfl hI.2.1)
    have k3 : XI3 W := by
      rw [hW]
      exact (xi3_u rfl hI.2.2.1)
    have kXA : XA W := by
      rw [hW]
      exact (uXA rfl hI.2.2.2.1)
    have k_xN1 : xN1 W := by
      rw [hW]
      exact (uxN1 rfl hI.2.2.2.2.1)
    have k_xN2 : xN2 W := by
      rw [hW]
      exact (uxN2 rfl hI.2.2.2.2.2.1)
    have k_xN3 : xN3 W := by
      rw [hW]
      exact (uxN3 rfl hI.2.2.2.2.2.2.1)
    have k_xN4 : xN4 W := by
      rw [hW]
      exact (uxN4 rfl hI.2.2.2.2.2.2.2.1)
    have k_xN5 : xN5 W := by
      rw [hW]
      exact (uxN5 rfl hI.2.2.2.2.2.2.2.2.1)
    have k_xN6 : xN6 W := by
      rw [hW]
      exact (uxN6 rfl hI.2.2.2.2.2.2.2.2.2.1)
    have k_xH1 : xH1 W := by
      rw [hW]
      exact (uxH1 rfl hI.2.2.2.2.2.2.2.2.2.2.1)
    have k_xK1 : xK1 W := by
      rw [hW]
      exact (uxK1 rfl hI.2.2.2.2.2.2.2.2.2.2.2.1)
    have k_xC1 : xC1 W := by
      rw [hW]
      exact (uxC1 rfl hI.2.2.2.2.2.2.2.2.2.2.2.2.1)
    have k_xRW : xRW W := by
      rw [hW]
      exact (uxRW rfl hI.2.2.2.2.2.2.2.2.2.2.2.2.2.1)
    have k_xWT : xWT W := by
      rw [hW]
      exact (uxWT rfl hI.2.2.2.2.2.2.2.2.2.2.2.2.2.2.1)
    have k_xCU : xCU W := by
      rw [hW]
      exact (uxCU rfl hI.2.2.2.2.2.2.2.2.2.2.2.2.2.2.2.1)
    have k_xG2 : xG2 W := by
      rw [hW]
      exact (uxG2 rfl hI.2.2.2.2.2.2.2.2.2.2.2.2.2.2.2.2.1)
    have k_xG3 : xG3 W := by
      rw [hW]
      exact (uxG3 rfl hI.2.2.2.2.2.2.2.2.2.2.2.2.2.2.2.2.2.1)
    have k_xG4 : xG4 W := by
      rw [hW]
      exact (uxG4 rfl hI.2.2.2.2.2.2.2.2.2.2.2.2.2.2.2.2.2.2.1)
    have k_xG5 : xG5 W := by
      rw [hW]
      exact (uxG5 rfl hI.2.2.2.2.2.2.2.2.2.2.2.2.2.2.2.2.2.2.2.1)
    have k_xG6 : xG6 W := by
      rw [hW]
      exact (uxG6 rfl hI.2.2.2.2.2.2.2.2.2.2.2.2.2.2.2.2.2.2.2.2.1)
    have k_xS1 : xS1 W := by
      rw [hW]
      exact (uxS1 rfl hI.2.2.2.2.2.2.2.2.2.2.2.2.2.2.2.2.2.2.2.2.2.1)
    have k_xS2 : xS2 W := by
      rw [hW]
      exact (uxS2 rfl hI.2.2.2.2.2.2.2.2.2.2.2.2.2.2.2.2.2.2.2.2.2.2.1)
    have k_xS3 : xS3 W := by
      rw [hW]
      exact (uxS3 rfl hI.2.2.2.2.2.2.2.2.2.2.2.2.2.2.2.2.2.2.2.2.2.2.2.1)
    have k_xS4 : xS4 W := by
      rw [hW]
      exact (uxS4 rfl hI.2.2.2.2.2.2.2.2.2.2.2.2.2.2.2.2.2.2.2.2.2.2.2.2.1)
    have k_xS5 : xS5 W := by
      rw [hW]
      exact (uxS5 rfl hI.2.2.2.2.2.2.2.2.2.2.2.2.2.2.2.2.2.2.2.2.2.2.2.2.2.1)
    have k_xS6 : xS6 W := by
      rw [hW]
      exact (uxS6 rfl hI.2.2.2.2.2.2.2.2.2.2.2.2.2.2.2.2.2.2.2.2.2.2.2.2.2.2.1)
    have k_xS7 : xS7 W := by
      rw [hW]
      exact (uxS7 rfl hI.2.2.2.2.2.2.2.2.2.2.2.2.2.2.2.2.2.2.2.2.2.2.2.2.2.2.2.1)
    have k_xS8 : xS8 W := by
      rw [hW]
      exact (uxS8 rfl hI.2.2.2.2.2.2.2.2.2.2.2.2.2.2.2.2.2.2.2.2.2.2.2.2.2.2.2.2.1)
    have k_xS9 : xS9 W := by
      rw [hW]
      exact (uxS9 rfl hI.2.2.2.2.2.2.2.2.2.2.2.2.2.2.2.2.2.2.2.2.2.2.2.2.2.2.2.2.2.1)
    have k_xSA : xSA W := by
      rw [hW]
      exact (uxSA rfl hI.2.2.2.2.2.2.2.2.2.2.2.2.2.2.2.2.2.2.2.2.2.2.2.2.2.2.2.2.2.2.1)
    have k_xSG : xSG W := by
      rw [hW]
      exact (uxSG rfl hI.2.2.2.2.2.2.2.2.2.2.2.2.2.2.2.2.2.2.2.2.2.2.2.2.2.2.2.2.2.2.2.1)
    have k_xSF : xSF W := by
      rw [hW]
      exact (uxSF rfl hI.2.2.2.2.2.2.2.2.2.2.2.2.2.2.2.2.2.2.2.2.2.2.2.2.2.2.2.2.2.2.2.2.1)
    have k_xSB : xSB W := by
      rw [hW]
      exact (uxSB rfl hI.2.2.2.2.2.2.2.2.2.2.2.2.2.2.2.2.2.2.2.2.2.2.2.2.2.2.2.2.2.2.2.2.2.1)
    have k_xSC : xSC W := by
      have r4_226 : W 4 226 = M 4 226 := by rw [hW, sU_ne (fun z => by omega)]
      have r4_227 : W 4 227 = 10 * ρ 0 + 0 := by rw [hW, sU_at]
      have r4_219 : W 4 219 = M 4 219 := by rw [hW, sU_ne (fun z => by omega)]
      intro h
      rw [r4_227, r4_219, h0]
      refine ⟨by omega, by omega, ?_⟩
      have e1 := tki_on (x := M 4 219) (w := 9) (show tLa[9]? = some (642945024 : Int) from rfl)
      rw [if_neg (by omega)] at e1
      rw [show M 4 227 = 9 by omega] at l3
      rw [← l3]
      exact e1.symm
    have k_xSD : xSD W := by
      rw [hW]
      exact (uxSD rfl hI.2.2.2.2.2.2.2.2.2.2.2.2.2.2.2.2.2.2.2.2.2.2.2.2.2.2.2.2.2.2.2.2.2.2.2.1)
    have k_xSE : xSE W := by
      rw [hW]
      exact (uxSE rfl hI.2.2.2.2.2.2.2.2.2.2.2.2.2.2.2.2.2.2.2.2.2.2.2.2.2.2.2.2.2.2.2.2.2.2.2.2.1)
    have k_xSW : xSW W := by
      rw [hW]
      exact (uxSW rfl hI.2.2.2.2.2.2.2.2.2.2.2.2.2.2.2.2.2.2.2.2.2.2.2.2.2.2.2.2.2.2.2.2.2.2.2.2.2.1)
    have k_xST : xST W := by
      rw [hW]
      exact (uxST rfl hI.2.2.2.2.2.2.2.2.2.2.2.2.2.2.2.2.2.2.2.2.2.2.2.2.2.2.2.2.2.2.2.2.2.2.2.2.2.2.1)
    have k_xSP : xSP W := by
      rw [hW]
      exact (uxSP rfl hI.2.2.2.2.2.2.2.2.2.2.2.2.2.2.2.2.2.2.2.2.2.2.2.2.2.2.2.2.2.2.2.2.2.2.2.2.2.2.2.1)
    have k_xSL : xSL W := by
      rw [hW]
      exact (uxSL rfl hI.2.2.2.2.2.2.2.2.2.2.2.2.2.2.2.2.2.2.2.2.2.2.2.2.2.2.2.2.2.2.2.2.2.2.2.2.2.2.2.2.1)
    have k_xSM : xSM W := by
      rw [hW]
      exact (uxSM rfl hI.2.2.2.2.2.2.2.2.2.2.2.2.2.2.2.2.2.2.2.2.2.2.2.2.2.2.2.2.2.2.2.2.2.2.2.2.2.2.2.2.2.1)
    have k_xSI : xSI W := by
      rw [hW]
      exact (uxSI rfl hI.2.2.2.2.2.2.2.2.2.2.2.2.2.2.2.2.2.2.2.2.2.2.2.2.2.2.2.2.2.2.2.2.2.2.2.2.2.2.2.2.2.2)
    have k_XC : XC W := ⟨k_xS1, k_xS2, k_xS3, k_xS4, k_xS5, k_xS6, k_xS7, k_xS8, k_xS9, k_xSA, k_xSG, k_xSF, k_xSB, k_xSC, k_xSD, k_xSE, k_xSW, k_xST, k_xSP, k_xSL, k_xSM, k_xSI⟩
    have kXB : XB W := ⟨k_xN1, k_xN2, k_xN3, k_xN4, k_xN5, k_xN6, k_xH1, k_xK1, k_xC1, k_xRW, k_xWT, k_xCU, k_xG2, k_xG3, k_xG4, k_xG5, k_xG6, k_XC⟩
    exact ⟨base, k2, k3, kXA, kXB⟩
-- wHitR10_c
def xr_482 : qRu := (13, [[(-1, 0), (1, 5)], [(1, 1)], [(-1, 1), (1, 9)], [(1, 1), (-1, 9)], [(-1, 0), (-1, 1), (1, 10)], [(6, 0), (1, 9), (-1, 10)], [(-404455424, 0), (1, 11)], [(404455424, 0), (-1, 11)]], [(4, 210, [(1, 0)]), (4, 211, [(1, 1)]), (4, 101, [(1, 2)]), (3, 46, [(1, 3)]), (3, 47, [(1, 4)]), (4, 100, [(1, 5)]), (3, 44, [(1, 6)]), (3, 45, [(1, 7)]), (4, 107, [(1, 8)]), (4, 214, [(1, 0)]), (4, 215, [(1, 9)]), (4, 217, [(1, 10)]), (4, 219, [(1, 11)]), (4, 216, [(1, 12)])], [], [], [[(-1, 1), (1, 3)], [(1, 1), (-1, 3)], [(1, 4), (-1, 10)], [(-1, 4), (1, 10)], [(-28, 0), (1, 6)], [(28, 0), (-1, 6)], [(1, 7), (-1, 11)], [(-1, 7), (1, 11)]])
theorem xo_482 : qRok xr_482 := by
  intro ρ M h0 hf hm hI
  have f0 := hf [(-1, 0), (1, 5)] (by decide)
  have f1 := hf [(1, 1)] (by decide)
  have f2 := hf [(-1, 1), (1, 9)] (by decide)
  have f3 := hf [(1, 1), (-1, 9)] (by decide)
  have f4 := hf [(-1, 0), (-1, 1), (1, 10)] (by decide)
  have f5 := hf [(6, 0), (1, 9), (-1, 10)] (by decide)
  have f6 := hf [(-404455424, 0), (1, 11)] (by decide)
  have f7 := hf [(404455424, 0), (-1, 11)] (by decide)
  simp only [qD, h0] at f0 f1 f2 f3 f4 f5 f6 f7
  have m0 : M 4 210 = 1 * ρ 0 + 0 := hm (4, 210, [(1, 0)]) (by decide)
  have m1 : M 4 211 = 1 * ρ 1 + 0 := hm (4, 211, [(1, 1)]) (by decide)
  have m2 : M 4 101 = 1 * ρ 2 + 0 := hm (4, 101, [(1, 2)]) (by decide)
  have m3 : M 3 46 = 1 * ρ 3 + 0 := hm (3, 46, [(1, 3)]) (by decide)
  have m4 : M 3 47 = 1 * ρ 4 + 0 := hm (3, 47, [(1, 4)]) (by decide)
  have m5 : M 4 100 = 1 * ρ 5 + 0 := hm (4, 100, [(1, 5)]) (by decide)
  have m6 : M 3 44 = 1 * ρ 6 + 0 := hm (3, 44, [(1, 6)]) (by decide)
  have m7 : M 3 45 = 1 * ρ 7 + 0 := hm (3, 45, [(1, 7)]) (by decide)
  have m8 : M 4 107 = 1 * ρ 8 + 0 := hm (4, 107, [(1, 8)]) (by decide)
  have m9 : M 4 214 = 1 * ρ 0 + 0 := hm (4, 214, [(1, 0)]) (by decide)
  have m10 : M 4 215 = 1 * ρ 9 + 0 := hm (4, 215, [(1, 9)]) (by decide)
  have m11 : M 4 217 = 1 * ρ 10 + 0 := hm (4, 217, [(1, 10)]) (by decide)
  have m12 : M 4 219 = 1 * ρ 11 + 0 := hm (4, 219, [(1, 11)]) (by decide)
  have m13 : M 4 216 = 1 * ρ 12 + 0 := hm (4, 216, [(1, 12)]) (by decide)
  simp only [h0] at m0 m9
  obtain ⟨u1, u2, _⟩ := gx_xS8 hI (by omega)

  obtain ⟨a1, a2, a3, a4, a5, a6, a7⟩ := gx_xSA hI (by omega)
  have eq1 : (M 4 215).toNat = (M 4 211).toNat := by omega
  rw [eq1] at a6 a7
  have hgt := ten_gt (g := M 92) (lo := 97) (hi := 122) (n := (M 4 101).toNat) (q := (M 4 211).toNat) (by omega)
  have el1 : (M 4 217 - M 4 215).toNat = tEn (M 92) 97 122 (M 4 101).toNat (M 4 211).toNat - (M 4 211).toNat := by omega
  rw [el1] at a7

  obtain ⟨t1, t2, t3, t4, t5, t6⟩ := tk_of hI (by omega) (by omega) (by omega) (show tAt (M 92) (M 4 101).toNat (M 4 211).toNat (M 4 107) (M 4 108) = (28, M 4 219, ((M 4 211).toNat : Int), M 4 217, 0, 10) from by
    unfold tAt
    rw [if_neg (by omega), if_pos hgt.2]
    unfold tWo
    rw [← a7, ← a6]
    have hk : tKi (M 4 219) 0 = 28 := by
      rw [show M 4 219 = 404455424 by omega]
      decide
    have h6 : ¬ (6 < tEn (M 92) 97 122 (M 4 101).toNat (M 4 211).toNat - (M 4 211).toNat) := by omega
    unfold tWk tWs tWv
    rw [if_neg h6, if_neg h6, if_neg h6, hk]
    rfl)
  refine ⟨ρ, fun _ _ => rfl, fun f h => ?_, ?_⟩
  · have h : f ∈ ([[(-1, 1), (1, 3)], [(1, 1), (-1, 3)], [(1, 4), (-1, 10)], [(-1, 4), (1, 10)], [(-28, 0), (1, 6)], [(28, 0), (-1, 6)], [(1, 7), (-1, 11)], [(-1, 7), (1, 11)]] : List qF) := h
    simp only [List.mem_cons, List.not_mem_nil, or_false] at h
    rcases h with rfl | rfl | rfl | rfl | rfl | rfl | rfl | rfl
    · show 0 ≤ -1 * ρ 1 + (1 * ρ 3 + 0)
      (try rw [h0]); omega
    · show 0 ≤ 1 * ρ 1 + (-1 * ρ 3 + 0)
      (try rw [h0]); omega
    · show 0 ≤ 1 * ρ 4 + (-1 * ρ 10 + 0)
      (try rw [h0]); omega
    · show 0 ≤ -1 * ρ 4 + (1 * ρ 10 + 0)
      (try rw [h0]); omega
    · show 0 ≤ -28 * ρ 0 + (1 * ρ 6 + 0)
      (try rw [h0]); omega
    · show 0 ≤ 28 * ρ 0 + (-1 * ρ 6 + 0)
      (try rw [h0]); omega
    · show 0 ≤ 1 * ρ 7 + (-1 * ρ 11 + 0)
      (try rw [h0]); omega
    · show 0 ≤ -1 * ρ 7 + (1 * ρ 11 + 0)
      (try rw [h0]); omega
  · show sI M
    exact hI
-- wHitR10_r
def xr_483 : qRu := (13, [[(-1, 0), (1, 5)], [(1, 1)], [(-1, 1), (1, 9)], [(1, 1), (-1, 9)], [(-1, 0), (-1, 1), (1, 10)], [(6, 0), (1, 9), (-1, 10)], [(-404455424, 0), (1, 11)], [(404455424, 0), (-1, 11)]], [(4, 210, [(1, 0)]), (4, 211, [(1, 1)]), (4, 101, [(1, 2)]), (3, 46, [(1, 3)]), (3, 47, [(1, 4)]), (4, 100, [(1, 5)]), (3, 50, [(1, 6)]), (3, 51, [(1, 7)]), (4, 108, [(1, 8)]), (4, 214, [(1, 0)]), (4, 215, [(1, 9)]), (4, 217, [(1, 10)]), (4, 219, [(1, 11)]), (4, 216, [(1, 12)])], [], [], [[(-1, 1), (1, 3)], [(1, 1), (-1, 3)], [(1, 4), (-1, 10)], [(-1, 4), (1, 10)], [(1, 6)], [(-1, 6)], [(-10, 0), (1, 7)], [(10, 0), (-1, 7)]])
theorem xo_483 : qRok xr_483 := by
  intro ρ M h0 hf hm hI
  have f0 := hf [(-1, 0), (1, 5)] (by decide)
  have f1 := hf [(1, 1)] (by decide)
  have f2 := hf [(-1, 1), (1, 9)] (by decide)
  have f3 := hf [(1, 1), (-1, 9)] (by decide)
  have f4 := hf [(-1, 0), (-1, 1), (1, 10)] (by decide)
  have f5 := hf [(6, 0), (1, 9), (-1, 10)] (by decide)
  have f6 := hf [(-404455424, 0), (1, 11)] (by decide)
  have f7 := hf [(404455424, 0), (-1, 11)] (by decide)
  simp only [qD, h0] at f0 f1 f2 f3 f4 f5 f6 f7
  have m0 : M 4 210 = 1 * ρ 0 + 0 := hm (4, 210, [(1, 0)]) (by decide)
  have m1 : M 4 211 = 1 * ρ 1 + 0 := hm (4, 211, [(1, 1)]) (by decide)
  have m2 : M 4 101 = 1 * ρ 2 + 0 := hm (4, 101, [(1, 2)]) (by decide)
  have m3 : M 3 46 = 1 * ρ 3 + 0 := hm (3, 46, [(1, 3)]) (by decide)
  have m4 : M 3 47 = 1 * ρ 4 + 0 := hm (3, 47, [(1, 4)]) (by decide)
  have m5 : M 4 100 = 1 * ρ 5 + 0 := hm (4, 100, [(1, 5)]) (by decide)
  have m6 : M 3 50 = 1 * ρ 6 + 0 := hm (3, 50, [(1, 6)]) (by decide)
  have m7 : M 3 51 = 1 * ρ 7 + 0 := hm (3, 51, [(1, 7)]) (by decide)
  have m8 : M 4 108 = 1 * ρ 8 + 0 := hm (4, 108, [(1, 8)]) (by decide)
  have m9 : M 4 214 = 1 * ρ 0 + 0 := hm (4, 214, [(1, 0)]) (by decide)
  have m10 : M 4 215 = 1 * ρ 9 + 0 := hm (4, 215, [(1, 9)]) (by decide)
  have m11 : M 4 217 = 1 * ρ 10 + 0 := hm (4, 217, [(1, 10)]) (by decide)
  have m12 : M 4 219 = 1 * ρ 11 + 0 := hm (4, 219, [(1, 11)]) (by decide)
  have m13 : M 4 216 = 1 * ρ 12 + 0 := hm (4, 216, [(1, 12)]) (by decide)
  simp only [h0] at m0 m9
  obtain ⟨u1, u2, _⟩ := gx_xS8 hI (by omega)

  obtain ⟨a1, a2, a3, a4, a5, a6, a7⟩ := gx_xSA hI (by omega)
  have eq1 : (M 4 215).toNat = (M 4 211).toNat := by omega
  rw [eq1] at a6 a7
  have hgt := ten_gt (g := M 92) (lo := 97) (hi := 122) (n := (M 4 101).toNat) (q := (M 4 211).toNat) (by omega)
  have el1 : (M 4 217 - M 4 215).toNat = tEn (M 92) 97 122 (M 4 101).toNat (M 4 211).toNat - (M 4 211).toNat := by omega
  rw [el1] at a7

  obtain ⟨t1, t2, t3, t4, t5, t6⟩ := tk_of hI (by omega) (by omega) (by omega) (show tAt (M 92) (M 4 101).toNat (M 4 211).toNat (M 4 107) (M 4 108) = (28, M 4 219, ((M 4 211).toNat : Int), M 4 217, 0, 10) from by
    unfold tAt
    rw [if_neg (by omega), if_pos hgt.2]
    unfold tWo
    rw [← a7, ← a6]
    have hk : tKi (M 4 219) 0 = 28 := by
      rw [show M 4 219 = 404455424 by omega]
      decide
    have h6 : ¬ (6 < tEn (M 92) 97 122 (M 4 101).toNat (M 4 211).toNat - (M 4 211).toNat) := by omega
    unfold tWk tWs tWv
    rw [if_neg h6, if_neg h6, if_neg h6, hk]
    rfl)
  refine ⟨ρ, fun _ _ => rfl, fun f h => ?_, ?_⟩
  · have h : f ∈ ([[(-1, 1), (1, 3)], [(1, 1), (-1, 3)], [(1, 4), (-1, 10)], [(-1, 4), (1, 10)], [(1, 6)], [(-1, 6)], [(-10, 0), (1, 7)], [(10, 0), (-1, 7)]] : List qF) := h
    simp only [List.mem_cons, List.not_mem_nil, or_false] at h
    rcases h with rfl | rfl | rfl | rfl | rfl | rfl | rfl | rfl
    · show 0 ≤ -1 * ρ 1 + (1 * ρ 3 + 0)
      (try rw [h0]); omega
    · show 0 ≤ 1 * ρ 1 + (-1 * ρ 3 + 0)
      (try rw [h0]); omega
    · show 0 ≤ 1 * ρ 4 + (-1 * ρ 10 + 0)
      (try rw [h0]); omega
    · show 0 ≤ -1 * ρ 4 + (1 * ρ 10 + 0)
      (try rw [h0]); omega
    · show 0 ≤ 1 * ρ 6 + 0
      (try rw [h0]); omega
    · show 0 ≤ -1 * ρ 6 + 0
      (try rw [h0]); omega
    · show 0 ≤ -10 * ρ 0 + (1 * ρ 7 + 0)
      (try rw [h0]); omega
    · show 0 ≤ 10 * ρ 0 + (-1 * ρ 7 + 0)
      (try rw [h0]); omega
  · show sI M
    exact hI
-- langMissR10L
def xr_484 : qRu := (3, [[(404455423, 0), (-1, 2)]], [(4, 226, [(1, 0)]), (4, 227, [(10, 0)]), (4, 219, [(1, 2)])], [], [(4, 227, [(11, 0)])], [])
theorem xo_484 : qRok xr_484 := by
  intro ρ M h0 hf hm hI
  have f0 := hf [(404455423, 0), (-1, 2)] (by decide)
  simp only [qD, h0] at f0
  have m0 : M 4 226 = 1 * ρ 0 + 0 := hm (4, 226, [(1, 0)]) (by decide)
  have m1 : M 4 227 = 10 * ρ 0 + 0 := hm (4, 227, [(10, 0)]) (by decide)
  have m2 : M 4 219 = 1 * ρ 2 + 0 := hm (4, 219, [(1, 2)]) (by decide)
  simp only [h0] at m0 m1
  have qxSC := hI.2.2.2.2.2.2.2.2.2.2.2.2.2.2.2.2.2.2.2.2.2.2.2.2.2.2.2.2.2.2.2.2.2.2.1
  obtain ⟨l1, l2, l3⟩ := gx_xSC hI (by omega)
  refine ⟨ρ, fun _ _ => rfl, fun f h => ?_, ?_⟩
  · exact nomatch h
  · show sI (sU M 4 227 (11 * ρ 0 + 0))
    obtain ⟨W, hW⟩ : ∃ W, W = (sU M 4 227 (11 * ρ 0 + 0)) := ⟨_, rfl⟩
    rw [← hW]
    have base : sI0 W := by
      rw [hW]
      exact (si_u0 hI.1 (fun r hr => by cases hr))
    have k2 : XI2 W := by
      rw [hW]
      exact (xi2_u rfl hI.2.1)
    have k3 : XI3 W := by
      rw [hW]
      exact (xi3_u rfl hI.2.2.1)
    have kXA : XA W := by
      rw [hW]
      exact (uXA rfl hI.2.2.2.1)
    have k_xN1 : xN1 W := by
      rw [hW]
      exact (uxN1 rfl hI.2.2.2.2.1)
    have k_xN2 : xN2 W := by
      rw [hW]
      exact (uxN2 rfl hI.2.2.2.2.2.1)
    have k_xN3 : xN3 W := by
      rw [hW]
      exact (uxN3 rfl hI.2.2.2.2.2.2.1)
    have k_xN4 : xN4 W := by
      rw [hW]
      exact (uxN4 rfl hI.2.2.2.2.2.2.2.1)
    have k_xN5 : xN5 W := by
      rw [hW]
      exact (uxN5 rfl hI.2.2.2.2.2.2.2.2.1)
    have k_xN6 : xN6 W := by
      rw [hW]
      exact (uxN6 rfl hI.2.2.2.2.2.2.2.2.2.1)
    have k_xH1 : xH1 W := by
      rw [hW]
      exact (uxH1 rfl hI.2.2.2.2.2.2.2.2.2.2.1)
    have k_xK1 : xK1 W := by
      rw [hW]
      exact (uxK1 rfl hI.2.2.2.2.2.2.2.2.2.2.2.1)
    have k_xC1 : xC1 W := by
      rw [hW]
      exact (uxC1 rfl hI.2.2.2.2.2.2.2.2.2.2.2.2.1)
    have k_xRW : xRW W := by
      rw [hW]
      exact (uxRW rfl hI.2.2.2.2.2.2.2.2.2.2.2.2.2.1)
    have k_xWT : xWT W := by
      rw [hW]
      exact (uxWT rfl hI.2.2.2.2.2.2.2.2.2.2.2.2.2.2.1)
    have k_xCU : xCU W := by
      rw [hW]
      exact (uxCU rfl hI.2.2.2.2.2.2.2.2.2.2.2.2.2.2.2.1)
    have k_xG2 : xG2 W := by
      rw [hW]
      exact (uxG2 rfl hI.2.2.2.2.2.2.2.2.2.2.2.2.2.2.2.2.1)
    have k_xG3 : xG3 W := by
      rw [hW]
      exact (uxG3 rfl hI.2.2.2.2.2.2.2.2.2.2.2.2.2.2.2.2.2.1)
    have k_xG4 : xG4 W := by
      rw [hW]
      exact (uxG4 rfl hI.2.2.2.2.2.2.2.2.2.2.2.2.2.2.2.2.2.2.1)
    have k_xG5 : xG5 W := by
      rw [hW]
      exact (uxG5 rfl hI.2.2.2.2.2.2.2.2.2.2.2.2.2.2.2.2.2.2.2.1)
    have k_xG6 : xG6 W := by
      rw [hW]
      exact (uxG6 rfl hI.2.2.2.2.2.2.2.2.2.2.2.2.2.2.2.2.2.2.2.2.1)
    have k_xS1 : xS1 W := by
      rw [hW]
      exact (uxS1 rfl hI.2.2.2.2.2.2.2.2.2.2.2.2.2.2.2.2.2.2.2.2.2.1)
    have k_xS2 : xS2 W := by
      rw [hW]
      exact (uxS2 rfl hI.2.2.2.2.2.2.2.2.2.2.2.2.2.2.2.2.2.2.2.2.2.2.1)
    have k_xS3 : xS3 W := by
      rw [hW]
      exact (uxS3 rfl hI.2.2.2.2.2.2.2.2.2.2.2.2.2.2.2.2.2.2.2.2.2.2.2.1)
    have k_xS4 : xS4 W := by
      rw [hW]
      exact (uxS4 rfl hI.2.2.2.2.2.2.2.2.2.2.2.2.2.2.2.2.2.2.2.2.2.2.2.2.1)
    have k_xS5 : xS5 W := by
      rw [hW]
      exact (uxS5 rfl hI.2.2.2.2.2.2.2.2.2.2.2.2.2.2.2.2.2.2.2.2.2.2.2.2.2.1)
    have k_xS6 : xS6 W := by
      rw [hW]
      exact (uxS6 rfl hI.2.2.2.2.2.2.2.2.2.2.2.2.2.2.2.2.2.2.2.2.2.2.2.2.2.2.1)
    have k_xS7 : xS7 W := by
      rw [hW]
      exact (uxS7 rfl hI.2.2.2.2.2.2.2.2.2.2.2.2.2.2.2.2.2.2.2.2.2.2.2.2.2.2.2.1)
    have k_xS8 : xS8 W := by
      rw [hW]
      exact (uxS8 rfl hI.2.2.2.2.2.2.2.2.2.2.2.2.2.2.2.2.2.2.2.2.2.2.2.2.2.2.2.2.1)
    have k_xS9 : xS9 W := by
      rw [hW]
      exact (uxS9 rfl hI.2.2.2.2.2.2.2.2.2.2.2.2.2.2.2.2.2.2.2.2.2.2.2.2.2.2.2.2.2.1)
    have k_xSA : xSA W := by
      rw [hW]
      exact (uxSA rfl hI.2.2.2.2.2.2.2.2.2.2.2.2.2.2.2.2.2.2.2.2.2.2.2.2.2.2.2.2.2.2.1)
    have k_xSG : xSG W := by
      rw [hW]
      exact (uxSG rfl hI.2.2.2.2.2.2.2.2.2.2.2.2.2.2.2.2.2.2.2.2.2.2.2.2.2.2.2.2.2.2.2.1)
    have k_xSF : xSF W := by
      rw [hW]
      exact (uxSF rfl hI.2.2.2.2.2.2.2.2.2.2.2.2.2.2.2.2.2.2.2.2.2.2.2.2.2.2.2.2.2.2.2.2.1)
    have k_xSB : xSB W := by
      rw [hW]
      exact (uxSB rfl hI.2.2.2.2.2.2.2.2.2.2.2.2.2.2.2.2.2.2.2.2.2.2.2.2.2.2.2.2.2.2.2.2.2.1)
    have k_xSC : xSC W := by
      have r4_226 : W 4 226 = M 4 226 := by rw [hW, sU_ne (fun z => by omega)]
      have r4_227 : W 4 227 = 11 * ρ 0 + 0 := by rw [hW, sU_at]
      have r4_219 : W 4 219 = M 4 219 := by rw [hW, sU_ne (fun z => by omega)]
      intro h
      rw [r4_227, r4_219, h0]
      refine ⟨by omega, by omega, ?_⟩
      have e1 := tki_on (x := M 4 219) (w := 10) (show tLa[10]? = some (404455424 : Int) from rfl)
      rw [if_neg (by omega)] at e1
      rw [show M 4 227 = 10 by omega] at l3
      rw [← l3]
      exact e1.symm
    have k_xSD : xSD W := by
      rw [hW]
      exact (uxSD rfl hI.2.2.2.2.2.2.2.2.2.2.2.2.2.2.2.2.2.2.2.2.2.2.2.2.2.2.2.2.2.2.2.2.2.2.2.1)
    have k_xSE : xSE W := by
      rw [hW]
      exact (uxSE rfl hI.2.2.2.2.2.2.2.2.2.2.2.2.2.2.2.2.2.2.2.2.2.2.2.2.2.2.2.2.2.2.2.2.2.2.2.2.1)
    have k_xSW : xSW W := by
      rw [hW]
      exact (uxSW rfl hI.2.2.2.2.2.2.2.2.2.2.2.2.2.2.2.2.2.2.2.2.2.2.2.2.2.2.2.2.2.2.2.2.2.2.2.2.2.1)
    have k_xST : xST W := by
      rw [hW]
      exact (uxST rfl hI.2.2.2.2.2.2.2.2.2.2.2.2.2.2.2.2.2.2.2.2.2.2.2.2.2.2.2.2.2.2.2.2.2.2.2.2.2.2.1)
    have k_xSP : xSP W := by
      rw [hW]
      exact (uxSP rfl hI.2.2.2.2.2.2.2.2.2.2.2.2.2.2.2.2.2.2.2.2.2.2.2.2.2.2.2.2.2.2.2.2.2.2.2.2.2.2.2.1)
    have k_xSL : xSL W := by
      rw [hW]
      exact (uxSL rfl hI.2.2.2.2.2.2.2.2.2.2.2.2.2.2.2.2.2.2.2.2.2.2.2.2.2.2.2.2.2.2.2.2.2.2.2.2.2.2.2.2.1)
    have k_xSM : xSM W := by
      rw [hW]
      exact (uxSM rfl hI.2.2.2.2.2.2.2.2.2.2.2.2.2.2.2.2.2.2.2.2.2.2.2.2.2.2.2.2.2.2.2.2.2.2.2.2.2.2.2.2.2.1)
    have k_xSI : xSI W := by
      rw [hW]
      exact (uxSI rfl hI.2.2.2.2.2.2.2.2.2.2.2.2.2.2.2.2.2.2.2.2.2.2.2.2.2.2.2.2.2.2.2.2.2.2.2.2.2.2.2.2.2.2)
    have k_XC : XC W := ⟨k_xS1, k_xS2, k_xS3, k_xS4, k_xS5, k_xS6, k_xS7, k_xS8, k_xS9, k_xSA, k_xSG, k_xSF, k_xSB, k_xSC, k_xSD, k_xSE, k_xSW, k_xST, k_xSP, k_xSL, k_xSM, k_xSI⟩
    have kXB : XB W := ⟨k_xN1, k_xN2, k_xN3, k_xN4, k_xN5, k_xN6, k_xH1, k_xK1, k_xC1, k_xRW, k_xWT, k_xCU, k_xG2, k_xG3, k_xG4, k_xG5, k_xG6, k_XC⟩
    exact ⟨base, k2, k3, kXA, kXB⟩
-- langMissR10H
def xr_485 : qRu := (3, [[(-404455425, 0), (1, 2)]], [(4, 226, [(1, 0)]), (4, 227, [(10, 0)]), (4, 219, [(1, 2)])], [], [(4, 227, [(11, 0)])], [])
theorem xo_485 : qRok xr_485 := by
  intro ρ M h0 hf hm hI
  have f0 := hf [(-404455425, 0), (1, 2)] (by decide)
  simp only [qD, h0] at f0
  have m0 : M 4 226 = 1 * ρ 0 + 0 := hm (4, 226, [(1, 0)]) (by decide)
  have m1 : M 4 227 = 10 * ρ 0 + 0 := hm (4, 227, [(10, 0)]) (by decide)
  have m2 : M 4 219 = 1 * ρ 2 + 0 := hm (4, 219, [(1, 2)]) (by decide)
  simp only [h0] at m0 m1
  have qxSC := hI.2.2.2.2.2.2.2.2.2.2.2.2.2.2.2.2.2.2.2.2.2.2.2.2.2.2.2.2.2.2.2.2.2.2.1
  obtain ⟨l1, l2, l3⟩ := gx_xSC hI (by omega)
  refine ⟨ρ, fun _ _ => rfl, fun f h => ?_, ?_⟩
  · exact nomatch h
  · show sI (sU M 4 227 (11 * ρ 0 + 0))
    obtain ⟨W, hW⟩ : ∃ W, W = (sU M 4 227 (11 * ρ 0 + 0)) := ⟨_, rfl⟩
    rw [← hW]
    have base : sI0 W := by
      rw [hW]
      exact (si_u0 hI.1 (fun r hr => by cases hr))
    have k2 : XI2 W := by
      rw [hW]
      exact (xi2_u rfl hI.2.1)
    have k3 : XI3 W := by
      rw [hW]
      exact (xi3_u rfl hI.2.2.1)
    have kXA : XA W := by
      rw [hW]
      exact (uXA rfl hI.2.2.2.1)
    have k_xN1 : xN1 W := by
      rw [hW]
      exact (uxN1 rfl hI.2.2.2.2.1)
    have k_xN2 : xN2 W := by
      rw [hW]
      exact (uxN2 rfl hI.2.2.2.2.2.1)
    have k_xN3 : xN3 W := by
      rw [hW]
      exact (uxN3 rfl hI.2.2.2.2.2.2.1)
    have k_xN4 : xN4 W := by
      rw [hW]
      exact (uxN4 rfl hI.2.2.2.2.2.2.2.1)
    have k_xN5 : xN5 W := by
      rw [hW]
      exact (uxN5 rfl hI.2.2.2.2.2.2.2.2.1)
    have k_xN6 : xN6 W := by
      rw [hW]
      exact (uxN6 rfl hI.2.2.2.2.2.2.2.2.2.1)
    have k_xH1 : xH1 W := by
      rw [hW]
      exact (uxH1 rfl hI.2.2.2.2.2.2.2.2.2.2.1)
    have k_xK1 : xK1 W := by
      rw [hW]
      exact (uxK1 rfl hI.2.2.2.2.2.2.2.2.2.2.2.1)
    have k_xC1 : xC1 W := by
      rw [hW]
      exact (uxC1 rfl hI.2.2.2.2.2.2.2.2.2.2.2.2.1)
    have k_xRW : xRW W := by
      rw [hW]
      exact (uxRW rfl hI.2.2.2.2.2.2.2.2.2.2.2.2.2.1)
    have k_xWT : xWT W := by
      rw [hW]
      exact (uxWT rfl hI.2.2.2.2.2.2.2.2.2.2.2.2.2.2.1)
    have k_xCU : xCU W := by
      rw [hW]
      exact (uxCU rfl hI.2.2.2.2.2.2.2.2.2.2.2.2.2.2.2.1)
    have k_xG2 : xG2 W := by
      rw [hW]
      exact (uxG2 rfl hI.2.2.2.2.2.2.2.2.2.2.2.2.2.2.2.2.1)
    have k_xG3 : xG3 W := by
      rw [hW]
      exact (uxG3 rfl hI.2.2.2.2.2.2.2.2.2.2.2.2.2.2.2.2.2.1)
    have k_xG4 : xG4 W := by
      rw [hW]
      exact (uxG4 rfl hI.2.2.2.2.2.2.2.2.2.2.2.2.2.2.2.2.2.2.1)
    have k_xG5 : xG5 W := by
      rw [hW]
      exact (uxG5 rfl hI.2.2.2.2.2.2.2.2.2.2.2.2.2.2.2.2.2.2.2.1)
    have k_xG6 : xG6 W := by
      rw [hW]
      exact (uxG6 rfl hI.2.2.2.2.2.2.2.2.2.2.2.2.2.2.2.2.2.2.2.2.1)
    have k_xS1 : xS1 W := by
      rw [hW]
      exact (uxS1 rfl hI.2.2.2.2.2.2.2.2.2.2.2.2.2.2.2.2.2.2.2.2.2.1)
    have k_xS2 : xS2 W := by
      rw [hW]
      exact (uxS2 rfl hI.2.2.2.2.2.2.2.2.2.2.2.2.2.2.2.2.2.2.2.2.2.2.1)
    have k_xS3 : xS3 W := by
      rw [hW]
      exact (uxS3 rfl hI.2.2.2.2.2.2.2.2.2.2.2.2.2.2.2.2.2.2.2.2.2.2.2.1)
    have k_xS4 : xS4 W := by
      rw [hW]
      exact (uxS4 rfl hI.2.2.2.2.2.2.2.2.2.2.2.2.2.2.2.2.2.2.2.2.2.2.2.2.1)
    have k_xS5 : xS5 W := by
      rw [hW]
      exact (uxS5 rfl hI.2.2.2.2.2.2.2.2.2.2.2.2.2.2.2.2.2.2.2.2.2.2.2.2.2.1)
    have k_xS6 : xS6 W := by
      rw [hW]
      exact (uxS6 rfl hI.2.2.2.2.2.2.2.2.2.2.2.2.2.2.2.2.2.2.2.2.2.2.2.2.2.2.1)
    have k_xS7 : xS7 W := by
      rw [hW]
      exact (uxS7 rfl hI.2.2.2.2.2.2.2.2.2.2.2.2.2.2.2.2.2.2.2.2.2.2.2.2.2.2.2.1)
    have k_xS8 : xS8 W := by
      rw [hW]
      exact (uxS8 rfl hI.2.2.2.2.2.2.2.2.2.2.2.2.2.2.2.2.2.2.2.2.2.2.2.2.2.2.2.2.1)
    have k_xS9 : xS9 W := by
      rw [hW]
      exact (uxS9 rfl hI.2.2.2.2.2.2.2.2.2.2.2.2.2.2.2.2.2.2.2.2.2.2.2.2.2.2.2.2.2.1)
    have k_xSA : xSA W := by
      rw [hW]
      exact (uxSA rfl hI.2.2.2.2.2.2.2.2.2.2.2.2.2.2.2.2.2.2.2.2.2.2.2.2.2.2.2.2.2.2.1)
    have k_xSG : xSG W := by
      rw [hW]
      exact (uxSG rfl hI.2.2.2.2.2.2.2.2.2.2.2.2.2.2.2.2.2.2.2.2.2.2.2.2.2.2.2.2.2.2.2.1)
    have k_xSF : xSF W := by
      rw [hW]
      exact (uxSF rfl hI.2.2.2.2.2.2.2.2.2.2.2.2.2.2.2.2.2.2.2.2.2.2.2.2.2.2.2.2.2.2.2.2.1)
    have k_xSB : xSB W := by
      rw [hW]
      exact (uxSB rfl hI.2.2.2.2.2.2.2.2.2.2.2.2.2.2.2.2.2.2.2.2.2.2.2.2.2.2.2.2.2.2.2.2.2.1)
    have k_xSC : xSC W := by
      have r4_226 : W 4 226 = M 4 226 := by rw [hW, sU_ne (fun z => by omega)]
      have r4_227 : W 4 227 = 11 * ρ 0 + 0 := by rw [hW, sU_at]
      have r4_219 : W 4 219 = M 4 219 := by rw [hW, sU_ne (fun z => by omega)]
      intro h
      rw [r4_227, r4_219, h0]
      refine ⟨by omega, by omega, ?_⟩
      have e1 := tki_on (x := M 4 219) (w := 10) (show tLa[10]? = some (404455424 : Int) from rfl)
      rw [if_neg (by omega)] at e1
      rw [show M 4 227 = 10 by omega] at l3
      rw [← l3]
      exact e1.symm
    have k_xSD : xSD W := by
      rw [hW]
      exact (uxSD rfl hI.2.2.2.2.2.2.2.2.2.2.2.2.2.2.2.2.2.2.2.2.2.2.2.2.2.2.2.2.2.2.2.2.2.2.2.1)
    have k_xSE : xSE W := by
      rw [hW]
      exact (uxSE rfl hI.2.2.2.2.2.2.2.2.2.2.2.2.2.2.2.2.2.2.2.2.2.2.2.2.2.2.2.2.2.2.2.2.2.2.2.2.1)
    have k_xSW : xSW W := by
      rw [hW]
      exact (uxSW rfl hI.2.2.2.2.2.2.2.2.2.2.2.2.2.2.2.2.2.2.2.2.2.2.2.2.2.2.2.2.2.2.2.2.2.2.2.2.2.1)
    have k_xST : xST W := by
      rw [hW]
      exact (uxST rfl hI.2.2.2.2.2.2.2.2.2.2.2.2.2.2.2.2.2.2.2.2.2.2.2.2.2.2.2.2.2.2.2.2.2.2.2.2.2.2.1)
    have k_xSP : xSP W := by
      rw [hW]
      exact (uxSP rfl hI.2.2.2.2.2.2.2.2.2.2.2.2.2.2.2.2.2.2.2.2.2.2.2.2.2.2.2.2.2.2.2.2.2.2.2.2.2.2.2.1)
    have k_xSL : xSL W := by
      rw [hW]
      exact (uxSL rfl hI.2.2.2.2.2.2.2.2.2.2.2.2.2.2.2.2.2.2.2.2.2.2.2.2.2.2.2.2.2.2.2.2.2.2.2.2.2.2.2.2.1)
    have k_xSM : xSM W := by
      rw [hW]
      exact (uxSM rfl hI.2.2.2.2.2.2.2.2.2.2.2.2.2.2.2.2.2.2.2.2.2.2.2.2.2.2.2.2.2.2.2.2.2.2.2.2.2.2.2.2.2.1)
    have k_xSI : xSI W := by
      rw [hW]
      exact (uxSI rfl hI.2.2.2.2.2.2.2.2.2.2.2.2.2.2.2.2.2.2.2.2.2.2.2.2.2.2.2.2.2.2.2.2.2.2.2.2.2.2.2.2.2.2)
    have k_XC : XC W := ⟨k_xS1, k_xS2, k_xS3, k_xS4, k_xS5, k_xS6, k_xS7, k_xS8, k_xS9, k_xSA, k_xSG, k_xSF, k_xSB, k_xSC, k_xSD, k_xSE, k_xSW, k_xST, k_xSP, k_xSL, k_xSM, k_xSI⟩
    have kXB : XB W := ⟨k_xN1, k_xN2, k_xN3, k_xN4, k_xN5, k_xN6, k_xH1, k_xK1, k_xC1, k_xRW, k_xWT, k_xCU, k_xG2, k_xG3, k_xG4, k_xG5, k_xG6, k_XC⟩
    exact ⟨base, k2, k3, kXA, kXB⟩
