/-! RULES OF NAMES (wip/p3/xsn.py). -/
-- nmTie13
def xr_271 : qRu := (4, [[(-1, 0), (1, 3)]], [(4, 100, [(1, 0)]), (4, 103, [(2, 0)]), (4, 104, [(1, 3)]), (13, 0, [(1, 1)]), (3, 60, [(1, 2)])], [], [], [[(1, 1), (-1, 2)], [(-1, 1), (1, 2)]])
theorem xo_271 : qRok xr_271 := by
  intro ρ M h0 hf hm hI
  have f0 := hf [(-1, 0), (1, 3)] (by decide)
  simp only [qD, h0] at f0
  have m0 : M 4 100 = 1 * ρ 0 + 0 := hm (4, 100, [(1, 0)]) (by decide)
  have m1 : M 4 103 = 2 * ρ 0 + 0 := hm (4, 103, [(2, 0)]) (by decide)
  have m2 : M 4 104 = 1 * ρ 3 + 0 := hm (4, 104, [(1, 3)]) (by decide)
  have m3 : M 13 0 = 1 * ρ 1 + 0 := hm (13, 0, [(1, 1)]) (by decide)
  have m4 : M 3 60 = 1 * ρ 2 + 0 := hm (3, 60, [(1, 2)]) (by decide)
  simp only [h0] at m0 m1
  obtain ⟨a1, a2, a3⟩ := gx_xS4 hI (by omega)
  have t := a1 0 (by omega) (by omega)
  unfold tN1 at t
  rw [if_pos (by omega)] at t
  have t : M 13 0 = M 3 60 := t
  refine ⟨ρ, fun _ _ => rfl, fun f h => ?_, ?_⟩
  · have h : f ∈ ([[(1, 1), (-1, 2)], [(-1, 1), (1, 2)]] : List qF) := h
    simp only [List.mem_cons, List.not_mem_nil, or_false] at h
    rcases h with rfl | rfl
    · show 0 ≤ 1 * ρ 1 + (-1 * ρ 2 + 0)
      (try rw [h0]); omega
    · show 0 ≤ -1 * ρ 1 + (1 * ρ 2 + 0)
      (try rw [h0]); omega
  · show sI M
    exact hI
-- nmTie14
def xr_272 : qRu := (4, [[(-2, 0), (1, 3)]], [(4, 100, [(1, 0)]), (4, 103, [(2, 0)]), (4, 104, [(1, 3)]), (14, 0, [(1, 1)]), (3, 61, [(1, 2)])], [], [], [[(1, 1), (-1, 2)], [(-1, 1), (1, 2)]])
theorem xo_272 : qRok xr_272 := by
  intro ρ M h0 hf hm hI
  have f0 := hf [(-2, 0), (1, 3)] (by decide)
  simp only [qD, h0] at f0
  have m0 : M 4 100 = 1 * ρ 0 + 0 := hm (4, 100, [(1, 0)]) (by decide)
  have m1 : M 4 103 = 2 * ρ 0 + 0 := hm (4, 103, [(2, 0)]) (by decide)
  have m2 : M 4 104 = 1 * ρ 3 + 0 := hm (4, 104, [(1, 3)]) (by decide)
  have m3 : M 14 0 = 1 * ρ 1 + 0 := hm (14, 0, [(1, 1)]) (by decide)
  have m4 : M 3 61 = 1 * ρ 2 + 0 := hm (3, 61, [(1, 2)]) (by decide)
  simp only [h0] at m0 m1
  obtain ⟨a1, a2, a3⟩ := gx_xS4 hI (by omega)
  have t := a1 1 (by omega) (by omega)
  unfold tN1 at t
  rw [if_pos (by omega)] at t
  have t : M 14 0 = M 3 61 := t
  refine ⟨ρ, fun _ _ => rfl, fun f h => ?_, ?_⟩
  · have h : f ∈ ([[(1, 1), (-1, 2)], [(-1, 1), (1, 2)]] : List qF) := h
    simp only [List.mem_cons, List.not_mem_nil, or_false] at h
    rcases h with rfl | rfl
    · show 0 ≤ 1 * ρ 1 + (-1 * ρ 2 + 0)
      (try rw [h0]); omega
    · show 0 ≤ -1 * ρ 1 + (1 * ρ 2 + 0)
      (try rw [h0]); omega
  · show sI M
    exact hI
-- nmTie15
def xr_273 : qRu := (4, [[(-3, 0), (1, 3)]], [(4, 100, [(1, 0)]), (4, 103, [(2, 0)]), (4, 104, [(1, 3)]), (15, 0, [(1, 1)]), (3, 62, [(1, 2)])], [], [], [[(1, 1), (-1, 2)], [(-1, 1), (1, 2)]])
theorem xo_273 : qRok xr_273 := by
  intro ρ M h0 hf hm hI
  have f0 := hf [(-3, 0), (1, 3)] (by decide)
  simp only [qD, h0] at f0
  have m0 : M 4 100 = 1 * ρ 0 + 0 := hm (4, 100, [(1, 0)]) (by decide)
  have m1 : M 4 103 = 2 * ρ 0 + 0 := hm (4, 103, [(2, 0)]) (by decide)
  have m2 : M 4 104 = 1 * ρ 3 + 0 := hm (4, 104, [(1, 3)]) (by decide)
  have m3 : M 15 0 = 1 * ρ 1 + 0 := hm (15, 0, [(1, 1)]) (by decide)
  have m4 : M 3 62 = 1 * ρ 2 + 0 := hm (3, 62, [(1, 2)]) (by decide)
  simp only [h0] at m0 m1
  obtain ⟨a1, a2, a3⟩ := gx_xS4 hI (by omega)
  have t := a1 2 (by omega) (by omega)
  unfold tN1 at t
  rw [if_pos (by omega)] at t
  have t : M 15 0 = M 3 62 := t
  refine ⟨ρ, fun _ _ => rfl, fun f h => ?_, ?_⟩
  · have h : f ∈ ([[(1, 1), (-1, 2)], [(-1, 1), (1, 2)]] : List qF) := h
    simp only [List.mem_cons, List.not_mem_nil, or_false] at h
    rcases h with rfl | rfl
    · show 0 ≤ 1 * ρ 1 + (-1 * ρ 2 + 0)
      (try rw [h0]); omega
    · show 0 ≤ -1 * ρ 1 + (1 * ρ 2 + 0)
      (try rw [h0]); omega
  · show sI M
    exact hI
-- nmTie16
def xr_274 : qRu := (4, [[(-4, 0), (1, 3)]], [(4, 100, [(1, 0)]), (4, 103, [(2, 0)]), (4, 104, [(1, 3)]), (16, 0, [(1, 1)]), (3, 63, [(1, 2)])], [], [], [[(1, 1), (-1, 2)], [(-1, 1), (1, 2)]])
theorem xo_274 : qRok xr_274 := by
  intro ρ M h0 hf hm hI
  have f0 := hf [(-4, 0), (1, 3)] (by decide)
  simp only [qD, h0] at f0
  have m0 : M 4 100 = 1 * ρ 0 + 0 := hm (4, 100, [(1, 0)]) (by decide)
  have m1 : M 4 103 = 2 * ρ 0 + 0 := hm (4, 103, [(2, 0)]) (by decide)
  have m2 : M 4 104 = 1 * ρ 3 + 0 := hm (4, 104, [(1, 3)]) (by decide)
  have m3 : M 16 0 = 1 * ρ 1 + 0 := hm (16, 0, [(1, 1)]) (by decide)
  have m4 : M 3 63 = 1 * ρ 2 + 0 := hm (3, 63, [(1, 2)]) (by decide)
  simp only [h0] at m0 m1
  obtain ⟨a1, a2, a3⟩ := gx_xS4 hI (by omega)
  have t := a1 3 (by omega) (by omega)
  unfold tN1 at t
  rw [if_pos (by omega)] at t
  have t : M 16 0 = M 3 63 := t
  refine ⟨ρ, fun _ _ => rfl, fun f h => ?_, ?_⟩
  · have h : f ∈ ([[(1, 1), (-1, 2)], [(-1, 1), (1, 2)]] : List qF) := h
    simp only [List.mem_cons, List.not_mem_nil, or_false] at h
    rcases h with rfl | rfl
    · show 0 ≤ 1 * ρ 1 + (-1 * ρ 2 + 0)
      (try rw [h0]); omega
    · show 0 ≤ -1 * ρ 1 + (1 * ρ 2 + 0)
      (try rw [h0]); omega
  · show sI M
    exact hI
-- nmTie17
def xr_275 : qRu := (4, [[(-5, 0), (1, 3)]], [(4, 100, [(1, 0)]), (4, 103, [(2, 0)]), (4, 104, [(1, 3)]), (17, 0, [(1, 1)]), (3, 64, [(1, 2)])], [], [], [[(1, 1), (-1, 2)], [(-1, 1), (1, 2)]])
theorem xo_275 : qRok xr_275 := by
  intro ρ M h0 hf hm hI
  have f0 := hf [(-5, 0), (1, 3)] (by decide)
  simp only [qD, h0] at f0
  have m0 : M 4 100 = 1 * ρ 0 + 0 := hm (4, 100, [(1, 0)]) (by decide)
  have m1 : M 4 103 = 2 * ρ 0 + 0 := hm (4, 103, [(2, 0)]) (by decide)
  have m2 : M 4 104 = 1 * ρ 3 + 0 := hm (4, 104, [(1, 3)]) (by decide)
  have m3 : M 17 0 = 1 * ρ 1 + 0 := hm (17, 0, [(1, 1)]) (by decide)
  have m4 : M 3 64 = 1 * ρ 2 + 0 := hm (3, 64, [(1, 2)]) (by decide)
  simp only [h0] at m0 m1
  obtain ⟨a1, a2, a3⟩ := gx_xS4 hI (by omega)
  have t := a1 4 (by omega) (by omega)
  unfold tN1 at t
  rw [if_pos (by omega)] at t
  have t : M 17 0 = M 3 64 := t
  refine ⟨ρ, fun _ _ => rfl, fun f h => ?_, ?_⟩
  · have h : f ∈ ([[(1, 1), (-1, 2)], [(-1, 1), (1, 2)]] : List qF) := h
    simp only [List.mem_cons, List.not_mem_nil, or_false] at h
    rcases h with rfl | rfl
    · show 0 ≤ 1 * ρ 1 + (-1 * ρ 2 + 0)
      (try rw [h0]); omega
    · show 0 ≤ -1 * ρ 1 + (1 * ρ 2 + 0)
      (try rw [h0]); omega
  · show sI M
    exact hI
-- nmTie18
def xr_276 : qRu := (4, [[(-6, 0), (1, 3)]], [(4, 100, [(1, 0)]), (4, 103, [(2, 0)]), (4, 104, [(1, 3)]), (18, 0, [(1, 1)]), (3, 65, [(1, 2)])], [], [], [[(1, 1), (-1, 2)], [(-1, 1), (1, 2)]])
theorem xo_276 : qRok xr_276 := by
  intro ρ M h0 hf hm hI
  have f0 := hf [(-6, 0), (1, 3)] (by decide)
  simp only [qD, h0] at f0
  have m0 : M 4 100 = 1 * ρ 0 + 0 := hm (4, 100, [(1, 0)]) (by decide)
  have m1 : M 4 103 = 2 * ρ 0 + 0 := hm (4, 103, [(2, 0)]) (by decide)
  have m2 : M 4 104 = 1 * ρ 3 + 0 := hm (4, 104, [(1, 3)]) (by decide)
  have m3 : M 18 0 = 1 * ρ 1 + 0 := hm (18, 0, [(1, 1)]) (by decide)
  have m4 : M 3 65 = 1 * ρ 2 + 0 := hm (3, 65, [(1, 2)]) (by decide)
  simp only [h0] at m0 m1
  obtain ⟨a1, a2, a3⟩ := gx_xS4 hI (by omega)
  have t := a1 5 (by omega) (by omega)
  unfold tN1 at t
  rw [if_pos (by omega)] at t
  have t : M 18 0 = M 3 65 := t
  refine ⟨ρ, fun _ _ => rfl, fun f h => ?_, ?_⟩
  · have h : f ∈ ([[(1, 1), (-1, 2)], [(-1, 1), (1, 2)]] : List qF) := h
    simp only [List.mem_cons, List.not_mem_nil, or_false] at h
    rcases h with rfl | rfl
    · show 0 ≤ 1 * ρ 1 + (-1 * ρ 2 + 0)
      (try rw [h0]); omega
    · show 0 ≤ -1 * ρ 1 + (1 * ρ 2 + 0)
      (try rw [h0]); omega
  · show sI M
    exact hI
-- nmTie19
def xr_277 : qRu := (4, [[(-7, 0), (1, 3)]], [(4, 100, [(1, 0)]), (4, 103, [(2, 0)]), (4, 104, [(1, 3)]), (19, 0, [(1, 1)]), (3, 66, [(1, 2)])], [], [], [[(1, 1), (-1, 2)], [(-1, 1), (1, 2)]])
theorem xo_277 : qRok xr_277 := by
  intro ρ M h0 hf hm hI
  have f0 := hf [(-7, 0), (1, 3)] (by decide)
  simp only [qD, h0] at f0
  have m0 : M 4 100 = 1 * ρ 0 + 0 := hm (4, 100, [(1, 0)]) (by decide)
  have m1 : M 4 103 = 2 * ρ 0 + 0 := hm (4, 103, [(2, 0)]) (by decide)
  have m2 : M 4 104 = 1 * ρ 3 + 0 := hm (4, 104, [(1, 3)]) (by decide)
  have m3 : M 19 0 = 1 * ρ 1 + 0 := hm (19, 0, [(1, 1)]) (by decide)
  have m4 : M 3 66 = 1 * ρ 2 + 0 := hm (3, 66, [(1, 2)]) (by decide)
  simp only [h0] at m0 m1
  obtain ⟨a1, a2, a3⟩ := gx_xS4 hI (by omega)
  have t := a1 6 (by omega) (by omega)
  unfold tN1 at t
  rw [if_pos (by omega)] at t
  have t : M 19 0 = M 3 66 := t
  refine ⟨ρ, fun _ _ => rfl, fun f h => ?_, ?_⟩
  · have h : f ∈ ([[(1, 1), (-1, 2)], [(-1, 1), (1, 2)]] : List qF) := h
    simp only [List.mem_cons, List.not_mem_nil, or_false] at h
    rcases h with rfl | rfl
    · show 0 ≤ 1 * ρ 1 + (-1 * ρ 2 + 0)
      (try rw [h0]); omega
    · show 0 ≤ -1 * ρ 1 + (1 * ρ 2 + 0)
      (try rw [h0]); omega
  · show sI M
    exact hI
-- nmTie20
def xr_278 : qRu := (4, [[(-8, 0), (1, 3)]], [(4, 100, [(1, 0)]), (4, 103, [(2, 0)]), (4, 104, [(1, 3)]), (20, 0, [(1, 1)]), (3, 67, [(1, 2)])], [], [], [[(1, 1), (-1, 2)], [(-1, 1), (1, 2)]])
theorem xo_278 : qRok xr_278 := by
  intro ρ M h0 hf hm hI
  have f0 := hf [(-8, 0), (1, 3)] (by decide)
  simp only [qD, h0] at f0
  have m0 : M 4 100 = 1 * ρ 0 + 0 := hm (4, 100, [(1, 0)]) (by decide)
  have m1 : M 4 103 = 2 * ρ 0 + 0 := hm (4, 103, [(2, 0)]) (by decide)
  have m2 : M 4 104 = 1 * ρ 3 + 0 := hm (4, 104, [(1, 3)]) (by decide)
  have m3 : M 20 0 = 1 * ρ 1 + 0 := hm (20, 0, [(1, 1)]) (by decide)
  have m4 : M 3 67 = 1 * ρ 2 + 0 := hm (3, 67, [(1, 2)]) (by decide)
  simp only [h0] at m0 m1
  obtain ⟨a1, a2, a3⟩ := gx_xS4 hI (by omega)
  have t := a1 7 (by omega) (by omega)
  unfold tN1 at t
  rw [if_pos (by omega)] at t
  have t : M 20 0 = M 3 67 := t
  refine ⟨ρ, fun _ _ => rfl, fun f h => ?_, ?_⟩
  · have h : f ∈ ([[(1, 1), (-1, 2)], [(-1, 1), (1, 2)]] : List qF) := h
    simp only [List.mem_cons, List.not_mem_nil, or_false] at h
    rcases h with rfl | rfl
    · show 0 ≤ 1 * ρ 1 + (-1 * ρ 2 + 0)
      (try rw [h0]); omega
    · show 0 ≤ -1 * ρ 1 + (1 * ρ 2 + 0)
      (try rw [h0]); omega
  · show sI M
    exact hI
-- nmTie21
def xr_279 : qRu := (4, [[(-9, 0), (1, 3)]], [(4, 100, [(1, 0)]), (4, 103, [(2, 0)]), (4, 104, [(1, 3)]), (21, 0, [(1, 1)]), (3, 68, [(1, 2)])], [], [], [[(1, 1), (-1, 2)], [(-1, 1), (1, 2)]])
theorem xo_279 : qRok xr_279 := by
  intro ρ M h0 hf hm hI
  have f0 := hf [(-9, 0), (1, 3)] (by decide)
  simp only [qD, h0] at f0
  have m0 : M 4 100 = 1 * ρ 0 + 0 := hm (4, 100, [(1, 0)]) (by decide)
  have m1 : M 4 103 = 2 * ρ 0 + 0 := hm (4, 103, [(2, 0)]) (by decide)
  have m2 : M 4 104 = 1 * ρ 3 + 0 := hm (4, 104, [(1, 3)]) (by decide)
  have m3 : M 21 0 = 1 * ρ 1 + 0 := hm (21, 0, [(1, 1)]) (by decide)
  have m4 : M 3 68 = 1 * ρ 2 + 0 := hm (3, 68, [(1, 2)]) (by decide)
  simp only [h0] at m0 m1
  obtain ⟨a1, a2, a3⟩ := gx_xS4 hI (by omega)
  have t := a1 8 (by omega) (by omega)
  unfold tN1 at t
  rw [if_pos (by omega)] at t
  have t : M 21 0 = M 3 68 := t
  refine ⟨ρ, fun _ _ => rfl, fun f h => ?_, ?_⟩
  · have h : f ∈ ([[(1, 1), (-1, 2)], [(-1, 1), (1, 2)]] : List qF) := h
    simp only [List.mem_cons, List.not_mem_nil, or_false] at h
    rcases h with rfl | rfl
    · show 0 ≤ 1 * ρ 1 + (-1 * ρ 2 + 0)
      (try rw [h0]); omega
    · show 0 ≤ -1 * ρ 1 + (1 * ρ 2 + 0)
      (try rw [h0]); omega
  · show sI M
    exact hI
-- nmTie22
def xr_280 : qRu := (4, [[(-1, 0), (1, 3)]], [(4, 100, [(1, 0)]), (4, 103, [(2, 0)]), (4, 105, [(1, 3)]), (22, 0, [(1, 1)]), (3, 70, [(1, 2)])], [], [], [[(1, 1), (-1, 2)], [(-1, 1), (1, 2)]])
theorem xo_280 : qRok xr_280 := by
  intro ρ M h0 hf hm hI
  have f0 := hf [(-1, 0), (1, 3)] (by decide)
  simp only [qD, h0] at f0
  have m0 : M 4 100 = 1 * ρ 0 + 0 := hm (4, 100, [(1, 0)]) (by decide)
  have m1 : M 4 103 = 2 * ρ 0 + 0 := hm (4, 103, [(2, 0)]) (by decide)
  have m2 : M 4 105 = 1 * ρ 3 + 0 := hm (4, 105, [(1, 3)]) (by decide)
  have m3 : M 22 0 = 1 * ρ 1 + 0 := hm (22, 0, [(1, 1)]) (by decide)
  have m4 : M 3 70 = 1 * ρ 2 + 0 := hm (3, 70, [(1, 2)]) (by decide)
  simp only [h0] at m0 m1
  obtain ⟨a1, a2, a3⟩ := gx_xS4 hI (by omega)
  have t := a2 0 (by omega) (by omega)
  unfold tN2 at t
  rw [if_pos (by omega)] at t
  have t : M 22 0 = M 3 70 := t
  refine ⟨ρ, fun _ _ => rfl, fun f h => ?_, ?_⟩
  · have h : f ∈ ([[(1, 1), (-1, 2)], [(-1, 1), (1, 2)]] : List qF) := h
    simp only [List.mem_cons, List.not_mem_nil, or_false] at h
    rcases h with rfl | rfl
    · show 0 ≤ 1 * ρ 1 + (-1 * ρ 2 + 0)
      (try rw [h0]); omega
    · show 0 ≤ -1 * ρ 1 + (1 * ρ 2 + 0)
      (try rw [h0]); omega
  · show sI M
    exact hI
-- nmTie23
def xr_281 : qRu := (4, [[(-2, 0), (1, 3)]], [(4, 100, [(1, 0)]), (4, 103, [(2, 0)]), (4, 105, [(1, 3)]), (23, 0, [(1, 1)]), (3, 71, [(1, 2)])], [], [], [[(1, 1), (-1, 2)], [(-1, 1), (1, 2)]])
theorem xo_281 : qRok xr_281 := by
  intro ρ M h0 hf hm hI
  have f0 := hf [(-2, 0), (1, 3)] (by decide)
  simp only [qD, h0] at f0
  have m0 : M 4 100 = 1 * ρ 0 + 0 := hm (4, 100, [(1, 0)]) (by decide)
  have m1 : M 4 103 = 2 * ρ 0 + 0 := hm (4, 103, [(2, 0)]) (by decide)
  have m2 : M 4 105 = 1 * ρ 3 + 0 := hm (4, 105, [(1, 3)]) (by decide)
  have m3 : M 23 0 = 1 * ρ 1 + 0 := hm (23, 0, [(1, 1)]) (by decide)
  have m4 : M 3 71 = 1 * ρ 2 + 0 := hm (3, 71, [(1, 2)]) (by decide)
  simp only [h0] at m0 m1
  obtain ⟨a1, a2, a3⟩ := gx_xS4 hI (by omega)
  have t := a2 1 (by omega) (by omega)
  unfold tN2 at t
  rw [if_pos (by omega)] at t
  have t : M 23 0 = M 3 71 := t
  refine ⟨ρ, fun _ _ => rfl, fun f h => ?_, ?_⟩
  · have h : f ∈ ([[(1, 1), (-1, 2)], [(-1, 1), (1, 2)]] : List qF) := h
    simp only [List.mem_cons, List.not_mem_nil, or_false] at h
    rcases h with rfl | rfl
    · show 0 ≤ 1 * ρ 1 + (-1 * ρ 2 + 0)
      (try rw [h0]); omega
    · show 0 ≤ -1 * ρ 1 + (1 * ρ 2 + 0)
      (try rw [h0]); omega
  · show sI M
    exact hI
-- nmTie24
def xr_282 : qRu := (4, [[(-3, 0), (1, 3)]], [(4, 100, [(1, 0)]), (4, 103, [(2, 0)]), (4, 105, [(1, 3)]), (24, 0, [(1, 1)]), (3, 72, [(1, 2)])], [], [], [[(1, 1), (-1, 2)], [(-1, 1), (1, 2)]])
theorem xo_282 : qRok xr_282 := by
  intro ρ M h0 hf hm hI
  have f0 := hf [(-3, 0), (1, 3)] (by decide)
  simp only [qD, h0] at f0
  have m0 : M 4 100 = 1 * ρ 0 + 0 := hm (4, 100, [(1, 0)]) (by decide)
  have m1 : M 4 103 = 2 * ρ 0 + 0 := hm (4, 103, [(2, 0)]) (by decide)
  have m2 : M 4 105 = 1 * ρ 3 + 0 := hm (4, 105, [(1, 3)]) (by decide)
  have m3 : M 24 0 = 1 * ρ 1 + 0 := hm (24, 0, [(1, 1)]) (by decide)
  have m4 : M 3 72 = 1 * ρ 2 + 0 := hm (3, 72, [(1, 2)]) (by decide)
  simp only [h0] at m0 m1
  obtain ⟨a1, a2, a3⟩ := gx_xS4 hI (by omega)
  have t := a2 2 (by omega) (by omega)
  unfold tN2 at t
  rw [if_pos (by omega)] at t
  have t : M 24 0 = M 3 72 := t
  refine ⟨ρ, fun _ _ => rfl, fun f h => ?_, ?_⟩
  · have h : f ∈ ([[(1, 1), (-1, 2)], [(-1, 1), (1, 2)]] : List qF) := h
    simp only [List.mem_cons, List.not_mem_nil, or_false] at h
    rcases h with rfl | rfl
    · show 0 ≤ 1 * ρ 1 + (-1 * ρ 2 + 0)
      (try rw [h0]); omega
    · show 0 ≤ -1 * ρ 1 + (1 * ρ 2 + 0)
      (try rw [h0]); omega
  · show sI M
    exact hI
-- nmTie25
def xr_283 : qRu := (4, [[(-4, 0), (1, 3)]], [(4, 100, [(1, 0)]), (4, 103, [(2, 0)]), (4, 105, [(1, 3)]), (25, 0, [(1, 1)]), (3, 73, [(1, 2)])], [], [], [[(1, 1), (-1, 2)], [(-1, 1), (1, 2)]])
theorem xo_283 : qRok xr_283 := by
  intro ρ M h0 hf hm hI
  have f0 := hf [(-4, 0), (1, 3)] (by decide)
  simp only [qD, h0] at f0
  have m0 : M 4 100 = 1 * ρ 0 + 0 := hm (4, 100, [(1, 0)]) (by decide)
  have m1 : M 4 103 = 2 * ρ 0 + 0 := hm (4, 103, [(2, 0)]) (by decide)
  have m2 : M 4 105 = 1 * ρ 3 + 0 := hm (4, 105, [(1, 3)]) (by decide)
  have m3 : M 25 0 = 1 * ρ 1 + 0 := hm (25, 0, [(1, 1)]) (by decide)
  have m4 : M 3 73 = 1 * ρ 2 + 0 := hm (3, 73, [(1, 2)]) (by decide)
  simp only [h0] at m0 m1
  obtain ⟨a1, a2, a3⟩ := gx_xS4 hI (by omega)
  have t := a2 3 (by omega) (by omega)
  unfold tN2 at t
  rw [if_pos (by omega)] at t
  have t : M 25 0 = M 3 73 := t
  refine ⟨ρ, fun _ _ => rfl, fun f h => ?_, ?_⟩
  · have h : f ∈ ([[(1, 1), (-1, 2)], [(-1, 1), (1, 2)]] : List qF) := h
    simp only [List.mem_cons, List.not_mem_nil, or_false] at h
    rcases h with rfl | rfl
    · show 0 ≤ 1 * ρ 1 + (-1 * ρ 2 + 0)
      (try rw [h0]); omega
    · show 0 ≤ -1 * ρ 1 + (1 * ρ 2 + 0)
      (try rw [h0]); omega
  · show sI M
    exact hI
-- nmTie26
def xr_284 : qRu := (4, [[(-5, 0), (1, 3)]], [(4, 100, [(1, 0)]), (4, 103, [(2, 0)]), (4, 105, [(1, 3)]), (26, 0, [(1, 1)]), (3, 74, [(1, 2)])], [], [], [[(1, 1), (-1, 2)], [(-1, 1), (1, 2)]])
theorem xo_284 : qRok xr_284 := by
  intro ρ M h0 hf hm hI
  have f0 := hf [(-5, 0), (1, 3)] (by decide)
  simp only [qD, h0] at f0
  have m0 : M 4 100 = 1 * ρ 0 + 0 := hm (4, 100, [(1, 0)]) (by decide)
  have m1 : M 4 103 = 2 * ρ 0 + 0 := hm (4, 103, [(2, 0)]) (by decide)
  have m2 : M 4 105 = 1 * ρ 3 + 0 := hm (4, 105, [(1, 3)]) (by decide)
  have m3 : M 26 0 = 1 * ρ 1 + 0 := hm (26, 0, [(1, 1)]) (by decide)
  have m4 : M 3 74 = 1 * ρ 2 + 0 := hm (3, 74, [(1, 2)]) (by decide)
  simp only [h0] at m0 m1
  obtain ⟨a1, a2, a3⟩ := gx_xS4 hI (by omega)
  have t := a2 4 (by omega) (by omega)
  unfold tN2 at t
  rw [if_pos (by omega)] at t
  have t : M 26 0 = M 3 74 := t
  refine ⟨ρ, fun _ _ => rfl, fun f h => ?_, ?_⟩
  · have h : f ∈ ([[(1, 1), (-1, 2)], [(-1, 1), (1, 2)]] : List qF) := h
    simp only [List.mem_cons, List.not_mem_nil, or_false] at h
    rcases h with rfl | rfl
    · show 0 ≤ 1 * ρ 1 + (-1 * ρ 2 + 0)
      (try rw [h0]); omega
    · show 0 ≤ -1 * ρ 1 + (1 * ρ 2 + 0)
      (try rw [h0]); omega
  · show sI M
    exact hI
-- nmTie27
def xr_285 : qRu := (4, [[(-6, 0), (1, 3)]], [(4, 100, [(1, 0)]), (4, 103, [(2, 0)]), (4, 105, [(1, 3)]), (27, 0, [(1, 1)]), (3, 75, [(1, 2)])], [], [], [[(1, 1), (-1, 2)], [(-1, 1), (1, 2)]])
theorem xo_285 : qRok xr_285 := by
  intro ρ M h0 hf hm hI
  have f0 := hf [(-6, 0), (1, 3)] (by decide)
  simp only [qD, h0] at f0
  have m0 : M 4 100 = 1 * ρ 0 + 0 := hm (4, 100, [(1, 0)]) (by decide)
  have m1 : M 4 103 = 2 * ρ 0 + 0 := hm (4, 103, [(2, 0)]) (by decide)
  have m2 : M 4 105 = 1 * ρ 3 + 0 := hm (4, 105, [(1, 3)]) (by decide)
  have m3 : M 27 0 = 1 * ρ 1 + 0 := hm (27, 0, [(1, 1)]) (by decide)
  have m4 : M 3 75 = 1 * ρ 2 + 0 := hm (3, 75, [(1, 2)]) (by decide)
  simp only [h0] at m0 m1
  obtain ⟨a1, a2, a3⟩ := gx_xS4 hI (by omega)
  have t := a2 5 (by omega) (by omega)
  unfold tN2 at t
  rw [if_pos (by omega)] at t
  have t : M 27 0 = M 3 75 := t
  refine ⟨ρ, fun _ _ => rfl, fun f h => ?_, ?_⟩
  · have h : f ∈ ([[(1, 1), (-1, 2)], [(-1, 1), (1, 2)]] : List qF) := h
    simp only [List.mem_cons, List.not_mem_nil, or_false] at h
    rcases h with rfl | rfl
    · show 0 ≤ 1 * ρ 1 + (-1 * ρ 2 + 0)
      (try rw [h0]); omega
    · show 0 ≤ -1 * ρ 1 + (1 * ρ 2 + 0)
      (try rw [h0]); omega
  · show sI M
    exact hI
-- nmTie39
def xr_286 : qRu := (4, [[(-1, 0), (1, 3)]], [(4, 100, [(1, 0)]), (4, 103, [(28, 0)]), (4, 104, [(1, 3)]), (39, 0, [(1, 1)]), (3, 60, [(1, 2)])], [], [], [[(1, 1), (-1, 2)], [(-1, 1), (1, 2)]])
theorem xo_286 : qRok xr_286 := by
  intro ρ M h0 hf hm hI
  have f0 := hf [(-1, 0), (1, 3)] (by decide)
  simp only [qD, h0] at f0
  have m0 : M 4 100 = 1 * ρ 0 + 0 := hm (4, 100, [(1, 0)]) (by decide)
  have m1 : M 4 103 = 28 * ρ 0 + 0 := hm (4, 103, [(28, 0)]) (by decide)
  have m2 : M 4 104 = 1 * ρ 3 + 0 := hm (4, 104, [(1, 3)]) (by decide)
  have m3 : M 39 0 = 1 * ρ 1 + 0 := hm (39, 0, [(1, 1)]) (by decide)
  have m4 : M 3 60 = 1 * ρ 2 + 0 := hm (3, 60, [(1, 2)]) (by decide)
  simp only [h0] at m0 m1
  obtain ⟨a1, a2, a3⟩ := gx_xS4 hI (by omega)
  have t := a1 0 (by omega) (by omega)
  unfold tN1 at t
  rw [if_neg (by omega)] at t
  have t : M 39 0 = M 3 60 := t
  refine ⟨ρ, fun _ _ => rfl, fun f h => ?_, ?_⟩
  · have h : f ∈ ([[(1, 1), (-1, 2)], [(-1, 1), (1, 2)]] : List qF) := h
    simp only [List.mem_cons, List.not_mem_nil, or_false] at h
    rcases h with rfl | rfl
    · show 0 ≤ 1 * ρ 1 + (-1 * ρ 2 + 0)
      (try rw [h0]); omega
    · show 0 ≤ -1 * ρ 1 + (1 * ρ 2 + 0)
      (try rw [h0]); omega
  · show sI M
    exact hI
-- nmTie40
def xr_287 : qRu := (4, [[(-2, 0), (1, 3)]], [(4, 100, [(1, 0)]), (4, 103, [(28, 0)]), (4, 104, [(1, 3)]), (40, 0, [(1, 1)]), (3, 61, [(1, 2)])], [], [], [[(1, 1), (-1, 2)], [(-1, 1), (1, 2)]])
theorem xo_287 : qRok xr_287 := by
  intro ρ M h0 hf hm hI
  have f0 := hf [(-2, 0), (1, 3)] (by decide)
  simp only [qD, h0] at f0
  have m0 : M 4 100 = 1 * ρ 0 + 0 := hm (4, 100, [(1, 0)]) (by decide)
  have m1 : M 4 103 = 28 * ρ 0 + 0 := hm (4, 103, [(28, 0)]) (by decide)
  have m2 : M 4 104 = 1 * ρ 3 + 0 := hm (4, 104, [(1, 3)]) (by decide)
  have m3 : M 40 0 = 1 * ρ 1 + 0 := hm (40, 0, [(1, 1)]) (by decide)
  have m4 : M 3 61 = 1 * ρ 2 + 0 := hm (3, 61, [(1, 2)]) (by decide)
  simp only [h0] at m0 m1
  obtain ⟨a1, a2, a3⟩ := gx_xS4 hI (by omega)
  have t := a1 1 (by omega) (by omega)
  unfold tN1 at t
  rw [if_neg (by omega)] at t
  have t : M 40 0 = M 3 61 := t
  refine ⟨ρ, fun _ _ => rfl, fun f h => ?_, ?_⟩
  · have h : f ∈ ([[(1, 1), (-1, 2)], [(-1, 1), (1, 2)]] : List qF) := h
    simp only [List.mem_cons, List.not_mem_nil, or_false] at h
    rcases h with rfl | rfl
    · show 0 ≤ 1 * ρ 1 + (-1 * ρ 2 + 0)
      (try rw [h0]); omega
    · show 0 ≤ -1 * ρ 1 + (1 * ρ 2 + 0)
      (try rw [h0]); omega
  · show sI M
    exact hI
-- nmTie41
def xr_288 : qRu := (4, [[(-3, 0), (1, 3)]], [(4, 100, [(1, 0)]), (4, 103, [(28, 0)]), (4, 104, [(1, 3)]), (41, 0, [(1, 1)]), (3, 62, [(1, 2)])], [], [], [[(1, 1), (-1, 2)], [(-1, 1), (1, 2)]])
theorem xo_288 : qRok xr_288 := by
  intro ρ M h0 hf hm hI
  have f0 := hf [(-3, 0), (1, 3)] (by decide)
  simp only [qD, h0] at f0
  have m0 : M 4 100 = 1 * ρ 0 + 0 := hm (4, 100, [(1, 0)]) (by decide)
  have m1 : M 4 103 = 28 * ρ 0 + 0 := hm (4, 103, [(28, 0)]) (by decide)
  have m2 : M 4 104 = 1 * ρ 3 + 0 := hm (4, 104, [(1, 3)]) (by decide)
  have m3 : M 41 0 = 1 * ρ 1 + 0 := hm (41, 0, [(1, 1)]) (by decide)
  have m4 : M 3 62 = 1 * ρ 2 + 0 := hm (3, 62, [(1, 2)]) (by decide)
  simp only [h0] at m0 m1
  obtain ⟨a1, a2, a3⟩ := gx_xS4 hI (by omega)
  have t := a1 2 (by omega) (by omega)
  unfold tN1 at t
  rw [if_neg (by omega)] at t
  have t : M 41 0 = M 3 62 := t
  refine ⟨ρ, fun _ _ => rfl, fun f h => ?_, ?_⟩
  · have h : f ∈ ([[(1, 1), (-1, 2)], [(-1, 1), (1, 2)]] : List qF) := h
    simp only [List.mem_cons, List.not_mem_nil, or_false] at h
    rcases h with rfl | rfl
    · show 0 ≤ 1 * ρ 1 + (-1 * ρ 2 + 0)
      (try rw [h0]); omega
    · show 0 ≤ -1 * ρ 1 + (1 * ρ 2 + 0)
      (try rw [h0]); omega
  · show sI M
    exact hI
-- nmTie42
def xr_289 : qRu := (4, [[(-4, 0), (1, 3)]], [(4, 100, [(1, 0)]), (4, 103, [(28, 0)]), (4, 104, [(1, 3)]), (42, 0, [(1, 1)]), (3, 63, [(1, 2)])], [], [], [[(1, 1), (-1, 2)], [(-1, 1), (1, 2)]])
theorem xo_289 : qRok xr_289 := by
  intro ρ M h0 hf hm hI
  have f0 := hf [(-4, 0), (1, 3)] (by decide)
  simp only [qD, h0] at f0
  have m0 : M 4 100 = 1 * ρ 0 + 0 := hm (4, 100, [(1, 0)]) (by decide)
  have m1 : M 4 103 = 28 * ρ 0 + 0 := hm (4, 103, [(28, 0)]) (by decide)
  have m2 : M 4 104 = 1 * ρ 3 + 0 := hm (4, 104, [(1, 3)]) (by decide)
  have m3 : M 42 0 = 1 * ρ 1 + 0 := hm (42, 0, [(1, 1)]) (by decide)
  have m4 : M 3 63 = 1 * ρ 2 + 0 := hm (3, 63, [(1, 2)]) (by decide)
  simp only [h0] at m0 m1
  obtain ⟨a1, a2, a3⟩ := gx_xS4 hI (by omega)
  have t := a1 3 (by omega) (by omega)
  unfold tN1 at t
  rw [if_neg (by omega)] at t
  have t : M 42 0 = M 3 63 := t
  refine ⟨ρ, fun _ _ => rfl, fun f h => ?_, ?_⟩
  · have h : f ∈ ([[(1, 1), (-1, 2)], [(-1, 1), (1, 2)]] : List qF) := h
    simp only [List.mem_cons, List.not_mem_nil, or_false] at h
    rcases h with rfl | rfl
    · show 0 ≤ 1 * ρ 1 + (-1 * ρ 2 + 0)
      (try rw [h0]); omega
    · show 0 ≤ -1 * ρ 1 + (1 * ρ 2 + 0)
      (try rw [h0]); omega
  · show sI M
    exact hI
-- nmTie43
def xr_290 : qRu := (4, [[(-5, 0), (1, 3)]], [(4, 100, [(1, 0)]), (4, 103, [(28, 0)]), (4, 104, [(1, 3)]), (43, 0, [(1, 1)]), (3, 64, [(1, 2)])], [], [], [[(1, 1), (-1, 2)], [(-1, 1), (1, 2)]])
theorem xo_290 : qRok xr_290 := by
  intro ρ M h0 hf hm hI
  have f0 := hf [(-5, 0), (1, 3)] (by decide)
  simp only [qD, h0] at f0
  have m0 : M 4 100 = 1 * ρ 0 + 0 := hm (4, 100, [(1, 0)]) (by decide)
  have m1 : M 4 103 = 28 * ρ 0 + 0 := hm (4, 103, [(28, 0)]) (by decide)
  have m2 : M 4 104 = 1 * ρ 3 + 0 := hm (4, 104, [(1, 3)]) (by decide)
  have m3 : M 43 0 = 1 * ρ 1 + 0 := hm (43, 0, [(1, 1)]) (by decide)
  have m4 : M 3 64 = 1 * ρ 2 + 0 := hm (3, 64, [(1, 2)]) (by decide)
  simp only [h0] at m0 m1
  obtain ⟨a1, a2, a3⟩ := gx_xS4 hI (by omega)
  have t := a1 4 (by omega) (by omega)
  unfold tN1 at t
  rw [if_neg (by omega)] at t
  have t : M 43 0 = M 3 64 := t
  refine ⟨ρ, fun _ _ => rfl, fun f h => ?_, ?_⟩
  · have h : f ∈ ([[(1, 1), (-1, 2)], [(-1, 1), (1, 2)]] : List qF) := h
    simp only [List.mem_cons, List.not_mem_nil, or_false] at h
    rcases h with rfl | rfl
    · show 0 ≤ 1 * ρ 1 + (-1 * ρ 2 + 0)
      (try rw [h0]); omega
    · show 0 ≤ -1 * ρ 1 + (1 * ρ 2 + 0)
      (try rw [h0]); omega
  · show sI M
    exact hI
-- nmTie44
def xr_291 : qRu := (4, [[(-6, 0), (1, 3)]], [(4, 100, [(1, 0)]), (4, 103, [(28, 0)]), (4, 104, [(1, 3)]), (44, 0, [(1, 1)]), (3, 65, [(1, 2)])], [], [], [[(1, 1), (-1, 2)], [(-1, 1), (1, 2)]])
theorem xo_291 : qRok xr_291 := by
  intro ρ M h0 hf hm hI
  have f0 := hf [(-6, 0), (1, 3)] (by decide)
  simp only [qD, h0] at f0
  have m0 : M 4 100 = 1 * ρ 0 + 0 := hm (4, 100, [(1, 0)]) (by decide)
  have m1 : M 4 103 = 28 * ρ 0 + 0 := hm (4, 103, [(28, 0)]) (by decide)
  have m2 : M 4 104 = 1 * ρ 3 + 0 := hm (4, 104, [(1, 3)]) (by decide)
  have m3 : M 44 0 = 1 * ρ 1 + 0 := hm (44, 0, [(1, 1)]) (by decide)
  have m4 : M 3 65 = 1 * ρ 2 + 0 := hm (3, 65, [(1, 2)]) (by decide)
  simp only [h0] at m0 m1
  obtain ⟨a1, a2, a3⟩ := gx_xS4 hI (by omega)
  have t := a1 5 (by omega) (by omega)
  unfold tN1 at t
  rw [if_neg (by omega)] at t
  have t : M 44 0 = M 3 65 := t
  refine ⟨ρ, fun _ _ => rfl, fun f h => ?_, ?_⟩
  · have h : f ∈ ([[(1, 1), (-1, 2)], [(-1, 1), (1, 2)]] : List qF) := h
    simp only [List.mem_cons, List.not_mem_nil, or_false] at h
    rcases h with rfl | rfl
    · show 0 ≤ 1 * ρ 1 + (-1 * ρ 2 + 0)
      (try rw [h0]); omega
    · show 0 ≤ -1 * ρ 1 + (1 * ρ 2 + 0)
      (try rw [h0]); omega
  · show sI M
    exact hI
-- nmTie45
def xr_292 : qRu := (4, [[(-7, 0), (1, 3)]], [(4, 100, [(1, 0)]), (4, 103, [(28, 0)]), (4, 104, [(1, 3)]), (45, 0, [(1, 1)]), (3, 66, [(1, 2)])], [], [], [[(1, 1), (-1, 2)], [(-1, 1), (1, 2)]])
theorem xo_292 : qRok xr_292 := by
  intro ρ M h0 hf hm hI
  have f0 := hf [(-7, 0), (1, 3)] (by decide)
  simp only [qD, h0] at f0
  have m0 : M 4 100 = 1 * ρ 0 + 0 := hm (4, 100, [(1, 0)]) (by decide)
  have m1 : M 4 103 = 28 * ρ 0 + 0 := hm (4, 103, [(28, 0)]) (by decide)
  have m2 : M 4 104 = 1 * ρ 3 + 0 := hm (4, 104, [(1, 3)]) (by decide)
  have m3 : M 45 0 = 1 * ρ 1 + 0 := hm (45, 0, [(1, 1)]) (by decide)
  have m4 : M 3 66 = 1 * ρ 2 + 0 := hm (3, 66, [(1, 2)]) (by decide)
  simp only [h0] at m0 m1
  obtain ⟨a1, a2, a3⟩ := gx_xS4 hI (by omega)
  have t := a1 6 (by omega) (by omega)
  unfold tN1 at t
  rw [if_neg (by omega)] at t
  have t : M 45 0 = M 3 66 := t
  refine ⟨ρ, fun _ _ => rfl, fun f h => ?_, ?_⟩
  · have h : f ∈ ([[(1, 1), (-1, 2)], [(-1, 1), (1, 2)]] : List qF) := h
    simp only [List.mem_cons, List.not_mem_nil, or_false] at h
    rcases h with rfl | rfl
    · show 0 ≤ 1 * ρ 1 + (-1 * ρ 2 + 0)
      (try rw [h0]); omega
    · show 0 ≤ -1 * ρ 1 + (1 * ρ 2 + 0)
      (try rw [h0]); omega
  · show sI M
    exact hI
-- nmTie46
def xr_293 : qRu := (4, [[(-8, 0), (1, 3)]], [(4, 100, [(1, 0)]), (4, 103, [(28, 0)]), (4, 104, [(1, 3)]), (46, 0, [(1, 1)]), (3, 67, [(1, 2)])], [], [], [[(1, 1), (-1, 2)], [(-1, 1), (1, 2)]])
theorem xo_293 : qRok xr_293 := by
  intro ρ M h0 hf hm hI
  have f0 := hf [(-8, 0), (1, 3)] (by decide)
  simp only [qD, h0] at f0
  have m0 : M 4 100 = 1 * ρ 0 + 0 := hm (4, 100, [(1, 0)]) (by decide)
  have m1 : M 4 103 = 28 * ρ 0 + 0 := hm (4, 103, [(28, 0)]) (by decide)
  have m2 : M 4 104 = 1 * ρ 3 + 0 := hm (4, 104, [(1, 3)]) (by decide)
  have m3 : M 46 0 = 1 * ρ 1 + 0 := hm (46, 0, [(1, 1)]) (by decide)
  have m4 : M 3 67 = 1 * ρ 2 + 0 := hm (3, 67, [(1, 2)]) (by decide)
  simp only [h0] at m0 m1
  obtain ⟨a1, a2, a3⟩ := gx_xS4 hI (by omega)
  have t := a1 7 (by omega) (by omega)
  unfold tN1 at t
  rw [if_neg (by omega)] at t
  have t : M 46 0 = M 3 67 := t
  refine ⟨ρ, fun _ _ => rfl, fun f h => ?_, ?_⟩
  · have h : f ∈ ([[(1, 1), (-1, 2)], [(-1, 1), (1, 2)]] : List qF) := h
    simp only [List.mem_cons, List.not_mem_nil, or_false] at h
    rcases h with rfl | rfl
    · show 0 ≤ 1 * ρ 1 + (-1 * ρ 2 + 0)
      (try rw [h0]); omega
    · show 0 ≤ -1 * ρ 1 + (1 * ρ 2 + 0)
      (try rw [h0]); omega
  · show sI M
    exact hI
-- nmTie47
def xr_294 : qRu := (4, [[(-9, 0), (1, 3)]], [(4, 100, [(1, 0)]), (4, 103, [(28, 0)]), (4, 104, [(1, 3)]), (47, 0, [(1, 1)]), (3, 68, [(1, 2)])], [], [], [[(1, 1), (-1, 2)], [(-1, 1), (1, 2)]])
theorem xo_294 : qRok xr_294 := by
  intro ρ M h0 hf hm hI
  have f0 := hf [(-9, 0), (1, 3)] (by decide)
  simp only [qD, h0] at f0
  have m0 : M 4 100 = 1 * ρ 0 + 0 := hm (4, 100, [(1, 0)]) (by decide)
  have m1 : M 4 103 = 28 * ρ 0 + 0 := hm (4, 103, [(28, 0)]) (by decide)
  have m2 : M 4 104 = 1 * ρ 3 + 0 := hm (4, 104, [(1, 3)]) (by decide)
  have m3 : M 47 0 = 1 * ρ 1 + 0 := hm (47, 0, [(1, 1)]) (by decide)
  have m4 : M 3 68 = 1 * ρ 2 + 0 := hm (3, 68, [(1, 2)]) (by decide)
  simp only [h0] at m0 m1
  obtain ⟨a1, a2, a3⟩ := gx_xS4 hI (by omega)
  have t := a1 8 (by omega) (by omega)
  unfold tN1 at t
  rw [if_neg (by omega)] at t
  have t : M 47 0 = M 3 68 := t
  refine ⟨ρ, fun _ _ => rfl, fun f h => ?_, ?_⟩
  · have h : f ∈ ([[(1, 1), (-1, 2)], [(-1, 1), (1, 2)]] : List qF) := h
    simp only [List.mem_cons, List.not_mem_nil, or_false] at h
    rcases h with rfl | rfl
    · show 0 ≤ 1 * ρ 1 + (-1 * ρ 2 + 0)
      (try rw [h0]); omega
    · show 0 ≤ -1 * ρ 1 + (1 * ρ 2 + 0)
      (try rw [h0]); omega
  · show sI M
    exact hI
-- nmTie48
def xr_295 : qRu := (4, [[(-1, 0), (1, 3)]], [(4, 100, [(1, 0)]), (4, 103, [(28, 0)]), (4, 105, [(1, 3)]), (48, 0, [(1, 1)]), (3, 70, [(1, 2)])], [], [], [[(1, 1), (-1, 2)], [(-1, 1), (1, 2)]])
theorem xo_295 : qRok xr_295 := by
  intro ρ M h0 hf hm hI
  have f0 := hf [(-1, 0), (1, 3)] (by decide)
  simp only [qD, h0] at f0
  have m0 : M 4 100 = 1 * ρ 0 + 0 := hm (4, 100, [(1, 0)]) (by decide)
  have m1 : M 4 103 = 28 * ρ 0 + 0 := hm (4, 103, [(28, 0)]) (by decide)
  have m2 : M 4 105 = 1 * ρ 3 + 0 := hm (4, 105, [(1, 3)]) (by decide)
  have m3 : M 48 0 = 1 * ρ 1 + 0 := hm (48, 0, [(1, 1)]) (by decide)
  have m4 : M 3 70 = 1 * ρ 2 + 0 := hm (3, 70, [(1, 2)]) (by decide)
  simp only [h0] at m0 m1
  obtain ⟨a1, a2, a3⟩ := gx_xS4 hI (by omega)
  have t := a2 0 (by omega) (by omega)
  unfold tN2 at t
  rw [if_neg (by omega)] at t
  have t : M 48 0 = M 3 70 := t
  refine ⟨ρ, fun _ _ => rfl, fun f h => ?_, ?_⟩
  · have h : f ∈ ([[(1, 1), (-1, 2)], [(-1, 1), (1, 2)]] : List qF) := h
    simp only [List.mem_cons, List.not_mem_nil, or_false] at h
    rcases h with rfl | rfl
    · show 0 ≤ 1 * ρ 1 + (-1 * ρ 2 + 0)
      (try rw [h0]); omega
    · show 0 ≤ -1 * ρ 1 + (1 * ρ 2 + 0)
      (try rw [h0]); omega
  · show sI M
    exact hI
-- nmTie49
def xr_296 : qRu := (4, [[(-2, 0), (1, 3)]], [(4, 100, [(1, 0)]), (4, 103, [(28, 0)]), (4, 105, [(1, 3)]), (49, 0, [(1, 1)]), (3, 71, [(1, 2)])], [], [], [[(1, 1), (-1, 2)], [(-1, 1), (1, 2)]])
theorem xo_296 : qRok xr_296 := by
  intro ρ M h0 hf hm hI
  have f0 := hf [(-2, 0), (1, 3)] (by decide)
  simp only [qD, h0] at f0
  have m0 : M 4 100 = 1 * ρ 0 + 0 := hm (4, 100, [(1, 0)]) (by decide)
  have m1 : M 4 103 = 28 * ρ 0 + 0 := hm (4, 103, [(28, 0)]) (by decide)
  have m2 : M 4 105 = 1 * ρ 3 + 0 := hm (4, 105, [(1, 3)]) (by decide)
  have m3 : M 49 0 = 1 * ρ 1 + 0 := hm (49, 0, [(1, 1)]) (by decide)
  have m4 : M 3 71 = 1 * ρ 2 + 0 := hm (3, 71, [(1, 2)]) (by decide)
  simp only [h0] at m0 m1
  obtain ⟨a1, a2, a3⟩ := gx_xS4 hI (by omega)
  have t := a2 1 (by omega) (by omega)
  unfold tN2 at t
  rw [if_neg (by omega)] at t
  have t : M 49 0 = M 3 71 := t
  refine ⟨ρ, fun _ _ => rfl, fun f h => ?_, ?_⟩
  · have h : f ∈ ([[(1, 1), (-1, 2)], [(-1, 1), (1, 2)]] : List qF) := h
    simp only [List.mem_cons, List.not_mem_nil, or_false] at h
    rcases h with rfl | rfl
    · show 0 ≤ 1 * ρ 1 + (-1 * ρ 2 + 0)
      (try rw [h0]); omega
    · show 0 ≤ -1 * ρ 1 + (1 * ρ 2 + 0)
      (try rw [h0]); omega
  · show sI M
    exact hI
-- nmTie50
def xr_297 : qRu := (4, [[(-3, 0), (1, 3)]], [(4, 100, [(1, 0)]), (4, 103, [(28, 0)]), (4, 105, [(1, 3)]), (50, 0, [(1, 1)]), (3, 72, [(1, 2)])], [], [], [[(1, 1), (-1, 2)], [(-1, 1), (1, 2)]])
theorem xo_297 : qRok xr_297 := by
  intro ρ M h0 hf hm hI
  have f0 := hf [(-3, 0), (1, 3)] (by decide)
  simp only [qD, h0] at f0
  have m0 : M 4 100 = 1 * ρ 0 + 0 := hm (4, 100, [(1, 0)]) (by decide)
  have m1 : M 4 103 = 28 * ρ 0 + 0 := hm (4, 103, [(28, 0)]) (by decide)
  have m2 : M 4 105 = 1 * ρ 3 + 0 := hm (4, 105, [(1, 3)]) (by decide)
  have m3 : M 50 0 = 1 * ρ 1 + 0 := hm (50, 0, [(1, 1)]) (by decide)
  have m4 : M 3 72 = 1 * ρ 2 + 0 := hm (3, 72, [(1, 2)]) (by decide)
  simp only [h0] at m0 m1
  obtain ⟨a1, a2, a3⟩ := gx_xS4 hI (by omega)
  have t := a2 2 (by omega) (by omega)
  unfold tN2 at t
  rw [if_neg (by omega)] at t
  have t : M 50 0 = M 3 72 := t
  refine ⟨ρ, fun _ _ => rfl, fun f h => ?_, ?_⟩
  · have h : f ∈ ([[(1, 1), (-1, 2)], [(-1, 1), (1, 2)]] : List qF) := h
    simp only [List.mem_cons, List.not_mem_nil, or_false] at h
    rcases h with rfl | rfl
    · show 0 ≤ 1 * ρ 1 + (-1 * ρ 2 + 0)
      (try rw [h0]); omega
    · show 0 ≤ -1 * ρ 1 + (1 * ρ 2 + 0)
      (try rw [h0]); omega
  · show sI M
    exact hI
-- nmTie51
def xr_298 : qRu := (4, [[(-4, 0), (1, 3)]], [(4, 100, [(1, 0)]), (4, 103, [(28, 0)]), (4, 105, [(1, 3)]), (51, 0, [(1, 1)]), (3, 73, [(1, 2)])], [], [], [[(1, 1), (-1, 2)], [(-1, 1), (1, 2)]])
theorem xo_298 : qRok xr_298 := by
  intro ρ M h0 hf hm hI
  have f0 := hf [(-4, 0), (1, 3)] (by decide)
  simp only [qD, h0] at f0
  have m0 : M 4 100 = 1 * ρ 0 + 0 := hm (4, 100, [(1, 0)]) (by decide)
  have m1 : M 4 103 = 28 * ρ 0 + 0 := hm (4, 103, [(28, 0)]) (by decide)
  have m2 : M 4 105 = 1 * ρ 3 + 0 := hm (4, 105, [(1, 3)]) (by decide)
  have m3 : M 51 0 = 1 * ρ 1 + 0 := hm (51, 0, [(1, 1)]) (by decide)
  have m4 : M 3 73 = 1 * ρ 2 + 0 := hm (3, 73, [(1, 2)]) (by decide)
  simp only [h0] at m0 m1
  obtain ⟨a1, a2, a3⟩ := gx_xS4 hI (by omega)
  have t := a2 3 (by omega) (by omega)
  unfold tN2 at t
  rw [if_neg (by omega)] at t
  have t : M 51 0 = M 3 73 := t
  refine ⟨ρ, fun _ _ => rfl, fun f h => ?_, ?_⟩
  · have h : f ∈ ([[(1, 1), (-1, 2)], [(-1, 1), (1, 2)]] : List qF) := h
    simp only [List.mem_cons, List.not_mem_nil, or_false] at h
    rcases h with rfl | rfl
    · show 0 ≤ 1 * ρ 1 + (-1 * ρ 2 + 0)
      (try rw [h0]); omega
    · show 0 ≤ -1 * ρ 1 + (1 * ρ 2 + 0)
      (try rw [h0]); omega
  · show sI M
    exact hI
-- nmTie52
def xr_299 : qRu := (4, [[(-5, 0), (1, 3)]], [(4, 100, [(1, 0)]), (4, 103, [(28, 0)]), (4, 105, [(1, 3)]), (52, 0, [(1, 1)]), (3, 74, [(1, 2)])], [], [], [[(1, 1), (-1, 2)], [(-1, 1), (1, 2)]])
theorem xo_299 : qRok xr_299 := by
  intro ρ M h0 hf hm hI
  have f0 := hf [(-5, 0), (1, 3)] (by decide)
  simp only [qD, h0] at f0
  have m0 : M 4 100 = 1 * ρ 0 + 0 := hm (4, 100, [(1, 0)]) (by decide)
  have m1 : M 4 103 = 28 * ρ 0 + 0 := hm (4, 103, [(28, 0)]) (by decide)
  have m2 : M 4 105 = 1 * ρ 3 + 0 := hm (4, 105, [(1, 3)]) (by decide)
  have m3 : M 52 0 = 1 * ρ 1 + 0 := hm (52, 0, [(1, 1)]) (by decide)
  have m4 : M 3 74 = 1 * ρ 2 + 0 := hm (3, 74, [(1, 2)]) (by decide)
  simp only [h0] at m0 m1
  obtain ⟨a1, a2, a3⟩ := gx_xS4 hI (by omega)
  have t := a2 4 (by omega) (by omega)
  unfold tN2 at t
  rw [if_neg (by omega)] at t
  have t : M 52 0 = M 3 74 := t
  refine ⟨ρ, fun _ _ => rfl, fun f h => ?_, ?_⟩
  · have h : f ∈ ([[(1, 1), (-1, 2)], [(-1, 1), (1, 2)]] : List qF) := h
    simp only [List.mem_cons, List.not_mem_nil, or_false] at h
    rcases h with rfl | rfl
    · show 0 ≤ 1 * ρ 1 + (-1 * ρ 2 + 0)
      (try rw [h0]); omega
    · show 0 ≤ -1 * ρ 1 + (1 * ρ 2 + 0)
      (try rw [h0]); omega
  · show sI M
    exact hI
-- nmTie53
def xr_300 : qRu := (4, [[(-6, 0), (1, 3)]], [(4, 100, [(1, 0)]), (4, 103, [(28, 0)]), (4, 105, [(1, 3)]), (53, 0, [(1, 1)]), (3, 75, [(1, 2)])], [], [], [[(1, 1), (-1, 2)], [(-1, 1), (1, 2)]])
theorem xo_300 : qRok xr_300 := by
  intro ρ M h0 hf hm hI
  have f0 := hf [(-6, 0), (1, 3)] (by decide)
  simp only [qD, h0] at f0
  have m0 : M 4 100 = 1 * ρ 0 + 0 := hm (4, 100, [(1, 0)]) (by decide)
  have m1 : M 4 103 = 28 * ρ 0 + 0 := hm (4, 103, [(28, 0)]) (by decide)
  have m2 : M 4 105 = 1 * ρ 3 + 0 := hm (4, 105, [(1, 3)]) (by decide)
  have m3 : M 53 0 = 1 * ρ 1 + 0 := hm (53, 0, [(1, 1)]) (by decide)
  have m4 : M 3 75 = 1 * ρ 2 + 0 := hm (3, 75, [(1, 2)]) (by decide)
  simp only [h0] at m0 m1
  obtain ⟨a1, a2, a3⟩ := gx_xS4 hI (by omega)
  have t := a2 5 (by omega) (by omega)
  unfold tN2 at t
  rw [if_neg (by omega)] at t
  have t : M 53 0 = M 3 75 := t
  refine ⟨ρ, fun _ _ => rfl, fun f h => ?_, ?_⟩
  · have h : f ∈ ([[(1, 1), (-1, 2)], [(-1, 1), (1, 2)]] : List qF) := h
    simp only [List.mem_cons, List.not_mem_nil, or_false] at h
    rcases h with rfl | rfl
    · show 0 ≤ 1 * ρ 1 + (-1 * ρ 2 + 0)
      (try rw [h0]); omega
    · show 0 ≤ -1 * ρ 1 + (1 * ρ 2 + 0)
      (try rw [h0]); omega
  · show sI M
    exact hI
-- nmTie5_0
def xr_301 : qRu := (4, [[(-1, 0), (1, 3)]], [(4, 100, [(1, 0)]), (4, 103, [(2, 0)]), (4, 106, [(1, 3)]), (5, 0, [(1, 1)]), (3, 80, [(1, 2)])], [], [], [[(1, 1), (-1, 2)], [(-1, 1), (1, 2)]])
theorem xo_301 : qRok xr_301 := by
  intro ρ M h0 hf hm hI
  have f0 := hf [(-1, 0), (1, 3)] (by decide)
  simp only [qD, h0] at f0
  have m0 : M 4 100 = 1 * ρ 0 + 0 := hm (4, 100, [(1, 0)]) (by decide)
  have m1 : M 4 103 = 2 * ρ 0 + 0 := hm (4, 103, [(2, 0)]) (by decide)
  have m2 : M 4 106 = 1 * ρ 3 + 0 := hm (4, 106, [(1, 3)]) (by decide)
  have m3 : M 5 0 = 1 * ρ 1 + 0 := hm (5, 0, [(1, 1)]) (by decide)
  have m4 : M 3 80 = 1 * ρ 2 + 0 := hm (3, 80, [(1, 2)]) (by decide)
  simp only [h0] at m0 m1
  obtain ⟨a1, a2, a3⟩ := gx_xS4 hI (by omega)
  have t := a3 0 (by omega) (by omega)
  unfold tN3 at t
  rw [if_pos (by omega)] at t
  have t : M 5 0 = M 3 80 := t
  refine ⟨ρ, fun _ _ => rfl, fun f h => ?_, ?_⟩
  · have h : f ∈ ([[(1, 1), (-1, 2)], [(-1, 1), (1, 2)]] : List qF) := h
    simp only [List.mem_cons, List.not_mem_nil, or_false] at h
    rcases h with rfl | rfl
    · show 0 ≤ 1 * ρ 1 + (-1 * ρ 2 + 0)
      (try rw [h0]); omega
    · show 0 ≤ -1 * ρ 1 + (1 * ρ 2 + 0)
      (try rw [h0]); omega
  · show sI M
    exact hI
-- nmTie5_1
def xr_302 : qRu := (4, [[(-2, 0), (1, 3)]], [(4, 100, [(1, 0)]), (4, 103, [(2, 0)]), (4, 106, [(1, 3)]), (5, 1, [(1, 1)]), (3, 81, [(1, 2)])], [], [], [[(1, 1), (-1, 2)], [(-1, 1), (1, 2)]])
theorem xo_302 : qRok xr_302 := by
  intro ρ M h0 hf hm hI
  have f0 := hf [(-2, 0), (1, 3)] (by decide)
  simp only [qD, h0] at f0
  have m0 : M 4 100 = 1 * ρ 0 + 0 := hm (4, 100, [(1, 0)]) (by decide)
  have m1 : M 4 103 = 2 * ρ 0 + 0 := hm (4, 103, [(2, 0)]) (by decide)
  have m2 : M 4 106 = 1 * ρ 3 + 0 := hm (4, 106, [(1, 3)]) (by decide)
  have m3 : M 5 1 = 1 * ρ 1 + 0 := hm (5, 1, [(1, 1)]) (by decide)
  have m4 : M 3 81 = 1 * ρ 2 + 0 := hm (3, 81, [(1, 2)]) (by decide)
  simp only [h0] at m0 m1
  obtain ⟨a1, a2, a3⟩ := gx_xS4 hI (by omega)
  have t := a3 1 (by omega) (by omega)
  unfold tN3 at t
  rw [if_pos (by omega)] at t
  have t : M 5 1 = M 3 81 := t
  refine ⟨ρ, fun _ _ => rfl, fun f h => ?_, ?_⟩
  · have h : f ∈ ([[(1, 1), (-1, 2)], [(-1, 1), (1, 2)]] : List qF) := h
    simp only [List.mem_cons, List.not_mem_nil, or_false] at h
    rcases h with rfl | rfl
    · show 0 ≤ 1 * ρ 1 + (-1 * ρ 2 + 0)
      (try rw [h0]); omega
    · show 0 ≤ -1 * ρ 1 + (1 * ρ 2 + 0)
      (try rw [h0]); omega
  · show sI M
    exact hI
-- nmTie5_2
def xr_303 : qRu := (4, [[(-3, 0), (1, 3)]], [(4, 100, [(1, 0)]), (4, 103, [(2, 0)]), (4, 106, [(1, 3)]), (5, 2, [(1, 1)]), (3, 82, [(1, 2)])], [], [], [[(1, 1), (-1, 2)], [(-1, 1), (1, 2)]])
theorem xo_303 : qRok xr_303 := by
  intro ρ M h0 hf hm hI
  have f0 := hf [(-3, 0), (1, 3)] (by decide)
  simp only [qD, h0] at f0
  have m0 : M 4 100 = 1 * ρ 0 + 0 := hm (4, 100, [(1, 0)]) (by decide)
  have m1 : M 4 103 = 2 * ρ 0 + 0 := hm (4, 103, [(2, 0)]) (by decide)
  have m2 : M 4 106 = 1 * ρ 3 + 0 := hm (4, 106, [(1, 3)]) (by decide)
  have m3 : M 5 2 = 1 * ρ 1 + 0 := hm (5, 2, [(1, 1)]) (by decide)
  have m4 : M 3 82 = 1 * ρ 2 + 0 := hm (3, 82, [(1, 2)]) (by decide)
  simp only [h0] at m0 m1
  obtain ⟨a1, a2, a3⟩ := gx_xS4 hI (by omega)
  have t := a3 2 (by omega) (by omega)
  unfold tN3 at t
  rw [if_pos (by omega)] at t
  have t : M 5 2 = M 3 82 := t
  refine ⟨ρ, fun _ _ => rfl, fun f h => ?_, ?_⟩
  · have h : f ∈ ([[(1, 1), (-1, 2)], [(-1, 1), (1, 2)]] : List qF) := h
    simp only [List.mem_cons, List.not_mem_nil, or_false] at h
    rcases h with rfl | rfl
    · show 0 ≤ 1 * ρ 1 + (-1 * ρ 2 + 0)
      (try rw [h0]); omega
    · show 0 ≤ -1 * ρ 1 + (1 * ρ 2 + 0)
      (try rw [h0]); omega
  · show sI M
    exact hI
-- nmTie31_0
def xr_304 : qRu := (4, [[(-1, 0), (1, 3)]], [(4, 100, [(1, 0)]), (4, 103, [(28, 0)]), (4, 106, [(1, 3)]), (31, 0, [(1, 1)]), (3, 80, [(1, 2)])], [], [], [[(1, 1), (-1, 2)], [(-1, 1), (1, 2)]])
theorem xo_304 : qRok xr_304 := by
  intro ρ M h0 hf hm hI
  have f0 := hf [(-1, 0), (1, 3)] (by decide)
  simp only [qD, h0] at f0
  have m0 : M 4 100 = 1 * ρ 0 + 0 := hm (4, 100, [(1, 0)]) (by decide)
  have m1 : M 4 103 = 28 * ρ 0 + 0 := hm (4, 103, [(28, 0)]) (by decide)
  have m2 : M 4 106 = 1 * ρ 3 + 0 := hm (4, 106, [(1, 3)]) (by decide)
  have m3 : M 31 0 = 1 * ρ 1 + 0 := hm (31, 0, [(1, 1)]) (by decide)
  have m4 : M 3 80 = 1 * ρ 2 + 0 := hm (3, 80, [(1, 2)]) (by decide)
  simp only [h0] at m0 m1
  obtain ⟨a1, a2, a3⟩ := gx_xS4 hI (by omega)
  have t := a3 0 (by omega) (by omega)
  unfold tN3 at t
  rw [if_neg (by omega)] at t
  have t : M 31 0 = M 3 80 := t
  refine ⟨ρ, fun _ _ => rfl, fun f h => ?_, ?_⟩
  · have h : f ∈ ([[(1, 1), (-1, 2)], [(-1, 1), (1, 2)]] : List qF) := h
    simp only [List.mem_cons, List.not_mem_nil, or_false] at h
    rcases h with rfl | rfl
    · show 0 ≤ 1 * ρ 1 + (-1 * ρ 2 + 0)
      (try rw [h0]); omega
    · show 0 ≤ -1 * ρ 1 + (1 * ρ 2 + 0)
      (try rw [h0]); omega
  · show sI M
    exact hI
-- nmTie31_1
def xr_305 : qRu := (4, [[(-2, 0), (1, 3)]], [(4, 100, [(1, 0)]), (4, 103, [(28, 0)]), (4, 106, [(1, 3)]), (31, 1, [(1, 1)]), (3, 81, [(1, 2)])], [], [], [[(1, 1), (-1, 2)], [(-1, 1), (1, 2)]])
theorem xo_305 : qRok xr_305 := by
  intro ρ M h0 hf hm hI
  have f0 := hf [(-2, 0), (1, 3)] (by decide)
  simp only [qD, h0] at f0
  have m0 : M 4 100 = 1 * ρ 0 + 0 := hm (4, 100, [(1, 0)]) (by decide)
  have m1 : M 4 103 = 28 * ρ 0 + 0 := hm (4, 103, [(28, 0)]) (by decide)
  have m2 : M 4 106 = 1 * ρ 3 + 0 := hm (4, 106, [(1, 3)]) (by decide)
  have m3 : M 31 1 = 1 * ρ 1 + 0 := hm (31, 1, [(1, 1)]) (by decide)
  have m4 : M 3 81 = 1 * ρ 2 + 0 := hm (3, 81, [(1, 2)]) (by decide)
  simp only [h0] at m0 m1
  obtain ⟨a1, a2, a3⟩ := gx_xS4 hI (by omega)
  have t := a3 1 (by omega) (by omega)
  unfold tN3 at t
  rw [if_neg (by omega)] at t
  have t : M 31 1 = M 3 81 := t
  refine ⟨ρ, fun _ _ => rfl, fun f h => ?_, ?_⟩
  · have h : f ∈ ([[(1, 1), (-1, 2)], [(-1, 1), (1, 2)]] : List qF) := h
    simp only [List.mem_cons, List.not_mem_nil, or_false] at h
    rcases h with rfl | rfl
    · show 0 ≤ 1 * ρ 1 + (-1 * ρ 2 + 0)
      (try rw [h0]); omega
    · show 0 ≤ -1 * ρ 1 + (1 * ρ 2 + 0)
      (try rw [h0]); omega
  · show sI M
    exact hI
-- nmTie31_2
def xr_306 : qRu := (4, [[(-3, 0), (1, 3)]], [(4, 100, [(1, 0)]), (4, 103, [(28, 0)]), (4, 106, [(1, 3)]), (31, 2, [(1, 1)]), (3, 82, [(1, 2)])], [], [], [[(1, 1), (-1, 2)], [(-1, 1), (1, 2)]])
theorem xo_306 : qRok xr_306 := by
  intro ρ M h0 hf hm hI
  have f0 := hf [(-3, 0), (1, 3)] (by decide)
  simp only [qD, h0] at f0
  have m0 : M 4 100 = 1 * ρ 0 + 0 := hm (4, 100, [(1, 0)]) (by decide)
  have m1 : M 4 103 = 28 * ρ 0 + 0 := hm (4, 103, [(28, 0)]) (by decide)
  have m2 : M 4 106 = 1 * ρ 3 + 0 := hm (4, 106, [(1, 3)]) (by decide)
  have m3 : M 31 2 = 1 * ρ 1 + 0 := hm (31, 2, [(1, 1)]) (by decide)
  have m4 : M 3 82 = 1 * ρ 2 + 0 := hm (3, 82, [(1, 2)]) (by decide)
  simp only [h0] at m0 m1
  obtain ⟨a1, a2, a3⟩ := gx_xS4 hI (by omega)
  have t := a3 2 (by omega) (by omega)
  unfold tN3 at t
  rw [if_neg (by omega)] at t
  have t : M 31 2 = M 3 82 := t
  refine ⟨ρ, fun _ _ => rfl, fun f h => ?_, ?_⟩
  · have h : f ∈ ([[(1, 1), (-1, 2)], [(-1, 1), (1, 2)]] : List qF) := h
    simp only [List.mem_cons, List.not_mem_nil, or_false] at h
    rcases h with rfl | rfl
    · show 0 ≤ 1 * ρ 1 + (-1 * ρ 2 + 0)
      (try rw [h0]); omega
    · show 0 ≤ -1 * ρ 1 + (1 * ρ 2 + 0)
      (try rw [h0]); omega
  · show sI M
    exact hI
-- sBeginB
def xr_307 : qRu := (1, [], [], [], [(4, 230, [(1, 0)]), (4, 231, []), (4, 232, [(60, 0)])], [])
theorem xo_307 : qRok xr_307 := by
  intro ρ M h0 hf hm hI
  have qxS6 := hI.2.2.2.2.2.2.2.2.2.2.2.2.2.2.2.2.2.2.2.2.2.2.2.2.2.2.1
  refine ⟨ρ, fun _ _ => rfl, fun f h => ?_, ?_⟩
  · exact nomatch h
  · show sI (sU (sU (sU M 4 230 (1 * ρ 0 + 0)) 4 231 (0)) 4 232 (60 * ρ 0 + 0))
    obtain ⟨W, hW⟩ : ∃ W, W = (sU (sU (sU M 4 230 (1 * ρ 0 + 0)) 4 231 (0)) 4 232 (60 * ρ 0 + 0)) := ⟨_, rfl⟩
    rw [← hW]
    have base : sI0 W := by
      rw [hW]
      exact (si_u0 (si_u0 (si_u0 hI.1 (fun r hr => by cases hr)) (fun r hr => by cases hr)) (fun r hr => by cases hr))
    have k2 : XI2 W := by
      rw [hW]
      exact (xi2_u rfl (xi2_u rfl (xi2_u rfl hI.2.1)))
    have k3 : XI3 W := by
      rw [hW]
      exact (xi3_u rfl (xi3_u rfl (xi3_u rfl hI.2.2.1)))
    have kXA : XA W := by
      rw [hW]
      exact (uXA rfl (uXA rfl (uXA rfl hI.2.2.2.1)))
    have k_xN1 : xN1 W := by
      rw [hW]
      exact (uxN1 rfl (uxN1 rfl (uxN1 rfl hI.2.2.2.2.1)))
    have k_xN2 : xN2 W := by
      rw [hW]
      exact (uxN2 rfl (uxN2 rfl (uxN2 rfl hI.2.2.2.2.2.1)))
    have k_xN3 : xN3 W := by
      rw [hW]
      exact (uxN3 rfl (uxN3 rfl (uxN3 rfl hI.2.2.2.2.2.2.1)))
    have k_xN4 : xN4 W := by
      rw [hW]
      exact (uxN4 rfl (uxN4 rfl (uxN4 rfl hI.2.2.2.2.2.2.2.1)))
    have k_xN5 : xN5 W := by
      rw [hW]
      exact (uxN5 rfl (uxN5 rfl (uxN5 rfl hI.2.2.2.2.2.2.2.2.1)))
    have k_xN6 : xN6 W := by
      rw [hW]
      exact (uxN6 rfl (uxN6 rfl (uxN6 rfl hI.2.2.2.2.2.2.2.2.2.1)))
    have k_xH1 : xH1 W := by
      rw [hW]
      exact (uxH1 rfl (uxH1 rfl (uxH1 rfl hI.2.2.2.2.2.2.2.2.2.2.1)))
    have k_xK1 : xK1 W := by
      rw [hW]
      exact (uxK1 rfl (uxK1 rfl (uxK1 rfl hI.2.2.2.2.2.2.2.2.2.2.2.1)))
    have k_xC1 : xC1 W := by
      rw [hW]
      exact (uxC1 rfl (uxC1 rfl (uxC1 rfl hI.2.2.2.2.2.2.2.2.2.2.2.2.1)))
    have k_xRW : xRW W := by
      rw [hW]
      exact (uxRW rfl (uxRW rfl (uxRW rfl hI.2.2.2.2.2.2.2.2.2.2.2.2.2.1)))
    have k_xWT : xWT W := by
      rw [hW]
      exact (uxWT rfl (uxWT rfl (uxWT rfl hI.2.2.2.2.2.2.2.2.2.2.2.2.2.2.1)))
    have k_xCU : xCU W := by
      rw [hW]
      exact (uxCU rfl (uxCU rfl (uxCU rfl hI.2.2.2.2.2.2.2.2.2.2.2.2.2.2.2.1)))
    have k_xG2 : xG2 W := by
      rw [hW]
      exact (uxG2 rfl (uxG2 rfl (uxG2 rfl hI.2.2.2.2.2.2.2.2.2.2.2.2.2.2.2.2.1)))
    have k_xG3 : xG3 W := by
      rw [hW]
      exact (uxG3 rfl (uxG3 rfl (uxG3 rfl hI.2.2.2.2.2.2.2.2.2.2.2.2.2.2.2.2.2.1)))
    have k_xG4 : xG4 W := by
      rw [hW]
      exact (uxG4 rfl (uxG4 rfl (uxG4 rfl hI.2.2.2.2.2.2.2.2.2.2.2.2.2.2.2.2.2.2.1)))
    have k_xG5 : xG5 W := by
      rw [hW]
      exact (uxG5 rfl (uxG5 rfl (uxG5 rfl hI.2.2.2.2.2.2.2.2.2.2.2.2.2.2.2.2.2.2.2.1)))
    have k_xG6 : xG6 W := by
      rw [hW]
      exact (uxG6 rfl (uxG6 rfl (uxG6 rfl hI.2.2.2.2.2.2.2.2.2.2.2.2.2.2.2.2.2.2.2.2.1)))
    have k_xS1 : xS1 W := by
      rw [hW]
      exact (uxS1 rfl (uxS1 rfl (uxS1 rfl hI.2.2.2.2.2.2.2.2.2.2.2.2.2.2.2.2.2.2.2.2.2.1)))
    have k_xS2 : xS2 W := by
      rw [hW]
      exact (uxS2 rfl (uxS2 rfl (uxS2 rfl hI.2.2.2.2.2.2.2.2.2.2.2.2.2.2.2.2.2.2.2.2.2.2.1)))
    have k_xS3 : xS3 W := by
      rw [hW]
      exact (uxS3 rfl (uxS3 rfl (uxS3 rfl hI.2.2.2.2.2.2.2.2.2.2.2.2.2.2.2.2.2.2.2.2.2.2.2.1)))
    have k_xS4 : xS4 W := by
      rw [hW]
      exact (uxS4 rfl (uxS4 rfl (uxS4 rfl hI.2.2.2.2.2.2.2.2.2.2.2.2.2.2.2.2.2.2.2.2.2.2.2.2.1)))
    have k_xS5 : xS5 W := by
      rw [hW]
      exact (uxS5 rfl (uxS5 rfl (uxS5 rfl hI.2.2.2.2.2.2.2.2.2.2.2.2.2.2.2.2.2.2.2.2.2.2.2.2.2.1)))
    have k_xS6 : xS6 W := by
      have r4_230 : W 4 230 = 1 * ρ 0 + 0 := by rw [hW, sU_ne (fun z => by omega), sU_ne (fun z => by omega), sU_at]
      have r4_231 : W 4 231 = 0 := by rw [hW, sU_ne (fun z => by omega), sU_at]
      have r4_232 : W 4 232 = 60 * ρ 0 + 0 := by rw [hW, sU_at]
      have c3 : ∀ k, W 3 k = M 3 k := fun k => by rw [hW, sU_ne (fun z => by omega), sU_ne (fun z => by omega), sU_ne (fun z => by omega)]
      have e3 : W 3 = M 3 := funext c3
      intro h
      rw [r4_231, r4_232, e3]
      exact ⟨by omega, rfl⟩
    have k_xS7 : xS7 W := by
      rw [hW]
      exact (uxS7 rfl (uxS7 rfl (uxS7 rfl hI.2.2.2.2.2.2.2.2.2.2.2.2.2.2.2.2.2.2.2.2.2.2.2.2.2.2.2.1)))
    have k_xS8 : xS8 W := by
      rw [hW]
      exact (uxS8 rfl (uxS8 rfl (uxS8 rfl hI.2.2.2.2.2.2.2.2.2.2.2.2.2.2.2.2.2.2.2.2.2.2.2.2.2.2.2.2.1)))
    have k_xS9 : xS9 W := by
      rw [hW]
      exact (uxS9 rfl (uxS9 rfl (uxS9 rfl hI.2.2.2.2.2.2.2.2.2.2.2.2.2.2.2.2.2.2.2.2.2.2.2.2.2.2.2.2.2.1)))
    have k_xSA : xSA W := by
      rw [hW]
      exact (uxSA rfl (uxSA rfl (uxSA rfl hI.2.2.2.2.2.2.2.2.2.2.2.2.2.2.2.2.2.2.2.2.2.2.2.2.2.2.2.2.2.2.1)))
    have k_xSG : xSG W := by
      rw [hW]
      exact (uxSG rfl (uxSG rfl (uxSG rfl hI.2.2.2.2.2.2.2.2.2.2.2.2.2.2.2.2.2.2.2.2.2.2.2.2.2.2.2.2.2.2.2.1)))
    have k_xSF : xSF W := by
      rw [hW]
      exact (uxSF rfl (uxSF rfl (uxSF rfl hI.2.2.2.2.2.2.2.2.2.2.2.2.2.2.2.2.2.2.2.2.2.2.2.2.2.2.2.2.2.2.2.2.1)))
    have k_xSB : xSB W := by
      rw [hW]
      exact (uxSB rfl (uxSB rfl (uxSB rfl hI.2.2.2.2.2.2.2.2.2.2.2.2.2.2.2.2.2.2.2.2.2.2.2.2.2.2.2.2.2.2.2.2.2.1)))
    have k_xSC : xSC W := by
      rw [hW]
      exact (uxSC rfl (uxSC rfl (uxSC rfl hI.2.2.2.2.2.2.2.2.2.2.2.2.2.2.2.2.2.2.2.2.2.2.2.2.2.2.2.2.2.2.2.2.2.2.1)))
    have k_xSD : xSD W := by
      rw [hW]
      exact (uxSD rfl (uxSD rfl (uxSD rfl hI.2.2.2.2.2.2.2.2.2.2.2.2.2.2.2.2.2.2.2.2.2.2.2.2.2.2.2.2.2.2.2.2.2.2.2.1)))
    have k_xSE : xSE W := by
      rw [hW]
      exact (uxSE rfl (uxSE rfl (uxSE rfl hI.2.2.2.2.2.2.2.2.2.2.2.2.2.2.2.2.2.2.2.2.2.2.2.2.2.2.2.2.2.2.2.2.2.2.2.2.1)))
    have k_xSW : xSW W := by
      rw [hW]
      exact (uxSW rfl (uxSW rfl (uxSW rfl hI.2.2.2.2.2.2.2.2.2.2.2.2.2.2.2.2.2.2.2.2.2.2.2.2.2.2.2.2.2.2.2.2.2.2.2.2.2.1)))
    have k_xST : xST W := by
      rw [hW]
      exact (uxST rfl (uxST rfl (uxST rfl hI.2.2.2.2.2.2.2.2.2.2.2.2.2.2.2.2.2.2.2.2.2.2.2.2.2.2.2.2.2.2.2.2.2.2.2.2.2.2.1)))
    have k_xSP : xSP W := by
      rw [hW]
      exact (uxSP rfl (uxSP rfl (uxSP rfl hI.2.2.2.2.2.2.2.2.2.2.2.2.2.2.2.2.2.2.2.2.2.2.2.2.2.2.2.2.2.2.2.2.2.2.2.2.2.2.2.1)))
    have k_xSL : xSL W := by
      rw [hW]
      exact (uxSL rfl (uxSL rfl (uxSL rfl hI.2.2.2.2.2.2.2.2.2.2.2.2.2.2.2.2.2.2.2.2.2.2.2.2.2.2.2.2.2.2.2.2.2.2.2.2.2.2.2.2.1)))
    have k_xSM : xSM W := by
      rw [hW]
      exact (uxSM rfl (uxSM rfl (uxSM rfl hI.2.2.2.2.2.2.2.2.2.2.2.2.2.2.2.2.2.2.2.2.2.2.2.2.2.2.2.2.2.2.2.2.2.2.2.2.2.2.2.2.2.1)))
    have k_xSI : xSI W := by
      rw [hW]
      exact (uxSI rfl (uxSI rfl (uxSI rfl hI.2.2.2.2.2.2.2.2.2.2.2.2.2.2.2.2.2.2.2.2.2.2.2.2.2.2.2.2.2.2.2.2.2.2.2.2.2.2.2.2.2.2.1)))
    have k_xD3 : xD3 W := by
      rw [hW]
      exact (uxD3 rfl (uxD3 rfl (uxD3 rfl hI.2.2.2.2.2.2.2.2.2.2.2.2.2.2.2.2.2.2.2.2.2.2.2.2.2.2.2.2.2.2.2.2.2.2.2.2.2.2.2.2.2.2.2.1)))
    have k_xDV : xDV W := by
      rw [hW]
      exact (uxDV rfl (uxDV rfl (uxDV rfl hI.2.2.2.2.2.2.2.2.2.2.2.2.2.2.2.2.2.2.2.2.2.2.2.2.2.2.2.2.2.2.2.2.2.2.2.2.2.2.2.2.2.2.2.2.1)))
    have k_xDP : xDP W := by
      rw [hW]
      exact (uxDP rfl (uxDP rfl (uxDP rfl hI.2.2.2.2.2.2.2.2.2.2.2.2.2.2.2.2.2.2.2.2.2.2.2.2.2.2.2.2.2.2.2.2.2.2.2.2.2.2.2.2.2.2.2.2.2.1)))
    have k_xDE : xDE W := by
      rw [hW]
      exact (uxDE rfl (uxDE rfl (uxDE rfl hI.2.2.2.2.2.2.2.2.2.2.2.2.2.2.2.2.2.2.2.2.2.2.2.2.2.2.2.2.2.2.2.2.2.2.2.2.2.2.2.2.2.2.2.2.2.2.1)))
    have k_xQ5 : xQ5 W := by
      rw [hW]
      exact (uxQ5 rfl (uxQ5 rfl (uxQ5 rfl hI.2.2.2.2.2.2.2.2.2.2.2.2.2.2.2.2.2.2.2.2.2.2.2.2.2.2.2.2.2.2.2.2.2.2.2.2.2.2.2.2.2.2.2.2.2.2.2.1)))
    have k_xQL : xQL W := by
      rw [hW]
      exact (uxQL rfl (uxQL rfl (uxQL rfl hI.2.2.2.2.2.2.2.2.2.2.2.2.2.2.2.2.2.2.2.2.2.2.2.2.2.2.2.2.2.2.2.2.2.2.2.2.2.2.2.2.2.2.2.2.2.2.2.2.1)))
    have k_xQW : xQW W := by
      rw [hW]
      exact (uxQW rfl (uxQW rfl (uxQW rfl hI.2.2.2.2.2.2.2.2.2.2.2.2.2.2.2.2.2.2.2.2.2.2.2.2.2.2.2.2.2.2.2.2.2.2.2.2.2.2.2.2.2.2.2.2.2.2.2.2.2.1)))
    have k_xQM : xQM W := by
      rw [hW]
      exact (uxQM rfl (uxQM rfl (uxQM rfl hI.2.2.2.2.2.2.2.2.2.2.2.2.2.2.2.2.2.2.2.2.2.2.2.2.2.2.2.2.2.2.2.2.2.2.2.2.2.2.2.2.2.2.2.2.2.2.2.2.2.2.1)))
    have k_xQH : xQH W := by
      rw [hW]
      exact (uxQH rfl (uxQH rfl (uxQH rfl hI.2.2.2.2.2.2.2.2.2.2.2.2.2.2.2.2.2.2.2.2.2.2.2.2.2.2.2.2.2.2.2.2.2.2.2.2.2.2.2.2.2.2.2.2.2.2.2.2.2.2.2)))
    have k_XC : XC W := ⟨k_xS1, k_xS2, k_xS3, k_xS4, k_xS5, k_xS6, k_xS7, k_xS8, k_xS9, k_xSA, k_xSG, k_xSF, k_xSB, k_xSC, k_xSD, k_xSE, k_xSW, k_xST, k_xSP, k_xSL, k_xSM, k_xSI, k_xD3, k_xDV, k_xDP, k_xDE, k_xQ5, k_xQL, k_xQW, k_xQM, k_xQH⟩
    have kXB : XB W := ⟨k_xN1, k_xN2, k_xN3, k_xN4, k_xN5, k_xN6, k_xH1, k_xK1, k_xC1, k_xRW, k_xWT, k_xCU, k_xG2, k_xG3, k_xG4, k_xG5, k_xG6, k_XC⟩
    exact ⟨base, k2, k3, kXA, kXB⟩
-- sBeginG
def xr_308 : qRu := (1, [], [], [], [(4, 230, [(1, 0)]), (4, 231, []), (4, 232, [(70, 0)])], [])
theorem xo_308 : qRok xr_308 := by
  intro ρ M h0 hf hm hI
  have qxS6 := hI.2.2.2.2.2.2.2.2.2.2.2.2.2.2.2.2.2.2.2.2.2.2.2.2.2.2.1
  refine ⟨ρ, fun _ _ => rfl, fun f h => ?_, ?_⟩
  · exact nomatch h
  · show sI (sU (sU (sU M 4 230 (1 * ρ 0 + 0)) 4 231 (0)) 4 232 (70 * ρ 0 + 0))
    obtain ⟨W, hW⟩ : ∃ W, W = (sU (sU (sU M 4 230 (1 * ρ 0 + 0)) 4 231 (0)) 4 232 (70 * ρ 0 + 0)) := ⟨_, rfl⟩
    rw [← hW]
    have base : sI0 W := by
      rw [hW]
      exact (si_u0 (si_u0 (si_u0 hI.1 (fun r hr => by cases hr)) (fun r hr => by cases hr)) (fun r hr => by cases hr))
    have k2 : XI2 W := by
      rw [hW]
      exact (xi2_u rfl (xi2_u rfl (xi2_u rfl hI.2.1)))
    have k3 : XI3 W := by
      rw [hW]
      exact (xi3_u rfl (xi3_u rfl (xi3_u rfl hI.2.2.1)))
    have kXA : XA W := by
      rw [hW]
      exact (uXA rfl (uXA rfl (uXA rfl hI.2.2.2.1)))
    have k_xN1 : xN1 W := by
      rw [hW]
      exact (uxN1 rfl (uxN1 rfl (uxN1 rfl hI.2.2.2.2.1)))
    have k_xN2 : xN2 W := by
      rw [hW]
      exact (uxN2 rfl (uxN2 rfl (uxN2 rfl hI.2.2.2.2.2.1)))
    have k_xN3 : xN3 W := by
      rw [hW]
      exact (uxN3 rfl (uxN3 rfl (uxN3 rfl hI.2.2.2.2.2.2.1)))
    have k_xN4 : xN4 W := by
      rw [hW]
      exact (uxN4 rfl (uxN4 rfl (uxN4 rfl hI.2.2.2.2.2.2.2.1)))
    have k_xN5 : xN5 W := by
      rw [hW]
      exact (uxN5 rfl (uxN5 rfl (uxN5 rfl hI.2.2.2.2.2.2.2.2.1)))
    have k_xN6 : xN6 W := by
      rw [hW]
      exact (uxN6 rfl (uxN6 rfl (uxN6 rfl hI.2.2.2.2.2.2.2.2.2.1)))
    have k_xH1 : xH1 W := by
      rw [hW]
      exact (uxH1 rfl (uxH1 rfl (uxH1 rfl hI.2.2.2.2.2.2.2.2.2.2.1)))
    have k_xK1 : xK1 W := by
      rw [hW]
      exact (uxK1 rfl (uxK1 rfl (uxK1 rfl hI.2.2.2.2.2.2.2.2.2.2.2.1)))
    have k_xC1 : xC1 W := by
      rw [hW]
      exact (uxC1 rfl (uxC1 rfl (uxC1 rfl hI.2.2.2.2.2.2.2.2.2.2.2.2.1)))
    have k_xRW : xRW W := by
      rw [hW]
      exact (uxRW rfl (uxRW rfl (uxRW rfl hI.2.2.2.2.2.2.2.2.2.2.2.2.2.1)))
    have k_xWT : xWT W := by
      rw [hW]
      exact (uxWT rfl (uxWT rfl (uxWT rfl hI.2.2.2.2.2.2.2.2.2.2.2.2.2.2.1)))
    have k_xCU : xCU W := by
      rw [hW]
      exact (uxCU rfl (uxCU rfl (uxCU rfl hI.2.2.2.2.2.2.2.2.2.2.2.2.2.2.2.1)))
    have k_xG2 : xG2 W := by
      rw [hW]
      exact (uxG2 rfl (uxG2 rfl (uxG2 rfl hI.2.2.2.2.2.2.2.2.2.2.2.2.2.2.2.2.1)))
    have k_xG3 : xG3 W := by
      rw [hW]
      exact (uxG3 rfl (uxG3 rfl (uxG3 rfl hI.2.2.2.2.2.2.2.2.2.2.2.2.2.2.2.2.2.1)))
    have k_xG4 : xG4 W := by
      rw [hW]
      exact (uxG4 rfl (uxG4 rfl (uxG4 rfl hI.2.2.2.2.2.2.2.2.2.2.2.2.2.2.2.2.2.2.1)))
    have k_xG5 : xG5 W := by
      rw [hW]
      exact (uxG5 rfl (uxG5 rfl (uxG5 rfl hI.2.2.2.2.2.2.2.2.2.2.2.2.2.2.2.2.2.2.2.1)))
    have k_xG6 : xG6 W := by
      rw [hW]
      exact (uxG6 rfl (uxG6 rfl (uxG6 rfl hI.2.2.2.2.2.2.2.2.2.2.2.2.2.2.2.2.2.2.2.2.1)))
    have k_xS1 : xS1 W := by
      rw [hW]
      exact (uxS1 rfl (uxS1 rfl (uxS1 rfl hI.2.2.2.2.2.2.2.2.2.2.2.2.2.2.2.2.2.2.2.2.2.1)))
    have k_xS2 : xS2 W := by
      rw [hW]
      exact (uxS2 rfl (uxS2 rfl (uxS2 rfl hI.2.2.2.2.2.2.2.2.2.2.2.2.2.2.2.2.2.2.2.2.2.2.1)))
    have k_xS3 : xS3 W := by
      rw [hW]
      exact (uxS3 rfl (uxS3 rfl (uxS3 rfl hI.2.2.2.2.2.2.2.2.2.2.2.2.2.2.2.2.2.2.2.2.2.2.2.1)))
    have k_xS4 : xS4 W := by
      rw [hW]
      exact (uxS4 rfl (uxS4 rfl (uxS4 rfl hI.2.2.2.2.2.2.2.2.2.2.2.2.2.2.2.2.2.2.2.2.2.2.2.2.1)))
    have k_xS5 : xS5 W := by
      rw [hW]
      exact (uxS5 rfl (uxS5 rfl (uxS5 rfl hI.2.2.2.2.2.2.2.2.2.2.2.2.2.2.2.2.2.2.2.2.2.2.2.2.2.1)))
    have k_xS6 : xS6 W := by
      have r4_230 : W 4 230 = 1 * ρ 0 + 0 := by rw [hW, sU_ne (fun z => by omega), sU_ne (fun z => by omega), sU_at]
      have r4_231 : W 4 231 = 0 := by rw [hW, sU_ne (fun z => by omega), sU_at]
      have r4_232 : W 4 232 = 70 * ρ 0 + 0 := by rw [hW, sU_at]
      have c3 : ∀ k, W 3 k = M 3 k := fun k => by rw [hW, sU_ne (fun z => by omega), sU_ne (fun z => by omega), sU_ne (fun z => by omega)]
      have e3 : W 3 = M 3 := funext c3
      intro h
      rw [r4_231, r4_232, e3]
      exact ⟨by omega, rfl⟩
    have k_xS7 : xS7 W := by
      rw [hW]
      exact (uxS7 rfl (uxS7 rfl (uxS7 rfl hI.2.2.2.2.2.2.2.2.2.2.2.2.2.2.2.2.2.2.2.2.2.2.2.2.2.2.2.1)))
    have k_xS8 : xS8 W := by
      rw [hW]
      exact (uxS8 rfl (uxS8 rfl (uxS8 rfl hI.2.2.2.2.2.2.2.2.2.2.2.2.2.2.2.2.2.2.2.2.2.2.2.2.2.2.2.2.1)))
    have k_xS9 : xS9 W := by
      rw [hW]
      exact (uxS9 rfl (uxS9 rfl (uxS9 rfl hI.2.2.2.2.2.2.2.2.2.2.2.2.2.2.2.2.2.2.2.2.2.2.2.2.2.2.2.2.2.1)))
    have k_xSA : xSA W := by
      rw [hW]
      exact (uxSA rfl (uxSA rfl (uxSA rfl hI.2.2.2.2.2.2.2.2.2.2.2.2.2.2.2.2.2.2.2.2.2.2.2.2.2.2.2.2.2.2.1)))
    have k_xSG : xSG W := by
      rw [hW]
      exact (uxSG rfl (uxSG rfl (uxSG rfl hI.2.2.2.2.2.2.2.2.2.2.2.2.2.2.2.2.2.2.2.2.2.2.2.2.2.2.2.2.2.2.2.1)))
    have k_xSF : xSF W := by
      rw [hW]
      exact (uxSF rfl (uxSF rfl (uxSF rfl hI.2.2.2.2.2.2.2.2.2.2.2.2.2.2.2.2.2.2.2.2.2.2.2.2.2.2.2.2.2.2.2.2.1)))
    have k_xSB : xSB W := by
      rw [hW]
      exact (uxSB rfl (uxSB rfl (uxSB rfl hI.2.2.2.2.2.2.2.2.2.2.2.2.2.2.2.2.2.2.2.2.2.2.2.2.2.2.2.2.2.2.2.2.2.1)))
    have k_xSC : xSC W := by
      rw [hW]
      exact (uxSC rfl (uxSC rfl (uxSC rfl hI.2.2.2.2.2.2.2.2.2.2.2.2.2.2.2.2.2.2.2.2.2.2.2.2.2.2.2.2.2.2.2.2.2.2.1)))
    have k_xSD : xSD W := by
      rw [hW]
      exact (uxSD rfl (uxSD rfl (uxSD rfl hI.2.2.2.2.2.2.2.2.2.2.2.2.2.2.2.2.2.2.2.2.2.2.2.2.2.2.2.2.2.2.2.2.2.2.2.1)))
    have k_xSE : xSE W := by
      rw [hW]
      exact (uxSE rfl (uxSE rfl (uxSE rfl hI.2.2.2.2.2.2.2.2.2.2.2.2.2.2.2.2.2.2.2.2.2.2.2.2.2.2.2.2.2.2.2.2.2.2.2.2.1)))
    have k_xSW : xSW W := by
      rw [hW]
      exact (uxSW rfl (uxSW rfl (uxSW rfl hI.2.2.2.2.2.2.2.2.2.2.2.2.2.2.2.2.2.2.2.2.2.2.2.2.2.2.2.2.2.2.2.2.2.2.2.2.2.1)))
    have k_xST : xST W := by
      rw [hW]
      exact (uxST rfl (uxST rfl (uxST rfl hI.2.2.2.2.2.2.2.2.2.2.2.2.2.2.2.2.2.2.2.2.2.2.2.2.2.2.2.2.2.2.2.2.2.2.2.2.2.2.1)))
    have k_xSP : xSP W := by
      rw [hW]
      exact (uxSP rfl (uxSP rfl (uxSP rfl hI.2.2.2.2.2.2.2.2.2.2.2.2.2.2.2.2.2.2.2.2.2.2.2.2.2.2.2.2.2.2.2.2.2.2.2.2.2.2.2.1)))
    have k_xSL : xSL W := by
      rw [hW]
      exact (uxSL rfl (uxSL rfl (uxSL rfl hI.2.2.2.2.2.2.2.2.2.2.2.2.2.2.2.2.2.2.2.2.2.2.2.2.2.2.2.2.2.2.2.2.2.2.2.2.2.2.2.2.1)))
    have k_xSM : xSM W := by
      rw [hW]
      exact (uxSM rfl (uxSM rfl (uxSM rfl hI.2.2.2.2.2.2.2.2.2.2.2.2.2.2.2.2.2.2.2.2.2.2.2.2.2.2.2.2.2.2.2.2.2.2.2.2.2.2.2.2.2.1)))
    have k_xSI : xSI W := by
      rw [hW]
      exact (uxSI rfl (uxSI rfl (uxSI rfl hI.2.2.2.2.2.2.2.2.2.2.2.2.2.2.2.2.2.2.2.2.2.2.2.2.2.2.2.2.2.2.2.2.2.2.2.2.2.2.2.2.2.2.1)))
    have k_xD3 : xD3 W := by
      rw [hW]
      exact (uxD3 rfl (uxD3 rfl (uxD3 rfl hI.2.2.2.2.2.2.2.2.2.2.2.2.2.2.2.2.2.2.2.2.2.2.2.2.2.2.2.2.2.2.2.2.2.2.2.2.2.2.2.2.2.2.2.1)))
    have k_xDV : xDV W := by
      rw [hW]
      exact (uxDV rfl (uxDV rfl (uxDV rfl hI.2.2.2.2.2.2.2.2.2.2.2.2.2.2.2.2.2.2.2.2.2.2.2.2.2.2.2.2.2.2.2.2.2.2.2.2.2.2.2.2.2.2.2.2.1)))
    have k_xDP : xDP W := by
      rw [hW]
      exact (uxDP rfl (uxDP rfl (uxDP rfl hI.2.2.2.2.2.2.2.2.2.2.2.2.2.2.2.2.2.2.2.2.2.2.2.2.2.2.2.2.2.2.2.2.2.2.2.2.2.2.2.2.2.2.2.2.2.1)))
    have k_xDE : xDE W := by
      rw [hW]
      exact (uxDE rfl (uxDE rfl (uxDE rfl hI.2.2.2.2.2.2.2.2.2.2.2.2.2.2.2.2.2.2.2.2.2.2.2.2.2.2.2.2.2.2.2.2.2.2.2.2.2.2.2.2.2.2.2.2.2.2.1)))
    have k_xQ5 : xQ5 W := by
      rw [hW]
      exact (uxQ5 rfl (uxQ5 rfl (uxQ5 rfl hI.2.2.2.2.2.2.2.2.2.2.2.2.2.2.2.2.2.2.2.2.2.2.2.2.2.2.2.2.2.2.2.2.2.2.2.2.2.2.2.2.2.2.2.2.2.2.2.1)))
    have k_xQL : xQL W := by
      rw [hW]
      exact (uxQL rfl (uxQL rfl (uxQL rfl hI.2.2.2.2.2.2.2.2.2.2.2.2.2.2.2.2.2.2.2.2.2.2.2.2.2.2.2.2.2.2.2.2.2.2.2.2.2.2.2.2.2.2.2.2.2.2.2.2.1)))
    have k_xQW : xQW W := by
      rw [hW]
      exact (uxQW rfl (uxQW rfl (uxQW rfl hI.2.2.2.2.2.2.2.2.2.2.2.2.2.2.2.2.2.2.2.2.2.2.2.2.2.2.2.2.2.2.2.2.2.2.2.2.2.2.2.2.2.2.2.2.2.2.2.2.2.1)))
    have k_xQM : xQM W := by
      rw [hW]
      exact (uxQM rfl (uxQM rfl (uxQM rfl hI.2.2.2.2.2.2.2.2.2.2.2.2.2.2.2.2.2.2.2.2.2.2.2.2.2.2.2.2.2.2.2.2.2.2.2.2.2.2.2.2.2.2.2.2.2.2.2.2.2.2.1)))
    have k_xQH : xQH W := by
      rw [hW]
      exact (uxQH rfl (uxQH rfl (uxQH rfl hI.2.2.2.2.2.2.2.2.2.2.2.2.2.2.2.2.2.2.2.2.2.2.2.2.2.2.2.2.2.2.2.2.2.2.2.2.2.2.2.2.2.2.2.2.2.2.2.2.2.2.2)))
    have k_XC : XC W := ⟨k_xS1, k_xS2, k_xS3, k_xS4, k_xS5, k_xS6, k_xS7, k_xS8, k_xS9, k_xSA, k_xSG, k_xSF, k_xSB, k_xSC, k_xSD, k_xSE, k_xSW, k_xST, k_xSP, k_xSL, k_xSM, k_xSI, k_xD3, k_xDV, k_xDP, k_xDE, k_xQ5, k_xQL, k_xQW, k_xQM, k_xQH⟩
    have kXB : XB W := ⟨k_xN1, k_xN2, k_xN3, k_xN4, k_xN5, k_xN6, k_xH1, k_xK1, k_xC1, k_xRW, k_xWT, k_xCU, k_xG2, k_xG3, k_xG4, k_xG5, k_xG6, k_XC⟩
    exact ⟨base, k2, k3, kXA, kXB⟩
-- sBeginS
def xr_309 : qRu := (1, [], [], [], [(4, 230, [(1, 0)]), (4, 231, []), (4, 232, [(80, 0)])], [])
theorem xo_309 : qRok xr_309 := by
  intro ρ M h0 hf hm hI
  have qxS6 := hI.2.2.2.2.2.2.2.2.2.2.2.2.2.2.2.2.2.2.2.2.2.2.2.2.2.2.1
  refine ⟨ρ, fun _ _ => rfl, fun f h => ?_, ?_⟩
  · exact nomatch h
  · show sI (sU (sU (sU M 4 230 (1 * ρ 0 + 0)) 4 231 (0)) 4 232 (80 * ρ 0 + 0))
    obtain ⟨W, hW⟩ : ∃ W, W = (sU (sU (sU M 4 230 (1 * ρ 0 + 0)) 4 231 (0)) 4 232 (80 * ρ 0 + 0)) := ⟨_, rfl⟩
    rw [← hW]
    have base : sI0 W := by
      rw [hW]
      exact (si_u0 (si_u0 (si_u0 hI.1 (fun r hr => by cases hr)) (fun r hr => by cases hr)) (fun r hr => by cases hr))
    have k2 : XI2 W := by
      rw [hW]
      exact (xi2_u rfl (xi2_u rfl (xi2_u rfl hI.2.1)))
    have k3 : XI3 W := by
      rw [hW]
      exact (xi3_u rfl (xi3_u rfl (xi3_u rfl hI.2.2.1)))
    have kXA : XA W := by
      rw [hW]
      exact (uXA rfl (uXA rfl (uXA rfl hI.2.2.2.1)))
    have k_xN1 : xN1 W := by
      rw [hW]
      exact (uxN1 rfl (uxN1 rfl (uxN1 rfl hI.2.2.2.2.1)))
    have k_xN2 : xN2 W := by
      rw [hW]
      exact (uxN2 rfl (uxN2 rfl (uxN2 rfl hI.2.2.2.2.2.1)))
    have k_xN3 : xN3 W := by
      rw [hW]
      exact (uxN3 rfl (uxN3 rfl (uxN3 rfl hI.2.2.2.2.2.2.1)))
    have k_xN4 : xN4 W := by
      rw [hW]
      exact (uxN4 rfl (uxN4 rfl (uxN4 rfl hI.2.2.2.2.2.2.2.1)))
    have k_xN5 : xN5 W := by
      rw [hW]
      exact (uxN5 rfl (uxN5 rfl (uxN5 rfl hI.2.2.2.2.2.2.2.2.1)))
    have k_xN6 : xN6 W := by
      rw [hW]
      exact (uxN6 rfl (uxN6 rfl (uxN6 rfl hI.2.2.2.2.2.2.2.2.2.1)))
    have k_xH1 : xH1 W := by
      rw [hW]
      exact (uxH1 rfl (uxH1 rfl (uxH1 rfl hI.2.2.2.2.2.2.2.2.2.2.1)))
    have k_xK1 : xK1 W := by
      rw [hW]
      exact (uxK1 rfl (uxK1 rfl (uxK1 rfl hI.2.2.2.2.2.2.2.2.2.2.2.1)))
    have k_xC1 : xC1 W := by
      rw [hW]
      exact (uxC1 rfl (uxC1 rfl (uxC1 rfl hI.2.2.2.2.2.2.2.2.2.2.2.2.1)))
    have k_xRW : xRW W := by
      rw [hW]
      exact (uxRW rfl (uxRW rfl (uxRW rfl hI.2.2.2.2.2.2.2.2.2.2.2.2.2.1)))
    have k_xWT : xWT W := by
      rw [hW]
      exact (uxWT rfl (uxWT rfl (uxWT rfl hI.2.2.2.2.2.2.2.2.2.2.2.2.2.2.1)))
    have k_xCU : xCU W := by
      rw [hW]
      exact (uxCU rfl (uxCU rfl (uxCU rfl hI.2.2.2.2.2.2.2.2.2.2.2.2.2.2.2.1)))
    have k_xG2 : xG2 W := by
      rw [hW]
      exact (uxG2 rfl (uxG2 rfl (uxG2 rfl hI.2.2.2.2.2.2.2.2.2.2.2.2.2.2.2.2.1)))
    have k_xG3 : xG3 W := by
      rw [hW]
      exact (uxG3 rfl (uxG3 rfl (uxG3 rfl hI.2.2.2.2.2.2.2.2.2.2.2.2.2.2.2.2.2.1)))
    have k_xG4 : xG4 W := by
      rw [hW]
      exact (uxG4 rfl (uxG4 rfl (uxG4 rfl hI.2.2.2.2.2.2.2.2.2.2.2.2.2.2.2.2.2.2.1)))
    have k_xG5 : xG5 W := by
      rw [hW]
      exact (uxG5 rfl (uxG5 rfl (uxG5 rfl hI.2.2.2.2.2.2.2.2.2.2.2.2.2.2.2.2.2.2.2.1)))
    have k_xG6 : xG6 W := by
      rw [hW]
      exact (uxG6 rfl (uxG6 rfl (uxG6 rfl hI.2.2.2.2.2.2.2.2.2.2.2.2.2.2.2.2.2.2.2.2.1)))
    have k_xS1 : xS1 W := by
      rw [hW]
      exact (uxS1 rfl (uxS1 rfl (uxS1 rfl hI.2.2.2.2.2.2.2.2.2.2.2.2.2.2.2.2.2.2.2.2.2.1)))
    have k_xS2 : xS2 W := by
      rw [hW]
      exact (uxS2 rfl (uxS2 rfl (uxS2 rfl hI.2.2.2.2.2.2.2.2.2.2.2.2.2.2.2.2.2.2.2.2.2.2.1)))
    have k_xS3 : xS3 W := by
      rw [hW]
      exact (uxS3 rfl (uxS3 rfl (uxS3 rfl hI.2.2.2.2.2.2.2.2.2.2.2.2.2.2.2.2.2.2.2.2.2.2.2.1)))
    have k_xS4 : xS4 W := by
      rw [hW]
      exact (uxS4 rfl (uxS4 rfl (uxS4 rfl hI.2.2.2.2.2.2.2.2.2.2.2.2.2.2.2.2.2.2.2.2.2.2.2.2.1)))
    have k_xS5 : xS5 W := by
      rw [hW]
      exact (uxS5 rfl (uxS5 rfl (uxS5 rfl hI.2.2.2.2.2.2.2.2.2.2.2.2.2.2.2.2.2.2.2.2.2.2.2.2.2.1)))
    have k_xS6 : xS6 W := by
      have r4_230 : W 4 230 = 1 * ρ 0 + 0 := by rw [hW, sU_ne (fun z => by omega), sU_ne (fun z => by omega), sU_at]
      have r4_231 : W 4 231 = 0 := by rw [hW, sU_ne (fun z => by omega), sU_at]
      have r4_232 : W 4 232 = 80 * ρ 0 + 0 := by rw [hW, sU_at]
      have c3 : ∀ k, W 3 k = M 3 k := fun k => by rw [hW, sU_ne (fun z => by omega), sU_ne (fun z => by omega), sU_ne (fun z => by omega)]
      have e3 : W 3 = M 3 := funext c3
      intro h
      rw [r4_231, r4_232, e3]
      exact ⟨by omega, rfl⟩
    have k_xS7 : xS7 W := by
      rw [hW]
      exact (uxS7 rfl (uxS7 rfl (uxS7 rfl hI.2.2.2.2.2.2.2.2.2.2.2.2.2.2.2.2.2.2.2.2.2.2.2.2.2.2.2.1)))
    have k_xS8 : xS8 W := by
      rw [hW]
      exact (uxS8 rfl (uxS8 rfl (uxS8 rfl hI.2.2.2.2.2.2.2.2.2.2.2.2.2.2.2.2.2.2.2.2.2.2.2.2.2.2.2.2.1)))
    have k_xS9 : xS9 W := by
      rw [hW]
      exact (uxS9 rfl (uxS9 rfl (uxS9 rfl hI.2.2.2.2.2.2.2.2.2.2.2.2.2.2.2.2.2.2.2.2.2.2.2.2.2.2.2.2.2.1)))
    have k_xSA : xSA W := by
      rw [hW]
      exact (uxSA rfl (uxSA rfl (uxSA rfl hI.2.2.2.2.2.2.2.2.2.2.2.2.2.2.2.2.2.2.2.2.2.2.2.2.2.2.2.2.2.2.1)))
    have k_xSG : xSG W := by
      rw [hW]
      exact (uxSG rfl (uxSG rfl (uxSG rfl hI.2.2.2.2.2.2.2.2.2.2.2.2.2.2.2.2.2.2.2.2.2.2.2.2.2.2.2.2.2.2.2.1)))
    have k_xSF : xSF W := by
      rw [hW]
      exact (uxSF rfl (uxSF rfl (uxSF rfl hI.2.2.2.2.2.2.2.2.2.2.2.2.2.2.2.2.2.2.2.2.2.2.2.2.2.2.2.2.2.2.2.2.1)))
    have k_xSB : xSB W := by
      rw [hW]
      exact (uxSB rfl (uxSB rfl (uxSB rfl hI.2.2.2.2.2.2.2.2.2.2.2.2.2.2.2.2.2.2.2.2.2.2.2.2.2.2.2.2.2.2.2.2.2.1)))
    have k_xSC : xSC W := by
      rw [hW]
      exact (uxSC rfl (uxSC rfl (uxSC rfl hI.2.2.2.2.2.2.2.2.2.2.2.2.2.2.2.2.2.2.2.2.2.2.2.2.2.2.2.2.2.2.2.2.2.2.1)))
    have k_xSD : xSD W := by
      rw [hW]
      exact (uxSD rfl (uxSD rfl (uxSD rfl hI.2.2.2.2.2.2.2.2.2.2.2.2.2.2.2.2.2.2.2.2.2.2.2.2.2.2.2.2.2.2.2.2.2.2.2.1)))
    have k_xSE : xSE W := by
      rw [hW]
      exact (uxSE rfl (uxSE rfl (uxSE rfl hI.2.2.2.2.2.2.2.2.2.2.2.2.2.2.2.2.2.2.2.2.2.2.2.2.2.2.2.2.2.2.2.2.2.2.2.2.1)))
    have k_xSW : xSW W := by
      rw [hW]
      exact (uxSW rfl (uxSW rfl (uxSW rfl hI.2.2.2.2.2.2.2.2.2.2.2.2.2.2.2.2.2.2.2.2.2.2.2.2.2.2.2.2.2.2.2.2.2.2.2.2.2.1)))
    have k_xST : xST W := by
      rw [hW]
      exact (uxST rfl (uxST rfl (uxST rfl hI.2.2.2.2.2.2.2.2.2.2.2.2.2.2.2.2.2.2.2.2.2.2.2.2.2.2.2.2.2.2.2.2.2.2.2.2.2.2.1)))
    have k_xSP : xSP W := by
      rw [hW]
      exact (uxSP rfl (uxSP rfl (uxSP rfl hI.2.2.2.2.2.2.2.2.2.2.2.2.2.2.2.2.2.2.2.2.2.2.2.2.2.2.2.2.2.2.2.2.2.2.2.2.2.2.2.1)))
    have k_xSL : xSL W := by
      rw [hW]
      exact (uxSL rfl (uxSL rfl (uxSL rfl hI.2.2.2.2.2.2.2.2.2.2.2.2.2.2.2.2.2.2.2.2.2.2.2.2.2.2.2.2.2.2.2.2.2.2.2.2.2.2.2.2.1)))
    have k_xSM : xSM W := by
      rw [hW]
      exact (uxSM rfl (uxSM rfl (uxSM rfl hI.2.2.2.2.2.2.2.2.2.2.2.2.2.2.2.2.2.2.2.2.2.2.2.2.2.2.2.2.2.2.2.2.2.2.2.2.2.2.2.2.2.1)))
    have k_xSI : xSI W := by
      rw [hW]
      exact (uxSI rfl (uxSI rfl (uxSI rfl hI.2.2.2.2.2.2.2.2.2.2.2.2.2.2.2.2.2.2.2.2.2.2.2.2.2.2.2.2.2.2.2.2.2.2.2.2.2.2.2.2.2.2.1)))
    have k_xD3 : xD3 W := by
      rw [hW]
      exact (uxD3 rfl (uxD3 rfl (uxD3 rfl hI.2.2.2.2.2.2.2.2.2.2.2.2.2.2.2.2.2.2.2.2.2.2.2.2.2.2.2.2.2.2.2.2.2.2.2.2.2.2.2.2.2.2.2.1)))
    have k_xDV : xDV W := by
      rw [hW]
      exact (uxDV rfl (uxDV rfl (uxDV rfl hI.2.2.2.2.2.2.2.2.2.2.2.2.2.2.2.2.2.2.2.2.2.2.2.2.2.2.2.2.2.2.2.2.2.2.2.2.2.2.2.2.2.2.2.2.1)))
    have k_xDP : xDP W := by
      rw [hW]
      exact (uxDP rfl (uxDP rfl (uxDP rfl hI.2.2.2.2.2.2.2.2.2.2.2.2.2.2.2.2.2.2.2.2.2.2.2.2.2.2.2.2.2.2.2.2.2.2.2.2.2.2.2.2.2.2.2.2.2.1)))
    have k_xDE : xDE W := by
      rw [hW]
      exact (uxDE rfl (uxDE rfl (uxDE rfl hI.2.2.2.2.2.2.2.2.2.2.2.2.2.2.2.2.2.2.2.2.2.2.2.2.2.2.2.2.2.2.2.2.2.2.2.2.2.2.2.2.2.2.2.2.2.2.1)))
    have k_xQ5 : xQ5 W := by
      rw [hW]
      exact (uxQ5 rfl (uxQ5 rfl (uxQ5 rfl hI.2.2.2.2.2.2.2.2.2.2.2.2.2.2.2.2.2.2.2.2.2.2.2.2.2.2.2.2.2.2.2.2.2.2.2.2.2.2.2.2.2.2.2.2.2.2.2.1)))
    have k_xQL : xQL W := by
      rw [hW]
      exact (uxQL rfl (uxQL rfl (uxQL rfl hI.2.2.2.2.2.2.2.2.2.2.2.2.2.2.2.2.2.2.2.2.2.2.2.2.2.2.2.2.2.2.2.2.2.2.2.2.2.2.2.2.2.2.2.2.2.2.2.2.1)))
    have k_xQW : xQW W := by
      rw [hW]
      exact (uxQW rfl (uxQW rfl (uxQW rfl hI.2.2.2.2.2.2.2.2.2.2.2.2.2.2.2.2.2.2.2.2.2.2.2.2.2.2.2.2.2.2.2.2.2.2.2.2.2.2.2.2.2.2.2.2.2.2.2.2.2.1)))
    have k_xQM : xQM W := by
      rw [hW]
      exact (uxQM rfl (uxQM rfl (uxQM rfl hI.2.2.2.2.2.2.2.2.2.2.2.2.2.2.2.2.2.2.2.2.2.2.2.2.2.2.2.2.2.2.2.2.2.2.2.2.2.2.2.2.2.2.2.2.2.2.2.2.2.2.1)))
    have k_xQH : xQH W := by
      rw [hW]
      exact (uxQH rfl (uxQH rfl (uxQH rfl hI.2.2.2.2.2.2.2.2.2.2.2.2.2.2.2.2.2.2.2.2.2.2.2.2.2.2.2.2.2.2.2.2.2.2.2.2.2.2.2.2.2.2.2.2.2.2.2.2.2.2.2)))
    have k_XC : XC W := ⟨k_xS1, k_xS2, k_xS3, k_xS4, k_xS5, k_xS6, k_xS7, k_xS8, k_xS9, k_xSA, k_xSG, k_xSF, k_xSB, k_xSC, k_xSD, k_xSE, k_xSW, k_xST, k_xSP, k_xSL, k_xSM, k_xSI, k_xD3, k_xDV, k_xDP, k_xDE, k_xQ5, k_xQL, k_xQW, k_xQM, k_xQH⟩
    have kXB : XB W := ⟨k_xN1, k_xN2, k_xN3, k_xN4, k_xN5, k_xN6, k_xH1, k_xK1, k_xC1, k_xRW, k_xWT, k_xCU, k_xG2, k_xG3, k_xG4, k_xG5, k_xG6, k_XC⟩
    exact ⟨base, k2, k3, kXA, kXB⟩
-- sOff
def xr_310 : qRu := (1, [], [], [], [(4, 230, [])], [])
theorem xo_310 : qRok xr_310 := by
  intro ρ M h0 hf hm hI
  refine ⟨ρ, fun _ _ => rfl, fun f h => ?_, ?_⟩
  · exact nomatch h
  · show sI (sU M 4 230 (0))
    obtain ⟨W, hW⟩ : ∃ W, W = (sU M 4 230 (0)) := ⟨_, rfl⟩
    rw [← hW]
    have base : sI0 W := by
      rw [hW]
      exact (si_u0 hI.1 (fun r hr => by cases hr))
    have k2 : XI2 W := by
      rw [hW]
      exact (xi2_u rfl hI.2.1)
    have k3 : XI3 W := by
      rw [hW]
      exact (xi3_u rfl hI.2.2.1)
    have kXA : XA W := by
      rw [hW]
      exact (uXA rfl hI.2.2.2.1)
    have k_xN1 : xN1 W := by
      rw [hW]
      exact (uxN1 rfl hI.2.2.2.2.1)
    have k_xN2 : xN2 W := by
      rw [hW]
      exact (uxN2 rfl hI.2.2.2.2.2.1)
    have k_xN3 : xN3 W := by
      rw [hW]
      exact (uxN3 rfl hI.2.2.2.2.2.2.1)
    have k_xN4 : xN4 W := by
      rw [hW]
      exact (uxN4 rfl hI.2.2.2.2.2.2.2.1)
    have k_xN5 : xN5 W := by
      rw [hW]
      exact (uxN5 rfl hI.2.2.2.2.2.2.2.2.1)
    have k_xN6 : xN6 W := by
      rw [hW]
      exact (uxN6 rfl hI.2.2.2.2.2.2.2.2.2.1)
    have k_xH1 : xH1 W := by
      rw [hW]
      exact (uxH1 rfl hI.2.2.2.2.2.2.2.2.2.2.1)
    have k_xK1 : xK1 W := by
      rw [hW]
      exact (uxK1 rfl hI.2.2.2.2.2.2.2.2.2.2.2.1)
    have k_xC1 : xC1 W := by
      rw [hW]
      exact (uxC1 rfl hI.2.2.2.2.2.2.2.2.2.2.2.2.1)
    have k_xRW : xRW W := by
      rw [hW]
      exact (uxRW rfl hI.2.2.2.2.2.2.2.2.2.2.2.2.2.1)
    have k_xWT : xWT W := by
      rw [hW]
      exact (uxWT rfl hI.2.2.2.2.2.2.2.2.2.2.2.2.2.2.1)
    have k_xCU : xCU W := by
      rw [hW]
      exact (uxCU rfl hI.2.2.2.2.2.2.2.2.2.2.2.2.2.2.2.1)
    have k_xG2 : xG2 W := by
      rw [hW]
      exact (uxG2 rfl hI.2.2.2.2.2.2.2.2.2.2.2.2.2.2.2.2.1)
    have k_xG3 : xG3 W := by
      rw [hW]
      exact (uxG3 rfl hI.2.2.2.2.2.2.2.2.2.2.2.2.2.2.2.2.2.1)
    have k_xG4 : xG4 W := by
      rw [hW]
      exact (uxG4 rfl hI.2.2.2.2.2.2.2.2.2.2.2.2.2.2.2.2.2.2.1)
    have k_xG5 : xG5 W := by
      rw [hW]
      exact (uxG5 rfl hI.2.2.2.2.2.2.2.2.2.2.2.2.2.2.2.2.2.2.2.1)
    have k_xG6 : xG6 W := by
      rw [hW]
      exact (uxG6 rfl hI.2.2.2.2.2.2.2.2.2.2.2.2.2.2.2.2.2.2.2.2.1)
    have k_xS1 : xS1 W := by
      rw [hW]
      exact (uxS1 rfl hI.2.2.2.2.2.2.2.2.2.2.2.2.2.2.2.2.2.2.2.2.2.1)
    have k_xS2 : xS2 W := by
      rw [hW]
      exact (uxS2 rfl hI.2.2.2.2.2.2.2.2.2.2.2.2.2.2.2.2.2.2.2.2.2.2.1)
    have k_xS3 : xS3 W := by
      rw [hW]
      exact (uxS3 rfl hI.2.2.2.2.2.2.2.2.2.2.2.2.2.2.2.2.2.2.2.2.2.2.2.1)
    have k_xS4 : xS4 W := by
      rw [hW]
      exact (uxS4 rfl hI.2.2.2.2.2.2.2.2.2.2.2.2.2.2.2.2.2.2.2.2.2.2.2.2.1)
    have k_xS5 : xS5 W := by
      rw [hW]
      exact (uxS5 rfl hI.2.2.2.2.2.2.2.2.2.2.2.2.2.2.2.2.2.2.2.2.2.2.2.2.2.1)
    have k_xS6 : xS6 W := by
      have r : W 4 230 = 0 := by rw [hW, sU_at]
      intro h
      rw [r] at h
      omega
    have k_xS7 : xS7 W := by
      rw [hW]
      exact (uxS7 rfl hI.2.2.2.2.2.2.2.2.2.2.2.2.2.2.2.2.2.2.2.2.2.2.2.2.2.2.2.1)
    have k_xS8 : xS8 W := by
      rw [hW]
      exact (uxS8 rfl hI.2.2.2.2.2.2.2.2.2.2.2.2.2.2.2.2.2.2.2.2.2.2.2.2.2.2.2.2.1)
    have k_xS9 : xS9 W := by
      rw [hW]
      exact (uxS9 rfl hI.2.2.2.2.2.2.2.2.2.2.2.2.2.2.2.2.2.2.2.2.2.2.2.2.2.2.2.2.2.1)
    have k_xSA : xSA W := by
      rw [hW]
      exact (uxSA rfl hI.2.2.2.2.2.2.2.2.2.2.2.2.2.2.2.2.2.2.2.2.2.2.2.2.2.2.2.2.2.2.1)
    have k_xSG : xSG W := by
      rw [hW]
      exact (uxSG rfl hI.2.2.2.2.2.2.2.2.2.2.2.2.2.2.2.2.2.2.2.2.2.2.2.2.2.2.2.2.2.2.2.1)
    have k_xSF : xSF W := by
      rw [hW]
      exact (uxSF rfl hI.2.2.2.2.2.2.2.2.2.2.2.2.2.2.2.2.2.2.2.2.2.2.2.2.2.2.2.2.2.2.2.2.1)
    have k_xSB : xSB W := by
      rw [hW]
      exact (uxSB rfl hI.2.2.2.2.2.2.2.2.2.2.2.2.2.2.2.2.2.2.2.2.2.2.2.2.2.2.2.2.2.2.2.2.2.1)
    have k_xSC : xSC W := by
      rw [hW]
      exact (uxSC rfl hI.2.2.2.2.2.2.2.2.2.2.2.2.2.2.2.2.2.2.2.2.2.2.2.2.2.2.2.2.2.2.2.2.2.2.1)
    have k_xSD : xSD W := by
      rw [hW]
      exact (uxSD rfl hI.2.2.2.2.2.2.2.2.2.2.2.2.2.2.2.2.2.2.2.2.2.2.2.2.2.2.2.2.2.2.2.2.2.2.2.1)
    have k_xSE : xSE W := by
      rw [hW]
      exact (uxSE rfl hI.2.2.2.2.2.2.2.2.2.2.2.2.2.2.2.2.2.2.2.2.2.2.2.2.2.2.2.2.2.2.2.2.2.2.2.2.1)
    have k_xSW : xSW W := by
      rw [hW]
      exact (uxSW rfl hI.2.2.2.2.2.2.2.2.2.2.2.2.2.2.2.2.2.2.2.2.2.2.2.2.2.2.2.2.2.2.2.2.2.2.2.2.2.1)
    have k_xST : xST W := by
      rw [hW]
      exact (uxST rfl hI.2.2.2.2.2.2.2.2.2.2.2.2.2.2.2.2.2.2.2.2.2.2.2.2.2.2.2.2.2.2.2.2.2.2.2.2.2.2.1)
    have k_xSP : xSP W := by
      rw [hW]
      exact (uxSP rfl hI.2.2.2.2.2.2.2.2.2.2.2.2.2.2.2.2.2.2.2.2.2.2.2.2.2.2.2.2.2.2.2.2.2.2.2.2.2.2.2.1)
    have k_xSL : xSL W := by
      rw [hW]
      exact (uxSL rfl hI.2.2.2.2.2.2.2.2.2.2.2.2.2.2.2.2.2.2.2.2.2.2.2.2.2.2.2.2.2.2.2.2.2.2.2.2.2.2.2.2.1)
    have k_xSM : xSM W := by
      rw [hW]
      exact (uxSM rfl hI.2.2.2.2.2.2.2.2.2.2.2.2.2.2.2.2.2.2.2.2.2.2.2.2.2.2.2.2.2.2.2.2.2.2.2.2.2.2.2.2.2.1)
    have k_xSI : xSI W := by
      rw [hW]
      exact (uxSI rfl hI.2.2.2.2.2.2.2.2.2.2.2.2.2.2.2.2.2.2.2.2.2.2.2.2.2.2.2.2.2.2.2.2.2.2.2.2.2.2.2.2.2.2.1)
    have k_xD3 : xD3 W := by
      rw [hW]
      exact (uxD3 rfl hI.2.2.2.2.2.2.2.2.2.2.2.2.2.2.2.2.2.2.2.2.2.2.2.2.2.2.2.2.2.2.2.2.2.2.2.2.2.2.2.2.2.2.2.1)
    have k_xDV : xDV W := by
      rw [hW]
      exact (uxDV rfl hI.2.2.2.2.2.2.2.2.2.2.2.2.2.2.2.2.2.2.2.2.2.2.2.2.2.2.2.2.2.2.2.2.2.2.2.2.2.2.2.2.2.2.2.2.1)
    have k_xDP : xDP W := by
      rw [hW]
      exact (uxDP rfl hI.2.2.2.2.2.2.2.2.2.2.2.2.2.2.2.2.2.2.2.2.2.2.2.2.2.2.2.2.2.2.2.2.2.2.2.2.2.2.2.2.2.2.2.2.2.1)
    have k_xDE : xDE W := by
      rw [hW]
      exact (uxDE rfl hI.2.2.2.2.2.2.2.2.2.2.2.2.2.2.2.2.2.2.2.2.2.2.2.2.2.2.2.2.2.2.2.2.2.2.2.2.2.2.2.2.2.2.2.2.2.2.1)
    have k_xQ5 : xQ5 W := by
      rw [hW]
      exact (uxQ5 rfl hI.2.2.2.2.2.2.2.2.2.2.2.2.2.2.2.2.2.2.2.2.2.2.2.2.2.2.2.2.2.2.2.2.2.2.2.2.2.2.2.2.2.2.2.2.2.2.2.1)
    have k_xQL : xQL W := by
      rw [hW]
      exact (uxQL rfl hI.2.2.2.2.2.2.2.2.2.2.2.2.2.2.2.2.2.2.2.2.2.2.2.2.2.2.2.2.2.2.2.2.2.2.2.2.2.2.2.2.2.2.2.2.2.2.2.2.1)
    have k_xQW : xQW W := by
      rw [hW]
      exact (uxQW rfl hI.2.2.2.2.2.2.2.2.2.2.2.2.2.2.2.2.2.2.2.2.2.2.2.2.2.2.2.2.2.2.2.2.2.2.2.2.2.2.2.2.2.2.2.2.2.2.2.2.2.1)
    have k_xQM : xQM W := by
      rw [hW]
      exact (uxQM rfl hI.2.2.2.2.2.2.2.2.2.2.2.2.2.2.2.2.2.2.2.2.2.2.2.2.2.2.2.2.2.2.2.2.2.2.2.2.2.2.2.2.2.2.2.2.2.2.2.2.2.2.1)
    have k_xQH : xQH W := by
      rw [hW]
      exact (uxQH rfl hI.2.2.2.2.2.2.2.2.2.2.2.2.2.2.2.2.2.2.2.2.2.2.2.2.2.2.2.2.2.2.2.2.2.2.2.2.2.2.2.2.2.2.2.2.2.2.2.2.2.2.2)
    have k_XC : XC W := ⟨k_xS1, k_xS2, k_xS3, k_xS4, k_xS5, k_xS6, k_xS7, k_xS8, k_xS9, k_xSA, k_xSG, k_xSF, k_xSB, k_xSC, k_xSD, k_xSE, k_xSW, k_xST, k_xSP, k_xSL, k_xSM, k_xSI, k_xD3, k_xDV, k_xDP, k_xDE, k_xQ5, k_xQL, k_xQW, k_xQM, k_xQH⟩
    have kXB : XB W := ⟨k_xN1, k_xN2, k_xN3, k_xN4, k_xN5, k_xN6, k_xH1, k_xK1, k_xC1, k_xRW, k_xWT, k_xCU, k_xG2, k_xG3, k_xG4, k_xG5, k_xG6, k_XC⟩
    exact ⟨base, k2, k3, kXA, kXB⟩
-- sMissL
def xr_311 : qRu := (6, [[(-1, 1), (-1, 2), (1, 4)], [(1, 1), (1, 2), (-1, 4)], [(1, 2)], [(-1, 0), (1, 3), (-1, 5)]], [(4, 230, [(1, 0)]), (4, 231, [(1, 1)]), (4, 232, [(1, 2)]), (3, 45, [(1, 3)]), (3, 1004, [(1, 5)])], [], [(4, 231, [(1, 0), (1, 1)])], [])
theorem xo_311 : qRok xr_311 := by
  intro ρ M h0 hf hm hI
  have f0 := hf [(-1, 1), (-1, 2), (1, 4)] (by decide)
  have f1 := hf [(1, 1), (1, 2), (-1, 4)] (by decide)
  have f2 := hf [(1, 2)] (by decide)
  have f3 := hf [(-1, 0), (1, 3), (-1, 5)] (by decide)
  simp only [qD, h0] at f0 f1 f2 f3
  have m0 : M 4 230 = 1 * ρ 0 + 0 := hm (4, 230, [(1, 0)]) (by decide)
  have m1 : M 4 231 = 1 * ρ 1 + 0 := hm (4, 231, [(1, 1)]) (by decide)
  have m2 : M 4 232 = 1 * ρ 2 + 0 := hm (4, 232, [(1, 2)]) (by decide)
  have m3 : M 3 45 = 1 * ρ 3 + 0 := hm (3, 45, [(1, 3)]) (by decide)
  have m4 : M 3 (zIx ρ (1000 + 4)) = 1 * ρ 5 + 0 := hm (3, 1004, [(1, 5)]) (by decide)
  rw [zix_p] at m4
  simp only [h0] at m0
  have qxS6 := hI.2.2.2.2.2.2.2.2.2.2.2.2.2.2.2.2.2.2.2.2.2.2.2.2.2.2.1
  refine ⟨ρ, fun _ _ => rfl, fun f h => ?_, ?_⟩
  · exact nomatch h
  · show sI (sU M 4 231 (1 * ρ 0 + (1 * ρ 1 + 0)))
    obtain ⟨W, hW⟩ : ∃ W, W = (sU M 4 231 (1 * ρ 0 + (1 * ρ 1 + 0))) := ⟨_, rfl⟩
    rw [← hW]
    have base : sI0 W := by
      rw [hW]
      exact (si_u0 hI.1 (fun r hr => by cases hr))
    have k2 : XI2 W := by
      rw [hW]
      exact (xi2_u rfl hI.2.1)
    have k3 : XI3 W := by
      rw [hW]
      exact (xi3_u rfl hI.2.2.1)
    have kXA : XA W := by
      rw [hW]
      exact (uXA rfl hI.2.2.2.1)
    have k_xN1 : xN1 W := by
      rw [hW]
      exact (uxN1 rfl hI.2.2.2.2.1)
    have k_xN2 : xN2 W := by
      rw [hW]
      exact (uxN2 rfl hI.2.2.2.2.2.1)
    have k_xN3 : xN3 W := by
      rw [hW]
      exact (uxN3 rfl hI.2.2.2.2.2.2.1)
    have k_xN4 : xN4 W := by
      rw [hW]
      exact (uxN4 rfl hI.2.2.2.2.2.2.2.1)
    have k_xN5 : xN5 W := by
      rw [hW]
      exact (uxN5 rfl hI.2.2.2.2.2.2.2.2.1)
    have k_xN6 : xN6 W := by
      rw [hW]
      exact (uxN6 rfl hI.2.2.2.2.2.2.2.2.2.1)
    have k_xH1 : xH1 W := by
      rw [hW]
      exact (uxH1 rfl hI.2.2.2.2.2.2.2.2.2.2.1)
    have k_xK1 : xK1 W := by
      rw [hW]
      exact (uxK1 rfl hI.2.2.2.2.2.2.2.2.2.2.2.1)
    have k_xC1 : xC1 W := by
      rw [hW]
      exact (uxC1 rfl hI.2.2.2.2.2.2.2.2.2.2.2.2.1)
    have k_xRW : xRW W := by
      rw [hW]
      exact (uxRW rfl hI.2.2.2.2.2.2.2.2.2.2.2.2.2.1)
    have k_xWT : xWT W := by
      rw [hW]
      exact (uxWT rfl hI.2.2.2.2.2.2.2.2.2.2.2.2.2.2.1)
    have k_xCU : xCU W := by
      rw [hW]
      exact (uxCU rfl hI.2.2.2.2.2.2.2.2.2.2.2.2.2.2.2.1)
    have k_xG2 : xG2 W := by
      rw [hW]
      exact (uxG2 rfl hI.2.2.2.2.2.2.2.2.2.2.2.2.2.2.2.2.1)
    have k_xG3 : xG3 W := by
      rw [hW]
      exact (uxG3 rfl hI.2.2.2.2.2.2.2.2.2.2.2.2.2.2.2.2.2.1)
    have k_xG4 : xG4 W := by
      rw [hW]
      exact (uxG4 rfl hI.2.2.2.2.2.2.2.2.2.2.2.2.2.2.2.2.2.2.1)
    have k_xG5 : xG5 W := by
      rw [hW]
      exact (uxG5 rfl hI.2.2.2.2.2.2.2.2.2.2.2.2.2.2.2.2.2.2.2.1)
    have k_xG6 : xG6 W := by
      rw [hW]
      exact (uxG6 rfl hI.2.2.2.2.2.2.2.2.2.2.2.2.2.2.2.2.2.2.2.2.1)
    have k_xS1 : xS1 W := by
      rw [hW]
      exact (uxS1 rfl hI.2.2.2.2.2.2.2.2.2.2.2.2.2.2.2.2.2.2.2.2.2.1)
    have k_xS2 : xS2 W := by
      rw [hW]
      exact (uxS2 rfl hI.2.2.2.2.2.2.2.2.2.2.2.2.2.2.2.2.2.2.2.2.2.2.1)
    have k_xS3 : xS3 W := by
      rw [hW]
      exact (uxS3 rfl hI.2.2.2.2.2.2.2.2.2.2.2.2.2.2.2.2.2.2.2.2.2.2.2.1)
    have k_xS4 : xS4 W := by
      rw [hW]
      exact (uxS4 rfl hI.2.2.2.2.2.2.2.2.2.2.2.2.2.2.2.2.2.2.2.2.2.2.2.2.1)
    have k_xS5 : xS5 W := by
      rw [hW]
      exact (uxS5 rfl hI.2.2.2.2.2.2.2.2.2.2.2.2.2.2.2.2.2.2.2.2.2.2.2.2.2.1)
    have k_xS6 : xS6 W := by
      have r4_230 : W 4 230 = M 4 230 := by rw [hW, sU_ne (fun z => by omega)]
      have r4_231 : W 4 231 = 1 * ρ 0 + (1 * ρ 1 + 0) := by rw [hW, sU_at]
      have r4_232 : W 4 232 = M 4 232 := by rw [hW, sU_ne (fun z => by omega)]
      have c3 : ∀ k, W 3 k = M 3 k := fun k => by rw [hW, sU_ne (fun z => by omega)]
      have e3 : W 3 = M 3 := funext c3
      intro h
      rw [r4_231, r4_232, e3]
      obtain ⟨b1, b2⟩ := gx_xS6 hI (by omega)
      refine ⟨by rw [h0]; omega, ?_⟩
      rw [show (1 * ρ 0 + (1 * ρ 1 + 0)).toNat = (M 4 231).toNat + 1 by rw [h0]; omega]
      refine tfi_no b2 ?_
      show M 3 ((M 4 232).toNat + (M 4 231).toNat) ≠ M 3 45
      rw [show (M 4 232).toNat + (M 4 231).toNat = (ρ 4).toNat by omega]
      omega
    have k_xS7 : xS7 W := by
      rw [hW]
      exact (uxS7 rfl hI.2.2.2.2.2.2.2.2.2.2.2.2.2.2.2.2.2.2.2.2.2.2.2.2.2.2.2.1)
    have k_xS8 : xS8 W := by
      rw [hW]
      exact (uxS8 rfl hI.2.2.2.2.2.2.2.2.2.2.2.2.2.2.2.2.2.2.2.2.2.2.2.2.2.2.2.2.1)
    have k_xS9 : xS9 W := by
      rw [hW]
      exact (uxS9 rfl hI.2.2.2.2.2.2.2.2.2.2.2.2.2.2.2.2.2.2.2.2.2.2.2.2.2.2.2.2.2.1)
    have k_xSA : xSA W := by
      rw [hW]
      exact (uxSA rfl hI.2.2.2.2.2.2.2.2.2.2.2.2.2.2.2.2.2.2.2.2.2.2.2.2.2.2.2.2.2.2.1)
    have k_xSG : xSG W := by
      rw [hW]
      exact (uxSG rfl hI.2.2.2.2.2.2.2.2.2.2.2.2.2.2.2.2.2.2.2.2.2.2.2.2.2.2.2.2.2.2.2.1)
    have k_xSF : xSF W := by
      rw [hW]
      exact (uxSF rfl hI.2.2.2.2.2.2.2.2.2.2.2.2.2.2.2.2.2.2.2.2.2.2.2.2.2.2.2.2.2.2.2.2.1)
    have k_xSB : xSB W := by
      rw [hW]
      exact (uxSB rfl hI.2.2.2.2.2.2.2.2.2.2.2.2.2.2.2.2.2.2.2.2.2.2.2.2.2.2.2.2.2.2.2.2.2.1)
    have k_xSC : xSC W := by
      rw [hW]
      exact (uxSC rfl hI.2.2.2.2.2.2.2.2.2.2.2.2.2.2.2.2.2.2.2.2.2.2.2.2.2.2.2.2.2.2.2.2.2.2.1)
    have k_xSD : xSD W := by
      rw [hW]
      exact (uxSD rfl hI.2.2.2.2.2.2.2.2.2.2.2.2.2.2.2.2.2.2.2.2.2.2.2.2.2.2.2.2.2.2.2.2.2.2.2.1)
    have k_xSE : xSE W := by
      rw [hW]
      exact (uxSE rfl hI.2.2.2.2.2.2.2.2.2.2.2.2.2.2.2.2.2.2.2.2.2.2.2.2.2.2.2.2.2.2.2.2.2.2.2.2.1)
    have k_xSW : xSW W := by
      rw [hW]
      exact (uxSW rfl hI.2.2.2.2.2.2.2.2.2.2.2.2.2.2.2.2.2.2.2.2.2.2.2.2.2.2.2.2.2.2.2.2.2.2.2.2.2.1)
    have k_xST : xST W := by
      rw [hW]
      exact (uxST rfl hI.2.2.2.2.2.2.2.2.2.2.2.2.2.2.2.2.2.2.2.2.2.2.2.2.2.2.2.2.2.2.2.2.2.2.2.2.2.2.1)
    have k_xSP : xSP W := by
      rw [hW]
      exact (uxSP rfl hI.2.2.2.2.2.2.2.2.2.2.2.2.2.2.2.2.2.2.2.2.2.2.2.2.2.2.2.2.2.2.2.2.2.2.2.2.2.2.2.1)
    have k_xSL : xSL W := by
      rw [hW]
      exact (uxSL rfl hI.2.2.2.2.2.2.2.2.2.2.2.2.2.2.2.2.2.2.2.2.2.2.2.2.2.2.2.2.2.2.2.2.2.2.2.2.2.2.2.2.1)
    have k_xSM : xSM W := by
      rw [hW]
      exact (uxSM rfl hI.2.2.2.2.2.2.2.2.2.2.2.2.2.2.2.2.2.2.2.2.2.2.2.2.2.2.2.2.2.2.2.2.2.2.2.2.2.2.2.2.2.1)
    have k_xSI : xSI W := by
      rw [hW]
      exact (uxSI rfl hI.2.2.2.2.2.2.2.2.2.2.2.2.2.2.2.2.2.2.2.2.2.2.2.2.2.2.2.2.2.2.2.2.2.2.2.2.2.2.2.2.2.2.1)
    have k_xD3 : xD3 W := by
      rw [hW]
      exact (uxD3 rfl hI.2.2.2.2.2.2.2.2.2.2.2.2.2.2.2.2.2.2.2.2.2.2.2.2.2.2.2.2.2.2.2.2.2.2.2.2.2.2.2.2.2.2.2.1)
    have k_xDV : xDV W := by
      rw [hW]
      exact (uxDV rfl hI.2.2.2.2.2.2.2.2.2.2.2.2.2.2.2.2.2.2.2.2.2.2.2.2.2.2.2.2.2.2.2.2.2.2.2.2.2.2.2.2.2.2.2.2.1)
    have k_xDP : xDP W := by
      rw [hW]
      exact (uxDP rfl hI.2.2.2.2.2.2.2.2.2.2.2.2.2.2.2.2.2.2.2.2.2.2.2.2.2.2.2.2.2.2.2.2.2.2.2.2.2.2.2.2.2.2.2.2.2.1)
    have k_xDE : xDE W := by
      rw [hW]
      exact (uxDE rfl hI.2.2.2.2.2.2.2.2.2.2.2.2.2.2.2.2.2.2.2.2.2.2.2.2.2.2.2.2.2.2.2.2.2.2.2.2.2.2.2.2.2.2.2.2.2.2.1)
    have k_xQ5 : xQ5 W := by
      rw [hW]
      exact (uxQ5 rfl hI.2.2.2.2.2.2.2.2.2.2.2.2.2.2.2.2.2.2.2.2.2.2.2.2.2.2.2.2.2.2.2.2.2.2.2.2.2.2.2.2.2.2.2.2.2.2.2.1)
    have k_xQL : xQL W := by
      rw [hW]
      exact (uxQL rfl hI.2.2.2.2.2.2.2.2.2.2.2.2.2.2.2.2.2.2.2.2.2.2.2.2.2.2.2.2.2.2.2.2.2.2.2.2.2.2.2.2.2.2.2.2.2.2.2.2.1)
    have k_xQW : xQW W := by
      rw [hW]
      exact (uxQW rfl hI.2.2.2.2.2.2.2.2.2.2.2.2.2.2.2.2.2.2.2.2.2.2.2.2.2.2.2.2.2.2.2.2.2.2.2.2.2.2.2.2.2.2.2.2.2.2.2.2.2.1)
    have k_xQM : xQM W := by
      rw [hW]
      exact (uxQM rfl hI.2.2.2.2.2.2.2.2.2.2.2.2.2.2.2.2.2.2.2.2.2.2.2.2.2.2.2.2.2.2.2.2.2.2.2.2.2.2.2.2.2.2.2.2.2.2.2.2.2.2.1)
    have k_xQH : xQH W := by
      rw [hW]
      exact (uxQH rfl hI.2.2.2.2.2.2.2.2.2.2.2.2.2.2.2.2.2.2.2.2.2.2.2.2.2.2.2.2.2.2.2.2.2.2.2.2.2.2.2.2.2.2.2.2.2.2.2.2.2.2.2)
    have k_XC : XC W := ⟨k_xS1, k_xS2, k_xS3, k_xS4, k_xS5, k_xS6, k_xS7, k_xS8, k_xS9, k_xSA, k_xSG, k_xSF, k_xSB, k_xSC, k_xSD, k_xSE, k_xSW, k_xST, k_xSP, k_xSL, k_xSM, k_xSI, k_xD3, k_xDV, k_xDP, k_xDE, k_xQ5, k_xQL, k_xQW, k_xQM, k_xQH⟩
    have kXB : XB W := ⟨k_xN1, k_xN2, k_xN3, k_xN4, k_xN5, k_xN6, k_xH1, k_xK1, k_xC1, k_xRW, k_xWT, k_xCU, k_xG2, k_xG3, k_xG4, k_xG5, k_xG6, k_XC⟩
    exact ⟨base, k2, k3, kXA, kXB⟩
-- sMissH
def xr_312 : qRu := (6, [[(-1, 1), (-1, 2), (1, 4)], [(1, 1), (1, 2), (-1, 4)], [(1, 2)], [(-1, 0), (-1, 3), (1, 5)]], [(4, 230, [(1, 0)]), (4, 231, [(1, 1)]), (4, 232, [(1, 2)]), (3, 45, [(1, 3)]), (3, 1004, [(1, 5)])], [], [(4, 231, [(1, 0), (1, 1)])], [])
theorem xo_312 : qRok xr_312 := by
  intro ρ M h0 hf hm hI
  have f0 := hf [(-1, 1), (-1, 2), (1, 4)] (by decide)
  have f1 := hf [(1, 1), (1, 2), (-1, 4)] (by decide)
  have f2 := hf [(1, 2)] (by decide)
  have f3 := hf [(-1, 0), (-1, 3), (1, 5)] (by decide)
  simp only [qD, h0] at f0 f1 f2 f3
  have m0 : M 4 230 = 1 * ρ 0 + 0 := hm (4, 230, [(1, 0)]) (by decide)
  have m1 : M 4 231 = 1 * ρ 1 + 0 := hm (4, 231, [(1, 1)]) (by decide)
  have m2 : M 4 232 = 1 * ρ 2 + 0 := hm (4, 232, [(1, 2)]) (by decide)
  have m3 : M 3 45 = 1 * ρ 3 + 0 := hm (3, 45, [(1, 3)]) (by decide)
  have m4 : M 3 (zIx ρ (1000 + 4)) = 1 * ρ 5 + 0 := hm (3, 1004, [(1, 5)]) (by decide)
  rw [zix_p] at m4
  simp only [h0] at m0
  have qxS6 := hI.2.2.2.2.2.2.2.2.2.2.2.2.2.2.2.2.2.2.2.2.2.2.2.2.2.2.1
  refine ⟨ρ, fun _ _ => rfl, fun f h => ?_, ?_⟩
  · exact nomatch h
  · show sI (sU M 4 231 (1 * ρ 0 + (1 * ρ 1 + 0)))
    obtain ⟨W, hW⟩ : ∃ W, W = (sU M 4 231 (1 * ρ 0 + (1 * ρ 1 + 0))) := ⟨_, rfl⟩
    rw [← hW]
    have base : sI0 W := by
      rw [hW]
      exact (si_u0 hI.1 (fun r hr => by cases hr))
    have k2 : XI2 W := by
      rw [hW]
      exact (xi2_u rfl hI.2.1)
    have k3 : XI3 W := by
      rw [hW]
      exact (xi3_u rfl hI.2.2.1)
    have kXA : XA W := by
      rw [hW]
      exact (uXA rfl hI.2.2.2.1)
    have k_xN1 : xN1 W := by
      rw [hW]
      exact (uxN1 rfl hI.2.2.2.2.1)
    have k_xN2 : xN2 W := by
      rw [hW]
      exact (uxN2 rfl hI.2.2.2.2.2.1)
    have k_xN3 : xN3 W := by
      rw [hW]
      exact (uxN3 rfl hI.2.2.2.2.2.2.1)
    have k_xN4 : xN4 W := by
      rw [hW]
      exact (uxN4 rfl hI.2.2.2.2.2.2.2.1)
    have k_xN5 : xN5 W := by
      rw [hW]
      exact (uxN5 rfl hI.2.2.2.2.2.2.2.2.1)
    have k_xN6 : xN6 W := by
      rw [hW]
      exact (uxN6 rfl hI.2.2.2.2.2.2.2.2.2.1)
    have k_xH1 : xH1 W := by
      rw [hW]
      exact (uxH1 rfl hI.2.2.2.2.2.2.2.2.2.2.1)
    have k_xK1 : xK1 W := by
      rw [hW]
      exact (uxK1 rfl hI.2.2.2.2.2.2.2.2.2.2.2.1)
    have k_xC1 : xC1 W := by
      rw [hW]
      exact (uxC1 rfl hI.2.2.2.2.2.2.2.2.2.2.2.2.1)
    have k_xRW : xRW W := by
      rw [hW]
      exact (uxRW rfl hI.2.2.2.2.2.2.2.2.2.2.2.2.2.1)
    have k_xWT : xWT W := by
      rw [hW]
      exact (uxWT rfl hI.2.2.2.2.2.2.2.2.2.2.2.2.2.2.1)
    have k_xCU : xCU W := by
      rw [hW]
      exact (uxCU rfl hI.2.2.2.2.2.2.2.2.2.2.2.2.2.2.2.1)
    have k_xG2 : xG2 W := by
      rw [hW]
      exact (uxG2 rfl hI.2.2.2.2.2.2.2.2.2.2.2.2.2.2.2.2.1)
    have k_xG3 : xG3 W := by
      rw [hW]
      exact (uxG3 rfl hI.2.2.2.2.2.2.2.2.2.2.2.2.2.2.2.2.2.1)
    have k_xG4 : xG4 W := by
      rw [hW]
      exact (uxG4 rfl hI.2.2.2.2.2.2.2.2.2.2.2.2.2.2.2.2.2.2.1)
    have k_xG5 : xG5 W := by
      rw [hW]
      exact (uxG5 rfl hI.2.2.2.2.2.2.2.2.2.2.2.2.2.2.2.2.2.2.2.1)
    have k_xG6 : xG6 W := by
      rw [hW]
      exact (uxG6 rfl hI.2.2.2.2.2.2.2.2.2.2.2.2.2.2.2.2.2.2.2.2.1)
    have k_xS1 : xS1 W := by
      rw [hW]
      exact (uxS1 rfl hI.2.2.2.2.2.2.2.2.2.2.2.2.2.2.2.2.2.2.2.2.2.1)
    have k_xS2 : xS2 W := by
      rw [hW]
      exact (uxS2 rfl hI.2.2.2.2.2.2.2.2.2.2.2.2.2.2.2.2.2.2.2.2.2.2.1)
    have k_xS3 : xS3 W := by
      rw [hW]
      exact (uxS3 rfl hI.2.2.2.2.2.2.2.2.2.2.2.2.2.2.2.2.2.2.2.2.2.2.2.1)
    have k_xS4 : xS4 W := by
      rw [hW]
      exact (uxS4 rfl hI.2.2.2.2.2.2.2.2.2.2.2.2.2.2.2.2.2.2.2.2.2.2.2.2.1)
    have k_xS5 : xS5 W := by
      rw [hW]
      exact (uxS5 rfl hI.2.2.2.2.2.2.2.2.2.2.2.2.2.2.2.2.2.2.2.2.2.2.2.2.2.1)
    have k_xS6 : xS6 W := by
      have r4_230 : W 4 230 = M 4 230 := by rw [hW, sU_ne (fun z => by omega)]
      have r4_231 : W 4 231 = 1 * ρ 0 + (1 * ρ 1 + 0) := by rw [hW, sU_at]
      have r4_232 : W 4 232 = M 4 232 := by rw [hW, sU_ne (fun z => by omega)]
      have c3 : ∀ k, W 3 k = M 3 k := fun k => by rw [hW, sU_ne (fun z => by omega)]
      have e3 : W 3 = M 3 := funext c3
      intro h
      rw [r4_231, r4_232, e3]
      obtain ⟨b1, b2⟩ := gx_xS6 hI (by omega)
      refine ⟨by rw [h0]; omega, ?_⟩
      rw [show (1 * ρ 0 + (1 * ρ 1 + 0)).toNat = (M 4 231).toNat + 1 by rw [h0]; omega]
      refine tfi_no b2 ?_
      show M 3 ((M 4 232).toNat + (M 4 231).toNat) ≠ M 3 45
      rw [show (M 4 232).toNat + (M 4 231).toNat = (ρ 4).toNat by omega]
      omega
    have k_xS7 : xS7 W := by
      rw [hW]
      exact (uxS7 rfl hI.2.2.2.2.2.2.2.2.2.2.2.2.2.2.2.2.2.2.2.2.2.2.2.2.2.2.2.1)
    have k_xS8 : xS8 W := by
      rw [hW]
      exact (uxS8 rfl hI.2.2.2.2.2.2.2.2.2.2.2.2.2.2.2.2.2.2.2.2.2.2.2.2.2.2.2.2.1)
    have k_xS9 : xS9 W := by
      rw [hW]
      exact (uxS9 rfl hI.2.2.2.2.2.2.2.2.2.2.2.2.2.2.2.2.2.2.2.2.2.2.2.2.2.2.2.2.2.1)
    have k_xSA : xSA W := by
      rw [hW]
      exact (uxSA rfl hI.2.2.2.2.2.2.2.2.2.2.2.2.2.2.2.2.2.2.2.2.2.2.2.2.2.2.2.2.2.2.1)
    have k_xSG : xSG W := by
      rw [hW]
      exact (uxSG rfl hI.2.2.2.2.2.2.2.2.2.2.2.2.2.2.2.2.2.2.2.2.2.2.2.2.2.2.2.2.2.2.2.1)
    have k_xSF : xSF W := by
      rw [hW]
      exact (uxSF rfl hI.2.2.2.2.2.2.2.2.2.2.2.2.2.2.2.2.2.2.2.2.2.2.2.2.2.2.2.2.2.2.2.2.1)
    have k_xSB : xSB W := by
      rw [hW]
      exact (uxSB rfl hI.2.2.2.2.2.2.2.2.2.2.2.2.2.2.2.2.2.2.2.2.2.2.2.2.2.2.2.2.2.2.2.2.2.1)
    have k_xSC : xSC W := by
      rw [hW]
      exact (uxSC rfl hI.2.2.2.2.2.2.2.2.2.2.2.2.2.2.2.2.2.2.2.2.2.2.2.2.2.2.2.2.2.2.2.2.2.2.1)
    have k_xSD : xSD W := by
      rw [hW]
      exact (uxSD rfl hI.2.2.2.2.2.2.2.2.2.2.2.2.2.2.2.2.2.2.2.2.2.2.2.2.2.2.2.2.2.2.2.2.2.2.2.1)
    have k_xSE : xSE W := by
      rw [hW]
      exact (uxSE rfl hI.2.2.2.2.2.2.2.2.2.2.2.2.2.2.2.2.2.2.2.2.2.2.2.2.2.2.2.2.2.2.2.2.2.2.2.2.1)
    have k_xSW : xSW W := by
      rw [hW]
      exact (uxSW rfl hI.2.2.2.2.2.2.2.2.2.2.2.2.2.2.2.2.2.2.2.2.2.2.2.2.2.2.2.2.2.2.2.2.2.2.2.2.2.1)
    have k_xST : xST W := by
      rw [hW]
      exact (uxST rfl hI.2.2.2.2.2.2.2.2.2.2.2.2.2.2.2.2.2.2.2.2.2.2.2.2.2.2.2.2.2.2.2.2.2.2.2.2.2.2.1)
    have k_xSP : xSP W := by
      rw [hW]
      exact (uxSP rfl hI.2.2.2.2.2.2.2.2.2.2.2.2.2.2.2.2.2.2.2.2.2.2.2.2.2.2.2.2.2.2.2.2.2.2.2.2.2.2.2.1)
    have k_xSL : xSL W := by
      rw [hW]
      exact (uxSL rfl hI.2.2.2.2.2.2.2.2.2.2.2.2.2.2.2.2.2.2.2.2.2.2.2.2.2.2.2.2.2.2.2.2.2.2.2.2.2.2.2.2.1)
    have k_xSM : xSM W := by
      rw [hW]
      exact (uxSM rfl hI.2.2.2.2.2.2.2.2.2.2.2.2.2.2.2.2.2.2.2.2.2.2.2.2.2.2.2.2.2.2.2.2.2.2.2.2.2.2.2.2.2.1)
    have k_xSI : xSI W := by
      rw [hW]
      exact (uxSI rfl hI.2.2.2.2.2.2.2.2.2.2.2.2.2.2.2.2.2.2.2.2.2.2.2.2.2.2.2.2.2.2.2.2.2.2.2.2.2.2.2.2.2.2.1)
    have k_xD3 : xD3 W := by
      rw [hW]
      exact (uxD3 rfl hI.2.2.2.2.2.2.2.2.2.2.2.2.2.2.2.2.2.2.2.2.2.2.2.2.2.2.2.2.2.2.2.2.2.2.2.2.2.2.2.2.2.2.2.1)
    have k_xDV : xDV W := by
      rw [hW]
      exact (uxDV rfl hI.2.2.2.2.2.2.2.2.2.2.2.2.2.2.2.2.2.2.2.2.2.2.2.2.2.2.2.2.2.2.2.2.2.2.2.2.2.2.2.2.2.2.2.2.1)
    have k_xDP : xDP W := by
      rw [hW]
      exact (uxDP rfl hI.2.2.2.2.2.2.2.2.2.2.2.2.2.2.2.2.2.2.2.2.2.2.2.2.2.2.2.2.2.2.2.2.2.2.2.2.2.2.2.2.2.2.2.2.2.1)
    have k_xDE : xDE W := by
      rw [hW]
      exact (uxDE rfl hI.2.2.2.2.2.2.2.2.2.2.2.2.2.2.2.2.2.2.2.2.2.2.2.2.2.2.2.2.2.2.2.2.2.2.2.2.2.2.2.2.2.2.2.2.2.2.1)
    have k_xQ5 : xQ5 W := by
      rw [hW]
      exact (uxQ5 rfl hI.2.2.2.2.2.2.2.2.2.2.2.2.2.2.2.2.2.2.2.2.2.2.2.2.2.2.2.2.2.2.2.2.2.2.2.2.2.2.2.2.2.2.2.2.2.2.2.1)
    have k_xQL : xQL W := by
      rw [hW]
      exact (uxQL rfl hI.2.2.2.2.2.2.2.2.2.2.2.2.2.2.2.2.2.2.2.2.2.2.2.2.2.2.2.2.2.2.2.2.2.2.2.2.2.2.2.2.2.2.2.2.2.2.2.2.1)
    have k_xQW : xQW W := by
      rw [hW]
      exact (uxQW rfl hI.2.2.2.2.2.2.2.2.2.2.2.2.2.2.2.2.2.2.2.2.2.2.2.2.2.2.2.2.2.2.2.2.2.2.2.2.2.2.2.2.2.2.2.2.2.2.2.2.2.1)
    have k_xQM : xQM W := by
      rw [hW]
      exact (uxQM rfl hI.2.2.2.2.2.2.2.2.2.2.2.2.2.2.2.2.2.2.2.2.2.2.2.2.2.2.2.2.2.2.2.2.2.2.2.2.2.2.2.2.2.2.2.2.2.2.2.2.2.2.1)
    have k_xQH : xQH W := by
      rw [hW]
      exact (uxQH rfl hI.2.2.2.2.2.2.2.2.2.2.2.2.2.2.2.2.2.2.2.2.2.2.2.2.2.2.2.2.2.2.2.2.2.2.2.2.2.2.2.2.2.2.2.2.2.2.2.2.2.2.2)
    have k_XC : XC W := ⟨k_xS1, k_xS2, k_xS3, k_xS4, k_xS5, k_xS6, k_xS7, k_xS8, k_xS9, k_xSA, k_xSG, k_xSF, k_xSB, k_xSC, k_xSD, k_xSE, k_xSW, k_xST, k_xSP, k_xSL, k_xSM, k_xSI, k_xD3, k_xDV, k_xDP, k_xDE, k_xQ5, k_xQL, k_xQW, k_xQM, k_xQH⟩
    have kXB : XB W := ⟨k_xN1, k_xN2, k_xN3, k_xN4, k_xN5, k_xN6, k_xH1, k_xK1, k_xC1, k_xRW, k_xWT, k_xCU, k_xG2, k_xG3, k_xG4, k_xG5, k_xG6, k_XC⟩
    exact ⟨base, k2, k3, kXA, kXB⟩
-- sHitB1
def xr_313 : qRu := (10, [[(-1, 0), (1, 9)], [(-1, 0), (1, 6)], [(1, 0), (-1, 6)], [(-60, 0), (1, 2)], [(60, 0), (-1, 2)], [(1, 8)], [(9, 0), (-1, 8)], [(-1, 1), (-1, 2), (1, 4)], [(1, 1), (1, 2), (-1, 4)], [(-1, 3), (1, 5)], [(1, 3), (-1, 5)], [(-1, 0), (-1, 1), (1, 8)]], [(4, 100, [(1, 9)]), (4, 230, [(1, 0)]), (4, 231, [(1, 1)]), (4, 232, [(1, 2)]), (3, 45, [(1, 3)]), (3, 20, [(1, 6)]), (3, 48, [(1, 7)]), (3, 24, [(1, 8)]), (3, 1004, [(1, 5)])], [], [], [[(-1, 1), (1, 7)], [(1, 1), (-1, 7)]])
theorem xo_313 : qRok xr_313 := by
  intro ρ M h0 hf hm hI
  have f0 := hf [(-1, 0), (1, 9)] (by decide)
  have f1 := hf [(-1, 0), (1, 6)] (by decide)
  have f2 := hf [(1, 0), (-1, 6)] (by decide)
  have f3 := hf [(-60, 0), (1, 2)] (by decide)
  have f4 := hf [(60, 0), (-1, 2)] (by decide)
  have f5 := hf [(1, 8)] (by decide)
  have f6 := hf [(9, 0), (-1, 8)] (by decide)
  have f7 := hf [(-1, 1), (-1, 2), (1, 4)] (by decide)
  have f8 := hf [(1, 1), (1, 2), (-1, 4)] (by decide)
  have f9 := hf [(-1, 3), (1, 5)] (by decide)
  have f10 := hf [(1, 3), (-1, 5)] (by decide)
  have f11 := hf [(-1, 0), (-1, 1), (1, 8)] (by decide)
  simp only [qD, h0] at f0 f1 f2 f3 f4 f5 f6 f7 f8 f9 f10 f11
  have m0 : M 4 100 = 1 * ρ 9 + 0 := hm (4, 100, [(1, 9)]) (by decide)
  have m1 : M 4 230 = 1 * ρ 0 + 0 := hm (4, 230, [(1, 0)]) (by decide)
  have m2 : M 4 231 = 1 * ρ 1 + 0 := hm (4, 231, [(1, 1)]) (by decide)
  have m3 : M 4 232 = 1 * ρ 2 + 0 := hm (4, 232, [(1, 2)]) (by decide)
  have m4 : M 3 45 = 1 * ρ 3 + 0 := hm (3, 45, [(1, 3)]) (by decide)
  have m5 : M 3 20 = 1 * ρ 6 + 0 := hm (3, 20, [(1, 6)]) (by decide)
  have m6 : M 3 48 = 1 * ρ 7 + 0 := hm (3, 48, [(1, 7)]) (by decide)
  have m7 : M 3 24 = 1 * ρ 8 + 0 := hm (3, 24, [(1, 8)]) (by decide)
  have m8 : M 3 (zIx ρ (1000 + 4)) = 1 * ρ 5 + 0 := hm (3, 1004, [(1, 5)]) (by decide)
  rw [zix_p] at m8
  simp only [h0] at m1
  have hfi := tre_fi (gx_xS3 hI (by omega)) (by rw [show tCf M 0 = M 3 20 from rfl]; omega)
  have hf2 : M 3 48 = tFo (tCf M) (M 3 45) := hfi.1
  unfold tFo at hf2
  have ec : tCf M 0 = M 3 20 := rfl
  rw [ec] at hf2
  rw [if_neg (by omega), if_neg (by omega)] at hf2
  have hf3 : M 3 48 = tFi (fun j => M 3 (60 + j)) (M 3 45) (M 3 24).toNat := by
    rw [hf2]
    exact tfi_cg (fun j hj => by have hj2 : j < (M 3 24).toNat := hj; show (if 40 + j < 70 then M 3 (20 + (40 + j)) else 0) = M 3 (60 + j); rw [if_pos (by omega), show 20 + (40 + j) = 60 + j by omega])
  obtain ⟨b1, b2⟩ := gx_xS6 hI (by omega)
  rw [show (M 4 232).toNat = 60 by omega] at b2

  have hh := tfi_hit b2 (show M 3 (60 + (M 4 231).toNat) = M 3 45 by rw [show 60 + (M 4 231).toNat = (ρ 4).toNat by omega]; omega) (M 3 24).toNat (by omega)
  refine ⟨ρ, fun _ _ => rfl, fun f h => ?_, ?_⟩
  · have h : f ∈ ([[(-1, 1), (1, 7)], [(1, 1), (-1, 7)]] : List qF) := h
    simp only [List.mem_cons, List.not_mem_nil, or_false] at h
    rcases h with rfl | rfl
    · show 0 ≤ -1 * ρ 1 + (1 * ρ 7 + 0)
      (try rw [h0]); omega
    · show 0 ≤ 1 * ρ 1 + (-1 * ρ 7 + 0)
      (try rw [h0]); omega
  · show sI M
    exact hI
-- sNoneB1
def xr_314 : qRu := (10, [[(-1, 0), (1, 9)], [(-1, 0), (1, 6)], [(1, 0), (-1, 6)], [(-60, 0), (1, 2)], [(60, 0), (-1, 2)], [(1, 8)], [(9, 0), (-1, 8)], [(1, 1), (-1, 8)], [(-1, 1), (1, 8)]], [(4, 100, [(1, 9)]), (4, 230, [(1, 0)]), (4, 231, [(1, 1)]), (4, 232, [(1, 2)]), (3, 45, [(1, 3)]), (3, 20, [(1, 6)]), (3, 48, [(1, 7)]), (3, 24, [(1, 8)])], [], [], [[(1, 0), (1, 7)], [(-1, 0), (-1, 7)]])
theorem xo_314 : qRok xr_314 := by
  intro ρ M h0 hf hm hI
  have f0 := hf [(-1, 0), (1, 9)] (by decide)
  have f1 := hf [(-1, 0), (1, 6)] (by decide)
  have f2 := hf [(1, 0), (-1, 6)] (by decide)
  have f3 := hf [(-60, 0), (1, 2)] (by decide)
  have f4 := hf [(60, 0), (-1, 2)] (by decide)
  have f5 := hf [(1, 8)] (by decide)
  have f6 := hf [(9, 0), (-1, 8)] (by decide)
  have f7 := hf [(1, 1), (-1, 8)] (by decide)
  have f8 := hf [(-1, 1), (1, 8)] (by decide)
  simp only [qD, h0] at f0 f1 f2 f3 f4 f5 f6 f7 f8
  have m0 : M 4 100 = 1 * ρ 9 + 0 := hm (4, 100, [(1, 9)]) (by decide)
  have m1 : M 4 230 = 1 * ρ 0 + 0 := hm (4, 230, [(1, 0)]) (by decide)
  have m2 : M 4 231 = 1 * ρ 1 + 0 := hm (4, 231, [(1, 1)]) (by decide)
  have m3 : M 4 232 = 1 * ρ 2 + 0 := hm (4, 232, [(1, 2)]) (by decide)
  have m4 : M 3 45 = 1 * ρ 3 + 0 := hm (3, 45, [(1, 3)]) (by decide)
  have m5 : M 3 20 = 1 * ρ 6 + 0 := hm (3, 20, [(1, 6)]) (by decide)
  have m6 : M 3 48 = 1 * ρ 7 + 0 := hm (3, 48, [(1, 7)]) (by decide)
  have m7 : M 3 24 = 1 * ρ 8 + 0 := hm (3, 24, [(1, 8)]) (by decide)
  simp only [h0] at m1
  have hfi := tre_fi (gx_xS3 hI (by omega)) (by rw [show tCf M 0 = M 3 20 from rfl]; omega)
  have hf2 : M 3 48 = tFo (tCf M) (M 3 45) := hfi.1
  unfold tFo at hf2
  have ec : tCf M 0 = M 3 20 := rfl
  rw [ec] at hf2
  rw [if_neg (by omega), if_neg (by omega)] at hf2
  have hf3 : M 3 48 = tFi (fun j => M 3 (60 + j)) (M 3 45) (M 3 24).toNat := by
    rw [hf2]
    exact tfi_cg (fun j hj => by have hj2 : j < (M 3 24).toNat := hj; show (if 40 + j < 70 then M 3 (20 + (40 + j)) else 0) = M 3 (60 + j); rw [if_pos (by omega), show 20 + (40 + j) = 60 + j by omega])
  obtain ⟨b1, b2⟩ := gx_xS6 hI (by omega)
  rw [show (M 4 232).toNat = 60 by omega] at b2

  rw [show (M 4 231).toNat = (M 3 24).toNat by omega] at b2
  refine ⟨ρ, fun _ _ => rfl, fun f h => ?_, ?_⟩
  · have h : f ∈ ([[(1, 0), (1, 7)], [(-1, 0), (-1, 7)]] : List qF) := h
    simp only [List.mem_cons, List.not_mem_nil, or_false] at h
    rcases h with rfl | rfl
    · show 0 ≤ 1 * ρ 0 + (1 * ρ 7 + 0)
      (try rw [h0]); omega
    · show 0 ≤ -1 * ρ 0 + (-1 * ρ 7 + 0)
      (try rw [h0]); omega
  · show sI M
    exact hI
-- sHitG
def xr_315 : qRu := (10, [[(-1, 0), (1, 9)], [(-6, 0), (1, 6)], [(6, 0), (-1, 6)], [(-70, 0), (1, 2)], [(70, 0), (-1, 2)], [(1, 8)], [(6, 0), (-1, 8)], [(-1, 1), (-1, 2), (1, 4)], [(1, 1), (1, 2), (-1, 4)], [(-1, 3), (1, 5)], [(1, 3), (-1, 5)], [(-1, 0), (-1, 1), (1, 8)]], [(4, 100, [(1, 9)]), (4, 230, [(1, 0)]), (4, 231, [(1, 1)]), (4, 232, [(1, 2)]), (3, 45, [(1, 3)]), (3, 20, [(1, 6)]), (3, 48, [(1, 7)]), (3, 25, [(1, 8)]), (3, 1004, [(1, 5)])], [], [], [[(-1, 1), (1, 7)], [(1, 1), (-1, 7)]])
theorem xo_315 : qRok xr_315 := by
  intro ρ M h0 hf hm hI
  have f0 := hf [(-1, 0), (1, 9)] (by decide)
  have f1 := hf [(-6, 0), (1, 6)] (by decide)
  have f2 := hf [(6, 0), (-1, 6)] (by decide)
  have f3 := hf [(-70, 0), (1, 2)] (by decide)
  have f4 := hf [(70, 0), (-1, 2)] (by decide)
  have f5 := hf [(1, 8)] (by decide)
  have f6 := hf [(6, 0), (-1, 8)] (by decide)
  have f7 := hf [(-1, 1), (-1, 2), (1, 4)] (by decide)
  have f8 := hf [(1, 1), (1, 2), (-1, 4)] (by decide)
  have f9 := hf [(-1, 3), (1, 5)] (by decide)
  have f10 := hf [(1, 3), (-1, 5)] (by decide)
  have f11 := hf [(-1, 0), (-1, 1), (1, 8)] (by decide)
  simp only [qD, h0] at f0 f1 f2 f3 f4 f5 f6 f7 f8 f9 f10 f11
  have m0 : M 4 100 = 1 * ρ 9 + 0 := hm (4, 100, [(1, 9)]) (by decide)
  have m1 : M 4 230 = 1 * ρ 0 + 0 := hm (4, 230, [(1, 0)]) (by decide)
  have m2 : M 4 231 = 1 * ρ 1 + 0 := hm (4, 231, [(1, 1)]) (by decide)
  have m3 : M 4 232 = 1 * ρ 2 + 0 := hm (4, 232, [(1, 2)]) (by decide)
  have m4 : M 3 45 = 1 * ρ 3 + 0 := hm (3, 45, [(1, 3)]) (by decide)
  have m5 : M 3 20 = 1 * ρ 6 + 0 := hm (3, 20, [(1, 6)]) (by decide)
  have m6 : M 3 48 = 1 * ρ 7 + 0 := hm (3, 48, [(1, 7)]) (by decide)
  have m7 : M 3 25 = 1 * ρ 8 + 0 := hm (3, 25, [(1, 8)]) (by decide)
  have m8 : M 3 (zIx ρ (1000 + 4)) = 1 * ρ 5 + 0 := hm (3, 1004, [(1, 5)]) (by decide)
  rw [zix_p] at m8
  simp only [h0] at m1
  have hfi := tre_fi (gx_xS3 hI (by omega)) (by rw [show tCf M 0 = M 3 20 from rfl]; omega)
  have hf2 : M 3 48 = tFo (tCf M) (M 3 45) := hfi.1
  unfold tFo at hf2
  have ec : tCf M 0 = M 3 20 := rfl
  rw [ec] at hf2
  rw [if_pos (by omega)] at hf2
  have hf3 : M 3 48 = tFi (fun j => M 3 (70 + j)) (M 3 45) (M 3 25).toNat := by
    rw [hf2]
    exact tfi_cg (fun j hj => by have hj2 : j < (M 3 25).toNat := hj; show (if 50 + j < 70 then M 3 (20 + (50 + j)) else 0) = M 3 (70 + j); rw [if_pos (by omega), show 20 + (50 + j) = 70 + j by omega])
  obtain ⟨b1, b2⟩ := gx_xS6 hI (by omega)
  rw [show (M 4 232).toNat = 70 by omega] at b2

  have hh := tfi_hit b2 (show M 3 (70 + (M 4 231).toNat) = M 3 45 by rw [show 70 + (M 4 231).toNat = (ρ 4).toNat by omega]; omega) (M 3 25).toNat (by omega)
  refine ⟨ρ, fun _ _ => rfl, fun f h => ?_, ?_⟩
  · have h : f ∈ ([[(-1, 1), (1, 7)], [(1, 1), (-1, 7)]] : List qF) := h
    simp only [List.mem_cons, List.not_mem_nil, or_false] at h
    rcases h with rfl | rfl
    · show 0 ≤ -1 * ρ 1 + (1 * ρ 7 + 0)
      (try rw [h0]); omega
    · show 0 ≤ 1 * ρ 1 + (-1 * ρ 7 + 0)
      (try rw [h0]); omega
  · show sI M
    exact hI
-- sNoneG
def xr_316 : qRu := (10, [[(-1, 0), (1, 9)], [(-6, 0), (1, 6)], [(6, 0), (-1, 6)], [(-70, 0), (1, 2)], [(70, 0), (-1, 2)], [(1, 8)], [(6, 0), (-1, 8)], [(1, 1), (-1, 8)], [(-1, 1), (1, 8)]], [(4, 100, [(1, 9)]), (4, 230, [(1, 0)]), (4, 231, [(1, 1)]), (4, 232, [(1, 2)]), (3, 45, [(1, 3)]), (3, 20, [(1, 6)]), (3, 48, [(1, 7)]), (3, 25, [(1, 8)])], [], [], [[(1, 0), (1, 7)], [(-1, 0), (-1, 7)]])
theorem xo_316 : qRok xr_316 := by
  intro ρ M h0 hf hm hI
  have f0 := hf [(-1, 0), (1, 9)] (by decide)
  have f1 := hf [(-6, 0), (1, 6)] (by decide)
  have f2 := hf [(6, 0), (-1, 6)] (by decide)
  have f3 := hf [(-70, 0), (1, 2)] (by decide)
  have f4 := hf [(70, 0), (-1, 2)] (by decide)
  have f5 := hf [(1, 8)] (by decide)
  have f6 := hf [(6, 0), (-1, 8)] (by decide)
  have f7 := hf [(1, 1), (-1, 8)] (by decide)
  have f8 := hf [(-1, 1), (1, 8)] (by decide)
  simp only [qD, h0] at f0 f1 f2 f3 f4 f5 f6 f7 f8
  have m0 : M 4 100 = 1 * ρ 9 + 0 := hm (4, 100, [(1, 9)]) (by decide)
  have m1 : M 4 230 = 1 * ρ 0 + 0 := hm (4, 230, [(1, 0)]) (by decide)
  have m2 : M 4 231 = 1 * ρ 1 + 0 := hm (4, 231, [(1, 1)]) (by decide)
  have m3 : M 4 232 = 1 * ρ 2 + 0 := hm (4, 232, [(1, 2)]) (by decide)
  have m4 : M 3 45 = 1 * ρ 3 + 0 := hm (3, 45, [(1, 3)]) (by decide)
  have m5 : M 3 20 = 1 * ρ 6 + 0 := hm (3, 20, [(1, 6)]) (by decide)
  have m6 : M 3 48 = 1 * ρ 7 + 0 := hm (3, 48, [(1, 7)]) (by decide)
  have m7 : M 3 25 = 1 * ρ 8 + 0 := hm (3, 25, [(1, 8)]) (by decide)
  simp only [h0] at m1
  have hfi := tre_fi (gx_xS3 hI (by omega)) (by rw [show tCf M 0 = M 3 20 from rfl]; omega)
  have hf2 : M 3 48 = tFo (tCf M) (M 3 45) := hfi.1
  unfold tFo at hf2
  have ec : tCf M 0 = M 3 20 := rfl
  rw [ec] at hf2
  rw [if_pos (by omega)] at hf2
  have hf3 : M 3 48 = tFi (fun j => M 3 (70 + j)) (M 3 45) (M 3 25).toNat := by
    rw [hf2]
    exact tfi_cg (fun j hj => by have hj2 : j < (M 3 25).toNat := hj; show (if 50 + j < 70 then M 3 (20 + (50 + j)) else 0) = M 3 (70 + j); rw [if_pos (by omega), show 20 + (50 + j) = 70 + j by omega])
  obtain ⟨b1, b2⟩ := gx_xS6 hI (by omega)
  rw [show (M 4 232).toNat = 70 by omega] at b2

  rw [show (M 4 231).toNat = (M 3 25).toNat by omega] at b2
  refine ⟨ρ, fun _ _ => rfl, fun f h => ?_, ?_⟩
  · have h : f ∈ ([[(1, 0), (1, 7)], [(-1, 0), (-1, 7)]] : List qF) := h
    simp only [List.mem_cons, List.not_mem_nil, or_false] at h
    rcases h with rfl | rfl
    · show 0 ≤ 1 * ρ 0 + (1 * ρ 7 + 0)
      (try rw [h0]); omega
    · show 0 ≤ -1 * ρ 0 + (-1 * ρ 7 + 0)
      (try rw [h0]); omega
  · show sI M
    exact hI
-- sHitS
def xr_317 : qRu := (10, [[(-1, 0), (1, 9)], [(-10, 0), (1, 6)], [(10, 0), (-1, 6)], [(-80, 0), (1, 2)], [(80, 0), (-1, 2)], [(1, 8)], [(3, 0), (-1, 8)], [(-1, 1), (-1, 2), (1, 4)], [(1, 1), (1, 2), (-1, 4)], [(-1, 3), (1, 5)], [(1, 3), (-1, 5)], [(-1, 0), (-1, 1), (1, 8)]], [(4, 100, [(1, 9)]), (4, 230, [(1, 0)]), (4, 231, [(1, 1)]), (4, 232, [(1, 2)]), (3, 45, [(1, 3)]), (3, 20, [(1, 6)]), (3, 48, [(1, 7)]), (3, 26, [(1, 8)]), (3, 1004, [(1, 5)])], [], [], [[(-1, 1), (1, 7)], [(1, 1), (-1, 7)]])
theorem xo_317 : qRok xr_317 := by
  intro ρ M h0 hf hm hI
  have f0 := hf [(-1, 0), (1, 9)] (by decide)
  have f1 := hf [(-10, 0), (1, 6)] (by decide)
  have f2 := hf [(10, 0), (-1, 6)] (by decide)
  have f3 := hf [(-80, 0), (1, 2)] (by decide)
  have f4 := hf [(80, 0), (-1, 2)] (by decide)
  have f5 := hf [(1, 8)] (by decide)
  have f6 := hf [(3, 0), (-1, 8)] (by decide)
  have f7 := hf [(-1, 1), (-1, 2), (1, 4)] (by decide)
  have f8 := hf [(1, 1), (1, 2), (-1, 4)] (by decide)
  have f9 := hf [(-1, 3), (1, 5)] (by decide)
  have f10 := hf [(1, 3), (-1, 5)] (by decide)
  have f11 := hf [(-1, 0), (-1, 1), (1, 8)] (by decide)
  simp only [qD, h0] at f0 f1 f2 f3 f4 f5 f6 f7 f8 f9 f10 f11
  have m0 : M 4 100 = 1 * ρ 9 + 0 := hm (4, 100, [(1, 9)]) (by decide)
  have m1 : M 4 230 = 1 * ρ 0 + 0 := hm (4, 230, [(1, 0)]) (by decide)
  have m2 : M 4 231 = 1 * ρ 1 + 0 := hm (4, 231, [(1, 1)]) (by decide)
  have m3 : M 4 232 = 1 * ρ 2 + 0 := hm (4, 232, [(1, 2)]) (by decide)
  have m4 : M 3 45 = 1 * ρ 3 + 0 := hm (3, 45, [(1, 3)]) (by decide)
  have m5 : M 3 20 = 1 * ρ 6 + 0 := hm (3, 20, [(1, 6)]) (by decide)
  have m6 : M 3 48 = 1 * ρ 7 + 0 := hm (3, 48, [(1, 7)]) (by decide)
  have m7 : M 3 26 = 1 * ρ 8 + 0 := hm (3, 26, [(1, 8)]) (by decide)
  have m8 : M 3 (zIx ρ (1000 + 4)) = 1 * ρ 5 + 0 := hm (3, 1004, [(1, 5)]) (by decide)
  rw [zix_p] at m8
  simp only [h0] at m1
  have hfi := tre_fi (gx_xS3 hI (by omega)) (by rw [show tCf M 0 = M 3 20 from rfl]; omega)
  have hf2 : M 3 48 = tFo (tCf M) (M 3 45) := hfi.1
  unfold tFo at hf2
  have ec : tCf M 0 = M 3 20 := rfl
  rw [ec] at hf2
  rw [if_neg (by omega), if_pos (by omega)] at hf2
  have hf3 : M 3 48 = tFi (fun j => M 3 (80 + j)) (M 3 45) (M 3 26).toNat := by
    rw [hf2]
    exact tfi_cg (fun j hj => by have hj2 : j < (M 3 26).toNat := hj; show (if 60 + j < 70 then M 3 (20 + (60 + j)) else 0) = M 3 (80 + j); rw [if_pos (by omega), show 20 + (60 + j) = 80 + j by omega])
  obtain ⟨b1, b2⟩ := gx_xS6 hI (by omega)
  rw [show (M 4 232).toNat = 80 by omega] at b2

  have hh := tfi_hit b2 (show M 3 (80 + (M 4 231).toNat) = M 3 45 by rw [show 80 + (M 4 231).toNat = (ρ 4).toNat by omega]; omega) (M 3 26).toNat (by omega)
  refine ⟨ρ, fun _ _ => rfl, fun f h => ?_, ?_⟩
  · have h : f ∈ ([[(-1, 1), (1, 7)], [(1, 1), (-1, 7)]] : List qF) := h
    simp only [List.mem_cons, List.not_mem_nil, or_false] at h
    rcases h with rfl | rfl
    · show 0 ≤ -1 * ρ 1 + (1 * ρ 7 + 0)
      (try rw [h0]); omega
    · show 0 ≤ 1 * ρ 1 + (-1 * ρ 7 + 0)
      (try rw [h0]); omega
  · show sI M
    exact hI
-- sNoneS
def xr_318 : qRu := (10, [[(-1, 0), (1, 9)], [(-10, 0), (1, 6)], [(10, 0), (-1, 6)], [(-80, 0), (1, 2)], [(80, 0), (-1, 2)], [(1, 8)], [(3, 0), (-1, 8)], [(1, 1), (-1, 8)], [(-1, 1), (1, 8)]], [(4, 100, [(1, 9)]), (4, 230, [(1, 0)]), (4, 231, [(1, 1)]), (4, 232, [(1, 2)]), (3, 45, [(1, 3)]), (3, 20, [(1, 6)]), (3, 48, [(1, 7)]), (3, 26, [(1, 8)])], [], [], [[(1, 0), (1, 7)], [(-1, 0), (-1, 7)]])
theorem xo_318 : qRok xr_318 := by
  intro ρ M h0 hf hm hI
  have f0 := hf [(-1, 0), (1, 9)] (by decide)
  have f1 := hf [(-10, 0), (1, 6)] (by decide)
  have f2 := hf [(10, 0), (-1, 6)] (by decide)
  have f3 := hf [(-80, 0), (1, 2)] (by decide)
  have f4 := hf [(80, 0), (-1, 2)] (by decide)
  have f5 := hf [(1, 8)] (by decide)
  have f6 := hf [(3, 0), (-1, 8)] (by decide)
  have f7 := hf [(1, 1), (-1, 8)] (by decide)
  have f8 := hf [(-1, 1), (1, 8)] (by decide)
  simp only [qD, h0] at f0 f1 f2 f3 f4 f5 f6 f7 f8
  have m0 : M 4 100 = 1 * ρ 9 + 0 := hm (4, 100, [(1, 9)]) (by decide)
  have m1 : M 4 230 = 1 * ρ 0 + 0 := hm (4, 230, [(1, 0)]) (by decide)
  have m2 : M 4 231 = 1 * ρ 1 + 0 := hm (4, 231, [(1, 1)]) (by decide)
  have m3 : M 4 232 = 1 * ρ 2 + 0 := hm (4, 232, [(1, 2)]) (by decide)
  have m4 : M 3 45 = 1 * ρ 3 + 0 := hm (3, 45, [(1, 3)]) (by decide)
  have m5 : M 3 20 = 1 * ρ 6 + 0 := hm (3, 20, [(1, 6)]) (by decide)
  have m6 : M 3 48 = 1 * ρ 7 + 0 := hm (3, 48, [(1, 7)]) (by decide)
  have m7 : M 3 26 = 1 * ρ 8 + 0 := hm (3, 26, [(1, 8)]) (by decide)
  simp only [h0] at m1
  have hfi := tre_fi (gx_xS3 hI (by omega)) (by rw [show tCf M 0 = M 3 20 from rfl]; omega)
  have hf2 : M 3 48 = tFo (tCf M) (M 3 45) := hfi.1
  unfold tFo at hf2
  have ec : tCf M 0 = M 3 20 := rfl
  rw [ec] at hf2
  rw [if_neg (by omega), if_pos (by omega)] at hf2
  have hf3 : M 3 48 = tFi (fun j => M 3 (80 + j)) (M 3 45) (M 3 26).toNat := by
    rw [hf2]
    exact tfi_cg (fun j hj => by have hj2 : j < (M 3 26).toNat := hj; show (if 60 + j < 70 then M 3 (20 + (60 + j)) else 0) = M 3 (80 + j); rw [if_pos (by omega), show 20 + (60 + j) = 80 + j by omega])
  obtain ⟨b1, b2⟩ := gx_xS6 hI (by omega)
  rw [show (M 4 232).toNat = 80 by omega] at b2

  rw [show (M 4 231).toNat = (M 3 26).toNat by omega] at b2
  refine ⟨ρ, fun _ _ => rfl, fun f h => ?_, ?_⟩
  · have h : f ∈ ([[(1, 0), (1, 7)], [(-1, 0), (-1, 7)]] : List qF) := h
    simp only [List.mem_cons, List.not_mem_nil, or_false] at h
    rcases h with rfl | rfl
    · show 0 ≤ 1 * ρ 0 + (1 * ρ 7 + 0)
      (try rw [h0]); omega
    · show 0 ≤ -1 * ρ 0 + (-1 * ρ 7 + 0)
      (try rw [h0]); omega
  · show sI M
    exact hI
-- sHitB13
def xr_319 : qRu := (10, [[(-1, 0), (1, 9)], [(-13, 0), (1, 6)], [(13, 0), (-1, 6)], [(-60, 0), (1, 2)], [(60, 0), (-1, 2)], [(1, 8)], [(9, 0), (-1, 8)], [(-1, 1), (-1, 2), (1, 4)], [(1, 1), (1, 2), (-1, 4)], [(-1, 3), (1, 5)], [(1, 3), (-1, 5)], [(-1, 0), (-1, 1), (1, 8)]], [(4, 100, [(1, 9)]), (4, 230, [(1, 0)]), (4, 231, [(1, 1)]), (4, 232, [(1, 2)]), (3, 45, [(1, 3)]), (3, 20, [(1, 6)]), (3, 48, [(1, 7)]), (3, 24, [(1, 8)]), (3, 1004, [(1, 5)])], [], [], [[(-1, 1), (1, 7)], [(1, 1), (-1, 7)]])
theorem xo_319 : qRok xr_319 := by
  intro ρ M h0 hf hm hI
  have f0 := hf [(-1, 0), (1, 9)] (by decide)
  have f1 := hf [(-13, 0), (1, 6)] (by decide)
  have f2 := hf [(13, 0), (-1, 6)] (by decide)
  have f3 := hf [(-60, 0), (1, 2)] (by decide)
  have f4 := hf [(60, 0), (-1, 2)] (by decide)
  have f5 := hf [(1, 8)] (by decide)
  have f6 := hf [(9, 0), (-1, 8)] (by decide)
  have f7 := hf [(-1, 1), (-1, 2), (1, 4)] (by decide)
  have f8 := hf [(1, 1), (1, 2), (-1, 4)] (by decide)
  have f9 := hf [(-1, 3), (1, 5)] (by decide)
  have f10 := hf [(1, 3), (-1, 5)] (by decide)
  have f11 := hf [(-1, 0), (-1, 1), (1, 8)] (by decide)
  simp only [qD, h0] at f0 f1 f2 f3 f4 f5 f6 f7 f8 f9 f10 f11
  have m0 : M 4 100 = 1 * ρ 9 + 0 := hm (4, 100, [(1, 9)]) (by decide)
  have m1 : M 4 230 = 1 * ρ 0 + 0 := hm (4, 230, [(1, 0)]) (by decide)
  have m2 : M 4 231 = 1 * ρ 1 + 0 := hm (4, 231, [(1, 1)]) (by decide)
  have m3 : M 4 232 = 1 * ρ 2 + 0 := hm (4, 232, [(1, 2)]) (by decide)
  have m4 : M 3 45 = 1 * ρ 3 + 0 := hm (3, 45, [(1, 3)]) (by decide)
  have m5 : M 3 20 = 1 * ρ 6 + 0 := hm (3, 20, [(1, 6)]) (by decide)
  have m6 : M 3 48 = 1 * ρ 7 + 0 := hm (3, 48, [(1, 7)]) (by decide)
  have m7 : M 3 24 = 1 * ρ 8 + 0 := hm (3, 24, [(1, 8)]) (by decide)
  have m8 : M 3 (zIx ρ (1000 + 4)) = 1 * ρ 5 + 0 := hm (3, 1004, [(1, 5)]) (by decide)
  rw [zix_p] at m8
  simp only [h0] at m1
  have hfi := tre_fi (gx_xS3 hI (by omega)) (by rw [show tCf M 0 = M 3 20 from rfl]; omega)
  have hf2 : M 3 48 = tFo (tCf M) (M 3 45) := hfi.1
  unfold tFo at hf2
  have ec : tCf M 0 = M 3 20 := rfl
  rw [ec] at hf2
  rw [if_neg (by omega), if_neg (by omega)] at hf2
  have hf3 : M 3 48 = tFi (fun j => M 3 (60 + j)) (M 3 45) (M 3 24).toNat := by
    rw [hf2]
    exact tfi_cg (fun j hj => by have hj2 : j < (M 3 24).toNat := hj; show (if 40 + j < 70 then M 3 (20 + (40 + j)) else 0) = M 3 (60 + j); rw [if_pos (by omega), show 20 + (40 + j) = 60 + j by omega])
  obtain ⟨b1, b2⟩ := gx_xS6 hI (by omega)
  rw [show (M 4 232).toNat = 60 by omega] at b2

  have hh := tfi_hit b2 (show M 3 (60 + (M 4 231).toNat) = M 3 45 by rw [show 60 + (M 4 231).toNat = (ρ 4).toNat by omega]; omega) (M 3 24).toNat (by omega)
  refine ⟨ρ, fun _ _ => rfl, fun f h => ?_, ?_⟩
  · have h : f ∈ ([[(-1, 1), (1, 7)], [(1, 1), (-1, 7)]] : List qF) := h
    simp only [List.mem_cons, List.not_mem_nil, or_false] at h
    rcases h with rfl | rfl
    · show 0 ≤ -1 * ρ 1 + (1 * ρ 7 + 0)
      (try rw [h0]); omega
    · show 0 ≤ 1 * ρ 1 + (-1 * ρ 7 + 0)
      (try rw [h0]); omega
  · show sI M
    exact hI
-- sNoneB13
def xr_320 : qRu := (10, [[(-1, 0), (1, 9)], [(-13, 0), (1, 6)], [(13, 0), (-1, 6)], [(-60, 0), (1, 2)], [(60, 0), (-1, 2)], [(1, 8)], [(9, 0), (-1, 8)], [(1, 1), (-1, 8)], [(-1, 1), (1, 8)]], [(4, 100, [(1, 9)]), (4, 230, [(1, 0)]), (4, 231, [(1, 1)]), (4, 232, [(1, 2)]), (3, 45, [(1, 3)]), (3, 20, [(1, 6)]), (3, 48, [(1, 7)]), (3, 24, [(1, 8)])], [], [], [[(1, 0), (1, 7)], [(-1, 0), (-1, 7)]])
theorem xo_320 : qRok xr_320 := by
  intro ρ M h0 hf hm hI
  have f0 := hf [(-1, 0), (1, 9)] (by decide)
  have f1 := hf [(-13, 0), (1, 6)] (by decide)
  have f2 := hf [(13, 0), (-1, 6)] (by decide)
  have f3 := hf [(-60, 0), (1, 2)] (by decide)
  have f4 := hf [(60, 0), (-1, 2)] (by decide)
  have f5 := hf [(1, 8)] (by decide)
  have f6 := hf [(9, 0), (-1, 8)] (by decide)
  have f7 := hf [(1, 1), (-1, 8)] (by decide)
  have f8 := hf [(-1, 1), (1, 8)] (by decide)
  simp only [qD, h0] at f0 f1 f2 f3 f4 f5 f6 f7 f8
  have m0 : M 4 100 = 1 * ρ 9 + 0 := hm (4, 100, [(1, 9)]) (by decide)
  have m1 : M 4 230 = 1 * ρ 0 + 0 := hm (4, 230, [(1, 0)]) (by decide)
  have m2 : M 4 231 = 1 * ρ 1 + 0 := hm (4, 231, [(1, 1)]) (by decide)
  have m3 : M 4 232 = 1 * ρ 2 + 0 := hm (4, 232, [(1, 2)]) (by decide)
  have m4 : M 3 45 = 1 * ρ 3 + 0 := hm (3, 45, [(1, 3)]) (by decide)
  have m5 : M 3 20 = 1 * ρ 6 + 0 := hm (3, 20, [(1, 6)]) (by decide)
  have m6 : M 3 48 = 1 * ρ 7 + 0 := hm (3, 48, [(1, 7)]) (by decide)
  have m7 : M 3 24 = 1 * ρ 8 + 0 := hm (3, 24, [(1, 8)]) (by decide)
  simp only [h0] at m1
  have hfi := tre_fi (gx_xS3 hI (by omega)) (by rw [show tCf M 0 = M 3 20 from rfl]; omega)
  have hf2 : M 3 48 = tFo (tCf M) (M 3 45) := hfi.1
  unfold tFo at hf2
  have ec : tCf M 0 = M 3 20 := rfl
  rw [ec] at hf2
  rw [if_neg (by omega), if_neg (by omega)] at hf2
  have hf3 : M 3 48 = tFi (fun j => M 3 (60 + j)) (M 3 45) (M 3 24).toNat := by
    rw [hf2]
    exact tfi_cg (fun j hj => by have hj2 : j < (M 3 24).toNat := hj; show (if 40 + j < 70 then M 3 (20 + (40 + j)) else 0) = M 3 (60 + j); rw [if_pos (by omega), show 20 + (40 + j) = 60 + j by omega])
  obtain ⟨b1, b2⟩ := gx_xS6 hI (by omega)
  rw [show (M 4 232).toNat = 60 by omega] at b2

  rw [show (M 4 231).toNat = (M 3 24).toNat by omega] at b2
  refine ⟨ρ, fun _ _ => rfl, fun f h => ?_, ?_⟩
  · have h : f ∈ ([[(1, 0), (1, 7)], [(-1, 0), (-1, 7)]] : List qF) := h
    simp only [List.mem_cons, List.not_mem_nil, or_false] at h
    rcases h with rfl | rfl
    · show 0 ≤ 1 * ρ 0 + (1 * ρ 7 + 0)
      (try rw [h0]); omega
    · show 0 ≤ -1 * ρ 0 + (-1 * ρ 7 + 0)
      (try rw [h0]); omega
  · show sI M
    exact hI
-- sHitB14
def xr_321 : qRu := (10, [[(-1, 0), (1, 9)], [(-14, 0), (1, 6)], [(14, 0), (-1, 6)], [(-60, 0), (1, 2)], [(60, 0), (-1, 2)], [(1, 8)], [(9, 0), (-1, 8)], [(-1, 1), (-1, 2), (1, 4)], [(1, 1), (1, 2), (-1, 4)], [(-1, 3), (1, 5)], [(1, 3), (-1, 5)], [(-1, 0), (-1, 1), (1, 8)]], [(4, 100, [(1, 9)]), (4, 230, [(1, 0)]), (4, 231, [(1, 1)]), (4, 232, [(1, 2)]), (3, 45, [(1, 3)]), (3, 20, [(1, 6)]), (3, 48, [(1, 7)]), (3, 24, [(1, 8)]), (3, 1004, [(1, 5)])], [], [], [[(-1, 1), (1, 7)], [(1, 1), (-1, 7)]])
theorem xo_321 : qRok xr_321 := by
  intro ρ M h0 hf hm hI
  have f0 := hf [(-1, 0), (1, 9)] (by decide)
  have f1 := hf [(-14, 0), (1, 6)] (by decide)
  have f2 := hf [(14, 0), (-1, 6)] (by decide)
  have f3 := hf [(-60, 0), (1, 2)] (by decide)
  have f4 := hf [(60, 0), (-1, 2)] (by decide)
  have f5 := hf [(1, 8)] (by decide)
  have f6 := hf [(9, 0), (-1, 8)] (by decide)
  have f7 := hf [(-1, 1), (-1, 2), (1, 4)] (by decide)
  have f8 := hf [(1, 1), (1, 2), (-1, 4)] (by decide)
  have f9 := hf [(-1, 3), (1, 5)] (by decide)
  have f10 := hf [(1, 3), (-1, 5)] (by decide)
  have f11 := hf [(-1, 0), (-1, 1), (1, 8)] (by decide)
  simp only [qD, h0] at f0 f1 f2 f3 f4 f5 f6 f7 f8 f9 f10 f11
  have m0 : M 4 100 = 1 * ρ 9 + 0 := hm (4, 100, [(1, 9)]) (by decide)
  have m1 : M 4 230 = 1 * ρ 0 + 0 := hm (4, 230, [(1, 0)]) (by decide)
  have m2 : M 4 231 = 1 * ρ 1 + 0 := hm (4, 231, [(1, 1)]) (by decide)
  have m3 : M 4 232 = 1 * ρ 2 + 0 := hm (4, 232, [(1, 2)]) (by decide)
  have m4 : M 3 45 = 1 * ρ 3 + 0 := hm (3, 45, [(1, 3)]) (by decide)
  have m5 : M 3 20 = 1 * ρ 6 + 0 := hm (3, 20, [(1, 6)]) (by decide)
  have m6 : M 3 48 = 1 * ρ 7 + 0 := hm (3, 48, [(1, 7)]) (by decide)
  have m7 : M 3 24 = 1 * ρ 8 + 0 := hm (3, 24, [(1, 8)]) (by decide)
  have m8 : M 3 (zIx ρ (1000 + 4)) = 1 * ρ 5 + 0 := hm (3, 1004, [(1, 5)]) (by decide)
  rw [zix_p] at m8
  simp only [h0] at m1
  have hfi := tre_fi (gx_xS3 hI (by omega)) (by rw [show tCf M 0 = M 3 20 from rfl]; omega)
  have hf2 : M 3 48 = tFo (tCf M) (M 3 45) := hfi.1
  unfold tFo at hf2
  have ec : tCf M 0 = M 3 20 := rfl
  rw [ec] at hf2
  rw [if_neg (by omega), if_neg (by omega)] at hf2
  have hf3 : M 3 48 = tFi (fun j => M 3 (60 + j)) (M 3 45) (M 3 24).toNat := by
    rw [hf2]
    exact tfi_cg (fun j hj => by have hj2 : j < (M 3 24).toNat := hj; show (if 40 + j < 70 then M 3 (20 + (40 + j)) else 0) = M 3 (60 + j); rw [if_pos (by omega), show 20 + (40 + j) = 60 + j by omega])
  obtain ⟨b1, b2⟩ := gx_xS6 hI (by omega)
  rw [show (M 4 232).toNat = 60 by omega] at b2

  have hh := tfi_hit b2 (show M 3 (60 + (M 4 231).toNat) = M 3 45 by rw [show 60 + (M 4 231).toNat = (ρ 4).toNat by omega]; omega) (M 3 24).toNat (by omega)
  refine ⟨ρ, fun _ _ => rfl, fun f h => ?_, ?_⟩
  · have h : f ∈ ([[(-1, 1), (1, 7)], [(1, 1), (-1, 7)]] : List qF) := h
    simp only [List.mem_cons, List.not_mem_nil, or_false] at h
    rcases h with rfl | rfl
    · show 0 ≤ -1 * ρ 1 + (1 * ρ 7 + 0)
      (try rw [h0]); omega
    · show 0 ≤ 1 * ρ 1 + (-1 * ρ 7 + 0)
      (try rw [h0]); omega
  · show sI M
    exact hI
-- sNoneB14
def xr_322 : qRu := (10, [[(-1, 0), (1, 9)], [(-14, 0), (1, 6)], [(14, 0), (-1, 6)], [(-60, 0), (1, 2)], [(60, 0), (-1, 2)], [(1, 8)], [(9, 0), (-1, 8)], [(1, 1), (-1, 8)], [(-1, 1), (1, 8)]], [(4, 100, [(1, 9)]), (4, 230, [(1, 0)]), (4, 231, [(1, 1)]), (4, 232, [(1, 2)]), (3, 45, [(1, 3)]), (3, 20, [(1, 6)]), (3, 48, [(1, 7)]), (3, 24, [(1, 8)])], [], [], [[(1, 0), (1, 7)], [(-1, 0), (-1, 7)]])
theorem xo_322 : qRok xr_322 := by
  intro ρ M h0 hf hm hI
  have f0 := hf [(-1, 0), (1, 9)] (by decide)
  have f1 := hf [(-14, 0), (1, 6)] (by decide)
  have f2 := hf [(14, 0), (-1, 6)] (by decide)
  have f3 := hf [(-60, 0), (1, 2)] (by decide)
  have f4 := hf [(60, 0), (-1, 2)] (by decide)
  have f5 := hf [(1, 8)] (by decide)
  have f6 := hf [(9, 0), (-1, 8)] (by decide)
  have f7 := hf [(1, 1), (-1, 8)] (by decide)
  have f8 := hf [(-1, 1), (1, 8)] (by decide)
  simp only [qD, h0] at f0 f1 f2 f3 f4 f5 f6 f7 f8
  have m0 : M 4 100 = 1 * ρ 9 + 0 := hm (4, 100, [(1, 9)]) (by decide)
  have m1 : M 4 230 = 1 * ρ 0 + 0 := hm (4, 230, [(1, 0)]) (by decide)
  have m2 : M 4 231 = 1 * ρ 1 + 0 := hm (4, 231, [(1, 1)]) (by decide)
  have m3 : M 4 232 = 1 * ρ 2 + 0 := hm (4, 232, [(1, 2)]) (by decide)
  have m4 : M 3 45 = 1 * ρ 3 + 0 := hm (3, 45, [(1, 3)]) (by decide)
  have m5 : M 3 20 = 1 * ρ 6 + 0 := hm (3, 20, [(1, 6)]) (by decide)
  have m6 : M 3 48 = 1 * ρ 7 + 0 := hm (3, 48, [(1, 7)]) (by decide)
  have m7 : M 3 24 = 1 * ρ 8 + 0 := hm (3, 24, [(1, 8)]) (by decide)
  simp only [h0] at m1
  have hfi := tre_fi (gx_xS3 hI (by omega)) (by rw [show tCf M 0 = M 3 20 from rfl]; omega)
  have hf2 : M 3 48 = tFo (tCf M) (M 3 45) := hfi.1
  unfold tFo at hf2
  have ec : tCf M 0 = M 3 20 := rfl
  rw [ec] at hf2
  rw [if_neg (by omega), if_neg (by omega)] at hf2
  have hf3 : M 3 48 = tFi (fun j => M 3 (60 + j)) (M 3 45) (M 3 24).toNat := by
    rw [hf2]
    exact tfi_cg (fun j hj => by have hj2 : j < (M 3 24).toNat := hj; show (if 40 + j < 70 then M 3 (20 + (40 + j)) else 0) = M 3 (60 + j); rw [if_pos (by omega), show 20 + (40 + j) = 60 + j by omega])
  obtain ⟨b1, b2⟩ := gx_xS6 hI (by omega)
  rw [show (M 4 232).toNat = 60 by omega] at b2

  rw [show (M 4 231).toNat = (M 3 24).toNat by omega] at b2
  refine ⟨ρ, fun _ _ => rfl, fun f h => ?_, ?_⟩
  · have h : f ∈ ([[(1, 0), (1, 7)], [(-1, 0), (-1, 7)]] : List qF) := h
    simp only [List.mem_cons, List.not_mem_nil, or_false] at h
    rcases h with rfl | rfl
    · show 0 ≤ 1 * ρ 0 + (1 * ρ 7 + 0)
      (try rw [h0]); omega
    · show 0 ≤ -1 * ρ 0 + (-1 * ρ 7 + 0)
      (try rw [h0]); omega
  · show sI M
    exact hI
-- bitD
def xr_323 : qRu := (6, [[(-1, 0), (1, 5)], [(-13, 0), (1, 4)], [(13, 0), (-1, 4)]], [(4, 100, [(1, 5)]), (3, 20, [(1, 4)]), (3, 35, [(1, 1)]), (3, 48, [(1, 2)]), (3, 49, [(1, 3)])], [], [(91, 249, [(1, 0)]), (91, 250, [(1, 1)]), (91, 251, [(1, 2)]), (91, 252, [(1, 6)]), (91, 253, [(1, 3)]), (91, 255, []), (91, 256, [(1, 7)]), (91, 257, [(1, 8)])], [[(1, 3)], [(1, 0), (-1, 3)]])
theorem xo_323 : qRok xr_323 := by
  intro ρ M h0 hf hm hI
  have f0 := hf [(-1, 0), (1, 5)] (by decide)
  have f1 := hf [(-13, 0), (1, 4)] (by decide)
  have f2 := hf [(13, 0), (-1, 4)] (by decide)
  simp only [qD, h0] at f0 f1 f2
  have m0 : M 4 100 = 1 * ρ 5 + 0 := hm (4, 100, [(1, 5)]) (by decide)
  have m1 : M 3 20 = 1 * ρ 4 + 0 := hm (3, 20, [(1, 4)]) (by decide)
  have m2 : M 3 35 = 1 * ρ 1 + 0 := hm (3, 35, [(1, 1)]) (by decide)
  have m3 : M 3 48 = 1 * ρ 2 + 0 := hm (3, 48, [(1, 2)]) (by decide)
  have m4 : M 3 49 = 1 * ρ 3 + 0 := hm (3, 49, [(1, 3)]) (by decide)
  have qxSE := hI.2.2.2.2.2.2.2.2.2.2.2.2.2.2.2.2.2.2.2.2.2.2.2.2.2.2.2.2.2.2.2.2.2.2.2.2.1
  have hfi := tre_fi (gx_xS3 hI (by omega)) (by rw [show tCf M 0 = M 3 20 from rfl]; omega)
  have hb3 : M 3 49 = tBi (tCf M) (M 3 48) := hfi.2
  unfold tBi at hb3
  have ec : tCf M 0 = M 3 20 := rfl
  rw [ec] at hb3
  rw [if_pos (by omega)] at hb3
  have hb3 : M 3 49 = xop 1 (xop 0 (M 3 35) (M 3 48)) 1 := hb3
  have hz : 0 ≤ xop 1 (xop 0 (M 3 35) (M 3 48)) 1 ∧ xop 1 (xop 0 (M 3 35) (M 3 48)) 1 ≤ 1 := zn_and (Int32.ofInt (xop 0 (M 3 35) (M 3 48))) (m := 1) (by decide) (by decide)
  refine ⟨fun a => cond (Nat.blt a 6) (ρ a) (([xop 0 (M 3 35) (M 3 48), xop 1 0 (M 91 243), xop 1 (xop 0 (M 3 35) (M 3 48)) 255] : List Int).getD (a - 6) 0), fun a ha => ?_, fun f h => ?_, ?_⟩
  · show cond (Nat.blt a 6) (ρ a) _ = ρ a
    rw [show Nat.blt a 6 = true from Nat.ble_eq_true_of_le ha]; rfl
  · have h : f ∈ ([[(1, 3)], [(1, 0), (-1, 3)]] : List qF) := h
    simp only [List.mem_cons, List.not_mem_nil, or_false] at h
    rcases h with rfl | rfl
    · show 0 ≤ 1 * ρ 3 + 0
      (try rw [h0]); omega
    · show 0 ≤ 1 * ρ 0 + (-1 * ρ 3 + 0)
      (try rw [h0]); omega
  · show sI (sU (sU (sU (sU (sU (sU (sU (sU M 91 249 (1 * ρ 0 + 0)) 91 250 (1 * ρ 1 + 0)) 91 251 (1 * ρ 2 + 0)) 91 252 (1 * (xop 0 (M 3 35) (M 3 48)) + 0)) 91 253 (1 * ρ 3 + 0)) 91 255 (0)) 91 256 (1 * (xop 1 0 (M 91 243)) + 0)) 91 257 (1 * (xop 1 (xop 0 (M 3 35) (M 3 48)) 255) + 0))
    obtain ⟨W, hW⟩ : ∃ W, W = (sU (sU (sU (sU (sU (sU (sU (sU M 91 249 (1 * ρ 0 + 0)) 91 250 (1 * ρ 1 + 0)) 91 251 (1 * ρ 2 + 0)) 91 252 (1 * (xop 0 (M 3 35) (M 3 48)) + 0)) 91 253 (1 * ρ 3 + 0)) 91 255 (0)) 91 256 (1 * (xop 1 0 (M 91 243)) + 0)) 91 257 (1 * (xop 1 (xop 0 (M 3 35) (M 3 48)) 255) + 0)) := ⟨_, rfl⟩
    rw [← hW]
    have base : sI0 W := by
      rw [hW]
      exact (si_u0 (si_u0 (si_u0 (si_u0 (si_u0 (si_u0 (si_u0 (si_u0 hI.1 (fun r hr => by cases hr)) (fun r hr => by cases hr)) (fun r hr => by cases hr)) (fun r hr => by cases hr)) (fun r hr => by cases hr)) (fun r hr => by cases hr)) (fun r hr => by cases hr)) (fun r hr => by cases hr))
    have k2 : XI2 W := by
      rw [hW]
      exact (xi2_u rfl (xi2_u rfl (xi2_u rfl (xi2_u rfl (xi2_u rfl (xi2_u rfl (xi2_u rfl (xi2_u rfl hI.2.1))))))))
    have k3 : XI3 W := by
      rw [hW]
      exact (xi3_u rfl (xi3_u rfl (xi3_u rfl (xi3_u rfl (xi3_u rfl (xi3_u rfl (xi3_u rfl (xi3_u rfl hI.2.2.1))))))))
    have kXA : XA W := by
      rw [hW]
      exact (uXA rfl (uXA rfl (uXA rfl (uXA rfl (uXA rfl (uXA rfl (uXA rfl (uXA rfl hI.2.2.2.1))))))))
    have k_xN1 : xN1 W := by
      rw [hW]
      exact (uxN1 rfl (uxN1 rfl (uxN1 rfl (uxN1 rfl (uxN1 rfl (uxN1 rfl (uxN1 rfl (uxN1 rfl hI.2.2.2.2.1))))))))
    have k_xN2 : xN2 W := by
      rw [hW]
      exact (uxN2 rfl (uxN2 rfl (uxN2 rfl (uxN2 rfl (uxN2 rfl (uxN2 rfl (uxN2 rfl (uxN2 rfl hI.2.2.2.2.2.1))))))))
    have k_xN3 : xN3 W := by
      rw [hW]
      exact (uxN3 rfl (uxN3 rfl (uxN3 rfl (uxN3 rfl (uxN3 rfl (uxN3 rfl (uxN3 rfl (uxN3 rfl hI.2.2.2.2.2.2.1))))))))
    have k_xN4 : xN4 W := by
      rw [hW]
      exact (uxN4 rfl (uxN4 rfl (uxN4 rfl (uxN4 rfl (uxN4 rfl (uxN4 rfl (uxN4 rfl (uxN4 rfl hI.2.2.2.2.2.2.2.1))))))))
    have k_xN5 : xN5 W := by
      rw [hW]
      exact (uxN5 rfl (uxN5 rfl (uxN5 rfl (uxN5 rfl (uxN5 rfl (uxN5 rfl (uxN5 rfl (uxN5 rfl hI.2.2.2.2.2.2.2.2.1))))))))
    have k_xN6 : xN6 W := by
      rw [hW]
      exact (uxN6 rfl (uxN6 rfl (uxN6 rfl (uxN6 rfl (uxN6 rfl (uxN6 rfl (uxN6 rfl (uxN6 rfl hI.2.2.2.2.2.2.2.2.2.1))))))))
    have k_xH1 : xH1 W := by
      rw [hW]
      exact (uxH1 rfl (uxH1 rfl (uxH1 rfl (uxH1 rfl (uxH1 rfl (uxH1 rfl (uxH1 rfl (uxH1 rfl hI.2.2.2.2.2.2.2.2.2.2.1))))))))
    have k_xK1 : xK1 W := by
      rw [hW]
      exact (uxK1 rfl (uxK1 rfl (uxK1 rfl (uxK1 rfl (uxK1 rfl (uxK1 rfl (uxK1 rfl (uxK1 rfl hI.2.2.2.2.2.2.2.2.2.2.2.1))))))))
    have k_xC1 : xC1 W := by
      rw [hW]
      exact (uxC1 rfl (uxC1 rfl (uxC1 rfl (uxC1 rfl (uxC1 rfl (uxC1 rfl (uxC1 rfl (uxC1 rfl hI.2.2.2.2.2.2.2.2.2.2.2.2.1))))))))
    have k_xRW : xRW W := by
      rw [hW]
      exact (uxRW rfl (uxRW rfl (uxRW rfl (uxRW rfl (uxRW rfl (uxRW rfl (uxRW rfl (uxRW rfl hI.2.2.2.2.2.2.2.2.2.2.2.2.2.1))))))))
    have k_xWT : xWT W := by
      rw [hW]
      exact (uxWT rfl (uxWT rfl (uxWT rfl (uxWT rfl (uxWT rfl (uxWT rfl (uxWT rfl (uxWT rfl hI.2.2.2.2.2.2.2.2.2.2.2.2.2.2.1))))))))
    have k_xCU : xCU W := by
      rw [hW]
      exact (uxCU rfl (uxCU rfl (uxCU rfl (uxCU rfl (uxCU rfl (uxCU rfl (uxCU rfl (uxCU rfl hI.2.2.2.2.2.2.2.2.2.2.2.2.2.2.2.1))))))))
    have k_xG2 : xG2 W := by
      rw [hW]
      exact (uxG2 rfl (uxG2 rfl (uxG2 rfl (uxG2 rfl (uxG2 rfl (uxG2 rfl (uxG2 rfl (uxG2 rfl hI.2.2.2.2.2.2.2.2.2.2.2.2.2.2.2.2.1))))))))
    have k_xG3 : xG3 W := by
      rw [hW]
      exact (uxG3 rfl (uxG3 rfl (uxG3 rfl (uxG3 rfl (uxG3 rfl (uxG3 rfl (uxG3 rfl (uxG3 rfl hI.2.2.2.2.2.2.2.2.2.2.2.2.2.2.2.2.2.1))))))))
    have k_xG4 : xG4 W := by
      rw [hW]
      exact (uxG4 rfl (uxG4 rfl (uxG4 rfl (uxG4 rfl (uxG4 rfl (uxG4 rfl (uxG4 rfl (uxG4 rfl hI.2.2.2.2.2.2.2.2.2.2.2.2.2.2.2.2.2.2.1))))))))
    have k_xG5 : xG5 W := by
      rw [hW]
      exact (uxG5 rfl (uxG5 rfl (uxG5 rfl (uxG5 rfl (uxG5 rfl (uxG5 rfl (uxG5 rfl (uxG5 rfl hI.2.2.2.2.2.2.2.2.2.2.2.2.2.2.2.2.2.2.2.1))))))))
    have k_xG6 : xG6 W := by
      rw [hW]
      exact (uxG6 rfl (uxG6 rfl (uxG6 rfl (uxG6 rfl (uxG6 rfl (uxG6 rfl (uxG6 rfl (uxG6 rfl hI.2.2.2.2.2.2.2.2.2.2.2.2.2.2.2.2.2.2.2.2.1))))))))
    have k_xS1 : xS1 W := by
      rw [hW]
      exact (uxS1 rfl (uxS1 rfl (uxS1 rfl (uxS1 rfl (uxS1 rfl (uxS1 rfl (uxS1 rfl (uxS1 rfl hI.2.2.2.2.2.2.2.2.2.2.2.2.2.2.2.2.2.2.2.2.2.1))))))))
    have k_xS2 : xS2 W := by
      rw [hW]
      exact (uxS2 rfl (uxS2 rfl (uxS2 rfl (uxS2 rfl (uxS2 rfl (uxS2 rfl (uxS2 rfl (uxS2 rfl hI.2.2.2.2.2.2.2.2.2.2.2.2.2.2.2.2.2.2.2.2.2.2.1))))))))
    have k_xS3 : xS3 W := by
      rw [hW]
      exact (uxS3 rfl (uxS3 rfl (uxS3 rfl (uxS3 rfl (uxS3 rfl (uxS3 rfl (uxS3 rfl (uxS3 rfl hI.2.2.2.2.2.2.2.2.2.2.2.2.2.2.2.2.2.2.2.2.2.2.2.1))))))))
    have k_xS4 : xS4 W := by
      rw [hW]
      exact (uxS4 rfl (uxS4 rfl (uxS4 rfl (uxS4 rfl (uxS4 rfl (uxS4 rfl (uxS4 rfl (uxS4 rfl hI.2.2.2.2.2.2.2.2.2.2.2.2.2.2.2.2.2.2.2.2.2.2.2.2.1))))))))
    have k_xS5 : xS5 W := by
      rw [hW]
      exact (uxS5 rfl (uxS5 rfl (uxS5 rfl (uxS5 rfl (uxS5 rfl (uxS5 rfl (uxS5 rfl (uxS5 rfl hI.2.2.2.2.2.2.2.2.2.2.2.2.2.2.2.2.2.2.2.2.2.2.2.2.2.1))))))))
    have k_xS6 : xS6 W := by
      rw [hW]
      exact (uxS6 rfl (uxS6 rfl (uxS6 rfl (uxS6 rfl (uxS6 rfl (uxS6 rfl (uxS6 rfl (uxS6 rfl hI.2.2.2.2.2.2.2.2.2.2.2.2.2.2.2.2.2.2.2.2.2.2.2.2.2.2.1))))))))
    have k_xS7 : xS7 W := by
      rw [hW]
      exact (uxS7 rfl (uxS7 rfl (uxS7 rfl (uxS7 rfl (uxS7 rfl (uxS7 rfl (uxS7 rfl (uxS7 rfl hI.2.2.2.2.2.2.2.2.2.2.2.2.2.2.2.2.2.2.2.2.2.2.2.2.2.2.2.1))))))))
    have k_xS8 : xS8 W := by
      rw [hW]
      exact (uxS8 rfl (uxS8 rfl (uxS8 rfl (uxS8 rfl (uxS8 rfl (uxS8 rfl (uxS8 rfl (uxS8 rfl hI.2.2.2.2.2.2.2.2.2.2.2.2.2.2.2.2.2.2.2.2.2.2.2.2.2.2.2.2.1))))))))
    have k_xS9 : xS9 W := by
      rw [hW]
      exact (uxS9 rfl (uxS9 rfl (uxS9 rfl (uxS9 rfl (uxS9 rfl (uxS9 rfl (uxS9 rfl (uxS9 rfl hI.2.2.2.2.2.2.2.2.2.2.2.2.2.2.2.2.2.2.2.2.2.2.2.2.2.2.2.2.2.1))))))))
    have k_xSA : xSA W := by
      rw [hW]
      exact (uxSA rfl (uxSA rfl (uxSA rfl (uxSA rfl (uxSA rfl (uxSA rfl (uxSA rfl (uxSA rfl hI.2.2.2.2.2.2.2.2.2.2.2.2.2.2.2.2.2.2.2.2.2.2.2.2.2.2.2.2.2.2.1))))))))
    have k_xSG : xSG W := by
      rw [hW]
      exact (uxSG rfl (uxSG rfl (uxSG rfl (uxSG rfl (uxSG rfl (uxSG rfl (uxSG rfl (uxSG rfl hI.2.2.2.2.2.2.2.2.2.2.2.2.2.2.2.2.2.2.2.2.2.2.2.2.2.2.2.2.2.2.2.1))))))))
    have k_xSF : xSF W := by
      rw [hW]
      exact (uxSF rfl (uxSF rfl (uxSF rfl (uxSF rfl (uxSF rfl (uxSF rfl (uxSF rfl (uxSF rfl hI.2.2.2.2.2.2.2.2.2.2.2.2.2.2.2.2.2.2.2.2.2.2.2.2.2.2.2.2.2.2.2.2.1))))))))
    have k_xSB : xSB W := by
      rw [hW]
      exact (uxSB rfl (uxSB rfl (uxSB rfl (uxSB rfl (uxSB rfl (uxSB rfl (uxSB rfl (uxSB rfl hI.2.2.2.2.2.2.2.2.2.2.2.2.2.2.2.2.2.2.2.2.2.2.2.2.2.2.2.2.2.2.2.2.2.1))))))))
    have k_xSC : xSC W := by
      rw [hW]
      exact (uxSC rfl (uxSC rfl (uxSC rfl (uxSC rfl (uxSC rfl (uxSC rfl (uxSC rfl (uxSC rfl hI.2.2.2.2.2.2.2.2.2.2.2.2.2.2.2.2.2.2.2.2.2.2.2.2.2.2.2.2.2.2.2.2.2.2.1))))))))
    have k_xSD : xSD W := by
      rw [hW]
      exact (uxSD rfl (uxSD rfl (uxSD rfl (uxSD rfl (uxSD rfl (uxSD rfl (uxSD rfl (uxSD rfl hI.2.2.2.2.2.2.2.2.2.2.2.2.2.2.2.2.2.2.2.2.2.2.2.2.2.2.2.2.2.2.2.2.2.2.2.1))))))))
    have k_xSE : xSE W := by
      have r91_249 : W 91 249 = 1 * ρ 0 + 0 := by rw [hW, sU_ne (fun z => by omega), sU_ne (fun z => by omega), sU_ne (fun z => by omega), sU_ne (fun z => by omega), sU_ne (fun z => by omega), sU_ne (fun z => by omega), sU_ne (fun z => by omega), sU_at]
      have r91_250 : W 91 250 = 1 * ρ 1 + 0 := by rw [hW, sU_ne (fun z => by omega), sU_ne (fun z => by omega), sU_ne (fun z => by omega), sU_ne (fun z => by omega), sU_ne (fun z => by omega), sU_ne (fun z => by omega), sU_at]
      have r91_251 : W 91 251 = 1 * ρ 2 + 0 := by rw [hW, sU_ne (fun z => by omega), sU_ne (fun z => by omega), sU_ne (fun z => by omega), sU_ne (fun z => by omega), sU_ne (fun z => by omega), sU_at]
      have r91_252 : W 91 252 = 1 * (xop 0 (M 3 35) (M 3 48)) + 0 := by rw [hW, sU_ne (fun z => by omega), sU_ne (fun z => by omega), sU_ne (fun z => by omega), sU_ne (fun z => by omega), sU_at]
      have r91_253 : W 91 253 = 1 * ρ 3 + 0 := by rw [hW, sU_ne (fun z => by omega), sU_ne (fun z => by omega), sU_ne (fun z => by omega), sU_at]
      have r91_255 : W 91 255 = 0 := by rw [hW, sU_ne (fun z => by omega), sU_ne (fun z => by omega), sU_at]
      have r91_256 : W 91 256 = 1 * (xop 1 0 (M 91 243)) + 0 := by rw [hW, sU_ne (fun z => by omega), sU_at]
      have r91_243 : W 91 243 = M 91 243 := by rw [hW, sU_ne (fun z => by omega), sU_ne (fun z => by omega), sU_ne (fun z => by omega), sU_ne (fun z => by omega), sU_ne (fun z => by omega), sU_ne (fun z => by omega), sU_ne (fun z => by omega), sU_ne (fun z => by omega)]
      have r91_257 : W 91 257 = 1 * (xop 1 (xop 0 (M 3 35) (M 3 48)) 255) + 0 := by rw [hW, sU_at]
      intro h
      rw [r91_250, r91_251, r91_252, r91_253, r91_255, r91_256, r91_257, r91_243, show (1 * ρ 1 + 0 : Int) = M 3 35 by omega, show (1 * ρ 2 + 0 : Int) = M 3 48 by omega, show (1 * ρ 3 + 0 : Int) = M 3 49 by omega]
      refine ⟨by omega, ?_, by omega, ?_⟩
      · rw [hb3, show (1 * (xop 0 (M 3 35) (M 3 48)) + 0 : Int) = xop 0 (M 3 35) (M 3 48) by omega]
      · rw [show (1 * (xop 0 (M 3 35) (M 3 48)) + 0 : Int) = xop 0 (M 3 35) (M 3 48) by omega]
        omega
    have k_xSW : xSW W := by
      rw [hW]
      exact (uxSW rfl (uxSW rfl (uxSW rfl (uxSW rfl (uxSW rfl (uxSW rfl (uxSW rfl (uxSW rfl hI.2.2.2.2.2.2.2.2.2.2.2.2.2.2.2.2.2.2.2.2.2.2.2.2.2.2.2.2.2.2.2.2.2.2.2.2.2.1))))))))
    have k_xST : xST W := by
      rw [hW]
      exact (uxST rfl (uxST rfl (uxST rfl (uxST rfl (uxST rfl (uxST rfl (uxST rfl (uxST rfl hI.2.2.2.2.2.2.2.2.2.2.2.2.2.2.2.2.2.2.2.2.2.2.2.2.2.2.2.2.2.2.2.2.2.2.2.2.2.2.1))))))))
    have k_xSP : xSP W := by
      rw [hW]
      exact (uxSP rfl (uxSP rfl (uxSP rfl (uxSP rfl (uxSP rfl (uxSP rfl (uxSP rfl (uxSP rfl hI.2.2.2.2.2.2.2.2.2.2.2.2.2.2.2.2.2.2.2.2.2.2.2.2.2.2.2.2.2.2.2.2.2.2.2.2.2.2.2.1))))))))
    have k_xSL : xSL W := by
      rw [hW]
      exact (uxSL rfl (uxSL rfl (uxSL rfl (uxSL rfl (uxSL rfl (uxSL rfl (uxSL rfl (uxSL rfl hI.2.2.2.2.2.2.2.2.2.2.2.2.2.2.2.2.2.2.2.2.2.2.2.2.2.2.2.2.2.2.2.2.2.2.2.2.2.2.2.2.1))))))))
    have k_xSM : xSM W := by
      rw [hW]
      exact (uxSM rfl (uxSM rfl (uxSM rfl (uxSM rfl (uxSM rfl (uxSM rfl (uxSM rfl (uxSM rfl hI.2.2.2.2.2.2.2.2.2.2.2.2.2.2.2.2.2.2.2.2.2.2.2.2.2.2.2.2.2.2.2.2.2.2.2.2.2.2.2.2.2.1))))))))
    have k_xSI : xSI W := by
      rw [hW]
      exact (uxSI rfl (uxSI rfl (uxSI rfl (uxSI rfl (uxSI rfl (uxSI rfl (uxSI rfl (uxSI rfl hI.2.2.2.2.2.2.2.2.2.2.2.2.2.2.2.2.2.2.2.2.2.2.2.2.2.2.2.2.2.2.2.2.2.2.2.2.2.2.2.2.2.2.1))))))))
    have k_xD3 : xD3 W := by
      rw [hW]
      exact (uxD3 rfl (uxD3 rfl (uxD3 rfl (uxD3 rfl (uxD3 rfl (uxD3 rfl (uxD3 rfl (uxD3 rfl hI.2.2.2.2.2.2.2.2.2.2.2.2.2.2.2.2.2.2.2.2.2.2.2.2.2.2.2.2.2.2.2.2.2.2.2.2.2.2.2.2.2.2.2.1))))))))
    have k_xDV : xDV W := by
      rw [hW]
      exact (uxDV rfl (uxDV rfl (uxDV rfl (uxDV rfl (uxDV rfl (uxDV rfl (uxDV rfl (uxDV rfl hI.2.2.2.2.2.2.2.2.2.2.2.2.2.2.2.2.2.2.2.2.2.2.2.2.2.2.2.2.2.2.2.2.2.2.2.2.2.2.2.2.2.2.2.2.1))))))))
    have k_xDP : xDP W := by
      rw [hW]
      exact (uxDP rfl (uxDP rfl (uxDP rfl (uxDP rfl (uxDP rfl (uxDP rfl (uxDP rfl (uxDP rfl hI.2.2.2.2.2.2.2.2.2.2.2.2.2.2.2.2.2.2.2.2.2.2.2.2.2.2.2.2.2.2.2.2.2.2.2.2.2.2.2.2.2.2.2.2.2.1))))))))
    have k_xDE : xDE W := by
      rw [hW]
      exact (uxDE rfl (uxDE rfl (uxDE rfl (uxDE rfl (uxDE rfl (uxDE rfl (uxDE rfl (uxDE rfl hI.2.2.2.2.2.2.2.2.2.2.2.2.2.2.2.2.2.2.2.2.2.2.2.2.2.2.2.2.2.2.2.2.2.2.2.2.2.2.2.2.2.2.2.2.2.2.1))))))))
    have k_xQ5 : xQ5 W := by
      rw [hW]
      exact (uxQ5 rfl (uxQ5 rfl (uxQ5 rfl (uxQ5 rfl (uxQ5 rfl (uxQ5 rfl (uxQ5 rfl (uxQ5 rfl hI.2.2.2.2.2.2.2.2.2.2.2.2.2.2.2.2.2.2.2.2.2.2.2.2.2.2.2.2.2.2.2.2.2.2.2.2.2.2.2.2.2.2.2.2.2.2.2.1))))))))
    have k_xQL : xQL W := by
      rw [hW]
      exact (uxQL rfl (uxQL rfl (uxQL rfl (uxQL rfl (uxQL rfl (uxQL rfl (uxQL rfl (uxQL rfl hI.2.2.2.2.2.2.2.2.2.2.2.2.2.2.2.2.2.2.2.2.2.2.2.2.2.2.2.2.2.2.2.2.2.2.2.2.2.2.2.2.2.2.2.2.2.2.2.2.1))))))))
    have k_xQW : xQW W := by
      rw [hW]
      exact (uxQW rfl (uxQW rfl (uxQW rfl (uxQW rfl (uxQW rfl (uxQW rfl (uxQW rfl (uxQW rfl hI.2.2.2.2.2.2.2.2.2.2.2.2.2.2.2.2.2.2.2.2.2.2.2.2.2.2.2.2.2.2.2.2.2.2.2.2.2.2.2.2.2.2.2.2.2.2.2.2.2.1))))))))
    have k_xQM : xQM W := by
      rw [hW]
      exact (uxQM rfl (uxQM rfl (uxQM rfl (uxQM rfl (uxQM rfl (uxQM rfl (uxQM rfl (uxQM rfl hI.2.2.2.2.2.2.2.2.2.2.2.2.2.2.2.2.2.2.2.2.2.2.2.2.2.2.2.2.2.2.2.2.2.2.2.2.2.2.2.2.2.2.2.2.2.2.2.2.2.2.1))))))))
    have k_xQH : xQH W := by
      rw [hW]
      exact (uxQH rfl (uxQH rfl (uxQH rfl (uxQH rfl (uxQH rfl (uxQH rfl (uxQH rfl (uxQH rfl hI.2.2.2.2.2.2.2.2.2.2.2.2.2.2.2.2.2.2.2.2.2.2.2.2.2.2.2.2.2.2.2.2.2.2.2.2.2.2.2.2.2.2.2.2.2.2.2.2.2.2.2))))))))
    have k_XC : XC W := ⟨k_xS1, k_xS2, k_xS3, k_xS4, k_xS5, k_xS6, k_xS7, k_xS8, k_xS9, k_xSA, k_xSG, k_xSF, k_xSB, k_xSC, k_xSD, k_xSE, k_xSW, k_xST, k_xSP, k_xSL, k_xSM, k_xSI, k_xD3, k_xDV, k_xDP, k_xDE, k_xQ5, k_xQL, k_xQW, k_xQM, k_xQH⟩
    have kXB : XB W := ⟨k_xN1, k_xN2, k_xN3, k_xN4, k_xN5, k_xN6, k_xH1, k_xK1, k_xC1, k_xRW, k_xWT, k_xCU, k_xG2, k_xG3, k_xG4, k_xG5, k_xG6, k_XC⟩
    exact ⟨base, k2, k3, kXA, kXB⟩
-- bitT
def xr_324 : qRu := (6, [[(-1, 0), (1, 5)], [(-14, 0), (1, 4)], [(14, 0), (-1, 4)]], [(4, 100, [(1, 5)]), (3, 20, [(1, 4)]), (3, 36, [(1, 1)]), (3, 48, [(1, 2)]), (3, 49, [(1, 3)])], [], [(91, 249, [(1, 0)]), (91, 250, [(1, 1)]), (91, 251, [(1, 2)]), (91, 252, [(1, 6)]), (91, 253, [(1, 3)]), (91, 255, []), (91, 256, [(1, 7)]), (91, 257, [(1, 8)])], [[(1, 3)], [(1, 0), (-1, 3)]])
theorem xo_324 : qRok xr_324 := by
  intro ρ M h0 hf hm hI
  have f0 := hf [(-1, 0), (1, 5)] (by decide)
  have f1 := hf [(-14, 0), (1, 4)] (by decide)
  have f2 := hf [(14, 0), (-1, 4)] (by decide)
  simp only [qD, h0] at f0 f1 f2
  have m0 : M 4 100 = 1 * ρ 5 + 0 := hm (4, 100, [(1, 5)]) (by decide)
  have m1 : M 3 20 = 1 * ρ 4 + 0 := hm (3, 20, [(1, 4)]) (by decide)
  have m2 : M 3 36 = 1 * ρ 1 + 0 := hm (3, 36, [(1, 1)]) (by decide)
  have m3 : M 3 48 = 1 * ρ 2 + 0 := hm (3, 48, [(1, 2)]) (by decide)
  have m4 : M 3 49 = 1 * ρ 3 + 0 := hm (3, 49, [(1, 3)]) (by decide)
  have qxSE := hI.2.2.2.2.2.2.2.2.2.2.2.2.2.2.2.2.2.2.2.2.2.2.2.2.2.2.2.2.2.2.2.2.2.2.2.2.1
  have hfi := tre_fi (gx_xS3 hI (by omega)) (by rw [show tCf M 0 = M 3 20 from rfl]; omega)
  have hb3 : M 3 49 = tBi (tCf M) (M 3 48) := hfi.2
  unfold tBi at hb3
  have ec : tCf M 0 = M 3 20 := rfl
  rw [ec] at hb3
  rw [if_neg (by omega), if_pos (by omega)] at hb3
  have hb3 : M 3 49 = xop 1 (xop 0 (M 3 36) (M 3 48)) 1 := hb3
  have hz : 0 ≤ xop 1 (xop 0 (M 3 36) (M 3 48)) 1 ∧ xop 1 (xop 0 (M 3 36) (M 3 48)) 1 ≤ 1 := zn_and (Int32.ofInt (xop 0 (M 3 36) (M 3 48))) (m := 1) (by decide) (by decide)
  refine ⟨fun a => cond (Nat.blt a 6) (ρ a) (([xop 0 (M 3 36) (M 3 48), xop 1 0 (M 91 243), xop 1 (xop 0 (M 3 36) (M 3 48)) 255] : List Int).getD (a - 6) 0), fun a ha => ?_, fun f h => ?_, ?_⟩
  · show cond (Nat.blt a 6) (ρ a) _ = ρ a
    rw [show Nat.blt a 6 = true from Nat.ble_eq_true_of_le ha]; rfl
  · have h : f ∈ ([[(1, 3)], [(1, 0), (-1, 3)]] : List qF) := h
    simp only [List.mem_cons, List.not_mem_nil, or_false] at h
    rcases h with rfl | rfl
    · show 0 ≤ 1 * ρ 3 + 0
      (try rw [h0]); omega
    · show 0 ≤ 1 * ρ 0 + (-1 * ρ 3 + 0)
      (try rw [h0]); omega
  · show sI (sU (sU (sU (sU (sU (sU (sU (sU M 91 249 (1 * ρ 0 + 0)) 91 250 (1 * ρ 1 + 0)) 91 251 (1 * ρ 2 + 0)) 91 252 (1 * (xop 0 (M 3 36) (M 3 48)) + 0)) 91 253 (1 * ρ 3 + 0)) 91 255 (0)) 91 256 (1 * (xop 1 0 (M 91 243)) + 0)) 91 257 (1 * (xop 1 (xop 0 (M 3 36) (M 3 48)) 255) + 0))
    obtain ⟨W, hW⟩ : ∃ W, W = (sU (sU (sU (sU (sU (sU (sU (sU M 91 249 (1 * ρ 0 + 0)) 91 250 (1 * ρ 1 + 0)) 91 251 (1 * ρ 2 + 0)) 91 252 (1 * (xop 0 (M 3 36) (M 3 48)) + 0)) 91 253 (1 * ρ 3 + 0)) 91 255 (0)) 91 256 (1 * (xop 1 0 (M 91 243)) + 0)) 91 257 (1 * (xop 1 (xop 0 (M 3 36) (M 3 48)) 255) + 0)) := ⟨_, rfl⟩
    rw [← hW]
    have base : sI0 W := by
      rw [hW]
      exact (si_u0 (si_u0 (si_u0 (si_u0 (si_u0 (si_u0 (si_u0 (si_u0 hI.1 (fun r hr => by cases hr)) (fun r hr => by cases hr)) (fun r hr => by cases hr)) (fun r hr => by cases hr)) (fun r hr => by cases hr)) (fun r hr => by cases hr)) (fun r hr => by cases hr)) (fun r hr => by cases hr))
    have k2 : XI2 W := by
      rw [hW]
      exact (xi2_u rfl (xi2_u rfl (xi2_u rfl (xi2_u rfl (xi2_u rfl (xi2_u rfl (xi2_u rfl (xi2_u rfl hI.2.1))))))))
    have k3 : XI3 W := by
      rw [hW]
      exact (xi3_u rfl (xi3_u rfl (xi3_u rfl (xi3_u rfl (xi3_u rfl (xi3_u rfl (xi3_u rfl (xi3_u rfl hI.2.2.1))))))))
    have kXA : XA W := by
      rw [hW]
      exact (uXA rfl (uXA rfl (uXA rfl (uXA rfl (uXA rfl (uXA rfl (uXA rfl (uXA rfl hI.2.2.2.1))))))))
    have k_xN1 : xN1 W := by
      rw [hW]
      exact (uxN1 rfl (uxN1 rfl (uxN1 rfl (uxN1 rfl (uxN1 rfl (uxN1 rfl (uxN1 rfl (uxN1 rfl hI.2.2.2.2.1))))))))
    have k_xN2 : xN2 W := by
      rw [hW]
      exact (uxN2 rfl (uxN2 rfl (uxN2 rfl (uxN2 rfl (uxN2 rfl (uxN2 rfl (uxN2 rfl (uxN2 rfl hI.2.2.2.2.2.1))))))))
    have k_xN3 : xN3 W := by
      rw [hW]
      exact (uxN3 rfl (uxN3 rfl (uxN3 rfl (uxN3 rfl (uxN3 rfl (uxN3 rfl (uxN3 rfl (uxN3 rfl hI.2.2.2.2.2.2.1))))))))
    have k_xN4 : xN4 W := by
      rw [hW]
      exact (uxN4 rfl (uxN4 rfl (uxN4 rfl (uxN4 rfl (uxN4 rfl (uxN4 rfl (uxN4 rfl (uxN4 rfl hI.2.2.2.2.2.2.2.1))))))))
    have k_xN5 : xN5 W := by
      rw [hW]
      exact (uxN5 rfl (uxN5 rfl (uxN5 rfl (uxN5 rfl (uxN5 rfl (uxN5 rfl (uxN5 rfl (uxN5 rfl hI.2.2.2.2.2.2.2.2.1))))))))
    have k_xN6 : xN6 W := by
      rw [hW]
      exact (uxN6 rfl (uxN6 rfl (uxN6 rfl (uxN6 rfl (uxN6 rfl (uxN6 rfl (uxN6 rfl (uxN6 rfl hI.2.2.2.2.2.2.2.2.2.1))))))))
    have k_xH1 : xH1 W := by
      rw [hW]
      exact (uxH1 rfl (uxH1 rfl (uxH1 rfl (uxH1 rfl (uxH1 rfl (uxH1 rfl (uxH1 rfl (uxH1 rfl hI.2.2.2.2.2.2.2.2.2.2.1))))))))
    have k_xK1 : xK1 W := by
      rw [hW]
      exact (uxK1 rfl (uxK1 rfl (uxK1 rfl (uxK1 rfl (uxK1 rfl (uxK1 rfl (uxK1 rfl (uxK1 rfl hI.2.2.2.2.2.2.2.2.2.2.2.1))))))))
    have k_xC1 : xC1 W := by
      rw [hW]
      exact (uxC1 rfl (uxC1 rfl (uxC1 rfl (uxC1 rfl (uxC1 rfl (uxC1 rfl (uxC1 rfl (uxC1 rfl hI.2.2.2.2.2.2.2.2.2.2.2.2.1))))))))
    have k_xRW : xRW W := by
      rw [hW]
      exact (uxRW rfl (uxRW rfl (uxRW rfl (uxRW rfl (uxRW rfl (uxRW rfl (uxRW rfl (uxRW rfl hI.2.2.2.2.2.2.2.2.2.2.2.2.2.1))))))))
    have k_xWT : xWT W := by
      rw [hW]
      exact (uxWT rfl (uxWT rfl (uxWT rfl (uxWT rfl (uxWT rfl (uxWT rfl (uxWT rfl (uxWT rfl hI.2.2.2.2.2.2.2.2.2.2.2.2.2.2.1))))))))
    have k_xCU : xCU W := by
      rw [hW]
      exact (uxCU rfl (uxCU rfl (uxCU rfl (uxCU rfl (uxCU rfl (uxCU rfl (uxCU rfl (uxCU rfl hI.2.2.2.2.2.2.2.2.2.2.2.2.2.2.2.1))))))))
    have k_xG2 : xG2 W := by
      rw [hW]
      exact (uxG2 rfl (uxG2 rfl (uxG2 rfl (uxG2 rfl (uxG2 rfl (uxG2 rfl (uxG2 rfl (uxG2 rfl hI.2.2.2.2.2.2.2.2.2.2.2.2.2.2.2.2.1))))))))
    have k_xG3 : xG3 W := by
      rw [hW]
      exact (uxG3 rfl (uxG3 rfl (uxG3 rfl (uxG3 rfl (uxG3 rfl (uxG3 rfl (uxG3 rfl (uxG3 rfl hI.2.2.2.2.2.2.2.2.2.2.2.2.2.2.2.2.2.1))))))))
    have k_xG4 : xG4 W := by
      rw [hW]
      exact (uxG4 rfl (uxG4 rfl (uxG4 rfl (uxG4 rfl (uxG4 rfl (uxG4 rfl (uxG4 rfl (uxG4 rfl hI.2.2.2.2.2.2.2.2.2.2.2.2.2.2.2.2.2.2.1))))))))
    have k_xG5 : xG5 W := by
      rw [hW]
      exact (uxG5 rfl (uxG5 rfl (uxG5 rfl (uxG5 rfl (uxG5 rfl (uxG5 rfl (uxG5 rfl (uxG5 rfl hI.2.2.2.2.2.2.2.2.2.2.2.2.2.2.2.2.2.2.2.1))))))))
    have k_xG6 : xG6 W := by
      rw [hW]
      exact (uxG6 rfl (uxG6 rfl (uxG6 rfl (uxG6 rfl (uxG6 rfl (uxG6 rfl (uxG6 rfl (uxG6 rfl hI.2.2.2.2.2.2.2.2.2.2.2.2.2.2.2.2.2.2.2.2.1))))))))
    have k_xS1 : xS1 W := by
      rw [hW]
      exact (uxS1 rfl (uxS1 rfl (uxS1 rfl (uxS1 rfl (uxS1 rfl (uxS1 rfl (uxS1 rfl (uxS1 rfl hI.2.2.2.2.2.2.2.2.2.2.2.2.2.2.2.2.2.2.2.2.2.1))))))))
    have k_xS2 : xS2 W := by
      rw [hW]
      exact (uxS2 rfl (uxS2 rfl (uxS2 rfl (uxS2 rfl (uxS2 rfl (uxS2 rfl (uxS2 rfl (uxS2 rfl hI.2.2.2.2.2.2.2.2.2.2.2.2.2.2.2.2.2.2.2.2.2.2.1))))))))
    have k_xS3 : xS3 W := by
      rw [hW]
      exact (uxS3 rfl (uxS3 rfl (uxS3 rfl (uxS3 rfl (uxS3 rfl (uxS3 rfl (uxS3 rfl (uxS3 rfl hI.2.2.2.2.2.2.2.2.2.2.2.2.2.2.2.2.2.2.2.2.2.2.2.1))))))))
    have k_xS4 : xS4 W := by
      rw [hW]
      exact (uxS4 rfl (uxS4 rfl (uxS4 rfl (uxS4 rfl (uxS4 rfl (uxS4 rfl (uxS4 rfl (uxS4 rfl hI.2.2.2.2.2.2.2.2.2.2.2.2.2.2.2.2.2.2.2.2.2.2.2.2.1))))))))
    have k_xS5 : xS5 W := by
      rw [hW]
      exact (uxS5 rfl (uxS5 rfl (uxS5 rfl (uxS5 rfl (uxS5 rfl (uxS5 rfl (uxS5 rfl (uxS5 rfl hI.2.2.2.2.2.2.2.2.2.2.2.2.2.2.2.2.2.2.2.2.2.2.2.2.2.1))))))))
    have k_xS6 : xS6 W := by
      rw [hW]
      exact (uxS6 rfl (uxS6 rfl (uxS6 rfl (uxS6 rfl (uxS6 rfl (uxS6 rfl (uxS6 rfl (uxS6 rfl hI.2.2.2.2.2.2.2.2.2.2.2.2.2.2.2.2.2.2.2.2.2.2.2.2.2.2.1))))))))
    have k_xS7 : xS7 W := by
      rw [hW]
      exact (uxS7 rfl (uxS7 rfl (uxS7 rfl (uxS7 rfl (uxS7 rfl (uxS7 rfl (uxS7 rfl (uxS7 rfl hI.2.2.2.2.2.2.2.2.2.2.2.2.2.2.2.2.2.2.2.2.2.2.2.2.2.2.2.1))))))))
    have k_xS8 : xS8 W := by
      rw [hW]
      exact (uxS8 rfl (uxS8 rfl (uxS8 rfl (uxS8 rfl (uxS8 rfl (uxS8 rfl (uxS8 rfl (uxS8 rfl hI.2.2.2.2.2.2.2.2.2.2.2.2.2.2.2.2.2.2.2.2.2.2.2.2.2.2.2.2.1))))))))
    have k_xS9 : xS9 W := by
      rw [hW]
      exact (uxS9 rfl (uxS9 rfl (uxS9 rfl (uxS9 rfl (uxS9 rfl (uxS9 rfl (uxS9 rfl (uxS9 rfl hI.2.2.2.2.2.2.2.2.2.2.2.2.2.2.2.2.2.2.2.2.2.2.2.2.2.2.2.2.2.1))))))))
    have k_xSA : xSA W := by
      rw [hW]
      exact (uxSA rfl (uxSA rfl (uxSA rfl (uxSA rfl (uxSA rfl (uxSA rfl (uxSA rfl (uxSA rfl hI.2.2.2.2.2.2.2.2.2.2.2.2.2.2.2.2.2.2.2.2.2.2.2.2.2.2.2.2.2.2.1))))))))
    have k_xSG : xSG W := by
      rw [hW]
      exact (uxSG rfl (uxSG rfl (uxSG rfl (uxSG rfl (uxSG rfl (uxSG rfl (uxSG rfl (uxSG rfl hI.2.2.2.2.2.2.2.2.2.2.2.2.2.2.2.2.2.2.2.2.2.2.2.2.2.2.2.2.2.2.2.1))))))))
    have k_xSF : xSF W := by
      rw [hW]
      exact (uxSF rfl (uxSF rfl (uxSF rfl (uxSF rfl (uxSF rfl (uxSF rfl (uxSF rfl (uxSF rfl hI.2.2.2.2.2.2.2.2.2.2.2.2.2.2.2.2.2.2.2.2.2.2.2.2.2.2.2.2.2.2.2.2.1))))))))
    have k_xSB : xSB W := by
      rw [hW]
      exact (uxSB rfl (uxSB rfl (uxSB rfl (uxSB rfl (uxSB rfl (uxSB rfl (uxSB rfl (uxSB rfl hI.2.2.2.2.2.2.2.2.2.2.2.2.2.2.2.2.2.2.2.2.2.2.2.2.2.2.2.2.2.2.2.2.2.1))))))))
    have k_xSC : xSC W := by
      rw [hW]
      exact (uxSC rfl (uxSC rfl (uxSC rfl (uxSC rfl (uxSC rfl (uxSC rfl (uxSC rfl (uxSC rfl hI.2.2.2.2.2.2.2.2.2.2.2.2.2.2.2.2.2.2.2.2.2.2.2.2.2.2.2.2.2.2.2.2.2.2.1))))))))
    have k_xSD : xSD W := by
      rw [hW]
      exact (uxSD rfl (uxSD rfl (uxSD rfl (uxSD rfl (uxSD rfl (uxSD rfl (uxSD rfl (uxSD rfl hI.2.2.2.2.2.2.2.2.2.2.2.2.2.2.2.2.2.2.2.2.2.2.2.2.2.2.2.2.2.2.2.2.2.2.2.1))))))))
    have k_xSE : xSE W := by
      have r91_249 : W 91 249 = 1 * ρ 0 + 0 := by rw [hW, sU_ne (fun z => by omega), sU_ne (fun z => by omega), sU_ne (fun z => by omega), sU_ne (fun z => by omega), sU_ne (fun z => by omega), sU_ne (fun z => by omega), sU_ne (fun z => by omega), sU_at]
      have r91_250 : W 91 250 = 1 * ρ 1 + 0 := by rw [hW, sU_ne (fun z => by omega), sU_ne (fun z => by omega), sU_ne (fun z => by omega), sU_ne (fun z => by omega), sU_ne (fun z => by omega), sU_ne (fun z => by omega), sU_at]
      have r91_251 : W 91 251 = 1 * ρ 2 + 0 := by rw [hW, sU_ne (fun z => by omega), sU_ne (fun z => by omega), sU_ne (fun z => by omega), sU_ne (fun z => by omega), sU_ne (fun z => by omega), sU_at]
      have r91_252 : W 91 252 = 1 * (xop 0 (M 3 36) (M 3 48)) + 0 := by rw [hW, sU_ne (fun z => by omega), sU_ne (fun z => by omega), sU_ne (fun z => by omega), sU_ne (fun z => by omega), sU_at]
      have r91_253 : W 91 253 = 1 * ρ 3 + 0 := by rw [hW, sU_ne (fun z => by omega), sU_ne (fun z => by omega), sU_ne (fun z => by omega), sU_at]
      have r91_255 : W 91 255 = 0 := by rw [hW, sU_ne (fun z => by omega), sU_ne (fun z => by omega), sU_at]
      have r91_256 : W 91 256 = 1 * (xop 1 0 (M 91 243)) + 0 := by rw [hW, sU_ne (fun z => by omega), sU_at]
      have r91_243 : W 91 243 = M 91 243 := by rw [hW, sU_ne (fun z => by omega), sU_ne (fun z => by omega), sU_ne (fun z => by omega), sU_ne (fun z => by omega), sU_ne (fun z => by omega), sU_ne (fun z => by omega), sU_ne (fun z => by omega), sU_ne (fun z => by omega)]
      have r91_257 : W 91 257 = 1 * (xop 1 (xop 0 (M 3 36) (M 3 48)) 255) + 0 := by rw [hW, sU_at]
      intro h
      rw [r91_250, r91_251, r91_252, r91_253, r91_255, r91_256, r91_257, r91_243, show (1 * ρ 1 + 0 : Int) = M 3 36 by omega, show (1 * ρ 2 + 0 : Int) = M 3 48 by omega, show (1 * ρ 3 + 0 : Int) = M 3 49 by omega]
      refine ⟨by omega, ?_, by omega, ?_⟩
      · rw [hb3, show (1 * (xop 0 (M 3 36) (M 3 48)) + 0 : Int) = xop 0 (M 3 36) (M 3 48) by omega]
      · rw [show (1 * (xop 0 (M 3 36) (M 3 48)) + 0 : Int) = xop 0 (M 3 36) (M 3 48) by omega]
        omega
    have k_xSW : xSW W := by
      rw [hW]
      exact (uxSW rfl (uxSW rfl (uxSW rfl (uxSW rfl (uxSW rfl (uxSW rfl (uxSW rfl (uxSW rfl hI.2.2.2.2.2.2.2.2.2.2.2.2.2.2.2.2.2.2.2.2.2.2.2.2.2.2.2.2.2.2.2.2.2.2.2.2.2.1))))))))
    have k_xST : xST W := by
      rw [hW]
      exact (uxST rfl (uxST rfl (uxST rfl (uxST rfl (uxST rfl (uxST rfl (uxST rfl (uxST rfl hI.2.2.2.2.2.2.2.2.2.2.2.2.2.2.2.2.2.2.2.2.2.2.2.2.2.2.2.2.2.2.2.2.2.2.2.2.2.2.1))))))))
    have k_xSP : xSP W := by
      rw [hW]
      exact (uxSP rfl (uxSP rfl (uxSP rfl (uxSP rfl (uxSP rfl (uxSP rfl (uxSP rfl (uxSP rfl hI.2.2.2.2.2.2.2.2.2.2.2.2.2.2.2.2.2.2.2.2.2.2.2.2.2.2.2.2.2.2.2.2.2.2.2.2.2.2.2.1))))))))
    have k_xSL : xSL W := by
      rw [hW]
      exact (uxSL rfl (uxSL rfl (uxSL rfl (uxSL rfl (uxSL rfl (uxSL rfl (uxSL rfl (uxSL rfl hI.2.2.2.2.2.2.2.2.2.2.2.2.2.2.2.2.2.2.2.2.2.2.2.2.2.2.2.2.2.2.2.2.2.2.2.2.2.2.2.2.1))))))))
    have k_xSM : xSM W := by
      rw [hW]
      exact (uxSM rfl (uxSM rfl (uxSM rfl (uxSM rfl (uxSM rfl (uxSM rfl (uxSM rfl (uxSM rfl hI.2.2.2.2.2.2.2.2.2.2.2.2.2.2.2.2.2.2.2.2.2.2.2.2.2.2.2.2.2.2.2.2.2.2.2.2.2.2.2.2.2.1))))))))
    have k_xSI : xSI W := by
      rw [hW]
      exact (uxSI rfl (uxSI rfl (uxSI rfl (uxSI rfl (uxSI rfl (uxSI rfl (uxSI rfl (uxSI rfl hI.2.2.2.2.2.2.2.2.2.2.2.2.2.2.2.2.2.2.2.2.2.2.2.2.2.2.2.2.2.2.2.2.2.2.2.2.2.2.2.2.2.2.1))))))))
    have k_xD3 : xD3 W := by
      rw [hW]
      exact (uxD3 rfl (uxD3 rfl (uxD3 rfl (uxD3 rfl (uxD3 rfl (uxD3 rfl (uxD3 rfl (uxD3 rfl hI.2.2.2.2.2.2.2.2.2.2.2.2.2.2.2.2.2.2.2.2.2.2.2.2.2.2.2.2.2.2.2.2.2.2.2.2.2.2.2.2.2.2.2.1))))))))
    have k_xDV : xDV W := by
      rw [hW]
      exact (uxDV rfl (uxDV rfl (uxDV rfl (uxDV rfl (uxDV rfl (uxDV rfl (uxDV rfl (uxDV rfl hI.2.2.2.2.2.2.2.2.2.2.2.2.2.2.2.2.2.2.2.2.2.2.2.2.2.2.2.2.2.2.2.2.2.2.2.2.2.2.2.2.2.2.2.2.1))))))))
    have k_xDP : xDP W := by
      rw [hW]
      exact (uxDP rfl (uxDP rfl (uxDP rfl (uxDP rfl (uxDP rfl (uxDP rfl (uxDP rfl (uxDP rfl hI.2.2.2.2.2.2.2.2.2.2.2.2.2.2.2.2.2.2.2.2.2.2.2.2.2.2.2.2.2.2.2.2.2.2.2.2.2.2.2.2.2.2.2.2.2.1))))))))
    have k_xDE : xDE W := by
      rw [hW]
      exact (uxDE rfl (uxDE rfl (uxDE rfl (uxDE rfl (uxDE rfl (uxDE rfl (uxDE rfl (uxDE rfl hI.2.2.2.2.2.2.2.2.2.2.2.2.2.2.2.2.2.2.2.2.2.2.2.2.2.2.2.2.2.2.2.2.2.2.2.2.2.2.2.2.2.2.2.2.2.2.1))))))))
    have k_xQ5 : xQ5 W := by
      rw [hW]
      exact (uxQ5 rfl (uxQ5 rfl (uxQ5 rfl (uxQ5 rfl (uxQ5 rfl (uxQ5 rfl (uxQ5 rfl (uxQ5 rfl hI.2.2.2.2.2.2.2.2.2.2.2.2.2.2.2.2.2.2.2.2.2.2.2.2.2.2.2.2.2.2.2.2.2.2.2.2.2.2.2.2.2.2.2.2.2.2.2.1))))))))
    have k_xQL : xQL W := by
      rw [hW]
      exact (uxQL rfl (uxQL rfl (uxQL rfl (uxQL rfl (uxQL rfl (uxQL rfl (uxQL rfl (uxQL rfl hI.2.2.2.2.2.2.2.2.2.2.2.2.2.2.2.2.2.2.2.2.2.2.2.2.2.2.2.2.2.2.2.2.2.2.2.2.2.2.2.2.2.2.2.2.2.2.2.2.1))))))))
    have k_xQW : xQW W := by
      rw [hW]
      exact (uxQW rfl (uxQW rfl (uxQW rfl (uxQW rfl (uxQW rfl (uxQW rfl (uxQW rfl (uxQW rfl hI.2.2.2.2.2.2.2.2.2.2.2.2.2.2.2.2.2.2.2.2.2.2.2.2.2.2.2.2.2.2.2.2.2.2.2.2.2.2.2.2.2.2.2.2.2.2.2.2.2.1))))))))
    have k_xQM : xQM W := by
      rw [hW]
      exact (uxQM rfl (uxQM rfl (uxQM rfl (uxQM rfl (uxQM rfl (uxQM rfl (uxQM rfl (uxQM rfl hI.2.2.2.2.2.2.2.2.2.2.2.2.2.2.2.2.2.2.2.2.2.2.2.2.2.2.2.2.2.2.2.2.2.2.2.2.2.2.2.2.2.2.2.2.2.2.2.2.2.2.1))))))))
    have k_xQH : xQH W := by
      rw [hW]
      exact (uxQH rfl (uxQH rfl (uxQH rfl (uxQH rfl (uxQH rfl (uxQH rfl (uxQH rfl (uxQH rfl hI.2.2.2.2.2.2.2.2.2.2.2.2.2.2.2.2.2.2.2.2.2.2.2.2.2.2.2.2.2.2.2.2.2.2.2.2.2.2.2.2.2.2.2.2.2.2.2.2.2.2.2))))))))
    have k_XC : XC W := ⟨k_xS1, k_xS2, k_xS3, k_xS4, k_xS5, k_xS6, k_xS7, k_xS8, k_xS9, k_xSA, k_xSG, k_xSF, k_xSB, k_xSC, k_xSD, k_xSE, k_xSW, k_xST, k_xSP, k_xSL, k_xSM, k_xSI, k_xD3, k_xDV, k_xDP, k_xDE, k_xQ5, k_xQL, k_xQW, k_xQM, k_xQH⟩
    have kXB : XB W := ⟨k_xN1, k_xN2, k_xN3, k_xN4, k_xN5, k_xN6, k_xH1, k_xK1, k_xC1, k_xRW, k_xWT, k_xCU, k_xG2, k_xG3, k_xG4, k_xG5, k_xG6, k_XC⟩
    exact ⟨base, k2, k3, kXA, kXB⟩
-- mkOr
def xr_325 : qRu := (3, [], [(91, 249, [])], [], [(91, 240, [(1, 0)]), (91, 241, [(1, 0)]), (91, 242, [(1, 2)]), (91, 243, [(1, 3)]), (91, 246, [(1, 1)]), (91, 244, [(1, 4)]), (91, 245, []), (91, 247, [(1, 5)])], [[(2147483648, 0), (1, 4)], [(2147483647, 0), (-1, 4)]])
theorem xo_325 : qRok xr_325 := by
  intro ρ M h0 hf hm hI
  have m0 : M 91 249 = 0 := hm (91, 249, []) (by decide)
  have qxSD := hI.2.2.2.2.2.2.2.2.2.2.2.2.2.2.2.2.2.2.2.2.2.2.2.2.2.2.2.2.2.2.2.2.2.2.2.1
  have hb := x5_b (ρ 1) (xop 4 1 (ρ 2))
  refine ⟨fun a => cond (Nat.blt a 3) (ρ a) (([xop 4 1 (ρ 2), xop 5 (ρ 1) (xop 4 1 (ρ 2)), xop 5 (xop 4 1 (ρ 2)) 0] : List Int).getD (a - 3) 0), fun a ha => ?_, fun f h => ?_, ?_⟩
  · show cond (Nat.blt a 3) (ρ a) _ = ρ a
    rw [show Nat.blt a 3 = true from Nat.ble_eq_true_of_le ha]; rfl
  · have h : f ∈ ([[(2147483648, 0), (1, 4)], [(2147483647, 0), (-1, 4)]] : List qF) := h
    simp only [List.mem_cons, List.not_mem_nil, or_false] at h
    rcases h with rfl | rfl
    · show 0 ≤ 2147483648 * ρ 0 + (1 * (xop 5 (ρ 1) (xop 4 1 (ρ 2))) + 0)
      (try rw [h0]); omega
    · show 0 ≤ 2147483647 * ρ 0 + (-1 * (xop 5 (ρ 1) (xop 4 1 (ρ 2))) + 0)
      (try rw [h0]); omega
  · show sI (sU (sU (sU (sU (sU (sU (sU (sU M 91 240 (1 * ρ 0 + 0)) 91 241 (1 * ρ 0 + 0)) 91 242 (1 * ρ 2 + 0)) 91 243 (1 * (xop 4 1 (ρ 2)) + 0)) 91 246 (1 * ρ 1 + 0)) 91 244 (1 * (xop 5 (ρ 1) (xop 4 1 (ρ 2))) + 0)) 91 245 (0)) 91 247 (1 * (xop 5 (xop 4 1 (ρ 2)) 0) + 0))
    obtain ⟨W, hW⟩ : ∃ W, W = (sU (sU (sU (sU (sU (sU (sU (sU M 91 240 (1 * ρ 0 + 0)) 91 241 (1 * ρ 0 + 0)) 91 242 (1 * ρ 2 + 0)) 91 243 (1 * (xop 4 1 (ρ 2)) + 0)) 91 246 (1 * ρ 1 + 0)) 91 244 (1 * (xop 5 (ρ 1) (xop 4 1 (ρ 2))) + 0)) 91 245 (0)) 91 247 (1 * (xop 5 (xop 4 1 (ρ 2)) 0) + 0)) := ⟨_, rfl⟩
    rw [← hW]
    have base : sI0 W := by
      rw [hW]
      exact (si_u0 (si_u0 (si_u0 (si_u0 (si_u0 (si_u0 (si_u0 (si_u0 hI.1 (fun r hr => by cases hr)) (fun r hr => by cases hr)) (fun r hr => by cases hr)) (fun r hr => by cases hr)) (fun r hr => by cases hr)) (fun r hr => by cases hr)) (fun r hr => by cases hr)) (fun r hr => by cases hr))
    have k2 : XI2 W := by
      rw [hW]
      exact (xi2_u rfl (xi2_u rfl (xi2_u rfl (xi2_u rfl (xi2_u rfl (xi2_u rfl (xi2_u rfl (xi2_u rfl hI.2.1))))))))
    have k3 : XI3 W := by
      rw [hW]
      exact (xi3_u rfl (xi3_u rfl (xi3_u rfl (xi3_u rfl (xi3_u rfl (xi3_u rfl (xi3_u rfl (xi3_u rfl hI.2.2.1))))))))
    have kXA : XA W := by
      rw [hW]
      exact (uXA rfl (uXA rfl (uXA rfl (uXA rfl (uXA rfl (uXA rfl (uXA rfl (uXA rfl hI.2.2.2.1))))))))
    have k_xN1 : xN1 W := by
      rw [hW]
      exact (uxN1 rfl (uxN1 rfl (uxN1 rfl (uxN1 rfl (uxN1 rfl (uxN1 rfl (uxN1 rfl (uxN1 rfl hI.2.2.2.2.1))))))))
    have k_xN2 : xN2 W := by
      rw [hW]
      exact (uxN2 rfl (uxN2 rfl (uxN2 rfl (uxN2 rfl (uxN2 rfl (uxN2 rfl (uxN2 rfl (uxN2 rfl hI.2.2.2.2.2.1))))))))
    have k_xN3 : xN3 W := by
      rw [hW]
      exact (uxN3 rfl (uxN3 rfl (uxN3 rfl (uxN3 rfl (uxN3 rfl (uxN3 rfl (uxN3 rfl (uxN3 rfl hI.2.2.2.2.2.2.1))))))))
    have k_xN4 : xN4 W := by
      rw [hW]
      exact (uxN4 rfl (uxN4 rfl (uxN4 rfl (uxN4 rfl (uxN4 rfl (uxN4 rfl (uxN4 rfl (uxN4 rfl hI.2.2.2.2.2.2.2.1))))))))
    have k_xN5 : xN5 W := by
      rw [hW]
      exact (uxN5 rfl (uxN5 rfl (uxN5 rfl (uxN5 rfl (uxN5 rfl (uxN5 rfl (uxN5 rfl (uxN5 rfl hI.2.2.2.2.2.2.2.2.1))))))))
    have k_xN6 : xN6 W := by
      rw [hW]
      exact (uxN6 rfl (uxN6 rfl (uxN6 rfl (uxN6 rfl (uxN6 rfl (uxN6 rfl (uxN6 rfl (uxN6 rfl hI.2.2.2.2.2.2.2.2.2.1))))))))
    have k_xH1 : xH1 W := by
      rw [hW]
      exact (uxH1 rfl (uxH1 rfl (uxH1 rfl (uxH1 rfl (uxH1 rfl (uxH1 rfl (uxH1 rfl (uxH1 rfl hI.2.2.2.2.2.2.2.2.2.2.1))))))))
    have k_xK1 : xK1 W := by
      rw [hW]
      exact (uxK1 rfl (uxK1 rfl (uxK1 rfl (uxK1 rfl (uxK1 rfl (uxK1 rfl (uxK1 rfl (uxK1 rfl hI.2.2.2.2.2.2.2.2.2.2.2.1))))))))
    have k_xC1 : xC1 W := by
      rw [hW]
      exact (uxC1 rfl (uxC1 rfl (uxC1 rfl (uxC1 rfl (uxC1 rfl (uxC1 rfl (uxC1 rfl (uxC1 rfl hI.2.2.2.2.2.2.2.2.2.2.2.2.1))))))))
    have k_xRW : xRW W := by
      rw [hW]
      exact (uxRW rfl (uxRW rfl (uxRW rfl (uxRW rfl (uxRW rfl (uxRW rfl (uxRW rfl (uxRW rfl hI.2.2.2.2.2.2.2.2.2.2.2.2.2.1))))))))
    have k_xWT : xWT W := by
      rw [hW]
      exact (uxWT rfl (uxWT rfl (uxWT rfl (uxWT rfl (uxWT rfl (uxWT rfl (uxWT rfl (uxWT rfl hI.2.2.2.2.2.2.2.2.2.2.2.2.2.2.1))))))))
    have k_xCU : xCU W := by
      rw [hW]
      exact (uxCU rfl (uxCU rfl (uxCU rfl (uxCU rfl (uxCU rfl (uxCU rfl (uxCU rfl (uxCU rfl hI.2.2.2.2.2.2.2.2.2.2.2.2.2.2.2.1))))))))
    have k_xG2 : xG2 W := by
      rw [hW]
      exact (uxG2 rfl (uxG2 rfl (uxG2 rfl (uxG2 rfl (uxG2 rfl (uxG2 rfl (uxG2 rfl (uxG2 rfl hI.2.2.2.2.2.2.2.2.2.2.2.2.2.2.2.2.1))))))))
    have k_xG3 : xG3 W := by
      rw [hW]
      exact (uxG3 rfl (uxG3 rfl (uxG3 rfl (uxG3 rfl (uxG3 rfl (uxG3 rfl (uxG3 rfl (uxG3 rfl hI.2.2.2.2.2.2.2.2.2.2.2.2.2.2.2.2.2.1))))))))
    have k_xG4 : xG4 W := by
      rw [hW]
      exact (uxG4 rfl (uxG4 rfl (uxG4 rfl (uxG4 rfl (uxG4 rfl (uxG4 rfl (uxG4 rfl (uxG4 rfl hI.2.2.2.2.2.2.2.2.2.2.2.2.2.2.2.2.2.2.1))))))))
    have k_xG5 : xG5 W := by
      rw [hW]
      exact (uxG5 rfl (uxG5 rfl (uxG5 rfl (uxG5 rfl (uxG5 rfl (uxG5 rfl (uxG5 rfl (uxG5 rfl hI.2.2.2.2.2.2.2.2.2.2.2.2.2.2.2.2.2.2.2.1))))))))
    have k_xG6 : xG6 W := by
      rw [hW]
      exact (uxG6 rfl (uxG6 rfl (uxG6 rfl (uxG6 rfl (uxG6 rfl (uxG6 rfl (uxG6 rfl (uxG6 rfl hI.2.2.2.2.2.2.2.2.2.2.2.2.2.2.2.2.2.2.2.2.1))))))))
    have k_xS1 : xS1 W := by
      rw [hW]
      exact (uxS1 rfl (uxS1 rfl (uxS1 rfl (uxS1 rfl (uxS1 rfl (uxS1 rfl (uxS1 rfl (uxS1 rfl hI.2.2.2.2.2.2.2.2.2.2.2.2.2.2.2.2.2.2.2.2.2.1))))))))
    have k_xS2 : xS2 W := by
      rw [hW]
      exact (uxS2 rfl (uxS2 rfl (uxS2 rfl (uxS2 rfl (uxS2 rfl (uxS2 rfl (uxS2 rfl (uxS2 rfl hI.2.2.2.2.2.2.2.2.2.2.2.2.2.2.2.2.2.2.2.2.2.2.1))))))))
    have k_xS3 : xS3 W := by
      rw [hW]
      exact (uxS3 rfl (uxS3 rfl (uxS3 rfl (uxS3 rfl (uxS3 rfl (uxS3 rfl (uxS3 rfl (uxS3 rfl hI.2.2.2.2.2.2.2.2.2.2.2.2.2.2.2.2.2.2.2.2.2.2.2.1))))))))
    have k_xS4 : xS4 W := by
      rw [hW]
      exact (uxS4 rfl (uxS4 rfl (uxS4 rfl (uxS4 rfl (uxS4 rfl (uxS4 rfl (uxS4 rfl (uxS4 rfl hI.2.2.2.2.2.2.2.2.2.2.2.2.2.2.2.2.2.2.2.2.2.2.2.2.1))))))))
    have k_xS5 : xS5 W := by
      rw [hW]
      exact (uxS5 rfl (uxS5 rfl (uxS5 rfl (uxS5 rfl (uxS5 rfl (uxS5 rfl (uxS5 rfl (uxS5 rfl hI.2.2.2.2.2.2.2.2.2.2.2.2.2.2.2.2.2.2.2.2.2.2.2.2.2.1))))))))
    have k_xS6 : xS6 W := by
      rw [hW]
      exact (uxS6 rfl (uxS6 rfl (uxS6 rfl (uxS6 rfl (uxS6 rfl (uxS6 rfl (uxS6 rfl (uxS6 rfl hI.2.2.2.2.2.2.2.2.2.2.2.2.2.2.2.2.2.2.2.2.2.2.2.2.2.2.1))))))))
    have k_xS7 : xS7 W := by
      rw [hW]
      exact (uxS7 rfl (uxS7 rfl (uxS7 rfl (uxS7 rfl (uxS7 rfl (uxS7 rfl (uxS7 rfl (uxS7 rfl hI.2.2.2.2.2.2.2.2.2.2.2.2.2.2.2.2.2.2.2.2.2.2.2.2.2.2.2.1))))))))
    have k_xS8 : xS8 W := by
      rw [hW]
      exact (uxS8 rfl (uxS8 rfl (uxS8 rfl (uxS8 rfl (uxS8 rfl (uxS8 rfl (uxS8 rfl (uxS8 rfl hI.2.2.2.2.2.2.2.2.2.2.2.2.2.2.2.2.2.2.2.2.2.2.2.2.2.2.2.2.1))))))))
    have k_xS9 : xS9 W := by
      rw [hW]
      exact (uxS9 rfl (uxS9 rfl (uxS9 rfl (uxS9 rfl (uxS9 rfl (uxS9 rfl (uxS9 rfl (uxS9 rfl hI.2.2.2.2.2.2.2.2.2.2.2.2.2.2.2.2.2.2.2.2.2.2.2.2.2.2.2.2.2.1))))))))
    have k_xSA : xSA W := by
      rw [hW]
      exact (uxSA rfl (uxSA rfl (uxSA rfl (uxSA rfl (uxSA rfl (uxSA rfl (uxSA rfl (uxSA rfl hI.2.2.2.2.2.2.2.2.2.2.2.2.2.2.2.2.2.2.2.2.2.2.2.2.2.2.2.2.2.2.1))))))))
    have k_xSG : xSG W := by
      rw [hW]
      exact (uxSG rfl (uxSG rfl (uxSG rfl (uxSG rfl (uxSG rfl (uxSG rfl (uxSG rfl (uxSG rfl hI.2.2.2.2.2.2.2.2.2.2.2.2.2.2.2.2.2.2.2.2.2.2.2.2.2.2.2.2.2.2.2.1))))))))
    have k_xSF : xSF W := by
      rw [hW]
      exact (uxSF rfl (uxSF rfl (uxSF rfl (uxSF rfl (uxSF rfl (uxSF rfl (uxSF rfl (uxSF rfl hI.2.2.2.2.2.2.2.2.2.2.2.2.2.2.2.2.2.2.2.2.2.2.2.2.2.2.2.2.2.2.2.2.1))))))))
    have k_xSB : xSB W := by
      rw [hW]
      exact (uxSB rfl (uxSB rfl (uxSB rfl (uxSB rfl (uxSB rfl (uxSB rfl (uxSB rfl (uxSB rfl hI.2.2.2.2.2.2.2.2.2.2.2.2.2.2.2.2.2.2.2.2.2.2.2.2.2.2.2.2.2.2.2.2.2.1))))))))
    have k_xSC : xSC W := by
      rw [hW]
      exact (uxSC rfl (uxSC rfl (uxSC rfl (uxSC rfl (uxSC rfl (uxSC rfl (uxSC rfl (uxSC rfl hI.2.2.2.2.2.2.2.2.2.2.2.2.2.2.2.2.2.2.2.2.2.2.2.2.2.2.2.2.2.2.2.2.2.2.1))))))))
    have k_xSD : xSD W := by
      have r91_240 : W 91 240 = 1 * ρ 0 + 0 := by rw [hW, sU_ne (fun z => by omega), sU_ne (fun z => by omega), sU_ne (fun z => by omega), sU_ne (fun z => by omega), sU_ne (fun z => by omega), sU_ne (fun z => by omega), sU_ne (fun z => by omega), sU_at]
      have r91_241 : W 91 241 = 1 * ρ 0 + 0 := by rw [hW, sU_ne (fun z => by omega), sU_ne (fun z => by omega), sU_ne (fun z => by omega), sU_ne (fun z => by omega), sU_ne (fun z => by omega), sU_ne (fun z => by omega), sU_at]
      have r91_242 : W 91 242 = 1 * ρ 2 + 0 := by rw [hW, sU_ne (fun z => by omega), sU_ne (fun z => by omega), sU_ne (fun z => by omega), sU_ne (fun z => by omega), sU_ne (fun z => by omega), sU_at]
      have r91_243 : W 91 243 = 1 * (xop 4 1 (ρ 2)) + 0 := by rw [hW, sU_ne (fun z => by omega), sU_ne (fun z => by omega), sU_ne (fun z => by omega), sU_ne (fun z => by omega), sU_at]
      have r91_244 : W 91 244 = 1 * (xop 5 (ρ 1) (xop 4 1 (ρ 2))) + 0 := by rw [hW, sU_ne (fun z => by omega), sU_ne (fun z => by omega), sU_at]
      have r91_245 : W 91 245 = 0 := by rw [hW, sU_ne (fun z => by omega), sU_at]
      have r91_246 : W 91 246 = 1 * ρ 1 + 0 := by rw [hW, sU_ne (fun z => by omega), sU_ne (fun z => by omega), sU_ne (fun z => by omega), sU_at]
      have r91_247 : W 91 247 = 1 * (xop 5 (xop 4 1 (ρ 2)) 0) + 0 := by rw [hW, sU_at]
      intro h
      rw [r91_241, r91_242, r91_243, r91_244, r91_245, r91_246, r91_247, h0]
      have z : (1 * (xop 4 1 (ρ 2)) + 0 : Int) = xop 4 1 (ρ 2) := by omega
      rw [z, show (1 * 1 + 0 : Int) = 1 from rfl, show (1 * ρ 2 + 0 : Int) = ρ 2 by omega, show (1 * ρ 1 + 0 : Int) = ρ 1 by omega]
      exact ⟨rfl, by omega, by omega⟩
    have k_xSE : xSE W := by
      have r : W 91 249 = 0 := by
        have e := m0
        rw [hW, sU_ne (fun z => by omega), sU_ne (fun z => by omega), sU_ne (fun z => by omega), sU_ne (fun z => by omega), sU_ne (fun z => by omega), sU_ne (fun z => by omega), sU_ne (fun z => by omega), sU_ne (fun z => by omega)]
        omega
      intro h
      rw [r] at h
      omega
    have k_xSW : xSW W := by
      rw [hW]
      exact (uxSW rfl (uxSW rfl (uxSW rfl (uxSW rfl (uxSW rfl (uxSW rfl (uxSW rfl (uxSW rfl hI.2.2.2.2.2.2.2.2.2.2.2.2.2.2.2.2.2.2.2.2.2.2.2.2.2.2.2.2.2.2.2.2.2.2.2.2.2.1))))))))
    have k_xST : xST W := by
      rw [hW]
      exact (uxST rfl (uxST rfl (uxST rfl (uxST rfl (uxST rfl (uxST rfl (uxST rfl (uxST rfl hI.2.2.2.2.2.2.2.2.2.2.2.2.2.2.2.2.2.2.2.2.2.2.2.2.2.2.2.2.2.2.2.2.2.2.2.2.2.2.1))))))))
    have k_xSP : xSP W := by
      rw [hW]
      exact (uxSP rfl (uxSP rfl (uxSP rfl (uxSP rfl (uxSP rfl (uxSP rfl (uxSP rfl (uxSP rfl hI.2.2.2.2.2.2.2.2.2.2.2.2.2.2.2.2.2.2.2.2.2.2.2.2.2.2.2.2.2.2.2.2.2.2.2.2.2.2.2.1))))))))
    have k_xSL : xSL W := by
      rw [hW]
      exact (uxSL rfl (uxSL rfl (uxSL rfl (uxSL rfl (uxSL rfl (uxSL rfl (uxSL rfl (uxSL rfl hI.2.2.2.2.2.2.2.2.2.2.2.2.2.2.2.2.2.2.2.2.2.2.2.2.2.2.2.2.2.2.2.2.2.2.2.2.2.2.2.2.1))))))))
    have k_xSM : xSM W := by
      rw [hW]
      exact (uxSM rfl (uxSM rfl (uxSM rfl (uxSM rfl (uxSM rfl (uxSM rfl (uxSM rfl (uxSM rfl hI.2.2.2.2.2.2.2.2.2.2.2.2.2.2.2.2.2.2.2.2.2.2.2.2.2.2.2.2.2.2.2.2.2.2.2.2.2.2.2.2.2.1))))))))
    have k_xSI : xSI W := by
      rw [hW]
      exact (uxSI rfl (uxSI rfl (uxSI rfl (uxSI rfl (uxSI rfl (uxSI rfl (uxSI rfl (uxSI rfl hI.2.2.2.2.2.2.2.2.2.2.2.2.2.2.2.2.2.2.2.2.2.2.2.2.2.2.2.2.2.2.2.2.2.2.2.2.2.2.2.2.2.2.1))))))))
    have k_xD3 : xD3 W := by
      rw [hW]
      exact (uxD3 rfl (uxD3 rfl (uxD3 rfl (uxD3 rfl (uxD3 rfl (uxD3 rfl (uxD3 rfl (uxD3 rfl hI.2.2.2.2.2.2.2.2.2.2.2.2.2.2.2.2.2.2.2.2.2.2.2.2.2.2.2.2.2.2.2.2.2.2.2.2.2.2.2.2.2.2.2.1))))))))
    have k_xDV : xDV W := by
      rw [hW]
      exact (uxDV rfl (uxDV rfl (uxDV rfl (uxDV rfl (uxDV rfl (uxDV rfl (uxDV rfl (uxDV rfl hI.2.2.2.2.2.2.2.2.2.2.2.2.2.2.2.2.2.2.2.2.2.2.2.2.2.2.2.2.2.2.2.2.2.2.2.2.2.2.2.2.2.2.2.2.1))))))))
    have k_xDP : xDP W := by
      rw [hW]
      exact (uxDP rfl (uxDP rfl (uxDP rfl (uxDP rfl (uxDP rfl (uxDP rfl (uxDP rfl (uxDP rfl hI.2.2.2.2.2.2.2.2.2.2.2.2.2.2.2.2.2.2.2.2.2.2.2.2.2.2.2.2.2.2.2.2.2.2.2.2.2.2.2.2.2.2.2.2.2.1))))))))
    have k_xDE : xDE W := by
      rw [hW]
      exact (uxDE rfl (uxDE rfl (uxDE rfl (uxDE rfl (uxDE rfl (uxDE rfl (uxDE rfl (uxDE rfl hI.2.2.2.2.2.2.2.2.2.2.2.2.2.2.2.2.2.2.2.2.2.2.2.2.2.2.2.2.2.2.2.2.2.2.2.2.2.2.2.2.2.2.2.2.2.2.1))))))))
    have k_xQ5 : xQ5 W := by
      rw [hW]
      exact (uxQ5 rfl (uxQ5 rfl (uxQ5 rfl (uxQ5 rfl (uxQ5 rfl (uxQ5 rfl (uxQ5 rfl (uxQ5 rfl hI.2.2.2.2.2.2.2.2.2.2.2.2.2.2.2.2.2.2.2.2.2.2.2.2.2.2.2.2.2.2.2.2.2.2.2.2.2.2.2.2.2.2.2.2.2.2.2.1))))))))
    have k_xQL : xQL W := by
      rw [hW]
      exact (uxQL rfl (uxQL rfl (uxQL rfl (uxQL rfl (uxQL rfl (uxQL rfl (uxQL rfl (uxQL rfl hI.2.2.2.2.2.2.2.2.2.2.2.2.2.2.2.2.2.2.2.2.2.2.2.2.2.2.2.2.2.2.2.2.2.2.2.2.2.2.2.2.2.2.2.2.2.2.2.2.1))))))))
    have k_xQW : xQW W := by
      rw [hW]
      exact (uxQW rfl (uxQW rfl (uxQW rfl (uxQW rfl (uxQW rfl (uxQW rfl (uxQW rfl (uxQW rfl hI.2.2.2.2.2.2.2.2.2.2.2.2.2.2.2.2.2.2.2.2.2.2.2.2.2.2.2.2.2.2.2.2.2.2.2.2.2.2.2.2.2.2.2.2.2.2.2.2.2.1))))))))
    have k_xQM : xQM W := by
      rw [hW]
      exact (uxQM rfl (uxQM rfl (uxQM rfl (uxQM rfl (uxQM rfl (uxQM rfl (uxQM rfl (uxQM rfl hI.2.2.2.2.2.2.2.2.2.2.2.2.2.2.2.2.2.2.2.2.2.2.2.2.2.2.2.2.2.2.2.2.2.2.2.2.2.2.2.2.2.2.2.2.2.2.2.2.2.2.1))))))))
    have k_xQH : xQH W := by
      rw [hW]
      exact (uxQH rfl (uxQH rfl (uxQH rfl (uxQH rfl (uxQH rfl (uxQH rfl (uxQH rfl (uxQH rfl hI.2.2.2.2.2.2.2.2.2.2.2.2.2.2.2.2.2.2.2.2.2.2.2.2.2.2.2.2.2.2.2.2.2.2.2.2.2.2.2.2.2.2.2.2.2.2.2.2.2.2.2))))))))
    have k_XC : XC W := ⟨k_xS1, k_xS2, k_xS3, k_xS4, k_xS5, k_xS6, k_xS7, k_xS8, k_xS9, k_xSA, k_xSG, k_xSF, k_xSB, k_xSC, k_xSD, k_xSE, k_xSW, k_xST, k_xSP, k_xSL, k_xSM, k_xSI, k_xD3, k_xDV, k_xDP, k_xDE, k_xQ5, k_xQL, k_xQW, k_xQM, k_xQH⟩
    have kXB : XB W := ⟨k_xN1, k_xN2, k_xN3, k_xN4, k_xN5, k_xN6, k_xH1, k_xK1, k_xC1, k_xRW, k_xWT, k_xCU, k_xG2, k_xG3, k_xG4, k_xG5, k_xG6, k_XC⟩
    exact ⟨base, k2, k3, kXA, kXB⟩
-- bitOff
def xr_326 : qRu := (1, [], [], [], [(91, 249, [])], [])
theorem xo_326 : qRok xr_326 := by
  intro ρ M h0 hf hm hI
  refine ⟨ρ, fun _ _ => rfl, fun f h => ?_, ?_⟩
  · exact nomatch h
  · show sI (sU M 91 249 (0))
    obtain ⟨W, hW⟩ : ∃ W, W = (sU M 91 249 (0)) := ⟨_, rfl⟩
    rw [← hW]
    have base : sI0 W := by
      rw [hW]
      exact (si_u0 hI.1 (fun r hr => by cases hr))
    have k2 : XI2 W := by
      rw [hW]
      exact (xi2_u rfl hI.2.1)
    have k3 : XI3 W := by
      rw [hW]
      exact (xi3_u rfl hI.2.2.1)
    have kXA : XA W := by
      rw [hW]
      exact (uXA rfl hI.2.2.2.1)
    have k_xN1 : xN1 W := by
      rw [hW]
      exact (uxN1 rfl hI.2.2.2.2.1)
    have k_xN2 : xN2 W := by
      rw [hW]
      exact (uxN2 rfl hI.2.2.2.2.2.1)
    have k_xN3 : xN3 W := by
      rw [hW]
      exact (uxN3 rfl hI.2.2.2.2.2.2.1)
    have k_xN4 : xN4 W := by
      rw [hW]
      exact (uxN4 rfl hI.2.2.2.2.2.2.2.1)
    have k_xN5 : xN5 W := by
      rw [hW]
      exact (uxN5 rfl hI.2.2.2.2.2.2.2.2.1)
    have k_xN6 : xN6 W := by
      rw [hW]
      exact (uxN6 rfl hI.2.2.2.2.2.2.2.2.2.1)
    have k_xH1 : xH1 W := by
      rw [hW]
      exact (uxH1 rfl hI.2.2.2.2.2.2.2.2.2.2.1)
    have k_xK1 : xK1 W := by
      rw [hW]
      exact (uxK1 rfl hI.2.2.2.2.2.2.2.2.2.2.2.1)
    have k_xC1 : xC1 W := by
      rw [hW]
      exact (uxC1 rfl hI.2.2.2.2.2.2.2.2.2.2.2.2.1)
    have k_xRW : xRW W := by
      rw [hW]
      exact (uxRW rfl hI.2.2.2.2.2.2.2.2.2.2.2.2.2.1)
    have k_xWT : xWT W := by
      rw [hW]
      exact (uxWT rfl hI.2.2.2.2.2.2.2.2.2.2.2.2.2.2.1)
    have k_xCU : xCU W := by
      rw [hW]
      exact (uxCU rfl hI.2.2.2.2.2.2.2.2.2.2.2.2.2.2.2.1)
    have k_xG2 : xG2 W := by
      rw [hW]
      exact (uxG2 rfl hI.2.2.2.2.2.2.2.2.2.2.2.2.2.2.2.2.1)
    have k_xG3 : xG3 W := by
      rw [hW]
      exact (uxG3 rfl hI.2.2.2.2.2.2.2.2.2.2.2.2.2.2.2.2.2.1)
    have k_xG4 : xG4 W := by
      rw [hW]
      exact (uxG4 rfl hI.2.2.2.2.2.2.2.2.2.2.2.2.2.2.2.2.2.2.1)
    have k_xG5 : xG5 W := by
      rw [hW]
      exact (uxG5 rfl hI.2.2.2.2.2.2.2.2.2.2.2.2.2.2.2.2.2.2.2.1)
    have k_xG6 : xG6 W := by
      rw [hW]
      exact (uxG6 rfl hI.2.2.2.2.2.2.2.2.2.2.2.2.2.2.2.2.2.2.2.2.1)
    have k_xS1 : xS1 W := by
      rw [hW]
      exact (uxS1 rfl hI.2.2.2.2.2.2.2.2.2.2.2.2.2.2.2.2.2.2.2.2.2.1)
    have k_xS2 : xS2 W := by
      rw [hW]
      exact (uxS2 rfl hI.2.2.2.2.2.2.2.2.2.2.2.2.2.2.2.2.2.2.2.2.2.2.1)
    have k_xS3 : xS3 W := by
      rw [hW]
      exact (uxS3 rfl hI.2.2.2.2.2.2.2.2.2.2.2.2.2.2.2.2.2.2.2.2.2.2.2.1)
    have k_xS4 : xS4 W := by
      rw [hW]
      exact (uxS4 rfl hI.2.2.2.2.2.2.2.2.2.2.2.2.2.2.2.2.2.2.2.2.2.2.2.2.1)
    have k_xS5 : xS5 W := by
      rw [hW]
      exact (uxS5 rfl hI.2.2.2.2.2.2.2.2.2.2.2.2.2.2.2.2.2.2.2.2.2.2.2.2.2.1)
    have k_xS6 : xS6 W := by
      rw [hW]
      exact (uxS6 rfl hI.2.2.2.2.2.2.2.2.2.2.2.2.2.2.2.2.2.2.2.2.2.2.2.2.2.2.1)
    have k_xS7 : xS7 W := by
      rw [hW]
      exact (uxS7 rfl hI.2.2.2.2.2.2.2.2.2.2.2.2.2.2.2.2.2.2.2.2.2.2.2.2.2.2.2.1)
    have k_xS8 : xS8 W := by
      rw [hW]
      exact (uxS8 rfl hI.2.2.2.2.2.2.2.2.2.2.2.2.2.2.2.2.2.2.2.2.2.2.2.2.2.2.2.2.1)
    have k_xS9 : xS9 W := by
      rw [hW]
      exact (uxS9 rfl hI.2.2.2.2.2.2.2.2.2.2.2.2.2.2.2.2.2.2.2.2.2.2.2.2.2.2.2.2.2.1)
    have k_xSA : xSA W := by
      rw [hW]
      exact (uxSA rfl hI.2.2.2.2.2.2.2.2.2.2.2.2.2.2.2.2.2.2.2.2.2.2.2.2.2.2.2.2.2.2.1)
    have k_xSG : xSG W := by
      rw [hW]
      exact (uxSG rfl hI.2.2.2.2.2.2.2.2.2.2.2.2.2.2.2.2.2.2.2.2.2.2.2.2.2.2.2.2.2.2.2.1)
    have k_xSF : xSF W := by
      rw [hW]
      exact (uxSF rfl hI.2.2.2.2.2.2.2.2.2.2.2.2.2.2.2.2.2.2.2.2.2.2.2.2.2.2.2.2.2.2.2.2.1)
    have k_xSB : xSB W := by
      rw [hW]
      exact (uxSB rfl hI.2.2.2.2.2.2.2.2.2.2.2.2.2.2.2.2.2.2.2.2.2.2.2.2.2.2.2.2.2.2.2.2.2.1)
    have k_xSC : xSC W := by
      rw [hW]
      exact (uxSC rfl hI.2.2.2.2.2.2.2.2.2.2.2.2.2.2.2.2.2.2.2.2.2.2.2.2.2.2.2.2.2.2.2.2.2.2.1)
    have k_xSD : xSD W := by
      rw [hW]
      exact (uxSD rfl hI.2.2.2.2.2.2.2.2.2.2.2.2.2.2.2.2.2.2.2.2.2.2.2.2.2.2.2.2.2.2.2.2.2.2.2.1)
    have k_xSE : xSE W := by
      have r : W 91 249 = 0 := by rw [hW, sU_at]
      intro h
      rw [r] at h
      omega
    have k_xSW : xSW W := by
      rw [hW]
      exact (uxSW rfl hI.2.2.2.2.2.2.2.2.2.2.2.2.2.2.2.2.2.2.2.2.2.2.2.2.2.2.2.2.2.2.2.2.2.2.2.2.2.1)
    have k_xST : xST W := by
      rw [hW]
      exact (uxST rfl hI.2.2.2.2.2.2.2.2.2.2.2.2.2.2.2.2.2.2.2.2.2.2.2.2.2.2.2.2.2.2.2.2.2.2.2.2.2.2.1)
    have k_xSP : xSP W := by
      rw [hW]
      exact (uxSP rfl hI.2.2.2.2.2.2.2.2.2.2.2.2.2.2.2.2.2.2.2.2.2.2.2.2.2.2.2.2.2.2.2.2.2.2.2.2.2.2.2.1)
    have k_xSL : xSL W := by
      rw [hW]
      exact (uxSL rfl hI.2.2.2.2.2.2.2.2.2.2.2.2.2.2.2.2.2.2.2.2.2.2.2.2.2.2.2.2.2.2.2.2.2.2.2.2.2.2.2.2.1)
    have k_xSM : xSM W := by
      rw [hW]
      exact (uxSM rfl hI.2.2.2.2.2.2.2.2.2.2.2.2.2.2.2.2.2.2.2.2.2.2.2.2.2.2.2.2.2.2.2.2.2.2.2.2.2.2.2.2.2.1)
    have k_xSI : xSI W := by
      rw [hW]
      exact (uxSI rfl hI.2.2.2.2.2.2.2.2.2.2.2.2.2.2.2.2.2.2.2.2.2.2.2.2.2.2.2.2.2.2.2.2.2.2.2.2.2.2.2.2.2.2.1)
    have k_xD3 : xD3 W := by
      rw [hW]
      exact (uxD3 rfl hI.2.2.2.2.2.2.2.2.2.2.2.2.2.2.2.2.2.2.2.2.2.2.2.2.2.2.2.2.2.2.2.2.2.2.2.2.2.2.2.2.2.2.2.1)
    have k_xDV : xDV W := by
      rw [hW]
      exact (uxDV rfl hI.2.2.2.2.2.2.2.2.2.2.2.2.2.2.2.2.2.2.2.2.2.2.2.2.2.2.2.2.2.2.2.2.2.2.2.2.2.2.2.2.2.2.2.2.1)
    have k_xDP : xDP W := by
      rw [hW]
      exact (uxDP rfl hI.2.2.2.2.2.2.2.2.2.2.2.2.2.2.2.2.2.2.2.2.2.2.2.2.2.2.2.2.2.2.2.2.2.2.2.2.2.2.2.2.2.2.2.2.2.1)
    have k_xDE : xDE W := by
      rw [hW]
      exact (uxDE rfl hI.2.2.2.2.2.2.2.2.2.2.2.2.2.2.2.2.2.2.2.2.2.2.2.2.2.2.2.2.2.2.2.2.2.2.2.2.2.2.2.2.2.2.2.2.2.2.1)
    have k_xQ5 : xQ5 W := by
      rw [hW]
      exact (uxQ5 rfl hI.2.2.2.2.2.2.2.2.2.2.2.2.2.2.2.2.2.2.2.2.2.2.2.2.2.2.2.2.2.2.2.2.2.2.2.2.2.2.2.2.2.2.2.2.2.2.2.1)
    have k_xQL : xQL W := by
      rw [hW]
      exact (uxQL rfl hI.2.2.2.2.2.2.2.2.2.2.2.2.2.2.2.2.2.2.2.2.2.2.2.2.2.2.2.2.2.2.2.2.2.2.2.2.2.2.2.2.2.2.2.2.2.2.2.2.1)
    have k_xQW : xQW W := by
      rw [hW]
      exact (uxQW rfl hI.2.2.2.2.2.2.2.2.2.2.2.2.2.2.2.2.2.2.2.2.2.2.2.2.2.2.2.2.2.2.2.2.2.2.2.2.2.2.2.2.2.2.2.2.2.2.2.2.2.1)
    have k_xQM : xQM W := by
      rw [hW]
      exact (uxQM rfl hI.2.2.2.2.2.2.2.2.2.2.2.2.2.2.2.2.2.2.2.2.2.2.2.2.2.2.2.2.2.2.2.2.2.2.2.2.2.2.2.2.2.2.2.2.2.2.2.2.2.2.1)
    have k_xQH : xQH W := by
      rw [hW]
      exact (uxQH rfl hI.2.2.2.2.2.2.2.2.2.2.2.2.2.2.2.2.2.2.2.2.2.2.2.2.2.2.2.2.2.2.2.2.2.2.2.2.2.2.2.2.2.2.2.2.2.2.2.2.2.2.2)
    have k_XC : XC W := ⟨k_xS1, k_xS2, k_xS3, k_xS4, k_xS5, k_xS6, k_xS7, k_xS8, k_xS9, k_xSA, k_xSG, k_xSF, k_xSB, k_xSC, k_xSD, k_xSE, k_xSW, k_xST, k_xSP, k_xSL, k_xSM, k_xSI, k_xD3, k_xDV, k_xDP, k_xDE, k_xQ5, k_xQL, k_xQW, k_xQM, k_xQH⟩
    have kXB : XB W := ⟨k_xN1, k_xN2, k_xN3, k_xN4, k_xN5, k_xN6, k_xH1, k_xK1, k_xC1, k_xRW, k_xWT, k_xCU, k_xG2, k_xG3, k_xG4, k_xG5, k_xG6, k_XC⟩
    exact ⟨base, k2, k3, kXA, kXB⟩
-- told5
def xr_327 : qRu := (7, [[(-32, 1), (-64, 2), (-128, 3), (-256, 4), (-512, 5), (1, 6)], [(32, 1), (64, 2), (128, 3), (256, 4), (512, 5), (-1, 6)], [(1, 1)], [(1, 0), (-1, 1)], [(1, 2)], [(1, 0), (-1, 2)], [(1, 3)], [(1, 0), (-1, 3)], [(1, 4)], [(1, 0), (-1, 4)], [(1, 5)], [(1, 0), (-1, 5)]], [], [], [(91, 249, [(1, 0)]), (91, 240, [(1, 0)]), (91, 241, [(1, 0)]), (91, 242, [(5, 0)]), (91, 243, [(32, 0)]), (91, 246, [(1, 6)]), (91, 244, [(32, 0), (-32, 1), (1, 6)]), (91, 245, []), (91, 247, [(32, 0)]), (91, 250, []), (91, 251, []), (91, 252, []), (91, 253, []), (91, 255, [(1, 6)]), (91, 256, [(32, 1)]), (91, 257, [])], [])
theorem xo_327 : qRok xr_327 := by
  intro ρ M h0 hf hm hI
  have f0 := hf [(-32, 1), (-64, 2), (-128, 3), (-256, 4), (-512, 5), (1, 6)] (by decide)
  have f1 := hf [(32, 1), (64, 2), (128, 3), (256, 4), (512, 5), (-1, 6)] (by decide)
  have f2 := hf [(1, 1)] (by decide)
  have f3 := hf [(1, 0), (-1, 1)] (by decide)
  have f4 := hf [(1, 2)] (by decide)
  have f5 := hf [(1, 0), (-1, 2)] (by decide)
  have f6 := hf [(1, 3)] (by decide)
  have f7 := hf [(1, 0), (-1, 3)] (by decide)
  have f8 := hf [(1, 4)] (by decide)
  have f9 := hf [(1, 0), (-1, 4)] (by decide)
  have f10 := hf [(1, 5)] (by decide)
  have f11 := hf [(1, 0), (-1, 5)] (by decide)
  simp only [qD, h0] at f0 f1 f2 f3 f4 f5 f6 f7 f8 f9 f10 f11
  have qxSD := hI.2.2.2.2.2.2.2.2.2.2.2.2.2.2.2.2.2.2.2.2.2.2.2.2.2.2.2.2.2.2.2.2.2.2.2.1
  have qxSE := hI.2.2.2.2.2.2.2.2.2.2.2.2.2.2.2.2.2.2.2.2.2.2.2.2.2.2.2.2.2.2.2.2.2.2.2.2.1
  refine ⟨ρ, fun _ _ => rfl, fun f h => ?_, ?_⟩
  · exact nomatch h
  · show sI (sU (sU (sU (sU (sU (sU (sU (sU (sU (sU (sU (sU (sU (sU (sU (sU M 91 249 (1 * ρ 0 + 0)) 91 240 (1 * ρ 0 + 0)) 91 241 (1 * ρ 0 + 0)) 91 242 (5 * ρ 0 + 0)) 91 243 (32 * ρ 0 + 0)) 91 246 (1 * ρ 6 + 0)) 91 244 (32 * ρ 0 + (-32 * ρ 1 + (1 * ρ 6 + 0)))) 91 245 (0)) 91 247 (32 * ρ 0 + 0)) 91 250 (0)) 91 251 (0)) 91 252 (0)) 91 253 (0)) 91 255 (1 * ρ 6 + 0)) 91 256 (32 * ρ 1 + 0)) 91 257 (0))
    obtain ⟨W, hW⟩ : ∃ W, W = (sU (sU (sU (sU (sU (sU (sU (sU (sU (sU (sU (sU (sU (sU (sU (sU M 91 249 (1 * ρ 0 + 0)) 91 240 (1 * ρ 0 + 0)) 91 241 (1 * ρ 0 + 0)) 91 242 (5 * ρ 0 + 0)) 91 243 (32 * ρ 0 + 0)) 91 246 (1 * ρ 6 + 0)) 91 244 (32 * ρ 0 + (-32 * ρ 1 + (1 * ρ 6 + 0)))) 91 245 (0)) 91 247 (32 * ρ 0 + 0)) 91 250 (0)) 91 251 (0)) 91 252 (0)) 91 253 (0)) 91 255 (1 * ρ 6 + 0)) 91 256 (32 * ρ 1 + 0)) 91 257 (0)) := ⟨_, rfl⟩
    rw [← hW]
    have base : sI0 W := by
      rw [hW]
      exact (si_u0 (si_u0 (si_u0 (si_u0 (si_u0 (si_u0 (si_u0 (si_u0 (si_u0 (si_u0 (si_u0 (si_u0 (si_u0 (si_u0 (si_u0 (si_u0 hI.1 (fun r hr => by cases hr)) (fun r hr => by cases hr)) (fun r hr => by cases hr)) (fun r hr => by cases hr)) (fun r hr => by cases hr)) (fun r hr => by cases hr)) (fun r hr => by cases hr)) (fun r hr => by cases hr)) (fun r hr => by cases hr)) (fun r hr => by cases hr)) (fun r hr => by cases hr)) (fun r hr => by cases hr)) (fun r hr => by cases hr)) (fun r hr => by cases hr)) (fun r hr => by cases hr)) (fun r hr => by cases hr))
    have k2 : XI2 W := by
      rw [hW]
      exact (xi2_u rfl (xi2_u rfl (xi2_u rfl (xi2_u rfl (xi2_u rfl (xi2_u rfl (xi2_u rfl (xi2_u rfl (xi2_u rfl (xi2_u rfl (xi2_u rfl (xi2_u rfl (xi2_u rfl (xi2_u rfl (xi2_u rfl (xi2_u rfl hI.2.1))))))))))))))))
    have k3 : XI3 W := by
      rw [hW]
      exact (xi3_u rfl (xi3_u rfl (xi3_u rfl (xi3_u rfl (xi3_u rfl (xi3_u rfl (xi3_u rfl (xi3_u rfl (xi3_u rfl (xi3_u rfl (xi3_u rfl (xi3_u rfl (xi3_u rfl (xi3_u rfl (xi3_u rfl (xi3_u rfl hI.2.2.1))))))))))))))))
    have kXA : XA W := by
      rw [hW]
      exact (uXA rfl (uXA rfl (uXA rfl (uXA rfl (uXA rfl (uXA rfl (uXA rfl (uXA rfl (uXA rfl (uXA rfl (uXA rfl (uXA rfl (uXA rfl (uXA rfl (uXA rfl (uXA rfl hI.2.2.2.1))))))))))))))))
    have k_xN1 : xN1 W := by
      rw [hW]
      exact (uxN1 rfl (uxN1 rfl (uxN1 rfl (uxN1 rfl (uxN1 rfl (uxN1 rfl (uxN1 rfl (uxN1 rfl (uxN1 rfl (uxN1 rfl (uxN1 rfl (uxN1 rfl (uxN1 rfl (uxN1 rfl (uxN1 rfl (uxN1 rfl hI.2.2.2.2.1))))))))))))))))
    have k_xN2 : xN2 W := by
      rw [hW]
      exact (uxN2 rfl (uxN2 rfl (uxN2 rfl (uxN2 rfl (uxN2 rfl (uxN2 rfl (uxN2 rfl (uxN2 rfl (uxN2 rfl (uxN2 rfl (uxN2 rfl (uxN2 rfl (uxN2 rfl (uxN2 rfl (uxN2 rfl (uxN2 rfl hI.2.2.2.2.2.1))))))))))))))))
    have k_xN3 : xN3 W := by
      rw [hW]
      exact (uxN3 rfl (uxN3 rfl (uxN3 rfl (uxN3 rfl (uxN3 rfl (uxN3 rfl (uxN3 rfl (uxN3 rfl (uxN3 rfl (uxN3 rfl (uxN3 rfl (uxN3 rfl (uxN3 rfl (uxN3 rfl (uxN3 rfl (uxN3 rfl hI.2.2.2.2.2.2.1))))))))))))))))
    have k_xN4 : xN4 W := by
      rw [hW]
      exact (uxN4 rfl (uxN4 rfl (uxN4 rfl (uxN4 rfl (uxN4 rfl (uxN4 rfl (uxN4 rfl (uxN4 rfl (uxN4 rfl (uxN4 rfl (uxN4 rfl (uxN4 rfl (uxN4 rfl (uxN4 rfl (uxN4 rfl (uxN4 rfl hI.2.2.2.2.2.2.2.1))))))))))))))))
    have k_xN5 : xN5 W := by
      rw [hW]
      exact (uxN5 rfl (uxN5 rfl (uxN5 rfl (uxN5 rfl (uxN5 rfl (uxN5 rfl (uxN5 rfl (uxN5 rfl (uxN5 rfl (uxN5 rfl (uxN5 rfl (uxN5 rfl (uxN5 rfl (uxN5 rfl (uxN5 rfl (uxN5 rfl hI.2.2.2.2.2.2.2.2.1))))))))))))))))
    have k_xN6 : xN6 W := by
      rw [hW]
      exact (uxN6 rfl (uxN6 rfl (uxN6 rfl (uxN6 rfl (uxN6 rfl (uxN6 rfl (uxN6 rfl (uxN6 rfl (uxN6 rfl (uxN6 rfl (uxN6 rfl (uxN6 rfl (uxN6 rfl (uxN6 rfl (uxN6 rfl (uxN6 rfl hI.2.2.2.2.2.2.2.2.2.1))))))))))))))))
    have k_xH1 : xH1 W := by
      rw [hW]
      exact (uxH1 rfl (uxH1 rfl (uxH1 rfl (uxH1 rfl (uxH1 rfl (uxH1 rfl (uxH1 rfl (uxH1 rfl (uxH1 rfl (uxH1 rfl (uxH1 rfl (uxH1 rfl (uxH1 rfl (uxH1 rfl (uxH1 rfl (uxH1 rfl hI.2.2.2.2.2.2.2.2.2.2.1))))))))))))))))
    have k_xK1 : xK1 W := by
      rw [hW]
      exact (uxK1 rfl (uxK1 rfl (uxK1 rfl (uxK1 rfl (uxK1 rfl (uxK1 rfl (uxK1 rfl (uxK1 rfl (uxK1 rfl (uxK1 rfl (uxK1 rfl (uxK1 rfl (uxK1 rfl (uxK1 rfl (uxK1 rfl (uxK1 rfl hI.2.2.2.2.2.2.2.2.2.2.2.1))))))))))))))))
    have k_xC1 : xC1 W := by
      rw [hW]
      exact (uxC1 rfl (uxC1 rfl (uxC1 rfl (uxC1 rfl (uxC1 rfl (uxC1 rfl (uxC1 rfl (uxC1 rfl (uxC1 rfl (uxC1 rfl (uxC1 rfl (uxC1 rfl (uxC1 rfl (uxC1 rfl (uxC1 rfl (uxC1 rfl hI.2.2.2.2.2.2.2.2.2.2.2.2.1))))))))))))))))
    have k_xRW : xRW W := by
      rw [hW]
      exact (uxRW rfl (uxRW rfl (uxRW rfl (uxRW rfl (uxRW rfl (uxRW rfl (uxRW rfl (uxRW rfl (uxRW rfl (uxRW rfl (uxRW rfl (uxRW rfl (uxRW rfl (uxRW rfl (uxRW rfl (uxRW rfl hI.2.2.2.2.2.2.2.2.2.2.2.2.2.1))))))))))))))))
    have k_xWT : xWT W := by
      rw [hW]
      exact (uxWT rfl (uxWT rfl (uxWT rfl (uxWT rfl (uxWT rfl (uxWT rfl (uxWT rfl (uxWT rfl (uxWT rfl (uxWT rfl (uxWT rfl (uxWT rfl (uxWT rfl (uxWT rfl (uxWT rfl (uxWT rfl hI.2.2.2.2.2.2.2.2.2.2.2.2.2.2.1))))))))))))))))
    have k_xCU : xCU W := by
      rw [hW]
      exact (uxCU rfl (uxCU rfl (uxCU rfl (uxCU rfl (uxCU rfl (uxCU rfl (uxCU rfl (uxCU rfl (uxCU rfl (uxCU rfl (uxCU rfl (uxCU rfl (uxCU rfl (uxCU rfl (uxCU rfl (uxCU rfl hI.2.2.2.2.2.2.2.2.2.2.2.2.2.2.2.1))))))))))))))))
    have k_xG2 : xG2 W := by
      rw [hW]
      exact (uxG2 rfl (uxG2 rfl (uxG2 rfl (uxG2 rfl (uxG2 rfl (uxG2 rfl (uxG2 rfl (uxG2 rfl (uxG2 rfl (uxG2 rfl (uxG2 rfl (uxG2 rfl (uxG2 rfl (uxG2 rfl (uxG2 rfl (uxG2 rfl hI.2.2.2.2.2.2.2.2.2.2.2.2.2.2.2.2.1))))))))))))))))
    have k_xG3 : xG3 W := by
      rw [hW]
      exact (uxG3 rfl (uxG3 rfl (uxG3 rfl (uxG3 rfl (uxG3 rfl (uxG3 rfl (uxG3 rfl (uxG3 rfl (uxG3 rfl (uxG3 rfl (uxG3 rfl (uxG3 rfl (uxG3 rfl (uxG3 rfl (uxG3 rfl (uxG3 rfl hI.2.2.2.2.2.2.2.2.2.2.2.2.2.2.2.2.2.1))))))))))))))))
    have k_xG4 : xG4 W := by
      rw [hW]
      exact (uxG4 rfl (uxG4 rfl (uxG4 rfl (uxG4 rfl (uxG4 rfl (uxG4 rfl (uxG4 rfl (uxG4 rfl (uxG4 rfl (uxG4 rfl (uxG4 rfl (uxG4 rfl (uxG4 rfl (uxG4 rfl (uxG4 rfl (uxG4 rfl hI.2.2.2.2.2.2.2.2.2.2.2.2.2.2.2.2.2.2.1))))))))))))))))
    have k_xG5 : xG5 W := by
      rw [hW]
      exact (uxG5 rfl (uxG5 rfl (uxG5 rfl (uxG5 rfl (uxG5 rfl (uxG5 rfl (uxG5 rfl (uxG5 rfl (uxG5 rfl (uxG5 rfl (uxG5 rfl (uxG5 rfl (uxG5 rfl (uxG5 rfl (uxG5 rfl (uxG5 rfl hI.2.2.2.2.2.2.2.2.2.2.2.2.2.2.2.2.2.2.2.1))))))))))))))))
    have k_xG6 : xG6 W := by
      rw [hW]
      exact (uxG6 rfl (uxG6 rfl (uxG6 rfl (uxG6 rfl (uxG6 rfl (uxG6 rfl (uxG6 rfl (uxG6 rfl (uxG6 rfl (uxG6 rfl (uxG6 rfl (uxG6 rfl (uxG6 rfl (uxG6 rfl (uxG6 rfl (uxG6 rfl hI.2.2.2.2.2.2.2.2.2.2.2.2.2.2.2.2.2.2.2.2.1))))))))))))))))
    have k_xS1 : xS1 W := by
      rw [hW]
      exact (uxS1 rfl (uxS1 rfl (uxS1 rfl (uxS1 rfl (uxS1 rfl (uxS1 rfl (uxS1 rfl (uxS1 rfl (uxS1 rfl (uxS1 rfl (uxS1 rfl (uxS1 rfl (uxS1 rfl (uxS1 rfl (uxS1 rfl (uxS1 rfl hI.2.2.2.2.2.2.2.2.2.2.2.2.2.2.2.2.2.2.2.2.2.1))))))))))))))))
    have k_xS2 : xS2 W := by
      rw [hW]
      exact (uxS2 rfl (uxS2 rfl (uxS2 rfl (uxS2 rfl (uxS2 rfl (uxS2 rfl (uxS2 rfl (uxS2 rfl (uxS2 rfl (uxS2 rfl (uxS2 rfl (uxS2 rfl (uxS2 rfl (uxS2 rfl (uxS2 rfl (uxS2 rfl hI.2.2.2.2.2.2.2.2.2.2.2.2.2.2.2.2.2.2.2.2.2.2.1))))))))))))))))
    have k_xS3 : xS3 W := by
      rw [hW]
      exact (uxS3 rfl (uxS3 rfl (uxS3 rfl (uxS3 rfl (uxS3 rfl (uxS3 rfl (uxS3 rfl (uxS3 rfl (uxS3 rfl (uxS3 rfl (uxS3 rfl (uxS3 rfl (uxS3 rfl (uxS3 rfl (uxS3 rfl (uxS3 rfl hI.2.2.2.2.2.2.2.2.2.2.2.2.2.2.2.2.2.2.2.2.2.2.2.1))))))))))))))))
    have k_xS4 : xS4 W := by
      rw [hW]
      exact (uxS4 rfl (uxS4 rfl (uxS4 rfl (uxS4 rfl (uxS4 rfl (uxS4 rfl (uxS4 rfl (uxS4 rfl (uxS4 rfl (uxS4 rfl (uxS4 rfl (uxS4 rfl (uxS4 rfl (uxS4 rfl (uxS4 rfl (uxS4 rfl hI.2.2.2.2.2.2.2.2.2.2.2.2.2.2.2.2.2.2.2.2.2.2.2.2.1))))))))))))))))
    have k_xS5 : xS5 W := by
      rw [hW]
      exact (uxS5 rfl (uxS5 rfl (uxS5 rfl (uxS5 rfl (uxS5 rfl (uxS5 rfl (uxS5 rfl (uxS5 rfl (uxS5 rfl (uxS5 rfl (uxS5 rfl (uxS5 rfl (uxS5 rfl (uxS5 rfl (uxS5 rfl (uxS5 rfl hI.2.2.2.2.2.2.2.2.2.2.2.2.2.2.2.2.2.2.2.2.2.2.2.2.2.1))))))))))))))))
    have k_xS6 : xS6 W := by
      rw [hW]
      exact (uxS6 rfl (uxS6 rfl (uxS6 rfl (uxS6 rfl (uxS6 rfl (uxS6 rfl (uxS6 rfl (uxS6 rfl (uxS6 rfl (uxS6 rfl (uxS6 rfl (uxS6 rfl (uxS6 rfl (uxS6 rfl (uxS6 rfl (uxS6 rfl hI.2.2.2.2.2.2.2.2.2.2.2.2.2.2.2.2.2.2.2.2.2.2.2.2.2.2.1))))))))))))))))
    have k_xS7 : xS7 W := by
      rw [hW]
      exact (uxS7 rfl (uxS7 rfl (uxS7 rfl (uxS7 rfl (uxS7 rfl (uxS7 rfl (uxS7 rfl (uxS7 rfl (uxS7 rfl (uxS7 rfl (uxS7 rfl (uxS7 rfl (uxS7 rfl (uxS7 rfl (uxS7 rfl (uxS7 rfl hI.2.2.2.2.2.2.2.2.2.2.2.2.2.2.2.2.2.2.2.2.2.2.2.2.2.2.2.1))))))))))))))))
    have k_xS8 : xS8 W := by
      rw [hW]
      exact (uxS8 rfl (uxS8 rfl (uxS8 rfl (uxS8 rfl (uxS8 rfl (uxS8 rfl (uxS8 rfl (uxS8 rfl (uxS8 rfl (uxS8 rfl (uxS8 rfl (uxS8 rfl (uxS8 rfl (uxS8 rfl (uxS8 rfl (uxS8 rfl hI.2.2.2.2.2.2.2.2.2.2.2.2.2.2.2.2.2.2.2.2.2.2.2.2.2.2.2.2.1))))))))))))))))
    have k_xS9 : xS9 W := by
      rw [hW]
      exact (uxS9 rfl (uxS9 rfl (uxS9 rfl (uxS9 rfl (uxS9 rfl (uxS9 rfl (uxS9 rfl (uxS9 rfl (uxS9 rfl (uxS9 rfl (uxS9 rfl (uxS9 rfl (uxS9 rfl (uxS9 rfl (uxS9 rfl (uxS9 rfl hI.2.2.2.2.2.2.2.2.2.2.2.2.2.2.2.2.2.2.2.2.2.2.2.2.2.2.2.2.2.1))))))))))))))))
    have k_xSA : xSA W := by
      rw [hW]
      exact (uxSA rfl (uxSA rfl (uxSA rfl (uxSA rfl (uxSA rfl (uxSA rfl (uxSA rfl (uxSA rfl (uxSA rfl (uxSA rfl (uxSA rfl (uxSA rfl (uxSA rfl (uxSA rfl (uxSA rfl (uxSA rfl hI.2.2.2.2.2.2.2.2.2.2.2.2.2.2.2.2.2.2.2.2.2.2.2.2.2.2.2.2.2.2.1))))))))))))))))
    have k_xSG : xSG W := by
      rw [hW]
      exact (uxSG rfl (uxSG rfl (uxSG rfl (uxSG rfl (uxSG rfl (uxSG rfl (uxSG rfl (uxSG rfl (uxSG rfl (uxSG rfl (uxSG rfl (uxSG rfl (uxSG rfl (uxSG rfl (uxSG rfl (uxSG rfl hI.2.2.2.2.2.2.2.2.2.2.2.2.2.2.2.2.2.2.2.2.2.2.2.2.2.2.2.2.2.2.2.1))))))))))))))))
    have k_xSF : xSF W := by
      rw [hW]
      exact (uxSF rfl (uxSF rfl (uxSF rfl (uxSF rfl (uxSF rfl (uxSF rfl (uxSF rfl (uxSF rfl (uxSF rfl (uxSF rfl (uxSF rfl (uxSF rfl (uxSF rfl (uxSF rfl (uxSF rfl (uxSF rfl hI.2.2.2.2.2.2.2.2.2.2.2.2.2.2.2.2.2.2.2.2.2.2.2.2.2.2.2.2.2.2.2.2.1))))))))))))))))
    have k_xSB : xSB W := by
      rw [hW]
      exact (uxSB rfl (uxSB rfl (uxSB rfl (uxSB rfl (uxSB rfl (uxSB rfl (uxSB rfl (uxSB rfl (uxSB rfl (uxSB rfl (uxSB rfl (uxSB rfl (uxSB rfl (uxSB rfl (uxSB rfl (uxSB rfl hI.2.2.2.2.2.2.2.2.2.2.2.2.2.2.2.2.2.2.2.2.2.2.2.2.2.2.2.2.2.2.2.2.2.1))))))))))))))))
    have k_xSC : xSC W := by
      rw [hW]
      exact (uxSC rfl (uxSC rfl (uxSC rfl (uxSC rfl (uxSC rfl (uxSC rfl (uxSC rfl (uxSC rfl (uxSC rfl (uxSC rfl (uxSC rfl (uxSC rfl (uxSC rfl (uxSC rfl (uxSC rfl (uxSC rfl hI.2.2.2.2.2.2.2.2.2.2.2.2.2.2.2.2.2.2.2.2.2.2.2.2.2.2.2.2.2.2.2.2.2.2.1))))))))))))))))
    have k_xSD : xSD W := by
      have r91_240 : W 91 240 = 1 * ρ 0 + 0 := by rw [hW, sU_ne (fun z => by omega), sU_ne (fun z => by omega), sU_ne (fun z => by omega), sU_ne (fun z => by omega), sU_ne (fun z => by omega), sU_ne (fun z => by omega), sU_ne (fun z => by omega), sU_ne (fun z => by omega), sU_ne (fun z => by omega), sU_ne (fun z => by omega), sU_ne (fun z => by omega), sU_ne (fun z => by omega), sU_ne (fun z => by omega), sU_ne (fun z => by omega), sU_at]
      have r91_241 : W 91 241 = 1 * ρ 0 + 0 := by rw [hW, sU_ne (fun z => by omega), sU_ne (fun z => by omega), sU_ne (fun z => by omega), sU_ne (fun z => by omega), sU_ne (fun z => by omega), sU_ne (fun z => by omega), sU_ne (fun z => by omega), sU_ne (fun z => by omega), sU_ne (fun z => by omega), sU_ne (fun z => by omega), sU_ne (fun z => by omega), sU_ne (fun z => by omega), sU_ne (fun z => by omega), sU_at]
      have r91_242 : W 91 242 = 5 * ρ 0 + 0 := by rw [hW, sU_ne (fun z => by omega), sU_ne (fun z => by omega), sU_ne (fun z => by omega), sU_ne (fun z => by omega), sU_ne (fun z => by omega), sU_ne (fun z => by omega), sU_ne (fun z => by omega), sU_ne (fun z => by omega), sU_ne (fun z => by omega), sU_ne (fun z => by omega), sU_ne (fun z => by omega), sU_ne (fun z => by omega), sU_at]
      have r91_243 : W 91 243 = 32 * ρ 0 + 0 := by rw [hW, sU_ne (fun z => by omega), sU_ne (fun z => by omega), sU_ne (fun z => by omega), sU_ne (fun z => by omega), sU_ne (fun z => by omega), sU_ne (fun z => by omega), sU_ne (fun z => by omega), sU_ne (fun z => by omega), sU_ne (fun z => by omega), sU_ne (fun z => by omega), sU_ne (fun z => by omega), sU_at]
      have r91_244 : W 91 244 = 32 * ρ 0 + (-32 * ρ 1 + (1 * ρ 6 + 0)) := by rw [hW, sU_ne (fun z => by omega), sU_ne (fun z => by omega), sU_ne (fun z => by omega), sU_ne (fun z => by omega), sU_ne (fun z => by omega), sU_ne (fun z => by omega), sU_ne (fun z => by omega), sU_ne (fun z => by omega), sU_ne (fun z => by omega), sU_at]
      have r91_245 : W 91 245 = 0 := by rw [hW, sU_ne (fun z => by omega), sU_ne (fun z => by omega), sU_ne (fun z => by omega), sU_ne (fun z => by omega), sU_ne (fun z => by omega), sU_ne (fun z => by omega), sU_ne (fun z => by omega), sU_ne (fun z => by omega), sU_at]
      have r91_246 : W 91 246 = 1 * ρ 6 + 0 := by rw [hW, sU_ne (fun z => by omega), sU_ne (fun z => by omega), sU_ne (fun z => by omega), sU_ne (fun z => by omega), sU_ne (fun z => by omega), sU_ne (fun z => by omega), sU_ne (fun z => by omega), sU_ne (fun z => by omega), sU_ne (fun z => by omega), sU_ne (fun z => by omega), sU_at]
      have r91_247 : W 91 247 = 32 * ρ 0 + 0 := by rw [hW, sU_ne (fun z => by omega), sU_ne (fun z => by omega), sU_ne (fun z => by omega), sU_ne (fun z => by omega), sU_ne (fun z => by omega), sU_ne (fun z => by omega), sU_ne (fun z => by omega), sU_at]
      intro h
      rw [r91_241, r91_242, r91_243, r91_244, r91_245, r91_246, r91_247, h0]
      have t := xtold_5 (a := ρ 1) (b := ρ 2) (c := ρ 3) (d := ρ 4) (e := ρ 5) (by omega) (by omega) (by omega) (by omega) (by omega)
      rw [show (1 * ρ 6 + 0 : Int) = 32 * ρ 1 + 64 * ρ 2 + 128 * ρ 3 + 256 * ρ 4 + 512 * ρ 5 by omega]
      refine ⟨by decide, ?_, by decide⟩
      rw [show ((32 : Int) * 1 + 0) = 32 from rfl, t.2]
      omega
    have k_xSE : xSE W := by
      have r91_249 : W 91 249 = 1 * ρ 0 + 0 := by rw [hW, sU_ne (fun z => by omega), sU_ne (fun z => by omega), sU_ne (fun z => by omega), sU_ne (fun z => by omega), sU_ne (fun z => by omega), sU_ne (fun z => by omega), sU_ne (fun z => by omega), sU_ne (fun z => by omega), sU_ne (fun z => by omega), sU_ne (fun z => by omega), sU_ne (fun z => by omega), sU_ne (fun z => by omega), sU_ne (fun z => by omega), sU_ne (fun z => by omega), sU_ne (fun z => by omega), sU_at]
      have r91_250 : W 91 250 = 0 := by rw [hW, sU_ne (fun z => by omega), sU_ne (fun z => by omega), sU_ne (fun z => by omega), sU_ne (fun z => by omega), sU_ne (fun z => by omega), sU_ne (fun z => by omega), sU_at]
      have r91_251 : W 91 251 = 0 := by rw [hW, sU_ne (fun z => by omega), sU_ne (fun z => by omega), sU_ne (fun z => by omega), sU_ne (fun z => by omega), sU_ne (fun z => by omega), sU_at]
      have r91_252 : W 91 252 = 0 := by rw [hW, sU_ne (fun z => by omega), sU_ne (fun z => by omega), sU_ne (fun z => by omega), sU_ne (fun z => by omega), sU_at]
      have r91_253 : W 91 253 = 0 := by rw [hW, sU_ne (fun z => by omega), sU_ne (fun z => by omega), sU_ne (fun z => by omega), sU_at]
      have r91_255 : W 91 255 = 1 * ρ 6 + 0 := by rw [hW, sU_ne (fun z => by omega), sU_ne (fun z => by omega), sU_at]
      have r91_256 : W 91 256 = 32 * ρ 1 + 0 := by rw [hW, sU_ne (fun z => by omega), sU_at]
      have r91_243 : W 91 243 = 32 * ρ 0 + 0 := by rw [hW, sU_ne (fun z => by omega), sU_ne (fun z => by omega), sU_ne (fun z => by omega), sU_ne (fun z => by omega), sU_ne (fun z => by omega), sU_ne (fun z => by omega), sU_ne (fun z => by omega), sU_ne (fun z => by omega), sU_ne (fun z => by omega), sU_ne (fun z => by omega), sU_ne (fun z => by omega), sU_at]
      have r91_257 : W 91 257 = 0 := by rw [hW, sU_at]
      intro h
      rw [r91_243, r91_250, r91_251, r91_252, r91_253, r91_255, r91_256, r91_257, h0]
      have t := xtold_5 (a := ρ 1) (b := ρ 2) (c := ρ 3) (d := ρ 4) (e := ρ 5) (by omega) (by omega) (by omega) (by omega) (by omega)
      rw [show (1 * ρ 6 + 0 : Int) = 32 * ρ 1 + 64 * ρ 2 + 128 * ρ 3 + 256 * ρ 4 + 512 * ρ 5 by omega]
      refine ⟨by decide, by decide, ?_, by decide⟩
      rw [show ((32 : Int) * 1 + 0) = 32 from rfl, t.1]
      omega
    have k_xSW : xSW W := by
      rw [hW]
      exact (uxSW rfl (uxSW rfl (uxSW rfl (uxSW rfl (uxSW rfl (uxSW rfl (uxSW rfl (uxSW rfl (uxSW rfl (uxSW rfl (uxSW rfl (uxSW rfl (uxSW rfl (uxSW rfl (uxSW rfl (uxSW rfl hI.2.2.2.2.2.2.2.2.2.2.2.2.2.2.2.2.2.2.2.2.2.2.2.2.2.2.2.2.2.2.2.2.2.2.2.2.2.1))))))))))))))))
    have k_xST : xST W := by
      rw [hW]
      exact (uxST rfl (uxST rfl (uxST rfl (uxST rfl (uxST rfl (uxST rfl (uxST rfl (uxST rfl (uxST rfl (uxST rfl (uxST rfl (uxST rfl (uxST rfl (uxST rfl (uxST rfl (uxST rfl hI.2.2.2.2.2.2.2.2.2.2.2.2.2.2.2.2.2.2.2.2.2.2.2.2.2.2.2.2.2.2.2.2.2.2.2.2.2.2.1))))))))))))))))
    have k_xSP : xSP W := by
      rw [hW]
      exact (uxSP rfl (uxSP rfl (uxSP rfl (uxSP rfl (uxSP rfl (uxSP rfl (uxSP rfl (uxSP rfl (uxSP rfl (uxSP rfl (uxSP rfl (uxSP rfl (uxSP rfl (uxSP rfl (uxSP rfl (uxSP rfl hI.2.2.2.2.2.2.2.2.2.2.2.2.2.2.2.2.2.2.2.2.2.2.2.2.2.2.2.2.2.2.2.2.2.2.2.2.2.2.2.1))))))))))))))))
    have k_xSL : xSL W := by
      rw [hW]
      exact (uxSL rfl (uxSL rfl (uxSL rfl (uxSL rfl (uxSL rfl (uxSL rfl (uxSL rfl (uxSL rfl (uxSL rfl (uxSL rfl (uxSL rfl (uxSL rfl (uxSL rfl (uxSL rfl (uxSL rfl (uxSL rfl hI.2.2.2.2.2.2.2.2.2.2.2.2.2.2.2.2.2.2.2.2.2.2.2.2.2.2.2.2.2.2.2.2.2.2.2.2.2.2.2.2.1))))))))))))))))
    have k_xSM : xSM W := by
      rw [hW]
      exact (uxSM rfl (uxSM rfl (uxSM rfl (uxSM rfl (uxSM rfl (uxSM rfl (uxSM rfl (uxSM rfl (uxSM rfl (uxSM rfl (uxSM rfl (uxSM rfl (uxSM rfl (uxSM rfl (uxSM rfl (uxSM rfl hI.2.2.2.2.2.2.2.2.2.2.2.2.2.2.2.2.2.2.2.2.2.2.2.2.2.2.2.2.2.2.2.2.2.2.2.2.2.2.2.2.2.1))))))))))))))))
    have k_xSI : xSI W := by
      rw [hW]
      exact (uxSI rfl (uxSI rfl (uxSI rfl (uxSI rfl (uxSI rfl (uxSI rfl (uxSI rfl (uxSI rfl (uxSI rfl (uxSI rfl (uxSI rfl (uxSI rfl (uxSI rfl (uxSI rfl (uxSI rfl (uxSI rfl hI.2.2.2.2.2.2.2.2.2.2.2.2.2.2.2.2.2.2.2.2.2.2.2.2.2.2.2.2.2.2.2.2.2.2.2.2.2.2.2.2.2.2.1))))))))))))))))
    have k_xD3 : xD3 W := by
      rw [hW]
      exact (uxD3 rfl (uxD3 rfl (uxD3 rfl (uxD3 rfl (uxD3 rfl (uxD3 rfl (uxD3 rfl (uxD3 rfl (uxD3 rfl (uxD3 rfl (uxD3 rfl (uxD3 rfl (uxD3 rfl (uxD3 rfl (uxD3 rfl (uxD3 rfl hI.2.2.2.2.2.2.2.2.2.2.2.2.2.2.2.2.2.2.2.2.2.2.2.2.2.2.2.2.2.2.2.2.2.2.2.2.2.2.2.2.2.2.2.1))))))))))))))))
    have k_xDV : xDV W := by
      rw [hW]
      exact (uxDV rfl (uxDV rfl (uxDV rfl (uxDV rfl (uxDV rfl (uxDV rfl (uxDV rfl (uxDV rfl (uxDV rfl (uxDV rfl (uxDV rfl (uxDV rfl (uxDV rfl (uxDV rfl (uxDV rfl (uxDV rfl hI.2.2.2.2.2.2.2.2.2.2.2.2.2.2.2.2.2.2.2.2.2.2.2.2.2.2.2.2.2.2.2.2.2.2.2.2.2.2.2.2.2.2.2.2.1))))))))))))))))
    have k_xDP : xDP W := by
      rw [hW]
      exact (uxDP rfl (uxDP rfl (uxDP rfl (uxDP rfl (uxDP rfl (uxDP rfl (uxDP rfl (uxDP rfl (uxDP rfl (uxDP rfl (uxDP rfl (uxDP rfl (uxDP rfl (uxDP rfl (uxDP rfl (uxDP rfl hI.2.2.2.2.2.2.2.2.2.2.2.2.2.2.2.2.2.2.2.2.2.2.2.2.2.2.2.2.2.2.2.2.2.2.2.2.2.2.2.2.2.2.2.2.2.1))))))))))))))))
    have k_xDE : xDE W := by
      rw [hW]
      exact (uxDE rfl (uxDE rfl (uxDE rfl (uxDE rfl (uxDE rfl (uxDE rfl (uxDE rfl (uxDE rfl (uxDE rfl (uxDE rfl (uxDE rfl (uxDE rfl (uxDE rfl (uxDE rfl (uxDE rfl (uxDE rfl hI.2.2.2.2.2.2.2.2.2.2.2.2.2.2.2.2.2.2.2.2.2.2.2.2.2.2.2.2.2.2.2.2.2.2.2.2.2.2.2.2.2.2.2.2.2.2.1))))))))))))))))
    have k_xQ5 : xQ5 W := by
      rw [hW]
      exact (uxQ5 rfl (uxQ5 rfl (uxQ5 rfl (uxQ5 rfl (uxQ5 rfl (uxQ5 rfl (uxQ5 rfl (uxQ5 rfl (uxQ5 rfl (uxQ5 rfl (uxQ5 rfl (uxQ5 rfl (uxQ5 rfl (uxQ5 rfl (uxQ5 rfl (uxQ5 rfl hI.2.2.2.2.2.2.2.2.2.2.2.2.2.2.2.2.2.2.2.2.2.2.2.2.2.2.2.2.2.2.2.2.2.2.2.2.2.2.2.2.2.2.2.2.2.2.2.1))))))))))))))))
    have k_xQL : xQL W := by
      rw [hW]
      exact (uxQL rfl (uxQL rfl (uxQL rfl (uxQL rfl (uxQL rfl (uxQL rfl (uxQL rfl (uxQL rfl (uxQL rfl (uxQL rfl (uxQL rfl (uxQL rfl (uxQL rfl (uxQL rfl (uxQL rfl (uxQL rfl hI.2.2.2.2.2.2.2.2.2.2.2.2.2.2.2.2.2.2.2.2.2.2.2.2.2.2.2.2.2.2.2.2.2.2.2.2.2.2.2.2.2.2.2.2.2.2.2.2.1))))))))))))))))
    have k_xQW : xQW W := by
      rw [hW]
      exact (uxQW rfl (uxQW rfl (uxQW rfl (uxQW rfl (uxQW rfl (uxQW rfl (uxQW rfl (uxQW rfl (uxQW rfl (uxQW rfl (uxQW rfl (uxQW rfl (uxQW rfl (uxQW rfl (uxQW rfl (uxQW rfl hI.2.2.2.2.2.2.2.2.2.2.2.2.2.2.2.2.2.2.2.2.2.2.2.2.2.2.2.2.2.2.2.2.2.2.2.2.2.2.2.2.2.2.2.2.2.2.2.2.2.1))))))))))))))))
    have k_xQM : xQM W := by
      rw [hW]
      exact (uxQM rfl (uxQM rfl (uxQM rfl (uxQM rfl (uxQM rfl (uxQM rfl (uxQM rfl (uxQM rfl (uxQM rfl (uxQM rfl (uxQM rfl (uxQM rfl (uxQM rfl (uxQM rfl (uxQM rfl (uxQM rfl hI.2.2.2.2.2.2.2.2.2.2.2.2.2.2.2.2.2.2.2.2.2.2.2.2.2.2.2.2.2.2.2.2.2.2.2.2.2.2.2.2.2.2.2.2.2.2.2.2.2.2.1))))))))))))))))
    have k_xQH : xQH W := by
      rw [hW]
      exact (uxQH rfl (uxQH rfl (uxQH rfl (uxQH rfl (uxQH rfl (uxQH rfl (uxQH rfl (uxQH rfl (uxQH rfl (uxQH rfl (uxQH rfl (uxQH rfl (uxQH rfl (uxQH rfl (uxQH rfl (uxQH rfl hI.2.2.2.2.2.2.2.2.2.2.2.2.2.2.2.2.2.2.2.2.2.2.2.2.2.2.2.2.2.2.2.2.2.2.2.2.2.2.2.2.2.2.2.2.2.2.2.2.2.2.2))))))))))))))))
    have k_XC : XC W := ⟨k_xS1, k_xS2, k_xS3, k_xS4, k_xS5, k_xS6, k_xS7, k_xS8, k_xS9, k_xSA, k_xSG, k_xSF, k_xSB, k_xSC, k_xSD, k_xSE, k_xSW, k_xST, k_xSP, k_xSL, k_xSM, k_xSI, k_xD3, k_xDV, k_xDP, k_xDE, k_xQ5, k_xQL, k_xQW, k_xQM, k_xQH⟩
    have kXB : XB W := ⟨k_xN1, k_xN2, k_xN3, k_xN4, k_xN5, k_xN6, k_xH1, k_xK1, k_xC1, k_xRW, k_xWT, k_xCU, k_xG2, k_xG3, k_xG4, k_xG5, k_xG6, k_XC⟩
    exact ⟨base, k2, k3, kXA, kXB⟩
-- told6
def xr_328 : qRu := (7, [[(-32, 1), (-64, 2), (-128, 3), (-256, 4), (-512, 5), (1, 6)], [(32, 1), (64, 2), (128, 3), (256, 4), (512, 5), (-1, 6)], [(1, 1)], [(1, 0), (-1, 1)], [(1, 2)], [(1, 0), (-1, 2)], [(1, 3)], [(1, 0), (-1, 3)], [(1, 4)], [(1, 0), (-1, 4)], [(1, 5)], [(1, 0), (-1, 5)]], [], [], [(91, 249, [(1, 0)]), (91, 240, [(1, 0)]), (91, 241, [(1, 0)]), (91, 242, [(6, 0)]), (91, 243, [(64, 0)]), (91, 246, [(1, 6)]), (91, 244, [(64, 0), (-64, 2), (1, 6)]), (91, 245, []), (91, 247, [(64, 0)]), (91, 250, []), (91, 251, []), (91, 252, []), (91, 253, []), (91, 255, [(1, 6)]), (91, 256, [(64, 2)]), (91, 257, [])], [])
theorem xo_328 : qRok xr_328 := by
  intro ρ M h0 hf hm hI
  have f0 := hf [(-32, 1), (-64, 2), (-128, 3), (-256, 4), (-512, 5), (1, 6)] (by decide)
  have f1 := hf [(32, 1), (64, 2), (128, 3), (256, 4), (512, 5), (-1, 6)] (by decide)
  have f2 := hf [(1, 1)] (by decide)
  have f3 := hf [(1, 0), (-1, 1)] (by decide)
  have f4 := hf [(1, 2)] (by decide)
  have f5 := hf [(1, 0), (-1, 2)] (by decide)
  have f6 := hf [(1, 3)] (by decide)
  have f7 := hf [(1, 0), (-1, 3)] (by decide)
  have f8 := hf [(1, 4)] (by decide)
  have f9 := hf [(1, 0), (-1, 4)] (by decide)
  have f10 := hf [(1, 5)] (by decide)
  have f11 := hf [(1, 0), (-1, 5)] (by decide)
  simp only [qD, h0] at f0 f1 f2 f3 f4 f5 f6 f7 f8 f9 f10 f11
  have qxSD := hI.2.2.2.2.2.2.2.2.2.2.2.2.2.2.2.2.2.2.2.2.2.2.2.2.2.2.2.2.2.2.2.2.2.2.2.1
  have qxSE := hI.2.2.2.2.2.2.2.2.2.2.2.2.2.2.2.2.2.2.2.2.2.2.2.2.2.2.2.2.2.2.2.2.2.2.2.2.1
  refine ⟨ρ, fun _ _ => rfl, fun f h => ?_, ?_⟩
  · exact nomatch h
  · show sI (sU (sU (sU (sU (sU (sU (sU (sU (sU (sU (sU (sU (sU (sU (sU (sU M 91 249 (1 * ρ 0 + 0)) 91 240 (1 * ρ 0 + 0)) 91 241 (1 * ρ 0 + 0)) 91 242 (6 * ρ 0 + 0)) 91 243 (64 * ρ 0 + 0)) 91 246 (1 * ρ 6 + 0)) 91 244 (64 * ρ 0 + (-64 * ρ 2 + (1 * ρ 6 + 0)))) 91 245 (0)) 91 247 (64 * ρ 0 + 0)) 91 250 (0)) 91 251 (0)) 91 252 (0)) 91 253 (0)) 91 255 (1 * ρ 6 + 0)) 91 256 (64 * ρ 2 + 0)) 91 257 (0))
    obtain ⟨W, hW⟩ : ∃ W, W = (sU (sU (sU (sU (sU (sU (sU (sU (sU (sU (sU (sU (sU (sU (sU (sU M 91 249 (1 * ρ 0 + 0)) 91 240 (1 * ρ 0 + 0)) 91 241 (1 * ρ 0 + 0)) 91 242 (6 * ρ 0 + 0)) 91 243 (64 * ρ 0 + 0)) 91 246 (1 * ρ 6 + 0)) 91 244 (64 * ρ 0 + (-64 * ρ 2 + (1 * ρ 6 + 0)))) 91 245 (0)) 91 247 (64 * ρ 0 + 0)) 91 250 (0)) 91 251 (0)) 91 252 (0)) 91 253 (0)) 91 255 (1 * ρ 6 + 0)) 91 256 (64 * ρ 2 + 0)) 91 257 (0)) := ⟨_, rfl⟩
    rw [← hW]
    have base : sI0 W := by
      rw [hW]
      exact (si_u0 (si_u0 (si_u0 (si_u0 (si_u0 (si_u0 (si_u0 (si_u0 (si_u0 (si_u0 (si_u0 (si_u0 (si_u0 (si_u0 (si_u0 (si_u0 hI.1 (fun r hr => by cases hr)) (fun r hr => by cases hr)) (fun r hr => by cases hr)) (fun r hr => by cases hr)) (fun r hr => by cases hr)) (fun r hr => by cases hr)) (fun r hr => by cases hr)) (fun r hr => by cases hr)) (fun r hr => by cases hr)) (fun r hr => by cases hr)) (fun r hr => by cases hr)) (fun r hr => by cases hr)) (fun r hr => by cases hr)) (fun r hr => by cases hr)) (fun r hr => by cases hr)) (fun r hr => by cases hr))
    have k2 : XI2 W := by
      rw [hW]
      exact (xi2_u rfl (xi2_u rfl (xi2_u rfl (xi2_u rfl (xi2_u rfl (xi2_u rfl (xi2_u rfl (xi2_u rfl (xi2_u rfl (xi2_u rfl (xi2_u rfl (xi2_u rfl (xi2_u rfl (xi2_u rfl (xi2_u rfl (xi2_u rfl hI.2.1))))))))))))))))
    have k3 : XI3 W := by
      rw [hW]
      exact (xi3_u rfl (xi3_u rfl (xi3_u rfl (xi3_u rfl (xi3_u rfl (xi3_u rfl (xi3_u rfl (xi3_u rfl (xi3_u rfl (xi3_u rfl (xi3_u rfl (xi3_u rfl (xi3_u rfl (xi3_u rfl (xi3_u rfl (xi3_u rfl hI.2.2.1))))))))))))))))
    have kXA : XA W := by
      rw [hW]
      exact (uXA rfl (uXA rfl (uXA rfl (uXA rfl (uXA rfl (uXA rfl (uXA rfl (uXA rfl (uXA rfl (uXA rfl (uXA rfl (uXA rfl (uXA rfl (uXA rfl (uXA rfl (uXA rfl hI.2.2.2.1))))))))))))))))
    have k_xN1 : xN1 W := by
      rw [hW]
      exact (uxN1 rfl (uxN1 rfl (uxN1 rfl (uxN1 rfl (uxN1 rfl (uxN1 rfl (uxN1 rfl (uxN1 rfl (uxN1 rfl (uxN1 rfl (uxN1 rfl (uxN1 rfl (uxN1 rfl (uxN1 rfl (uxN1 rfl (uxN1 rfl hI.2.2.2.2.1))))))))))))))))
    have k_xN2 : xN2 W := by
      rw [hW]
      exact (uxN2 rfl (uxN2 rfl (uxN2 rfl (uxN2 rfl (uxN2 rfl (uxN2 rfl (uxN2 rfl (uxN2 rfl (uxN2 rfl (uxN2 rfl (uxN2 rfl (uxN2 rfl (uxN2 rfl (uxN2 rfl (uxN2 rfl (uxN2 rfl hI.2.2.2.2.2.1))))))))))))))))
    have k_xN3 : xN3 W := by
      rw [hW]
      exact (uxN3 rfl (uxN3 rfl (uxN3 rfl (uxN3 rfl (uxN3 rfl (uxN3 rfl (uxN3 rfl (uxN3 rfl (uxN3 rfl (uxN3 rfl (uxN3 rfl (uxN3 rfl (uxN3 rfl (uxN3 rfl (uxN3 rfl (uxN3 rfl hI.2.2.2.2.2.2.1))))))))))))))))
    have k_xN4 : xN4 W := by
      rw [hW]
      exact (uxN4 rfl (uxN4 rfl (uxN4 rfl (uxN4 rfl (uxN4 rfl (uxN4 rfl (uxN4 rfl (uxN4 rfl (uxN4 rfl (uxN4 rfl (uxN4 rfl (uxN4 rfl (uxN4 rfl (uxN4 rfl (uxN4 rfl (uxN4 rfl hI.2.2.2.2.2.2.2.1))))))))))))))))
    have k_xN5 : xN5 W := by
      rw [hW]
      exact (uxN5 rfl (uxN5 rfl (uxN5 rfl (uxN5 rfl (uxN5 rfl (uxN5 rfl (uxN5 rfl (uxN5 rfl (uxN5 rfl (uxN5 rfl (uxN5 rfl (uxN5 rfl (uxN5 rfl (uxN5 rfl (uxN5 rfl (uxN5 rfl hI.2.2.2.2.2.2.2.2.1))))))))))))))))
    have k_xN6 : xN6 W := by
      rw [hW]
      exact (uxN6 rfl (uxN6 rfl (uxN6 rfl (uxN6 rfl (uxN6 rfl (uxN6 rfl (uxN6 rfl (uxN6 rfl (uxN6 rfl (uxN6 rfl (uxN6 rfl (uxN6 rfl (uxN6 rfl (uxN6 rfl (uxN6 rfl (uxN6 rfl hI.2.2.2.2.2.2.2.2.2.1))))))))))))))))
    have k_xH1 : xH1 W := by
      rw [hW]
      exact (uxH1 rfl (uxH1 rfl (uxH1 rfl (uxH1 rfl (uxH1 rfl (uxH1 rfl (uxH1 rfl (uxH1 rfl (uxH1 rfl (uxH1 rfl (uxH1 rfl (uxH1 rfl (uxH1 rfl (uxH1 rfl (uxH1 rfl (uxH1 rfl hI.2.2.2.2.2.2.2.2.2.2.1))))))))))))))))
    have k_xK1 : xK1 W := by
      rw [hW]
      exact (uxK1 rfl (uxK1 rfl (uxK1 rfl (uxK1 rfl (uxK1 rfl (uxK1 rfl (uxK1 rfl (uxK1 rfl (uxK1 rfl (uxK1 rfl (uxK1 rfl (uxK1 rfl (uxK1 rfl (uxK1 rfl (uxK1 rfl (uxK1 rfl hI.2.2.2.2.2.2.2.2.2.2.2.1))))))))))))))))
    have k_xC1 : xC1 W := by
      rw [hW]
      exact (uxC1 rfl (uxC1 rfl (uxC1 rfl (uxC1 rfl (uxC1 rfl (uxC1 rfl (uxC1 rfl (uxC1 rfl (uxC1 rfl (uxC1 rfl (uxC1 rfl (uxC1 rfl (uxC1 rfl (uxC1 rfl (uxC1 rfl (uxC1 rfl hI.2.2.2.2.2.2.2.2.2.2.2.2.1))))))))))))))))
    have k_xRW : xRW W := by
      rw [hW]
      exact (uxRW rfl (uxRW rfl (uxRW rfl (uxRW rfl (uxRW rfl (uxRW rfl (uxRW rfl (uxRW rfl (uxRW rfl (uxRW rfl (uxRW rfl (uxRW rfl (uxRW rfl (uxRW rfl (uxRW rfl (uxRW rfl hI.2.2.2.2.2.2.2.2.2.2.2.2.2.1))))))))))))))))
    have k_xWT : xWT W := by
      rw [hW]
      exact (uxWT rfl (uxWT rfl (uxWT rfl (uxWT rfl (uxWT rfl (uxWT rfl (uxWT rfl (uxWT rfl (uxWT rfl (uxWT rfl (uxWT rfl (uxWT rfl (uxWT rfl (uxWT rfl (uxWT rfl (uxWT rfl hI.2.2.2.2.2.2.2.2.2.2.2.2.2.2.1))))))))))))))))
    have k_xCU : xCU W := by
      rw [hW]
      exact (uxCU rfl (uxCU rfl (uxCU rfl (uxCU rfl (uxCU rfl (uxCU rfl (uxCU rfl (uxCU rfl (uxCU rfl (uxCU rfl (uxCU rfl (uxCU rfl (uxCU rfl (uxCU rfl (uxCU rfl (uxCU rfl hI.2.2.2.2.2.2.2.2.2.2.2.2.2.2.2.1))))))))))))))))
    have k_xG2 : xG2 W := by
      rw [hW]
      exact (uxG2 rfl (uxG2 rfl (uxG2 rfl (uxG2 rfl (uxG2 rfl (uxG2 rfl (uxG2 rfl (uxG2 rfl (uxG2 rfl (uxG2 rfl (uxG2 rfl (uxG2 rfl (uxG2 rfl (uxG2 rfl (uxG2 rfl (uxG2 rfl hI.2.2.2.2.2.2.2.2.2.2.2.2.2.2.2.2.1))))))))))))))))
    have k_xG3 : xG3 W := by
      rw [hW]
      exact (uxG3 rfl (uxG3 rfl (uxG3 rfl (uxG3 rfl (uxG3 rfl (uxG3 rfl (uxG3 rfl (uxG3 rfl (uxG3 rfl (uxG3 rfl (uxG3 rfl (uxG3 rfl (uxG3 rfl (uxG3 rfl (uxG3 rfl (uxG3 rfl hI.2.2.2.2.2.2.2.2.2.2.2.2.2.2.2.2.2.1))))))))))))))))
    have k_xG4 : xG4 W := by
      rw [hW]
      exact (uxG4 rfl (uxG4 rfl (uxG4 rfl (uxG4 rfl (uxG4 rfl (uxG4 rfl (uxG4 rfl (uxG4 rfl (uxG4 rfl (uxG4 rfl (uxG4 rfl (uxG4 rfl (uxG4 rfl (uxG4 rfl (uxG4 rfl (uxG4 rfl hI.2.2.2.2.2.2.2.2.2.2.2.2.2.2.2.2.2.2.1))))))))))))))))
    have k_xG5 : xG5 W := by
      rw [hW]
      exact (uxG5 rfl (uxG5 rfl (uxG5 rfl (uxG5 rfl (uxG5 rfl (uxG5 rfl (uxG5 rfl (uxG5 rfl (uxG5 rfl (uxG5 rfl (uxG5 rfl (uxG5 rfl (uxG5 rfl (uxG5 rfl (uxG5 rfl (uxG5 rfl hI.2.2.2.2.2.2.2.2.2.2.2.2.2.2.2.2.2.2.2.1))))))))))))))))
    have k_xG6 : xG6 W := by
      rw [hW]
      exact (uxG6 rfl (uxG6 rfl (uxG6 rfl (uxG6 rfl (uxG6 rfl (uxG6 rfl (uxG6 rfl (uxG6 rfl (uxG6 rfl (uxG6 rfl (uxG6 rfl (uxG6 rfl (uxG6 rfl (uxG6 rfl (uxG6 rfl (uxG6 rfl hI.2.2.2.2.2.2.2.2.2.2.2.2.2.2.2.2.2.2.2.2.1))))))))))))))))
    have k_xS1 : xS1 W := by
      rw [hW]
      exact (uxS1 rfl (uxS1 rfl (uxS1 rfl (uxS1 rfl (uxS1 rfl (uxS1 rfl (uxS1 rfl (uxS1 rfl (uxS1 rfl (uxS1 rfl (uxS1 rfl (uxS1 rfl (uxS1 rfl (uxS1 rfl (uxS1 rfl (uxS1 rfl hI.2.2.2.2.2.2.2.2.2.2.2.2.2.2.2.2.2.2.2.2.2.1))))))))))))))))
    have k_xS2 : xS2 W := by
      rw [hW]
      exact (uxS2 rfl (uxS2 rfl (uxS2 rfl (uxS2 rfl (uxS2 rfl (uxS2 rfl (uxS2 rfl (uxS2 rfl (uxS2 rfl (uxS2 rfl (uxS2 rfl (uxS2 rfl (uxS2 rfl (uxS2 rfl (uxS2 rfl (uxS2 rfl hI.2.2.2.2.2.2.2.2.2.2.2.2.2.2.2.2.2.2.2.2.2.2.1))))))))))))))))
    have k_xS3 : xS3 W := by
      rw [hW]
      exact (uxS3 rfl (uxS3 rfl (uxS3 rfl (uxS3 rfl (uxS3 rfl (uxS3 rfl (uxS3 rfl (uxS3 rfl (uxS3 rfl (uxS3 rfl (uxS3 rfl (uxS3 rfl (uxS3 rfl (uxS3 rfl (uxS3 rfl (uxS3 rfl hI.2.2.2.2.2.2.2.2.2.2.2.2.2.2.2.2.2.2.2.2.2.2.2.1))))))))))))))))
    have k_xS4 : xS4 W := by
      rw [hW]
      exact (uxS4 rfl (uxS4 rfl (uxS4 rfl (uxS4 rfl (uxS4 rfl (uxS4 rfl (uxS4 rfl (uxS4 rfl (uxS4 rfl (uxS4 rfl (uxS4 rfl (uxS4 rfl (uxS4 rfl (uxS4 rfl (uxS4 rfl (uxS4 rfl hI.2.2.2.2.2.2.2.2.2.2.2.2.2.2.2.2.2.2.2.2.2.2.2.2.1))))))))))))))))
    have k_xS5 : xS5 W := by
      rw [hW]
      exact (uxS5 rfl (uxS5 rfl (uxS5 rfl (uxS5 rfl (uxS5 rfl (uxS5 rfl (uxS5 rfl (uxS5 rfl (uxS5 rfl (uxS5 rfl (uxS5 rfl (uxS5 rfl (uxS5 rfl (uxS5 rfl (uxS5 rfl (uxS5 rfl hI.2.2.2.2.2.2.2.2.2.2.2.2.2.2.2.2.2.2.2.2.2.2.2.2.2.1))))))))))))))))
    have k_xS6 : xS6 W := by
      rw [hW]
      exact (uxS6 rfl (uxS6 rfl (uxS6 rfl (uxS6 rfl (uxS6 rfl (uxS6 rfl (uxS6 rfl (uxS6 rfl (uxS6 rfl (uxS6 rfl (uxS6 rfl (uxS6 rfl (uxS6 rfl (uxS6 rfl (uxS6 rfl (uxS6 rfl hI.2.2.2.2.2.2.2.2.2.2.2.2.2.2.2.2.2.2.2.2.2.2.2.2.2.2.1))))))))))))))))
    have k_xS7 : xS7 W := by
      rw [hW]
      exact (uxS7 rfl (uxS7 rfl (uxS7 rfl (uxS7 rfl (uxS7 rfl (uxS7 rfl (uxS7 rfl (uxS7 rfl (uxS7 rfl (uxS7 rfl (uxS7 rfl (uxS7 rfl (uxS7 rfl (uxS7 rfl (uxS7 rfl (uxS7 rfl hI.2.2.2.2.2.2.2.2.2.2.2.2.2.2.2.2.2.2.2.2.2.2.2.2.2.2.2.1))))))))))))))))
    have k_xS8 : xS8 W := by
      rw [hW]
      exact (uxS8 rfl (uxS8 rfl (uxS8 rfl (uxS8 rfl (uxS8 rfl (uxS8 rfl (uxS8 rfl (uxS8 rfl (uxS8 rfl (uxS8 rfl (uxS8 rfl (uxS8 rfl (uxS8 rfl (uxS8 rfl (uxS8 rfl (uxS8 rfl hI.2.2.2.2.2.2.2.2.2.2.2.2.2.2.2.2.2.2.2.2.2.2.2.2.2.2.2.2.1))))))))))))))))
    have k_xS9 : xS9 W := by
      rw [hW]
      exact (uxS9 rfl (uxS9 rfl (uxS9 rfl (uxS9 rfl (uxS9 rfl (uxS9 rfl (uxS9 rfl (uxS9 rfl (uxS9 rfl (uxS9 rfl (uxS9 rfl (uxS9 rfl (uxS9 rfl (uxS9 rfl (uxS9 rfl (uxS9 rfl hI.2.2.2.2.2.2.2.2.2.2.2.2.2.2.2.2.2.2.2.2.2.2.2.2.2.2.2.2.2.1))))))))))))))))
    have k_xSA : xSA W := by
      rw [hW]
      exact (uxSA rfl (uxSA rfl (uxSA rfl (uxSA rfl (uxSA rfl (uxSA rfl (uxSA rfl (uxSA rfl (uxSA rfl (uxSA rfl (uxSA rfl (uxSA rfl (uxSA rfl (uxSA rfl (uxSA rfl (uxSA rfl hI.2.2.2.2.2.2.2.2.2.2.2.2.2.2.2.2.2.2.2.2.2.2.2.2.2.2.2.2.2.2.1))))))))))))))))
    have k_xSG : xSG W := by
      rw [hW]
      exact (uxSG rfl (uxSG rfl (uxSG rfl (uxSG rfl (uxSG rfl (uxSG rfl (uxSG rfl (uxSG rfl (uxSG rfl (uxSG rfl (uxSG rfl (uxSG rfl (uxSG rfl (uxSG rfl (uxSG rfl (uxSG rfl hI.2.2.2.2.2.2.2.2.2.2.2.2.2.2.2.2.2.2.2.2.2.2.2.2.2.2.2.2.2.2.2.1))))))))))))))))
    have k_xSF : xSF W := by
      rw [hW]
      exact (uxSF rfl (uxSF rfl (uxSF rfl (uxSF rfl (uxSF rfl (uxSF rfl (uxSF rfl (uxSF rfl (uxSF rfl (uxSF rfl (uxSF rfl (uxSF rfl (uxSF rfl (uxSF rfl (uxSF rfl (uxSF rfl hI.2.2.2.2.2.2.2.2.2.2.2.2.2.2.2.2.2.2.2.2.2.2.2.2.2.2.2.2.2.2.2.2.1))))))))))))))))
    have k_xSB : xSB W := by
      rw [hW]
      exact (uxSB rfl (uxSB rfl (uxSB rfl (uxSB rfl (uxSB rfl (uxSB rfl (uxSB rfl (uxSB rfl (uxSB rfl (uxSB rfl (uxSB rfl (uxSB rfl (uxSB rfl (uxSB rfl (uxSB rfl (uxSB rfl hI.2.2.2.2.2.2.2.2.2.2.2.2.2.2.2.2.2.2.2.2.2.2.2.2.2.2.2.2.2.2.2.2.2.1))))))))))))))))
    have k_xSC : xSC W := by
      rw [hW]
      exact (uxSC rfl (uxSC rfl (uxSC rfl (uxSC rfl (uxSC rfl (uxSC rfl (uxSC rfl (uxSC rfl (uxSC rfl (uxSC rfl (uxSC rfl (uxSC rfl (uxSC rfl (uxSC rfl (uxSC rfl (uxSC rfl hI.2.2.2.2.2.2.2.2.2.2.2.2.2.2.2.2.2.2.2.2.2.2.2.2.2.2.2.2.2.2.2.2.2.2.1))))))))))))))))
    have k_xSD : xSD W := by
      have r91_240 : W 91 240 = 1 * ρ 0 + 0 := by rw [hW, sU_ne (fun z => by omega), sU_ne (fun z => by omega), sU_ne (fun z => by omega), sU_ne (fun z => by omega), sU_ne (fun z => by omega), sU_ne (fun z => by omega), sU_ne (fun z => by omega), sU_ne (fun z => by omega), sU_ne (fun z => by omega), sU_ne (fun z => by omega), sU_ne (fun z => by omega), sU_ne (fun z => by omega), sU_ne (fun z => by omega), sU_ne (fun z => by omega), sU_at]
      have r91_241 : W 91 241 = 1 * ρ 0 + 0 := by rw [hW, sU_ne (fun z => by omega), sU_ne (fun z => by omega), sU_ne (fun z => by omega), sU_ne (fun z => by omega), sU_ne (fun z => by omega), sU_ne (fun z => by omega), sU_ne (fun z => by omega), sU_ne (fun z => by omega), sU_ne (fun z => by omega), sU_ne (fun z => by omega), sU_ne (fun z => by omega), sU_ne (fun z => by omega), sU_ne (fun z => by omega), sU_at]
      have r91_242 : W 91 242 = 6 * ρ 0 + 0 := by rw [hW, sU_ne (fun z => by omega), sU_ne (fun z => by omega), sU_ne (fun z => by omega), sU_ne (fun z => by omega), sU_ne (fun z => by omega), sU_ne (fun z => by omega), sU_ne (fun z => by omega), sU_ne (fun z => by omega), sU_ne (fun z => by omega), sU_ne (fun z => by omega), sU_ne (fun z => by omega), sU_ne (fun z => by omega), sU_at]
      have r91_243 : W 91 243 = 64 * ρ 0 + 0 := by rw [hW, sU_ne (fun z => by omega), sU_ne (fun z => by omega), sU_ne (fun z => by omega), sU_ne (fun z => by omega), sU_ne (fun z => by omega), sU_ne (fun z => by omega), sU_ne (fun z => by omega), sU_ne (fun z => by omega), sU_ne (fun z => by omega), sU_ne (fun z => by omega), sU_ne (fun z => by omega), sU_at]
      have r91_244 : W 91 244 = 64 * ρ 0 + (-64 * ρ 2 + (1 * ρ 6 + 0)) := by rw [hW, sU_ne (fun z => by omega), sU_ne (fun z => by omega), sU_ne (fun z => by omega), sU_ne (fun z => by omega), sU_ne (fun z => by omega), sU_ne (fun z => by omega), sU_ne (fun z => by omega), sU_ne (fun z => by omega), sU_ne (fun z => by omega), sU_at]
      have r91_245 : W 91 245 = 0 := by rw [hW, sU_ne (fun z => by omega), sU_ne (fun z => by omega), sU_ne (fun z => by omega), sU_ne (fun z => by omega), sU_ne (fun z => by omega), sU_ne (fun z => by omega), sU_ne (fun z => by omega), sU_ne (fun z => by omega), sU_at]
      have r91_246 : W 91 246 = 1 * ρ 6 + 0 := by rw [hW, sU_ne (fun z => by omega), sU_ne (fun z => by omega), sU_ne (fun z => by omega), sU_ne (fun z => by omega), sU_ne (fun z => by omega), sU_ne (fun z => by omega), sU_ne (fun z => by omega), sU_ne (fun z => by omega), sU_ne (fun z => by omega), sU_ne (fun z => by omega), sU_at]
      have r91_247 : W 91 247 = 64 * ρ 0 + 0 := by rw [hW, sU_ne (fun z => by omega), sU_ne (fun z => by omega), sU_ne (fun z => by omega), sU_ne (fun z => by omega), sU_ne (fun z => by omega), sU_ne (fun z => by omega), sU_ne (fun z => by omega), sU_at]
      intro h
      rw [r91_241, r91_242, r91_243, r91_244, r91_245, r91_246, r91_247, h0]
      have t := xtold_6 (a := ρ 1) (b := ρ 2) (c := ρ 3) (d := ρ 4) (e := ρ 5) (by omega) (by omega) (by omega) (by omega) (by omega)
      rw [show (1 * ρ 6 + 0 : Int) = 32 * ρ 1 + 64 * ρ 2 + 128 * ρ 3 + 256 * ρ 4 + 512 * ρ 5 by omega]
      refine ⟨by decide, ?_, by decide⟩
      rw [show ((64 : Int) * 1 + 0) = 64 from rfl, t.2]
      omega
    have k_xSE : xSE W := by
      have r91_249 : W 91 249 = 1 * ρ 0 + 0 := by rw [hW, sU_ne (fun z => by omega), sU_ne (fun z => by omega), sU_ne (fun z => by omega), sU_ne (fun z => by omega), sU_ne (fun z => by omega), sU_ne (fun z => by omega), sU_ne (fun z => by omega), sU_ne (fun z => by omega), sU_ne (fun z => by omega), sU_ne (fun z => by omega), sU_ne (fun z => by omega), sU_ne (fun z => by omega), sU_ne (fun z => by omega), sU_ne (fun z => by omega), sU_ne (fun z => by omega), sU_at]
      have r91_250 : W 91 250 = 0 := by rw [hW, sU_ne (fun z => by omega), sU_ne (fun z => by omega), sU_ne (fun z => by omega), sU_ne (fun z => by omega), sU_ne (fun z => by omega), sU_ne (fun z => by omega), sU_at]
      have r91_251 : W 91 251 = 0 := by rw [hW, sU_ne (fun z => by omega), sU_ne (fun z => by omega), sU_ne (fun z => by omega), sU_ne (fun z => by omega), sU_ne (fun z => by omega), sU_at]
      have r91_252 : W 91 252 = 0 := by rw [hW, sU_ne (fun z => by omega), sU_ne (fun z => by omega), sU_ne (fun z => by omega), sU_ne (fun z => by omega), sU_at]
      have r91_253 : W 91 253 = 0 := by rw [hW, sU_ne (fun z => by omega), sU_ne (fun z => by omega), sU_ne (fun z => by omega), sU_at]
      have r91_255 : W 91 255 = 1 * ρ 6 + 0 := by rw [hW, sU_ne (fun z => by omega), sU_ne (fun z => by omega), sU_at]
      have r91_256 : W 91 256 = 64 * ρ 2 + 0 := by rw [hW, sU_ne (fun z => by omega), sU_at]
      have r91_243 : W 91 243 = 64 * ρ 0 + 0 := by rw [hW, sU_ne (fun z => by omega), sU_ne (fun z => by omega), sU_ne (fun z => by omega), sU_ne (fun z => by omega), sU_ne (fun z => by omega), sU_ne (fun z => by omega), sU_ne (fun z => by omega), sU_ne (fun z => by omega), sU_ne (fun z => by omega), sU_ne (fun z => by omega), sU_ne (fun z => by omega), sU_at]
      have r91_257 : W 91 257 = 0 := by rw [hW, sU_at]
      intro h
      rw [r91_243, r91_250, r91_251, r91_252, r91_253, r91_255, r91_256, r91_257, h0]
      have t := xtold_6 (a := ρ 1) (b := ρ 2) (c := ρ 3) (d := ρ 4) (e := ρ 5) (by omega) (by omega) (by omega) (by omega) (by omega)
      rw [show (1 * ρ 6 + 0 : Int) = 32 * ρ 1 + 64 * ρ 2 + 128 * ρ 3 + 256 * ρ 4 + 512 * ρ 5 by omega]
      refine ⟨by decide, by decide, ?_, by decide⟩
      rw [show ((64 : Int) * 1 + 0) = 64 from rfl, t.1]
      omega
    have k_xSW : xSW W := by
      rw [hW]
      exact (uxSW rfl (uxSW rfl (uxSW rfl (uxSW rfl (uxSW rfl (uxSW rfl (uxSW rfl (uxSW rfl (uxSW rfl (uxSW rfl (uxSW rfl (uxSW rfl (uxSW rfl (uxSW rfl (uxSW rfl (uxSW rfl hI.2.2.2.2.2.2.2.2.2.2.2.2.2.2.2.2.2.2.2.2.2.2.2.2.2.2.2.2.2.2.2.2.2.2.2.2.2.1))))))))))))))))
    have k_xST : xST W := by
      rw [hW]
      exact (uxST rfl (uxST rfl (uxST rfl (uxST rfl (uxST rfl (uxST rfl (uxST rfl (uxST rfl (uxST rfl (uxST rfl (uxST rfl (uxST rfl (uxST rfl (uxST rfl (uxST rfl (uxST rfl hI.2.2.2.2.2.2.2.2.2.2.2.2.2.2.2.2.2.2.2.2.2.2.2.2.2.2.2.2.2.2.2.2.2.2.2.2.2.2.1))))))))))))))))
    have k_xSP : xSP W := by
      rw [hW]
      exact (uxSP rfl (uxSP rfl (uxSP rfl (uxSP rfl (uxSP rfl (uxSP rfl (uxSP rfl (uxSP rfl (uxSP rfl (uxSP rfl (uxSP rfl (uxSP rfl (uxSP rfl (uxSP rfl (uxSP rfl (uxSP rfl hI.2.2.2.2.2.2.2.2.2.2.2.2.2.2.2.2.2.2.2.2.2.2.2.2.2.2.2.2.2.2.2.2.2.2.2.2.2.2.2.1))))))))))))))))
    have k_xSL : xSL W := by
      rw [hW]
      exact (uxSL rfl (uxSL rfl (uxSL rfl (uxSL rfl (uxSL rfl (uxSL rfl (uxSL rfl (uxSL rfl (uxSL rfl (uxSL rfl (uxSL rfl (uxSL rfl (uxSL rfl (uxSL rfl (uxSL rfl (uxSL rfl hI.2.2.2.2.2.2.2.2.2.2.2.2.2.2.2.2.2.2.2.2.2.2.2.2.2.2.2.2.2.2.2.2.2.2.2.2.2.2.2.2.1))))))))))))))))
    have k_xSM : xSM W := by
      rw [hW]
      exact (uxSM rfl (uxSM rfl (uxSM rfl (uxSM rfl (uxSM rfl (uxSM rfl (uxSM rfl (uxSM rfl (uxSM rfl (uxSM rfl (uxSM rfl (uxSM rfl (uxSM rfl (uxSM rfl (uxSM rfl (uxSM rfl hI.2.2.2.2.2.2.2.2.2.2.2.2.2.2.2.2.2.2.2.2.2.2.2.2.2.2.2.2.2.2.2.2.2.2.2.2.2.2.2.2.2.1))))))))))))))))
    have k_xSI : xSI W := by
      rw [hW]
      exact (uxSI rfl (uxSI rfl (uxSI rfl (uxSI rfl (uxSI rfl (uxSI rfl (uxSI rfl (uxSI rfl (uxSI rfl (uxSI rfl (uxSI rfl (uxSI rfl (uxSI rfl (uxSI rfl (uxSI rfl (uxSI rfl hI.2.2.2.2.2.2.2.2.2.2.2.2.2.2.2.2.2.2.2.2.2.2.2.2.2.2.2.2.2.2.2.2.2.2.2.2.2.2.2.2.2.2.1))))))))))))))))
    have k_xD3 : xD3 W := by
      rw [hW]
      exact (uxD3 rfl (uxD3 rfl (uxD3 rfl (uxD3 rfl (uxD3 rfl (uxD3 rfl (uxD3 rfl (uxD3 rfl (uxD3 rfl (uxD3 rfl (uxD3 rfl (uxD3 rfl (uxD3 rfl (uxD3 rfl (uxD3 rfl (uxD3 rfl hI.2.2.2.2.2.2.2.2.2.2.2.2.2.2.2.2.2.2.2.2.2.2.2.2.2.2.2.2.2.2.2.2.2.2.2.2.2.2.2.2.2.2.2.1))))))))))))))))
    have k_xDV : xDV W := by
      rw [hW]
      exact (uxDV rfl (uxDV rfl (uxDV rfl (uxDV rfl (uxDV rfl (uxDV rfl (uxDV rfl (uxDV rfl (uxDV rfl (uxDV rfl (uxDV rfl (uxDV rfl (uxDV rfl (uxDV rfl (uxDV rfl (uxDV rfl hI.2.2.2.2.2.2.2.2.2.2.2.2.2.2.2.2.2.2.2.2.2.2.2.2.2.2.2.2.2.2.2.2.2.2.2.2.2.2.2.2.2.2.2.2.1))))))))))))))))
    have k_xDP : xDP W := by
      rw [hW]
      exact (uxDP rfl (uxDP rfl (uxDP rfl (uxDP rfl (uxDP rfl (uxDP rfl (uxDP rfl (uxDP rfl (uxDP rfl (uxDP rfl (uxDP rfl (uxDP rfl (uxDP rfl (uxDP rfl (uxDP rfl (uxDP rfl hI.2.2.2.2.2.2.2.2.2.2.2.2.2.2.2.2.2.2.2.2.2.2.2.2.2.2.2.2.2.2.2.2.2.2.2.2.2.2.2.2.2.2.2.2.2.1))))))))))))))))
    have k_xDE : xDE W := by
      rw [hW]
      exact (uxDE rfl (uxDE rfl (uxDE rfl (uxDE rfl (uxDE rfl (uxDE rfl (uxDE rfl (uxDE rfl (uxDE rfl (uxDE rfl (uxDE rfl (uxDE rfl (uxDE rfl (uxDE rfl (uxDE rfl (uxDE rfl hI.2.2.2.2.2.2.2.2.2.2.2.2.2.2.2.2.2.2.2.2.2.2.2.2.2.2.2.2.2.2.2.2.2.2.2.2.2.2.2.2.2.2.2.2.2.2.1))))))))))))))))
    have k_xQ5 : xQ5 W := by
      rw [hW]
      exact (uxQ5 rfl (uxQ5 rfl (uxQ5 rfl (uxQ5 rfl (uxQ5 rfl (uxQ5 rfl (uxQ5 rfl (uxQ5 rfl (uxQ5 rfl (uxQ5 rfl (uxQ5 rfl (uxQ5 rfl (uxQ5 rfl (uxQ5 rfl (uxQ5 rfl (uxQ5 rfl hI.2.2.2.2.2.2.2.2.2.2.2.2.2.2.2.2.2.2.2.2.2.2.2.2.2.2.2.2.2.2.2.2.2.2.2.2.2.2.2.2.2.2.2.2.2.2.2.1))))))))))))))))
    have k_xQL : xQL W := by
      rw [hW]
      exact (uxQL rfl (uxQL rfl (uxQL rfl (uxQL rfl (uxQL rfl (uxQL rfl (uxQL rfl (uxQL rfl (uxQL rfl (uxQL rfl (uxQL rfl (uxQL rfl (uxQL rfl (uxQL rfl (uxQL rfl (uxQL rfl hI.2.2.2.2.2.2.2.2.2.2.2.2.2.2.2.2.2.2.2.2.2.2.2.2.2.2.2.2.2.2.2.2.2.2.2.2.2.2.2.2.2.2.2.2.2.2.2.2.1))))))))))))))))
    have k_xQW : xQW W := by
      rw [hW]
      exact (uxQW rfl (uxQW rfl (uxQW rfl (uxQW rfl (uxQW rfl (uxQW rfl (uxQW rfl (uxQW rfl (uxQW rfl (uxQW rfl (uxQW rfl (uxQW rfl (uxQW rfl (uxQW rfl (uxQW rfl (uxQW rfl hI.2.2.2.2.2.2.2.2.2.2.2.2.2.2.2.2.2.2.2.2.2.2.2.2.2.2.2.2.2.2.2.2.2.2.2.2.2.2.2.2.2.2.2.2.2.2.2.2.2.1))))))))))))))))
    have k_xQM : xQM W := by
      rw [hW]
      exact (uxQM rfl (uxQM rfl (uxQM rfl (uxQM rfl (uxQM rfl (uxQM rfl (uxQM rfl (uxQM rfl (uxQM rfl (uxQM rfl (uxQM rfl (uxQM rfl (uxQM rfl (uxQM rfl (uxQM rfl (uxQM rfl hI.2.2.2.2.2.2.2.2.2.2.2.2.2.2.2.2.2.2.2.2.2.2.2.2.2.2.2.2.2.2.2.2.2.2.2.2.2.2.2.2.2.2.2.2.2.2.2.2.2.2.1))))))))))))))))
    have k_xQH : xQH W := by
      rw [hW]
      exact (uxQH rfl (uxQH rfl (uxQH rfl (uxQH rfl (uxQH rfl (uxQH rfl (uxQH rfl (uxQH rfl (uxQH rfl (uxQH rfl (uxQH rfl (uxQH rfl (uxQH rfl (uxQH rfl (uxQH rfl (uxQH rfl hI.2.2.2.2.2.2.2.2.2.2.2.2.2.2.2.2.2.2.2.2.2.2.2.2.2.2.2.2.2.2.2.2.2.2.2.2.2.2.2.2.2.2.2.2.2.2.2.2.2.2.2))))))))))))))))
    have k_XC : XC W := ⟨k_xS1, k_xS2, k_xS3, k_xS4, k_xS5, k_xS6, k_xS7, k_xS8, k_xS9, k_xSA, k_xSG, k_xSF, k_xSB, k_xSC, k_xSD, k_xSE, k_xSW, k_xST, k_xSP, k_xSL, k_xSM, k_xSI, k_xD3, k_xDV, k_xDP, k_xDE, k_xQ5, k_xQL, k_xQW, k_xQM, k_xQH⟩
    have kXB : XB W := ⟨k_xN1, k_xN2, k_xN3, k_xN4, k_xN5, k_xN6, k_xH1, k_xK1, k_xC1, k_xRW, k_xWT, k_xCU, k_xG2, k_xG3, k_xG4, k_xG5, k_xG6, k_XC⟩
    exact ⟨base, k2, k3, kXA, kXB⟩
-- told7
def xr_329 : qRu := (7, [[(-32, 1), (-64, 2), (-128, 3), (-256, 4), (-512, 5), (1, 6)], [(32, 1), (64, 2), (128, 3), (256, 4), (512, 5), (-1, 6)], [(1, 1)], [(1, 0), (-1, 1)], [(1, 2)], [(1, 0), (-1, 2)], [(1, 3)], [(1, 0), (-1, 3)], [(1, 4)], [(1, 0), (-1, 4)], [(1, 5)], [(1, 0), (-1, 5)]], [], [], [(91, 249, [(1, 0)]), (91, 240, [(1, 0)]), (91, 241, [(1, 0)]), (91, 242, [(7, 0)]), (91, 243, [(128, 0)]), (91, 246, [(1, 6)]), (91, 244, [(128, 0), (-128, 3), (1, 6)]), (91, 245, []), (91, 247, [(128, 0)]), (91, 250, []), (91, 251, []), (91, 252, []), (91, 253, []), (91, 255, [(1, 6)]), (91, 256, [(128, 3)]), (91, 257, [])], [])
theorem xo_329 : qRok xr_329 := by
  intro ρ M h0 hf hm hI
  have f0 := hf [(-32, 1), (-64, 2), (-128, 3), (-256, 4), (-512, 5), (1, 6)] (by decide)
  have f1 := hf [(32, 1), (64, 2), (128, 3), (256, 4), (512, 5), (-1, 6)] (by decide)
  have f2 := hf [(1, 1)] (by decide)
  have f3 := hf [(1, 0), (-1, 1)] (by decide)
  have f4 := hf [(1, 2)] (by decide)
  have f5 := hf [(1, 0), (-1, 2)] (by decide)
  have f6 := hf [(1, 3)] (by decide)
  have f7 := hf [(1, 0), (-1, 3)] (by decide)
  have f8 := hf [(1, 4)] (by decide)
  have f9 := hf [(1, 0), (-1, 4)] (by decide)
  have f10 := hf [(1, 5)] (by decide)
  have f11 := hf [(1, 0), (-1, 5)] (by decide)
  simp only [qD, h0] at f0 f1 f2 f3 f4 f5 f6 f7 f8 f9 f10 f11
  have qxSD := hI.2.2.2.2.2.2.2.2.2.2.2.2.2.2.2.2.2.2.2.2.2.2.2.2.2.2.2.2.2.2.2.2.2.2.2.1
  have qxSE := hI.2.2.2.2.2.2.2.2.2.2.2.2.2.2.2.2.2.2.2.2.2.2.2.2.2.2.2.2.2.2.2.2.2.2.2.2.1
  refine ⟨ρ, fun _ _ => rfl, fun f h => ?_, ?_⟩
  · exact nomatch h
  · show sI (sU (sU (sU (sU (sU (sU (sU (sU (sU (sU (sU (sU (sU (sU (sU (sU M 91 249 (1 * ρ 0 + 0)) 91 240 (1 * ρ 0 + 0)) 91 241 (1 * ρ 0 + 0)) 91 242 (7 * ρ 0 + 0)) 91 243 (128 * ρ 0 + 0)) 91 246 (1 * ρ 6 + 0)) 91 244 (128 * ρ 0 + (-128 * ρ 3 + (1 * ρ 6 + 0)))) 91 245 (0)) 91 247 (128 * ρ 0 + 0)) 91 250 (0)) 91 251 (0)) 91 252 (0)) 91 253 (0)) 91 255 (1 * ρ 6 + 0)) 91 256 (128 * ρ 3 + 0)) 91 257 (0))
    obtain ⟨W, hW⟩ : ∃ W, W = (sU (sU (sU (sU (sU (sU (sU (sU (sU (sU (sU (sU (sU (sU (sU (sU M 91 249 (1 * ρ 0 + 0)) 91 240 (1 * ρ 0 + 0)) 91 241 (1 * ρ 0 + 0)) 91 242 (7 * ρ 0 + 0)) 91 243 (128 * ρ 0 + 0)) 91 246 (1 * ρ 6 + 0)) 91 244 (128 * ρ 0 + (-128 * ρ 3 + (1 * ρ 6 + 0)))) 91 245 (0)) 91 247 (128 * ρ 0 + 0)) 91 250 (0)) 91 251 (0)) 91 252 (0)) 91 253 (0)) 91 255 (1 * ρ 6 + 0)) 91 256 (128 * ρ 3 + 0)) 91 257 (0)) := ⟨_, rfl⟩
    rw [← hW]
    have base : sI0 W := by
      rw [hW]
      exact (si_u0 (si_u0 (si_u0 (si_u0 (si_u0 (si_u0 (si_u0 (si_u0 (si_u0 (si_u0 (si_u0 (si_u0 (si_u0 (si_u0 (si_u0 (si_u0 hI.1 (fun r hr => by cases hr)) (fun r hr => by cases hr)) (fun r hr => by cases hr)) (fun r hr => by cases hr)) (fun r hr => by cases hr)) (fun r hr => by cases hr)) (fun r hr => by cases hr)) (fun r hr => by cases hr)) (fun r hr => by cases hr)) (fun r hr => by cases hr)) (fun r hr => by cases hr)) (fun r hr => by cases hr)) (fun r hr => by cases hr)) (fun r hr => by cases hr)) (fun r hr => by cases hr)) (fun r hr => by cases hr))
    have k2 : XI2 W := by
      rw [hW]
      exact (xi2_u rfl (xi2_u rfl (xi2_u rfl (xi2_u rfl (xi2_u rfl (xi2_u rfl (xi2_u rfl (xi2_u rfl (xi2_u rfl (xi2_u rfl (xi2_u rfl (xi2_u rfl (xi2_u rfl (xi2_u rfl (xi2_u rfl (xi2_u rfl hI.2.1))))))))))))))))
    have k3 : XI3 W := by
      rw [hW]
      exact (xi3_u rfl (xi3_u rfl (xi3_u rfl (xi3_u rfl (xi3_u rfl (xi3_u rfl (xi3_u rfl (xi3_u rfl (xi3_u rfl (xi3_u rfl (xi3_u rfl (xi3_u rfl (xi3_u rfl (xi3_u rfl (xi3_u rfl (xi3_u rfl hI.2.2.1))))))))))))))))
    have kXA : XA W := by
      rw [hW]
      exact (uXA rfl (uXA rfl (uXA rfl (uXA rfl (uXA rfl (uXA rfl (uXA rfl (uXA rfl (uXA rfl (uXA rfl (uXA rfl (uXA rfl (uXA rfl (uXA rfl (uXA rfl (uXA rfl hI.2.2.2.1))))))))))))))))
    have k_xN1 : xN1 W := by
      rw [hW]
      exact (uxN1 rfl (uxN1 rfl (uxN1 rfl (uxN1 rfl (uxN1 rfl (uxN1 rfl (uxN1 rfl (uxN1 rfl (uxN1 rfl (uxN1 rfl (uxN1 rfl (uxN1 rfl (uxN1 rfl (uxN1 rfl (uxN1 rfl (uxN1 rfl hI.2.2.2.2.1))))))))))))))))
    have k_xN2 : xN2 W := by
      rw [hW]
      exact (uxN2 rfl (uxN2 rfl (uxN2 rfl (uxN2 rfl (uxN2 rfl (uxN2 rfl (uxN2 rfl (uxN2 rfl (uxN2 rfl (uxN2 rfl (uxN2 rfl (uxN2 rfl (uxN2 rfl (uxN2 rfl (uxN2 rfl (uxN2 rfl hI.2.2.2.2.2.1))))))))))))))))
    have k_xN3 : xN3 W := by
      rw [hW]
      exact (uxN3 rfl (uxN3 rfl (uxN3 rfl (uxN3 rfl (uxN3 rfl (uxN3 rfl (uxN3 rfl (uxN3 rfl (uxN3 rfl (uxN3 rfl (uxN3 rfl (uxN3 rfl (uxN3 rfl (uxN3 rfl (uxN3 rfl (uxN3 rfl hI.2.2.2.2.2.2.1))))))))))))))))
    have k_xN4 : xN4 W := by
      rw [hW]
      exact (uxN4 rfl (uxN4 rfl (uxN4 rfl (uxN4 rfl (uxN4 rfl (uxN4 rfl (uxN4 rfl (uxN4 rfl (uxN4 rfl (uxN4 rfl (uxN4 rfl (uxN4 rfl (uxN4 rfl (uxN4 rfl (uxN4 rfl (uxN4 rfl hI.2.2.2.2.2.2.2.1))))))))))))))))
    have k_xN5 : xN5 W := by
      rw [hW]
      exact (uxN5 rfl (uxN5 rfl (uxN5 rfl (uxN5 rfl (uxN5 rfl (uxN5 rfl (uxN5 rfl (uxN5 rfl (uxN5 rfl (uxN5 rfl (uxN5 rfl (uxN5 rfl (uxN5 rfl (uxN5 rfl (uxN5 rfl (uxN5 rfl hI.2.2.2.2.2.2.2.2.1))))))))))))))))
    have k_xN6 : xN6 W := by
      rw [hW]
      exact (uxN6 rfl (uxN6 rfl (uxN6 rfl (uxN6 rfl (uxN6 rfl (uxN6 rfl (uxN6 rfl (uxN6 rfl (uxN6 rfl (uxN6 rfl (uxN6 rfl (uxN6 rfl (uxN6 rfl (uxN6 rfl (uxN6 rfl (uxN6 rfl hI.2.2.2.2.2.2.2.2.2.1))))))))))))))))
    have k_xH1 : xH1 W := by
      rw [hW]
      exact (uxH1 rfl (uxH1 rfl (uxH1 rfl (uxH1 rfl (uxH1 rfl (uxH1 rfl (uxH1 rfl (uxH1 rfl (uxH1 rfl (uxH1 rfl (uxH1 rfl (uxH1 rfl (uxH1 rfl (uxH1 rfl (uxH1 rfl (uxH1 rfl hI.2.2.2.2.2.2.2.2.2.2.1))))))))))))))))
    have k_xK1 : xK1 W := by
      rw [hW]
      exact (uxK1 rfl (uxK1 rfl (uxK1 rfl (uxK1 rfl (uxK1 rfl (uxK1 rfl (uxK1 rfl (uxK1 rfl (uxK1 rfl (uxK1 rfl (uxK1 rfl (uxK1 rfl (uxK1 rfl (uxK1 rfl (uxK1 rfl (uxK1 rfl hI.2.2.2.2.2.2.2.2.2.2.2.1))))))))))))))))
    have k_xC1 : xC1 W := by
      rw [hW]
      exact (uxC1 rfl (uxC1 rfl (uxC1 rfl (uxC1 rfl (uxC1 rfl (uxC1 rfl (uxC1 rfl (uxC1 rfl (uxC1 rfl (uxC1 rfl (uxC1 rfl (uxC1 rfl (uxC1 rfl (uxC1 rfl (uxC1 rfl (uxC1 rfl hI.2.2.2.2.2.2.2.2.2.2.2.2.1))))))))))))))))
    have k_xRW : xRW W := by
      rw [hW]
      exact (uxRW rfl (uxRW rfl (uxRW rfl (uxRW rfl (uxRW rfl (uxRW rfl (uxRW rfl (uxRW rfl (uxRW rfl (uxRW rfl (uxRW rfl (uxRW rfl (uxRW rfl (uxRW rfl (uxRW rfl (uxRW rfl hI.2.2.2.2.2.2.2.2.2.2.2.2.2.1))))))))))))))))
    have k_xWT : xWT W := by
      rw [hW]
      exact (uxWT rfl (uxWT rfl (uxWT rfl (uxWT rfl (uxWT rfl (uxWT rfl (uxWT rfl (uxWT rfl (uxWT rfl (uxWT rfl (uxWT rfl (uxWT rfl (uxWT rfl (uxWT rfl (uxWT rfl (uxWT rfl hI.2.2.2.2.2.2.2.2.2.2.2.2.2.2.1))))))))))))))))
    have k_xCU : xCU W := by
      rw [hW]
      exact (uxCU rfl (uxCU rfl (uxCU rfl (uxCU rfl (uxCU rfl (uxCU rfl (uxCU rfl (uxCU rfl (uxCU rfl (uxCU rfl (uxCU rfl (uxCU rfl (uxCU rfl (uxCU rfl (uxCU rfl (uxCU rfl hI.2.2.2.2.2.2.2.2.2.2.2.2.2.2.2.1))))))))))))))))
    have k_xG2 : xG2 W := by
      rw [hW]
      exact (uxG2 rfl (uxG2 rfl (uxG2 rfl (uxG2 rfl (uxG2 rfl (uxG2 rfl (uxG2 rfl (uxG2 rfl (uxG2 rfl (uxG2 rfl (uxG2 rfl (uxG2 rfl (uxG2 rfl (uxG2 rfl (uxG2 rfl (uxG2 rfl hI.2.2.2.2.2.2.2.2.2.2.2.2.2.2.2.2.1))))))))))))))))
    have k_xG3 : xG3 W := by
      rw [hW]
      exact (uxG3 rfl (uxG3 rfl (uxG3 rfl (uxG3 rfl (uxG3 rfl (uxG3 rfl (uxG3 rfl (uxG3 rfl (uxG3 rfl (uxG3 rfl (uxG3 rfl (uxG3 rfl (uxG3 rfl (uxG3 rfl (uxG3 rfl (uxG3 rfl hI.2.2.2.2.2.2.2.2.2.2.2.2.2.2.2.2.2.1))))))))))))))))
    have k_xG4 : xG4 W := by
      rw [hW]
      exact (uxG4 rfl (uxG4 rfl (uxG4 rfl (uxG4 rfl (uxG4 rfl (uxG4 rfl (uxG4 rfl (uxG4 rfl (uxG4 rfl (uxG4 rfl (uxG4 rfl (uxG4 rfl (uxG4 rfl (uxG4 rfl (uxG4 rfl (uxG4 rfl hI.2.2.2.2.2.2.2.2.2.2.2.2.2.2.2.2.2.2.1))))))))))))))))
    have k_xG5 : xG5 W := by
      rw [hW]
      exact (uxG5 rfl (uxG5 rfl (uxG5 rfl (uxG5 rfl (uxG5 rfl (uxG5 rfl (uxG5 rfl (uxG5 rfl (uxG5 rfl (uxG5 rfl (uxG5 rfl (uxG5 rfl (uxG5 rfl (uxG5 rfl (uxG5 rfl (uxG5 rfl hI.2.2.2.2.2.2.2.2.2.2.2.2.2.2.2.2.2.2.2.1))))))))))))))))
    have k_xG6 : xG6 W := by
      rw [hW]
      exact (uxG6 rfl (uxG6 rfl (uxG6 rfl (uxG6 rfl (uxG6 rfl (uxG6 rfl (uxG6 rfl (uxG6 rfl (uxG6 rfl (uxG6 rfl (uxG6 rfl (uxG6 rfl (uxG6 rfl (uxG6 rfl (uxG6 rfl (uxG6 rfl hI.2.2.2.2.2.2.2.2.2.2.2.2.2.2.2.2.2.2.2.2.1))))))))))))))))
    have k_xS1 : xS1 W := by
      rw [hW]
      exact (uxS1 rfl (uxS1 rfl (uxS1 rfl (uxS1 rfl (uxS1 rfl (uxS1 rfl (uxS1 rfl (uxS1 rfl (uxS1 rfl (uxS1 rfl (uxS1 rfl (uxS1 rfl (uxS1 rfl (uxS1 rfl (uxS1 rfl (uxS1 rfl hI.2.2.2.2.2.2.2.2.2.2.2.2.2.2.2.2.2.2.2.2.2.1))))))))))))))))
    have k_xS2 : xS2 W := by
      rw [hW]
      exact (uxS2 rfl (uxS2 rfl (uxS2 rfl (uxS2 rfl (uxS2 rfl (uxS2 rfl (uxS2 rfl (uxS2 rfl (uxS2 rfl (uxS2 rfl (uxS2 rfl (uxS2 rfl (uxS2 rfl (uxS2 rfl (uxS2 rfl (uxS2 rfl hI.2.2.2.2.2.2.2.2.2.2.2.2.2.2.2.2.2.2.2.2.2.2.1))))))))))))))))
    have k_xS3 : xS3 W := by
      rw [hW]
      exact (uxS3 rfl (uxS3 rfl (uxS3 rfl (uxS3 rfl (uxS3 rfl (uxS3 rfl (uxS3 rfl (uxS3 rfl (uxS3 rfl (uxS3 rfl (uxS3 rfl (uxS3 rfl (uxS3 rfl (uxS3 rfl (uxS3 rfl (uxS3 rfl hI.2.2.2.2.2.2.2.2.2.2.2.2.2.2.2.2.2.2.2.2.2.2.2.1))))))))))))))))
    have k_xS4 : xS4 W := by
      rw [hW]
      exact (uxS4 rfl (uxS4 rfl (uxS4 rfl (uxS4 rfl (uxS4 rfl (uxS4 rfl (uxS4 rfl (uxS4 rfl (uxS4 rfl (uxS4 rfl (uxS4 rfl (uxS4 rfl (uxS4 rfl (uxS4 rfl (uxS4 rfl (uxS4 rfl hI.2.2.2.2.2.2.2.2.2.2.2.2.2.2.2.2.2.2.2.2.2.2.2.2.1))))))))))))))))
    have k_xS5 : xS5 W := by
      rw [hW]
      exact (uxS5 rfl (uxS5 rfl (uxS5 rfl (uxS5 rfl (uxS5 rfl (uxS5 rfl (uxS5 rfl (uxS5 rfl (uxS5 rfl (uxS5 rfl (uxS5 rfl (uxS5 rfl (uxS5 rfl (uxS5 rfl (uxS5 rfl (uxS5 rfl hI.2.2.2.2.2.2.2.2.2.2.2.2.2.2.2.2.2.2.2.2.2.2.2.2.2.1))))))))))))))))
    have k_xS6 : xS6 W := by
      rw [hW]
      exact (uxS6 rfl (uxS6 rfl (uxS6 rfl (uxS6 rfl (uxS6 rfl (uxS6 rfl (uxS6 rfl (uxS6 rfl (uxS6 rfl (uxS6 rfl (uxS6 rfl (uxS6 rfl (uxS6 rfl (uxS6 rfl (uxS6 rfl (uxS6 rfl hI.2.2.2.2.2.2.2.2.2.2.2.2.2.2.2.2.2.2.2.2.2.2.2.2.2.2.1))))))))))))))))
    have k_xS7 : xS7 W := by
      rw [hW]
      exact (uxS7 rfl (uxS7 rfl (uxS7 rfl (uxS7 rfl (uxS7 rfl (uxS7 rfl (uxS7 rfl (uxS7 rfl (uxS7 rfl (uxS7 rfl (uxS7 rfl (uxS7 rfl (uxS7 rfl (uxS7 rfl (uxS7 rfl (uxS7 rfl hI.2.2.2.2.2.2.2.2.2.2.2.2.2.2.2.2.2.2.2.2.2.2.2.2.2.2.2.1))))))))))))))))
    have k_xS8 : xS8 W := by
      rw [hW]
      exact (uxS8 rfl (uxS8 rfl (uxS8 rfl (uxS8 rfl (uxS8 rfl (uxS8 rfl (uxS8 rfl (uxS8 rfl (uxS8 rfl (uxS8 rfl (uxS8 rfl (uxS8 rfl (uxS8 rfl (uxS8 rfl (uxS8 rfl (uxS8 rfl hI.2.2.2.2.2.2.2.2.2.2.2.2.2.2.2.2.2.2.2.2.2.2.2.2.2.2.2.2.1))))))))))))))))
    have k_xS9 : xS9 W := by
      rw [hW]
      exact (uxS9 rfl (uxS9 rfl (uxS9 rfl (uxS9 rfl (uxS9 rfl (uxS9 rfl (uxS9 rfl (uxS9 rfl (uxS9 rfl (uxS9 rfl (uxS9 rfl (uxS9 rfl (uxS9 rfl (uxS9 rfl (uxS9 rfl (uxS9 rfl hI.2.2.2.2.2.2.2.2.2.2.2.2.2.2.2.2.2.2.2.2.2.2.2.2.2.2.2.2.2.1))))))))))))))))
    have k_xSA : xSA W := by
      rw [hW]
      exact (uxSA rfl (uxSA rfl (uxSA rfl (uxSA rfl (uxSA rfl (uxSA rfl (uxSA rfl (uxSA rfl (uxSA rfl (uxSA rfl (uxSA rfl (uxSA rfl (uxSA rfl (uxSA rfl (uxSA rfl (uxSA rfl hI.2.2.2.2.2.2.2.2.2.2.2.2.2.2.2.2.2.2.2.2.2.2.2.2.2.2.2.2.2.2.1))))))))))))))))
    have k_xSG : xSG W := by
      rw [hW]
      exact (uxSG rfl (uxSG rfl (uxSG rfl (uxSG rfl (uxSG rfl (uxSG rfl (uxSG rfl (uxSG rfl (uxSG rfl (uxSG rfl (uxSG rfl (uxSG rfl (uxSG rfl (uxSG rfl (uxSG rfl (uxSG rfl hI.2.2.2.2.2.2.2.2.2.2.2.2.2.2.2.2.2.2.2.2.2.2.2.2.2.2.2.2.2.2.2.1))))))))))))))))
    have k_xSF : xSF W := by
      rw [hW]
      exact (uxSF rfl (uxSF rfl (uxSF rfl (uxSF rfl (uxSF rfl (uxSF rfl (uxSF rfl (uxSF rfl (uxSF rfl (uxSF rfl (uxSF rfl (uxSF rfl (uxSF rfl (uxSF rfl (uxSF rfl (uxSF rfl hI.2.2.2.2.2.2.2.2.2.2.2.2.2.2.2.2.2.2.2.2.2.2.2.2.2.2.2.2.2.2.2.2.1))))))))))))))))
    have k_xSB : xSB W := by
      rw [hW]
      exact (uxSB rfl (uxSB rfl (uxSB rfl (uxSB rfl (uxSB rfl (uxSB rfl (uxSB rfl (uxSB rfl (uxSB rfl (uxSB rfl (uxSB rfl (uxSB rfl (uxSB rfl (uxSB rfl (uxSB rfl (uxSB rfl hI.2.2.2.2.2.2.2.2.2.2.2.2.2.2.2.2.2.2.2.2.2.2.2.2.2.2.2.2.2.2.2.2.2.1))))))))))))))))
    have k_xSC : xSC W := by
      rw [hW]
      exact (uxSC rfl (uxSC rfl (uxSC rfl (uxSC rfl (uxSC rfl (uxSC rfl (uxSC rfl (uxSC rfl (uxSC rfl (uxSC rfl (uxSC rfl (uxSC rfl (uxSC rfl (uxSC rfl (uxSC rfl (uxSC rfl hI.2.2.2.2.2.2.2.2.2.2.2.2.2.2.2.2.2.2.2.2.2.2.2.2.2.2.2.2.2.2.2.2.2.2.1))))))))))))))))
    have k_xSD : xSD W := by
      have r91_240 : W 91 240 = 1 * ρ 0 + 0 := by rw [hW, sU_ne (fun z => by omega), sU_ne (fun z => by omega), sU_ne (fun z => by omega), sU_ne (fun z => by omega), sU_ne (fun z => by omega), sU_ne (fun z => by omega), sU_ne (fun z => by omega), sU_ne (fun z => by omega), sU_ne (fun z => by omega), sU_ne (fun z => by omega), sU_ne (fun z => by omega), sU_ne (fun z => by omega), sU_ne (fun z => by omega), sU_ne (fun z => by omega), sU_at]
      have r91_241 : W 91 241 = 1 * ρ 0 + 0 := by rw [hW, sU_ne (fun z => by omega), sU_ne (fun z => by omega), sU_ne (fun z => by omega), sU_ne (fun z => by omega), sU_ne (fun z => by omega), sU_ne (fun z => by omega), sU_ne (fun z => by omega), sU_ne (fun z => by omega), sU_ne (fun z => by omega), sU_ne (fun z => by omega), sU_ne (fun z => by omega), sU_ne (fun z => by omega), sU_ne (fun z => by omega), sU_at]
      have r91_242 : W 91 242 = 7 * ρ 0 + 0 := by rw [hW, sU_ne (fun z => by omega), sU_ne (fun z => by omega), sU_ne (fun z => by omega), sU_ne (fun z => by omega), sU_ne (fun z => by omega), sU_ne (fun z => by omega), sU_ne (fun z => by omega), sU_ne (fun z => by omega), sU_ne (fun z => by omega), sU_ne (fun z => by omega), sU_ne (fun z => by omega), sU_ne (fun z => by omega), sU_at]
      have r91_243 : W 91 243 = 128 * ρ 0 + 0 := by rw [hW, sU_ne (fun z => by omega), sU_ne (fun z => by omega), sU_ne (fun z => by omega), sU_ne (fun z => by omega), sU_ne (fun z => by omega), sU_ne (fun z => by omega), sU_ne (fun z => by omega), sU_ne (fun z => by omega), sU_ne (fun z => by omega), sU_ne (fun z => by omega), sU_ne (fun z => by omega), sU_at]
      have r91_244 : W 91 244 = 128 * ρ 0 + (-128 * ρ 3 + (1 * ρ 6 + 0)) := by rw [hW, sU_ne (fun z => by omega), sU_ne (fun z => by omega), sU_ne (fun z => by omega), sU_ne (fun z => by omega), sU_ne (fun z => by omega), sU_ne (fun z => by omega), sU_ne (fun z => by omega), sU_ne (fun z => by omega), sU_ne (fun z => by omega), sU_at]
      have r91_245 : W 91 245 = 0 := by rw [hW, sU_ne (fun z => by omega), sU_ne (fun z => by omega), sU_ne (fun z => by omega), sU_ne (fun z => by omega), sU_ne (fun z => by omega), sU_ne (fun z => by omega), sU_ne (fun z => by omega), sU_ne (fun z => by omega), sU_at]
      have r91_246 : W 91 246 = 1 * ρ 6 + 0 := by rw [hW, sU_ne (fun z => by omega), sU_ne (fun z => by omega), sU_ne (fun z => by omega), sU_ne (fun z => by omega), sU_ne (fun z => by omega), sU_ne (fun z => by omega), sU_ne (fun z => by omega), sU_ne (fun z => by omega), sU_ne (fun z => by omega), sU_ne (fun z => by omega), sU_at]
      have r91_247 : W 91 247 = 128 * ρ 0 + 0 := by rw [hW, sU_ne (fun z => by omega), sU_ne (fun z => by omega), sU_ne (fun z => by omega), sU_ne (fun z => by omega), sU_ne (fun z => by omega), sU_ne (fun z => by omega), sU_ne (fun z => by omega), sU_at]
      intro h
      rw [r91_241, r91_242, r91_243, r91_244, r91_245, r91_246, r91_247, h0]
      have t := xtold_7 (a := ρ 1) (b := ρ 2) (c := ρ 3) (d := ρ 4) (e := ρ 5) (by omega) (by omega) (by omega) (by omega) (by omega)
      rw [show (1 * ρ 6 + 0 : Int) = 32 * ρ 1 + 64 * ρ 2 + 128 * ρ 3 + 256 * ρ 4 + 512 * ρ 5 by omega]
      refine ⟨by decide, ?_, by decide⟩
      rw [show ((128 : Int) * 1 + 0) = 128 from rfl, t.2]
      omega
    have k_xSE : xSE W := by
      have r91_249 : W 91 249 = 1 * ρ 0 + 0 := by rw [hW, sU_ne (fun z => by omega), sU_ne (fun z => by omega), sU_ne (fun z => by omega), sU_ne (fun z => by omega), sU_ne (fun z => by omega), sU_ne (fun z => by omega), sU_ne (fun z => by omega), sU_ne (fun z => by omega), sU_ne (fun z => by omega), sU_ne (fun z => by omega), sU_ne (fun z => by omega), sU_ne (fun z => by omega), sU_ne (fun z => by omega), sU_ne (fun z => by omega), sU_ne (fun z => by omega), sU_at]
      have r91_250 : W 91 250 = 0 := by rw [hW, sU_ne (fun z => by omega), sU_ne (fun z => by omega), sU_ne (fun z => by omega), sU_ne (fun z => by omega), sU_ne (fun z => by omega), sU_ne (fun z => by omega), sU_at]
      have r91_251 : W 91 251 = 0 := by rw [hW, sU_ne (fun z => by omega), sU_ne (fun z => by omega), sU_ne (fun z => by omega), sU_ne (fun z => by omega), sU_ne (fun z => by omega), sU_at]
      have r91_252 : W 91 252 = 0 := by rw [hW, sU_ne (fun z => by omega), sU_ne (fun z => by omega), sU_ne (fun z => by omega), sU_ne (fun z => by omega), sU_at]
      have r91_253 : W 91 253 = 0 := by rw [hW, sU_ne (fun z => by omega), sU_ne (fun z => by omega), sU_ne (fun z => by omega), sU_at]
      have r91_255 : W 91 255 = 1 * ρ 6 + 0 := by rw [hW, sU_ne (fun z => by omega), sU_ne (fun z => by omega), sU_at]
      have r91_256 : W 91 256 = 128 * ρ 3 + 0 := by rw [hW, sU_ne (fun z => by omega), sU_at]
      have r91_243 : W 91 243 = 128 * ρ 0 + 0 := by rw [hW, sU_ne (fun z => by omega), sU_ne (fun z => by omega), sU_ne (fun z => by omega), sU_ne (fun z => by omega), sU_ne (fun z => by omega), sU_ne (fun z => by omega), sU_ne (fun z => by omega), sU_ne (fun z => by omega), sU_ne (fun z => by omega), sU_ne (fun z => by omega), sU_ne (fun z => by omega), sU_at]
      have r91_257 : W 91 257 = 0 := by rw [hW, sU_at]
      intro h
      rw [r91_243, r91_250, r91_251, r91_252, r91_253, r91_255, r91_256, r91_257, h0]
      have t := xtold_7 (a := ρ 1) (b := ρ 2) (c := ρ 3) (d := ρ 4) (e := ρ 5) (by omega) (by omega) (by omega) (by omega) (by omega)
      rw [show (1 * ρ 6 + 0 : Int) = 32 * ρ 1 + 64 * ρ 2 + 128 * ρ 3 + 256 * ρ 4 + 512 * ρ 5 by omega]
      refine ⟨by decide, by decide, ?_, by decide⟩
      rw [show ((128 : Int) * 1 + 0) = 128 from rfl, t.1]
      omega
    have k_xSW : xSW W := by
      rw [hW]
      exact (uxSW rfl (uxSW rfl (uxSW rfl (uxSW rfl (uxSW rfl (uxSW rfl (uxSW rfl (uxSW rfl (uxSW rfl (uxSW rfl (uxSW rfl (uxSW rfl (uxSW rfl (uxSW rfl (uxSW rfl (uxSW rfl hI.2.2.2.2.2.2.2.2.2.2.2.2.2.2.2.2.2.2.2.2.2.2.2.2.2.2.2.2.2.2.2.2.2.2.2.2.2.1))))))))))))))))
    have k_xST : xST W := by
      rw [hW]
      exact (uxST rfl (uxST rfl (uxST rfl (uxST rfl (uxST rfl (uxST rfl (uxST rfl (uxST rfl (uxST rfl (uxST rfl (uxST rfl (uxST rfl (uxST rfl (uxST rfl (uxST rfl (uxST rfl hI.2.2.2.2.2.2.2.2.2.2.2.2.2.2.2.2.2.2.2.2.2.2.2.2.2.2.2.2.2.2.2.2.2.2.2.2.2.2.1))))))))))))))))
    have k_xSP : xSP W := by
      rw [hW]
      exact (uxSP rfl (uxSP rfl (uxSP rfl (uxSP rfl (uxSP rfl (uxSP rfl (uxSP rfl (uxSP rfl (uxSP rfl (uxSP rfl (uxSP rfl (uxSP rfl (uxSP rfl (uxSP rfl (uxSP rfl (uxSP rfl hI.2.2.2.2.2.2.2.2.2.2.2.2.2.2.2.2.2.2.2.2.2.2.2.2.2.2.2.2.2.2.2.2.2.2.2.2.2.2.2.1))))))))))))))))
    have k_xSL : xSL W := by
      rw [hW]
      exact (uxSL rfl (uxSL rfl (uxSL rfl (uxSL rfl (uxSL rfl (uxSL rfl (uxSL rfl (uxSL rfl (uxSL rfl (uxSL rfl (uxSL rfl (uxSL rfl (uxSL rfl (uxSL rfl (uxSL rfl (uxSL rfl hI.2.2.2.2.2.2.2.2.2.2.2.2.2.2.2.2.2.2.2.2.2.2.2.2.2.2.2.2.2.2.2.2.2.2.2.2.2.2.2.2.1))))))))))))))))
    have k_xSM : xSM W := by
      rw [hW]
      exact (uxSM rfl (uxSM rfl (uxSM rfl (uxSM rfl (uxSM rfl (uxSM rfl (uxSM rfl (uxSM rfl (uxSM rfl (uxSM rfl (uxSM rfl (uxSM rfl (uxSM rfl (uxSM rfl (uxSM rfl (uxSM rfl hI.2.2.2.2.2.2.2.2.2.2.2.2.2.2.2.2.2.2.2.2.2.2.2.2.2.2.2.2.2.2.2.2.2.2.2.2.2.2.2.2.2.1))))))))))))))))
    have k_xSI : xSI W := by
      rw [hW]
      exact (uxSI rfl (uxSI rfl (uxSI rfl (uxSI rfl (uxSI rfl (uxSI rfl (uxSI rfl (uxSI rfl (uxSI rfl (uxSI rfl (uxSI rfl (uxSI rfl (uxSI rfl (uxSI rfl (uxSI rfl (uxSI rfl hI.2.2.2.2.2.2.2.2.2.2.2.2.2.2.2.2.2.2.2.2.2.2.2.2.2.2.2.2.2.2.2.2.2.2.2.2.2.2.2.2.2.2.1))))))))))))))))
    have k_xD3 : xD3 W := by
      rw [hW]
      exact (uxD3 rfl (uxD3 rfl (uxD3 rfl (uxD3 rfl (uxD3 rfl (uxD3 rfl (uxD3 rfl (uxD3 rfl (uxD3 rfl (uxD3 rfl (uxD3 rfl (uxD3 rfl (uxD3 rfl (uxD3 rfl (uxD3 rfl (uxD3 rfl hI.2.2.2.2.2.2.2.2.2.2.2.2.2.2.2.2.2.2.2.2.2.2.2.2.2.2.2.2.2.2.2.2.2.2.2.2.2.2.2.2.2.2.2.1))))))))))))))))
    have k_xDV : xDV W := by
      rw [hW]
      exact (uxDV rfl (uxDV rfl (uxDV rfl (uxDV rfl (uxDV rfl (uxDV rfl (uxDV rfl (uxDV rfl (uxDV rfl (uxDV rfl (uxDV rfl (uxDV rfl (uxDV rfl (uxDV rfl (uxDV rfl (uxDV rfl hI.2.2.2.2.2.2.2.2.2.2.2.2.2.2.2.2.2.2.2.2.2.2.2.2.2.2.2.2.2.2.2.2.2.2.2.2.2.2.2.2.2.2.2.2.1))))))))))))))))
    have k_xDP : xDP W := by
      rw [hW]
      exact (uxDP rfl (uxDP rfl (uxDP rfl (uxDP rfl (uxDP rfl (uxDP rfl (uxDP rfl (uxDP rfl (uxDP rfl (uxDP rfl (uxDP rfl (uxDP rfl (uxDP rfl (uxDP rfl (uxDP rfl (uxDP rfl hI.2.2.2.2.2.2.2.2.2.2.2.2.2.2.2.2.2.2.2.2.2.2.2.2.2.2.2.2.2.2.2.2.2.2.2.2.2.2.2.2.2.2.2.2.2.1))))))))))))))))
    have k_xDE : xDE W := by
      rw [hW]
      exact (uxDE rfl (uxDE rfl (uxDE rfl (uxDE rfl (uxDE rfl (uxDE rfl (uxDE rfl (uxDE rfl (uxDE rfl (uxDE rfl (uxDE rfl (uxDE rfl (uxDE rfl (uxDE rfl (uxDE rfl (uxDE rfl hI.2.2.2.2.2.2.2.2.2.2.2.2.2.2.2.2.2.2.2.2.2.2.2.2.2.2.2.2.2.2.2.2.2.2.2.2.2.2.2.2.2.2.2.2.2.2.1))))))))))))))))
    have k_xQ5 : xQ5 W := by
      rw [hW]
      exact (uxQ5 rfl (uxQ5 rfl (uxQ5 rfl (uxQ5 rfl (uxQ5 rfl (uxQ5 rfl (uxQ5 rfl (uxQ5 rfl (uxQ5 rfl (uxQ5 rfl (uxQ5 rfl (uxQ5 rfl (uxQ5 rfl (uxQ5 rfl (uxQ5 rfl (uxQ5 rfl hI.2.2.2.2.2.2.2.2.2.2.2.2.2.2.2.2.2.2.2.2.2.2.2.2.2.2.2.2.2.2.2.2.2.2.2.2.2.2.2.2.2.2.2.2.2.2.2.1))))))))))))))))
    have k_xQL : xQL W := by
      rw [hW]
      exact (uxQL rfl (uxQL rfl (uxQL rfl (uxQL rfl (uxQL rfl (uxQL rfl (uxQL rfl (uxQL rfl (uxQL rfl (uxQL rfl (uxQL rfl (uxQL rfl (uxQL rfl (uxQL rfl (uxQL rfl (uxQL rfl hI.2.2.2.2.2.2.2.2.2.2.2.2.2.2.2.2.2.2.2.2.2.2.2.2.2.2.2.2.2.2.2.2.2.2.2.2.2.2.2.2.2.2.2.2.2.2.2.2.1))))))))))))))))
    have k_xQW : xQW W := by
      rw [hW]
      exact (uxQW rfl (uxQW rfl (uxQW rfl (uxQW rfl (uxQW rfl (uxQW rfl (uxQW rfl (uxQW rfl (uxQW rfl (uxQW rfl (uxQW rfl (uxQW rfl (uxQW rfl (uxQW rfl (uxQW rfl (uxQW rfl hI.2.2.2.2.2.2.2.2.2.2.2.2.2.2.2.2.2.2.2.2.2.2.2.2.2.2.2.2.2.2.2.2.2.2.2.2.2.2.2.2.2.2.2.2.2.2.2.2.2.1))))))))))))))))
    have k_xQM : xQM W := by
      rw [hW]
      exact (uxQM rfl (uxQM rfl (uxQM rfl (uxQM rfl (uxQM rfl (uxQM rfl (uxQM rfl (uxQM rfl (uxQM rfl (uxQM rfl (uxQM rfl (uxQM rfl (uxQM rfl (uxQM rfl (uxQM rfl (uxQM rfl hI.2.2.2.2.2.2.2.2.2.2.2.2.2.2.2.2.2.2.2.2.2.2.2.2.2.2.2.2.2.2.2.2.2.2.2.2.2.2.2.2.2.2.2.2.2.2.2.2.2.2.1))))))))))))))))
    have k_xQH : xQH W := by
      rw [hW]
      exact (uxQH rfl (uxQH rfl (uxQH rfl (uxQH rfl (uxQH rfl (uxQH rfl (uxQH rfl (uxQH rfl (uxQH rfl (uxQH rfl (uxQH rfl (uxQH rfl (uxQH rfl (uxQH rfl (uxQH rfl (uxQH rfl hI.2.2.2.2.2.2.2.2.2.2.2.2.2.2.2.2.2.2.2.2.2.2.2.2.2.2.2.2.2.2.2.2.2.2.2.2.2.2.2.2.2.2.2.2.2.2.2.2.2.2.2))))))))))))))))
    have k_XC : XC W := ⟨k_xS1, k_xS2, k_xS3, k_xS4, k_xS5, k_xS6, k_xS7, k_xS8, k_xS9, k_xSA, k_xSG, k_xSF, k_xSB, k_xSC, k_xSD, k_xSE, k_xSW, k_xST, k_xSP, k_xSL, k_xSM, k_xSI, k_xD3, k_xDV, k_xDP, k_xDE, k_xQ5, k_xQL, k_xQW, k_xQM, k_xQH⟩
    have kXB : XB W := ⟨k_xN1, k_xN2, k_xN3, k_xN4, k_xN5, k_xN6, k_xH1, k_xK1, k_xC1, k_xRW, k_xWT, k_xCU, k_xG2, k_xG3, k_xG4, k_xG5, k_xG6, k_XC⟩
    exact ⟨base, k2, k3, kXA, kXB⟩
-- told8
def xr_330 : qRu := (7, [[(-32, 1), (-64, 2), (-128, 3), (-256, 4), (-512, 5), (1, 6)], [(32, 1), (64, 2), (128, 3), (256, 4), (512, 5), (-1, 6)], [(1, 1)], [(1, 0), (-1, 1)], [(1, 2)], [(1, 0), (-1, 2)], [(1, 3)], [(1, 0), (-1, 3)], [(1, 4)], [(1, 0), (-1, 4)], [(1, 5)], [(1, 0), (-1, 5)]], [], [], [(91, 249, [(1, 0)]), (91, 240, [(1, 0)]), (91, 241, [(1, 0)]), (91, 242, [(8, 0)]), (91, 243, [(256, 0)]), (91, 246, [(1, 6)]), (91, 244, [(256, 0), (-256, 4), (1, 6)]), (91, 245, []), (91, 247, [(256, 0)]), (91, 250, []), (91, 251, []), (91, 252, []), (91, 253, []), (91, 255, [(1, 6)]), (91, 256, [(256, 4)]), (91, 257, [])], [])
theorem xo_330 : qRok xr_330 := by
  intro ρ M h0 hf hm hI
  have f0 := hf [(-32, 1), (-64, 2), (-128, 3), (-256, 4), (-512, 5), (1, 6)] (by decide)
  have f1 := hf [(32, 1), (64, 2), (128, 3), (256, 4), (512, 5), (-1, 6)] (by decide)
  have f2 := hf [(1, 1)] (by decide)
  have f3 := hf [(1, 0), (-1, 1)] (by decide)
  have f4 := hf [(1, 2)] (by decide)
  have f5 := hf [(1, 0), (-1, 2)] (by decide)
  have f6 := hf [(1, 3)] (by decide)
  have f7 := hf [(1, 0), (-1, 3)] (by decide)
  have f8 := hf [(1, 4)] (by decide)
  have f9 := hf [(1, 0), (-1, 4)] (by decide)
  have f10 := hf [(1, 5)] (by decide)
  have f11 := hf [(1, 0), (-1, 5)] (by decide)
  simp only [qD, h0] at f0 f1 f2 f3 f4 f5 f6 f7 f8 f9 f10 f11
  have qxSD := hI.2.2.2.2.2.2.2.2.2.2.2.2.2.2.2.2.2.2.2.2.2.2.2.2.2.2.2.2.2.2.2.2.2.2.2.1
  have qxSE := hI.2.2.2.2.2.2.2.2.2.2.2.2.2.2.2.2.2.2.2.2.2.2.2.2.2.2.2.2.2.2.2.2.2.2.2.2.1
  refine ⟨ρ, fun _ _ => rfl, fun f h => ?_, ?_⟩
  · exact nomatch h
  · show sI (sU (sU (sU (sU (sU (sU (sU (sU (sU (sU (sU (sU (sU (sU (sU (sU M 91 249 (1 * ρ 0 + 0)) 91 240 (1 * ρ 0 + 0)) 91 241 (1 * ρ 0 + 0)) 91 242 (8 * ρ 0 + 0)) 91 243 (256 * ρ 0 + 0)) 91 246 (1 * ρ 6 + 0)) 91 244 (256 * ρ 0 + (-256 * ρ 4 + (1 * ρ 6 + 0)))) 91 245 (0)) 91 247 (256 * ρ 0 + 0)) 91 250 (0)) 91 251 (0)) 91 252 (0)) 91 253 (0)) 91 255 (1 * ρ 6 + 0)) 91 256 (256 * ρ 4 + 0)) 91 257 (0))
    obtain ⟨W, hW⟩ : ∃ W, W = (sU (sU (sU (sU (sU (sU (sU (sU (sU (sU (sU (sU (sU (sU (sU (sU M 91 249 (1 * ρ 0 + 0)) 91 240 (1 * ρ 0 + 0)) 91 241 (1 * ρ 0 + 0)) 91 242 (8 * ρ 0 + 0)) 91 243 (256 * ρ 0 + 0)) 91 246 (1 * ρ 6 + 0)) 91 244 (256 * ρ 0 + (-256 * ρ 4 + (1 * ρ 6 + 0)))) 91 245 (0)) 91 247 (256 * ρ 0 + 0)) 91 250 (0)) 91 251 (0)) 91 252 (0)) 91 253 (0)) 91 255 (1 * ρ 6 + 0)) 91 256 (256 * ρ 4 + 0)) 91 257 (0)) := ⟨_, rfl⟩
    rw [← hW]
    have base : sI0 W := by
      rw [hW]
      exact (si_u0 (si_u0 (si_u0 (si_u0 (si_u0 (si_u0 (si_u0 (si_u0 (si_u0 (si_u0 (si_u0 (si_u0 (si_u0 (si_u0 (si_u0 (si_u0 hI.1 (fun r hr => by cases hr)) (fun r hr => by cases hr)) (fun r hr => by cases hr)) (fun r hr => by cases hr)) (fun r hr => by cases hr)) (fun r hr => by cases hr)) (fun r hr => by cases hr)) (fun r hr => by cases hr)) (fun r hr => by cases hr)) (fun r hr => by cases hr)) (fun r hr => by cases hr)) (fun r hr => by cases hr)) (fun r hr => by cases hr)) (fun r hr => by cases hr)) (fun r hr => by cases hr)) (fun r hr => by cases hr))
    have k2 : XI2 W := by
      rw [hW]
      exact (xi2_u rfl (xi2_u rfl (xi2_u rfl (xi2_u rfl (xi2_u rfl (xi2_u rfl (xi2_u rfl (xi2_u rfl (xi2_u rfl (xi2_u rfl (xi2_u rfl (xi2_u rfl (xi2_u rfl (xi2_u rfl (xi2_u rfl (xi2_u rfl hI.2.1))))))))))))))))
    have k3 : XI3 W := by
      rw [hW]
      exact (xi3_u rfl (xi3_u rfl (xi3_u rfl (xi3_u rfl (xi3_u rfl (xi3_u rfl (xi3_u rfl (xi3_u rfl (xi3_u rfl (xi3_u rfl (xi3_u rfl (xi3_u rfl (xi3_u rfl (xi3_u rfl (xi3_u rfl (xi3_u rfl hI.2.2.1))))))))))))))))
    have kXA : XA W := by
      rw [hW]
      exact (uXA rfl (uXA rfl (uXA rfl (uXA rfl (uXA rfl (uXA rfl (uXA rfl (uXA rfl (uXA rfl (uXA rfl (uXA rfl (uXA rfl (uXA rfl (uXA rfl (uXA rfl (uXA rfl hI.2.2.2.1))))))))))))))))
    have k_xN1 : xN1 W := by
      rw [hW]
      exact (uxN1 rfl (uxN1 rfl (uxN1 rfl (uxN1 rfl (uxN1 rfl (uxN1 rfl (uxN1 rfl (uxN1 rfl (uxN1 rfl (uxN1 rfl (uxN1 rfl (uxN1 rfl (uxN1 rfl (uxN1 rfl (uxN1 rfl (uxN1 rfl hI.2.2.2.2.1))))))))))))))))
    have k_xN2 : xN2 W := by
      rw [hW]
      exact (uxN2 rfl (uxN2 rfl (uxN2 rfl (uxN2 rfl (uxN2 rfl (uxN2 rfl (uxN2 rfl (uxN2 rfl (uxN2 rfl (uxN2 rfl (uxN2 rfl (uxN2 rfl (uxN2 rfl (uxN2 rfl (uxN2 rfl (uxN2 rfl hI.2.2.2.2.2.1))))))))))))))))
    have k_xN3 : xN3 W := by
      rw [hW]
      exact (uxN3 rfl (uxN3 rfl (uxN3 rfl (uxN3 rfl (uxN3 rfl (uxN3 rfl (uxN3 rfl (uxN3 rfl (uxN3 rfl (uxN3 rfl (uxN3 rfl (uxN3 rfl (uxN3 rfl (uxN3 rfl (uxN3 rfl (uxN3 rfl hI.2.2.2.2.2.2.1))))))))))))))))
    have k_xN4 : xN4 W := by
      rw [hW]
      exact (uxN4 rfl (uxN4 rfl (uxN4 rfl (uxN4 rfl (uxN4 rfl (uxN4 rfl (uxN4 rfl (uxN4 rfl (uxN4 rfl (uxN4 rfl (uxN4 rfl (uxN4 rfl (uxN4 rfl (uxN4 rfl (uxN4 rfl (uxN4 rfl hI.2.2.2.2.2.2.2.1))))))))))))))))
    have k_xN5 : xN5 W := by
      rw [hW]
      exact (uxN5 rfl (uxN5 rfl (uxN5 rfl (uxN5 rfl (uxN5 rfl (uxN5 rfl (uxN5 rfl (uxN5 rfl (uxN5 rfl (uxN5 rfl (uxN5 rfl (uxN5 rfl (uxN5 rfl (uxN5 rfl (uxN5 rfl (uxN5 rfl hI.2.2.2.2.2.2.2.2.1))))))))))))))))
    have k_xN6 : xN6 W := by
      rw [hW]
      exact (uxN6 rfl (uxN6 rfl (uxN6 rfl (uxN6 rfl (uxN6 rfl (uxN6 rfl (uxN6 rfl (uxN6 rfl (uxN6 rfl (uxN6 rfl (uxN6 rfl (uxN6 rfl (uxN6 rfl (uxN6 rfl (uxN6 rfl (uxN6 rfl hI.2.2.2.2.2.2.2.2.2.1))))))))))))))))
    have k_xH1 : xH1 W := by
      rw [hW]
      exact (uxH1 rfl (uxH1 rfl (uxH1 rfl (uxH1 rfl (uxH1 rfl (uxH1 rfl (uxH1 rfl (uxH1 rfl (uxH1 rfl (uxH1 rfl (uxH1 rfl (uxH1 rfl (uxH1 rfl (uxH1 rfl (uxH1 rfl (uxH1 rfl hI.2.2.2.2.2.2.2.2.2.2.1))))))))))))))))
    have k_xK1 : xK1 W := by
      rw [hW]
      exact (uxK1 rfl (uxK1 rfl (uxK1 rfl (uxK1 rfl (uxK1 rfl (uxK1 rfl (uxK1 rfl (uxK1 rfl (uxK1 rfl (uxK1 rfl (uxK1 rfl (uxK1 rfl (uxK1 rfl (uxK1 rfl (uxK1 rfl (uxK1 rfl hI.2.2.2.2.2.2.2.2.2.2.2.1))))))))))))))))
    have k_xC1 : xC1 W := by
      rw [hW]
      exact (uxC1 rfl (uxC1 rfl (uxC1 rfl (uxC1 rfl (uxC1 rfl (uxC1 rfl (uxC1 rfl (uxC1 rfl (uxC1 rfl (uxC1 rfl (uxC1 rfl (uxC1 rfl (uxC1 rfl (uxC1 rfl (uxC1 rfl (uxC1 rfl hI.2.2.2.2.2.2.2.2.2.2.2.2.1))))))))))))))))
    have k_xRW : xRW W := by
      rw [hW]
      exact (uxRW rfl (uxRW rfl (uxRW rfl (uxRW rfl (uxRW rfl (uxRW rfl (uxRW rfl (uxRW rfl (uxRW rfl (uxRW rfl (uxRW rfl (uxRW rfl (uxRW rfl (uxRW rfl (uxRW rfl (uxRW rfl hI.2.2.2.2.2.2.2.2.2.2.2.2.2.1))))))))))))))))
    have k_xWT : xWT W := by
      rw [hW]
      exact (uxWT rfl (uxWT rfl (uxWT rfl (uxWT rfl (uxWT rfl (uxWT rfl (uxWT rfl (uxWT rfl (uxWT rfl (uxWT rfl (uxWT rfl (uxWT rfl (uxWT rfl (uxWT rfl (uxWT rfl (uxWT rfl hI.2.2.2.2.2.2.2.2.2.2.2.2.2.2.1))))))))))))))))
    have k_xCU : xCU W := by
      rw [hW]
      exact (uxCU rfl (uxCU rfl (uxCU rfl (uxCU rfl (uxCU rfl (uxCU rfl (uxCU rfl (uxCU rfl (uxCU rfl (uxCU rfl (uxCU rfl (uxCU rfl (uxCU rfl (uxCU rfl (uxCU rfl (uxCU rfl hI.2.2.2.2.2.2.2.2.2.2.2.2.2.2.2.1))))))))))))))))
    have k_xG2 : xG2 W := by
      rw [hW]
      exact (uxG2 rfl (uxG2 rfl (uxG2 rfl (uxG2 rfl (uxG2 rfl (uxG2 rfl (uxG2 rfl (uxG2 rfl (uxG2 rfl (uxG2 rfl (uxG2 rfl (uxG2 rfl (uxG2 rfl (uxG2 rfl (uxG2 rfl (uxG2 rfl hI.2.2.2.2.2.2.2.2.2.2.2.2.2.2.2.2.1))))))))))))))))
    have k_xG3 : xG3 W := by
      rw [hW]
      exact (uxG3 rfl (uxG3 rfl (uxG3 rfl (uxG3 rfl (uxG3 rfl (uxG3 rfl (uxG3 rfl (uxG3 rfl (uxG3 rfl (uxG3 rfl (uxG3 rfl (uxG3 rfl (uxG3 rfl (uxG3 rfl (uxG3 rfl (uxG3 rfl hI.2.2.2.2.2.2.2.2.2.2.2.2.2.2.2.2.2.1))))))))))))))))
    have k_xG4 : xG4 W := by
      rw [hW]
      exact (uxG4 rfl (uxG4 rfl (uxG4 rfl (uxG4 rfl (uxG4 rfl (uxG4 rfl (uxG4 rfl (uxG4 rfl (uxG4 rfl (uxG4 rfl (uxG4 rfl (uxG4 rfl (uxG4 rfl (uxG4 rfl (uxG4 rfl (uxG4 rfl hI.2.2.2.2.2.2.2.2.2.2.2.2.2.2.2.2.2.2.1))))))))))))))))
    have k_xG5 : xG5 W := by
      rw [hW]
      exact (uxG5 rfl (uxG5 rfl (uxG5 rfl (uxG5 rfl (uxG5 rfl (uxG5 rfl (uxG5 rfl (uxG5 rfl (uxG5 rfl (uxG5 rfl (uxG5 rfl (uxG5 rfl (uxG5 rfl (uxG5 rfl (uxG5 rfl (uxG5 rfl hI.2.2.2.2.2.2.2.2.2.2.2.2.2.2.2.2.2.2.2.1))))))))))))))))
    have k_xG6 : xG6 W := by
      rw [hW]
      exact (uxG6 rfl (uxG6 rfl (uxG6 rfl (uxG6 rfl (uxG6 rfl (uxG6 rfl (uxG6 rfl (uxG6 rfl (uxG6 rfl (uxG6 rfl (uxG6 rfl (uxG6 rfl (uxG6 rfl (uxG6 rfl (uxG6 rfl (uxG6 rfl hI.2.2.2.2.2.2.2.2.2.2.2.2.2.2.2.2.2.2.2.2.1))))))))))))))))
    have k_xS1 : xS1 W := by
      rw [hW]
      exact (uxS1 rfl (uxS1 rfl (uxS1 rfl (uxS1 rfl (uxS1 rfl (uxS1 rfl (uxS1 rfl (uxS1 rfl (uxS1 rfl (uxS1 rfl (uxS1 rfl (uxS1 rfl (uxS1 rfl (uxS1 rfl (uxS1 rfl (uxS1 rfl hI.2.2.2.2.2.2.2.2.2.2.2.2.2.2.2.2.2.2.2.2.2.1))))))))))))))))
    have k_xS2 : xS2 W := by
      rw [hW]
      exact (uxS2 rfl (uxS2 rfl (uxS2 rfl (uxS2 rfl (uxS2 rfl (uxS2 rfl (uxS2 rfl (uxS2 rfl (uxS2 rfl (uxS2 rfl (uxS2 rfl (uxS2 rfl (uxS2 rfl (uxS2 rfl (uxS2 rfl (uxS2 rfl hI.2.2.2.2.2.2.2.2.2.2.2.2.2.2.2.2.2.2.2.2.2.2.1))))))))))))))))
    have k_xS3 : xS3 W := by
      rw [hW]
      exact (uxS3 rfl (uxS3 rfl (uxS3 rfl (uxS3 rfl (uxS3 rfl (uxS3 rfl (uxS3 rfl (uxS3 rfl (uxS3 rfl (uxS3 rfl (uxS3 rfl (uxS3 rfl (uxS3 rfl (uxS3 rfl (uxS3 rfl (uxS3 rfl hI.2.2.2.2.2.2.2.2.2.2.2.2.2.2.2.2.2.2.2.2.2.2.2.1))))))))))))))))
    have k_xS4 : xS4 W := by
      rw [hW]
      exact (uxS4 rfl (uxS4 rfl (uxS4 rfl (uxS4 rfl (uxS4 rfl (uxS4 rfl (uxS4 rfl (uxS4 rfl (uxS4 rfl (uxS4 rfl (uxS4 rfl (uxS4 rfl (uxS4 rfl (uxS4 rfl (uxS4 rfl (uxS4 rfl hI.2.2.2.2.2.2.2.2.2.2.2.2.2.2.2.2.2.2.2.2.2.2.2.2.1))))))))))))))))
    have k_xS5 : xS5 W := by
      rw [hW]
      exact (uxS5 rfl (uxS5 rfl (uxS5 rfl (uxS5 rfl (uxS5 rfl (uxS5 rfl (uxS5 rfl (uxS5 rfl (uxS5 rfl (uxS5 rfl (uxS5 rfl (uxS5 rfl (uxS5 rfl (uxS5 rfl (uxS5 rfl (uxS5 rfl hI.2.2.2.2.2.2.2.2.2.2.2.2.2.2.2.2.2.2.2.2.2.2.2.2.2.1))))))))))))))))
    have k_xS6 : xS6 W := by
      rw [hW]
      exact (uxS6 rfl (uxS6 rfl (uxS6 rfl (uxS6 rfl (uxS6 rfl (uxS6 rfl (uxS6 rfl (uxS6 rfl (uxS6 rfl (uxS6 rfl (uxS6 rfl (uxS6 rfl (uxS6 rfl (uxS6 rfl (uxS6 rfl (uxS6 rfl hI.2.2.2.2.2.2.2.2.2.2.2.2.2.2.2.2.2.2.2.2.2.2.2.2.2.2.1))))))))))))))))
    have k_xS7 : xS7 W := by
      rw [hW]
      exact (uxS7 rfl (uxS7 rfl (uxS7 rfl (uxS7 rfl (uxS7 rfl (uxS7 rfl (uxS7 rfl (uxS7 rfl (uxS7 rfl (uxS7 rfl (uxS7 rfl (uxS7 rfl (uxS7 rfl (uxS7 rfl (uxS7 rfl (uxS7 rfl hI.2.2.2.2.2.2.2.2.2.2.2.2.2.2.2.2.2.2.2.2.2.2.2.2.2.2.2.1))))))))))))))))
    have k_xS8 : xS8 W := by
      rw [hW]
      exact (uxS8 rfl (uxS8 rfl (uxS8 rfl (uxS8 rfl (uxS8 rfl (uxS8 rfl (uxS8 rfl (uxS8 rfl (uxS8 rfl (uxS8 rfl (uxS8 rfl (uxS8 rfl (uxS8 rfl (uxS8 rfl (uxS8 rfl (uxS8 rfl hI.2.2.2.2.2.2.2.2.2.2.2.2.2.2.2.2.2.2.2.2.2.2.2.2.2.2.2.2.1))))))))))))))))
    have k_xS9 : xS9 W := by
      rw [hW]
      exact (uxS9 rfl (uxS9 rfl (uxS9 rfl (uxS9 rfl (uxS9 rfl (uxS9 rfl (uxS9 rfl (uxS9 rfl (uxS9 rfl (uxS9 rfl (uxS9 rfl (uxS9 rfl (uxS9 rfl (uxS9 rfl (uxS9 rfl (uxS9 rfl hI.2.2.2.2.2.2.2.2.2.2.2.2.2.2.2.2.2.2.2.2.2.2.2.2.2.2.2.2.2.1))))))))))))))))
    have k_xSA : xSA W := by
      rw [hW]
      exact (uxSA rfl (uxSA rfl (uxSA rfl (uxSA rfl (uxSA rfl (uxSA rfl (uxSA rfl (uxSA rfl (uxSA rfl (uxSA rfl (uxSA rfl (uxSA rfl (uxSA rfl (uxSA rfl (uxSA rfl (uxSA rfl hI.2.2.2.2.2.2.2.2.2.2.2.2.2.2.2.2.2.2.2.2.2.2.2.2.2.2.2.2.2.2.1))))))))))))))))
    have k_xSG : xSG W := by
      rw [hW]
      exact (uxSG rfl (uxSG rfl (uxSG rfl (uxSG rfl (uxSG rfl (uxSG rfl (uxSG rfl (uxSG rfl (uxSG rfl (uxSG rfl (uxSG rfl (uxSG rfl (uxSG rfl (uxSG rfl (uxSG rfl (uxSG rfl hI.2.2.2.2.2.2.2.2.2.2.2.2.2.2.2.2.2.2.2.2.2.2.2.2.2.2.2.2.2.2.2.1))))))))))))))))
    have k_xSF : xSF W := by
      rw [hW]
      exact (uxSF rfl (uxSF rfl (uxSF rfl (uxSF rfl (uxSF rfl (uxSF rfl (uxSF rfl (uxSF rfl (uxSF rfl (uxSF rfl (uxSF rfl (uxSF rfl (uxSF rfl (uxSF rfl (uxSF rfl (uxSF rfl hI.2.2.2.2.2.2.2.2.2.2.2.2.2.2.2.2.2.2.2.2.2.2.2.2.2.2.2.2.2.2.2.2.1))))))))))))))))
    have k_xSB : xSB W := by
      rw [hW]
      exact (uxSB rfl (uxSB rfl (uxSB rfl (uxSB rfl (uxSB rfl (uxSB rfl (uxSB rfl (uxSB rfl (uxSB rfl (uxSB rfl (uxSB rfl (uxSB rfl (uxSB rfl (uxSB rfl (uxSB rfl (uxSB rfl hI.2.2.2.2.2.2.2.2.2.2.2.2.2.2.2.2.2.2.2.2.2.2.2.2.2.2.2.2.2.2.2.2.2.1))))))))))))))))
    have k_xSC : xSC W := by
      rw [hW]
      exact (uxSC rfl (uxSC rfl (uxSC rfl (uxSC rfl (uxSC rfl (uxSC rfl (uxSC rfl (uxSC rfl (uxSC rfl (uxSC rfl (uxSC rfl (uxSC rfl (uxSC rfl (uxSC rfl (uxSC rfl (uxSC rfl hI.2.2.2.2.2.2.2.2.2.2.2.2.2.2.2.2.2.2.2.2.2.2.2.2.2.2.2.2.2.2.2.2.2.2.1))))))))))))))))
    have k_xSD : xSD W := by
      have r91_240 : W 91 240 = 1 * ρ 0 + 0 := by rw [hW, sU_ne (fun z => by omega), sU_ne (fun z => by omega), sU_ne (fun z => by omega), sU_ne (fun z => by omega), sU_ne (fun z => by omega), sU_ne (fun z => by omega), sU_ne (fun z => by omega), sU_ne (fun z => by omega), sU_ne (fun z => by omega), sU_ne (fun z => by omega), sU_ne (fun z => by omega), sU_ne (fun z => by omega), sU_ne (fun z => by omega), sU_ne (fun z => by omega), sU_at]
      have r91_241 : W 91 241 = 1 * ρ 0 + 0 := by rw [hW, sU_ne (fun z => by omega), sU_ne (fun z => by omega), sU_ne (fun z => by omega), sU_ne (fun z => by omega), sU_ne (fun z => by omega), sU_ne (fun z => by omega), sU_ne (fun z => by omega), sU_ne (fun z => by omega), sU_ne (fun z => by omega), sU_ne (fun z => by omega), sU_ne (fun z => by omega), sU_ne (fun z => by omega), sU_ne (fun z => by omega), sU_at]
      have r91_242 : W 91 242 = 8 * ρ 0 + 0 := by rw [hW, sU_ne (fun z => by omega), sU_ne (fun z => by omega), sU_ne (fun z => by omega), sU_ne (fun z => by omega), sU_ne (fun z => by omega), sU_ne (fun z => by omega), sU_ne (fun z => by omega), sU_ne (fun z => by omega), sU_ne (fun z => by omega), sU_ne (fun z => by omega), sU_ne (fun z => by omega), sU_ne (fun z => by omega), sU_at]
      have r91_243 : W 91 243 = 256 * ρ 0 + 0 := by rw [hW, sU_ne (fun z => by omega), sU_ne (fun z => by omega), sU_ne (fun z => by omega), sU_ne (fun z => by omega), sU_ne (fun z => by omega), sU_ne (fun z => by omega), sU_ne (fun z => by omega), sU_ne (fun z => by omega), sU_ne (fun z => by omega), sU_ne (fun z => by omega), sU_ne (fun z => by omega), sU_at]
      have r91_244 : W 91 244 = 256 * ρ 0 + (-256 * ρ 4 + (1 * ρ 6 + 0)) := by rw [hW, sU_ne (fun z => by omega), sU_ne (fun z => by omega), sU_ne (fun z => by omega), sU_ne (fun z => by omega), sU_ne (fun z => by omega), sU_ne (fun z => by omega), sU_ne (fun z => by omega), sU_ne (fun z => by omega), sU_ne (fun z => by omega), sU_at]
      have r91_245 : W 91 245 = 0 := by rw [hW, sU_ne (fun z => by omega), sU_ne (fun z => by omega), sU_ne (fun z => by omega), sU_ne (fun z => by omega), sU_ne (fun z => by omega), sU_ne (fun z => by omega), sU_ne (fun z => by omega), sU_ne (fun z => by omega), sU_at]
      have r91_246 : W 91 246 = 1 * ρ 6 + 0 := by rw [hW, sU_ne (fun z => by omega), sU_ne (fun z => by omega), sU_ne (fun z => by omega), sU_ne (fun z => by omega), sU_ne (fun z => by omega), sU_ne (fun z => by omega), sU_ne (fun z => by omega), sU_ne (fun z => by omega), sU_ne (fun z => by omega), sU_ne (fun z => by omega), sU_at]
      have r91_247 : W 91 247 = 256 * ρ 0 + 0 := by rw [hW, sU_ne (fun z => by omega), sU_ne (fun z => by omega), sU_ne (fun z => by omega), sU_ne (fun z => by omega), sU_ne (fun z => by omega), sU_ne (fun z => by omega), sU_ne (fun z => by omega), sU_at]
      intro h
      rw [r91_241, r91_242, r91_243, r91_244, r91_245, r91_246, r91_247, h0]
      have t := xtold_8 (a := ρ 1) (b := ρ 2) (c := ρ 3) (d := ρ 4) (e := ρ 5) (by omega) (by omega) (by omega) (by omega) (by omega)
      rw [show (1 * ρ 6 + 0 : Int) = 32 * ρ 1 + 64 * ρ 2 + 128 * ρ 3 + 256 * ρ 4 + 512 * ρ 5 by omega]
      refine ⟨by decide, ?_, by decide⟩
      rw [show ((256 : Int) * 1 + 0) = 256 from rfl, t.2]
      omega
    have k_xSE : xSE W := by
      have r91_249 : W 91 249 = 1 * ρ 0 + 0 := by rw [hW, sU_ne (fun z => by omega), sU_ne (fun z => by omega), sU_ne (fun z => by omega), sU_ne (fun z => by omega), sU_ne (fun z => by omega), sU_ne (fun z => by omega), sU_ne (fun z => by omega), sU_ne (fun z => by omega), sU_ne (fun z => by omega), sU_ne (fun z => by omega), sU_ne (fun z => by omega), sU_ne (fun z => by omega), sU_ne (fun z => by omega), sU_ne (fun z => by omega), sU_ne (fun z => by omega), sU_at]
      have r91_250 : W 91 250 = 0 := by rw [hW, sU_ne (fun z => by omega), sU_ne (fun z => by omega), sU_ne (fun z => by omega), sU_ne (fun z => by omega), sU_ne (fun z => by omega), sU_ne (fun z => by omega), sU_at]
      have r91_251 : W 91 251 = 0 := by rw [hW, sU_ne (fun z => by omega), sU_ne (fun z => by omega), sU_ne (fun z => by omega), sU_ne (fun z => by omega), sU_ne (fun z => by omega), sU_at]
      have r91_252 : W 91 252 = 0 := by rw [hW, sU_ne (fun z => by omega), sU_ne (fun z => by omega), sU_ne (fun z => by omega), sU_ne (fun z => by omega), sU_at]
      have r91_253 : W 91 253 = 0 := by rw [hW, sU_ne (fun z => by omega), sU_ne (fun z => by omega), sU_ne (fun z => by omega), sU_at]
      have r91_255 : W 91 255 = 1 * ρ 6 + 0 := by rw [hW, sU_ne (fun z => by omega), sU_ne (fun z => by omega), sU_at]
      have r91_256 : W 91 256 = 256 * ρ 4 + 0 := by rw [hW, sU_ne (fun z => by omega), sU_at]
      have r91_243 : W 91 243 = 256 * ρ 0 + 0 := by rw [hW, sU_ne (fun z => by omega), sU_ne (fun z => by omega), sU_ne (fun z => by omega), sU_ne (fun z => by omega), sU_ne (fun z => by omega), sU_ne (fun z => by omega), sU_ne (fun z => by omega), sU_ne (fun z => by omega), sU_ne (fun z => by omega), sU_ne (fun z => by omega), sU_ne (fun z => by omega), sU_at]
      have r91_257 : W 91 257 = 0 := by rw [hW, sU_at]
      intro h
      rw [r91_243, r91_250, r91_251, r91_252, r91_253, r91_255, r91_256, r91_257, h0]
      have t := xtold_8 (a := ρ 1) (b := ρ 2) (c := ρ 3) (d := ρ 4) (e := ρ 5) (by omega) (by omega) (by omega) (by omega) (by omega)
      rw [show (1 * ρ 6 + 0 : Int) = 32 * ρ 1 + 64 * ρ 2 + 128 * ρ 3 + 256 * ρ 4 + 512 * ρ 5 by omega]
      refine ⟨by decide, by decide, ?_, by decide⟩
      rw [show ((256 : Int) * 1 + 0) = 256 from rfl, t.1]
      omega
    have k_xSW : xSW W := by
      rw [hW]
      exact (uxSW rfl (uxSW rfl (uxSW rfl (uxSW rfl (uxSW rfl (uxSW rfl (uxSW rfl (uxSW rfl (uxSW rfl (uxSW rfl (uxSW rfl (uxSW rfl (uxSW rfl (uxSW rfl (uxSW rfl (uxSW rfl hI.2.2.2.2.2.2.2.2.2.2.2.2.2.2.2.2.2.2.2.2.2.2.2.2.2.2.2.2.2.2.2.2.2.2.2.2.2.1))))))))))))))))
    have k_xST : xST W := by
      rw [hW]
      exact (uxST rfl (uxST rfl (uxST rfl (uxST rfl (uxST rfl (uxST rfl (uxST rfl (uxST rfl (uxST rfl (uxST rfl (uxST rfl (uxST rfl (uxST rfl (uxST rfl (uxST rfl (uxST rfl hI.2.2.2.2.2.2.2.2.2.2.2.2.2.2.2.2.2.2.2.2.2.2.2.2.2.2.2.2.2.2.2.2.2.2.2.2.2.2.1))))))))))))))))
    have k_xSP : xSP W := by
      rw [hW]
      exact (uxSP rfl (uxSP rfl (uxSP rfl (uxSP rfl (uxSP rfl (uxSP rfl (uxSP rfl (uxSP rfl (uxSP rfl (uxSP rfl (uxSP rfl (uxSP rfl (uxSP rfl (uxSP rfl (uxSP rfl (uxSP rfl hI.2.2.2.2.2.2.2.2.2.2.2.2.2.2.2.2.2.2.2.2.2.2.2.2.2.2.2.2.2.2.2.2.2.2.2.2.2.2.2.1))))))))))))))))
    have k_xSL : xSL W := by
      rw [hW]
      exact (uxSL rfl (uxSL rfl (uxSL rfl (uxSL rfl (uxSL rfl (uxSL rfl (uxSL rfl (uxSL rfl (uxSL rfl (uxSL rfl (uxSL rfl (uxSL rfl (uxSL rfl (uxSL rfl (uxSL rfl (uxSL rfl hI.2.2.2.2.2.2.2.2.2.2.2.2.2.2.2.2.2.2.2.2.2.2.2.2.2.2.2.2.2.2.2.2.2.2.2.2.2.2.2.2.1))))))))))))))))
    have k_xSM : xSM W := by
      rw [hW]
      exact (uxSM rfl (uxSM rfl (uxSM rfl (uxSM rfl (uxSM rfl (uxSM rfl (uxSM rfl (uxSM rfl (uxSM rfl (uxSM rfl (uxSM rfl (uxSM rfl (uxSM rfl (uxSM rfl (uxSM rfl (uxSM rfl hI.2.2.2.2.2.2.2.2.2.2.2.2.2.2.2.2.2.2.2.2.2.2.2.2.2.2.2.2.2.2.2.2.2.2.2.2.2.2.2.2.2.1))))))))))))))))
    have k_xSI : xSI W := by
      rw [hW]
      exact (uxSI rfl (uxSI rfl (uxSI rfl (uxSI rfl (uxSI rfl (uxSI rfl (uxSI rfl (uxSI rfl (uxSI rfl (uxSI rfl (uxSI rfl (uxSI rfl (uxSI rfl (uxSI rfl (uxSI rfl (uxSI rfl hI.2.2.2.2.2.2.2.2.2.2.2.2.2.2.2.2.2.2.2.2.2.2.2.2.2.2.2.2.2.2.2.2.2.2.2.2.2.2.2.2.2.2.1))))))))))))))))
    have k_xD3 : xD3 W := by
      rw [hW]
      exact (uxD3 rfl (uxD3 rfl (uxD3 rfl (uxD3 rfl (uxD3 rfl (uxD3 rfl (uxD3 rfl (uxD3 rfl (uxD3 rfl (uxD3 rfl (uxD3 rfl (uxD3 rfl (uxD3 rfl (uxD3 rfl (uxD3 rfl (uxD3 rfl hI.2.2.2.2.2.2.2.2.2.2.2.2.2.2.2.2.2.2.2.2.2.2.2.2.2.2.2.2.2.2.2.2.2.2.2.2.2.2.2.2.2.2.2.1))))))))))))))))
    have k_xDV : xDV W := by
      rw [hW]
      exact (uxDV rfl (uxDV rfl (uxDV rfl (uxDV rfl (uxDV rfl (uxDV rfl (uxDV rfl (uxDV rfl (uxDV rfl (uxDV rfl (uxDV rfl (uxDV rfl (uxDV rfl (uxDV rfl (uxDV rfl (uxDV rfl hI.2.2.2.2.2.2.2.2.2.2.2.2.2.2.2.2.2.2.2.2.2.2.2.2.2.2.2.2.2.2.2.2.2.2.2.2.2.2.2.2.2.2.2.2.1))))))))))))))))
    have k_xDP : xDP W := by
      rw [hW]
      exact (uxDP rfl (uxDP rfl (uxDP rfl (uxDP rfl (uxDP rfl (uxDP rfl (uxDP rfl (uxDP rfl (uxDP rfl (uxDP rfl (uxDP rfl (uxDP rfl (uxDP rfl (uxDP rfl (uxDP rfl (uxDP rfl hI.2.2.2.2.2.2.2.2.2.2.2.2.2.2.2.2.2.2.2.2.2.2.2.2.2.2.2.2.2.2.2.2.2.2.2.2.2.2.2.2.2.2.2.2.2.1))))))))))))))))
    have k_xDE : xDE W := by
      rw [hW]
      exact (uxDE rfl (uxDE rfl (uxDE rfl (uxDE rfl (uxDE rfl (uxDE rfl (uxDE rfl (uxDE rfl (uxDE rfl (uxDE rfl (uxDE rfl (uxDE rfl (uxDE rfl (uxDE rfl (uxDE rfl (uxDE rfl hI.2.2.2.2.2.2.2.2.2.2.2.2.2.2.2.2.2.2.2.2.2.2.2.2.2.2.2.2.2.2.2.2.2.2.2.2.2.2.2.2.2.2.2.2.2.2.1))))))))))))))))
    have k_xQ5 : xQ5 W := by
      rw [hW]
      exact (uxQ5 rfl (uxQ5 rfl (uxQ5 rfl (uxQ5 rfl (uxQ5 rfl (uxQ5 rfl (uxQ5 rfl (uxQ5 rfl (uxQ5 rfl (uxQ5 rfl (uxQ5 rfl (uxQ5 rfl (uxQ5 rfl (uxQ5 rfl (uxQ5 rfl (uxQ5 rfl hI.2.2.2.2.2.2.2.2.2.2.2.2.2.2.2.2.2.2.2.2.2.2.2.2.2.2.2.2.2.2.2.2.2.2.2.2.2.2.2.2.2.2.2.2.2.2.2.1))))))))))))))))
    have k_xQL : xQL W := by
      rw [hW]
      exact (uxQL rfl (uxQL rfl (uxQL rfl (uxQL rfl (uxQL rfl (uxQL rfl (uxQL rfl (uxQL rfl (uxQL rfl (uxQL rfl (uxQL rfl (uxQL rfl (uxQL rfl (uxQL rfl (uxQL rfl (uxQL rfl hI.2.2.2.2.2.2.2.2.2.2.2.2.2.2.2.2.2.2.2.2.2.2.2.2.2.2.2.2.2.2.2.2.2.2.2.2.2.2.2.2.2.2.2.2.2.2.2.2.1))))))))))))))))
    have k_xQW : xQW W := by
      rw [hW]
      exact (uxQW rfl (uxQW rfl (uxQW rfl (uxQW rfl (uxQW rfl (uxQW rfl (uxQW rfl (uxQW rfl (uxQW rfl (uxQW rfl (uxQW rfl (uxQW rfl (uxQW rfl (uxQW rfl (uxQW rfl (uxQW rfl hI.2.2.2.2.2.2.2.2.2.2.2.2.2.2.2.2.2.2.2.2.2.2.2.2.2.2.2.2.2.2.2.2.2.2.2.2.2.2.2.2.2.2.2.2.2.2.2.2.2.1))))))))))))))))
    have k_xQM : xQM W := by
      rw [hW]
      exact (uxQM rfl (uxQM rfl (uxQM rfl (uxQM rfl (uxQM rfl (uxQM rfl (uxQM rfl (uxQM rfl (uxQM rfl (uxQM rfl (uxQM rfl (uxQM rfl (uxQM rfl (uxQM rfl (uxQM rfl (uxQM rfl hI.2.2.2.2.2.2.2.2.2.2.2.2.2.2.2.2.2.2.2.2.2.2.2.2.2.2.2.2.2.2.2.2.2.2.2.2.2.2.2.2.2.2.2.2.2.2.2.2.2.2.1))))))))))))))))
    have k_xQH : xQH W := by
      rw [hW]
      exact (uxQH rfl (uxQH rfl (uxQH rfl (uxQH rfl (uxQH rfl (uxQH rfl (uxQH rfl (uxQH rfl (uxQH rfl (uxQH rfl (uxQH rfl (uxQH rfl (uxQH rfl (uxQH rfl (uxQH rfl (uxQH rfl hI.2.2.2.2.2.2.2.2.2.2.2.2.2.2.2.2.2.2.2.2.2.2.2.2.2.2.2.2.2.2.2.2.2.2.2.2.2.2.2.2.2.2.2.2.2.2.2.2.2.2.2))))))))))))))))
    have k_XC : XC W := ⟨k_xS1, k_xS2, k_xS3, k_xS4, k_xS5, k_xS6, k_xS7, k_xS8, k_xS9, k_xSA, k_xSG, k_xSF, k_xSB, k_xSC, k_xSD, k_xSE, k_xSW, k_xST, k_xSP, k_xSL, k_xSM, k_xSI, k_xD3, k_xDV, k_xDP, k_xDE, k_xQ5, k_xQL, k_xQW, k_xQM, k_xQH⟩
    have kXB : XB W := ⟨k_xN1, k_xN2, k_xN3, k_xN4, k_xN5, k_xN6, k_xH1, k_xK1, k_xC1, k_xRW, k_xWT, k_xCU, k_xG2, k_xG3, k_xG4, k_xG5, k_xG6, k_XC⟩
    exact ⟨base, k2, k3, kXA, kXB⟩
-- told9
def xr_331 : qRu := (7, [[(-32, 1), (-64, 2), (-128, 3), (-256, 4), (-512, 5), (1, 6)], [(32, 1), (64, 2), (128, 3), (256, 4), (512, 5), (-1, 6)], [(1, 1)], [(1, 0), (-1, 1)], [(1, 2)], [(1, 0), (-1, 2)], [(1, 3)], [(1, 0), (-1, 3)], [(1, 4)], [(1, 0), (-1, 4)], [(1, 5)], [(1, 0), (-1, 5)]], [], [], [(91, 249, [(1, 0)]), (91, 240, [(1, 0)]), (91, 241, [(1, 0)]), (91, 242, [(9, 0)]), (91, 243, [(512, 0)]), (91, 246, [(1, 6)]), (91, 244, [(512, 0), (-512, 5), (1, 6)]), (91, 245, []), (91, 247, [(512, 0)]), (91, 250, []), (91, 251, []), (91, 252, []), (91, 253, []), (91, 255, [(1, 6)]), (91, 256, [(512, 5)]), (91, 257, [])], [])
theorem xo_331 : qRok xr_331 := by
  intro ρ M h0 hf hm hI
  have f0 := hf [(-32, 1), (-64, 2), (-128, 3), (-256, 4), (-512, 5), (1, 6)] (by decide)
  have f1 := hf [(32, 1), (64, 2), (128, 3), (256, 4), (512, 5), (-1, 6)] (by decide)
  have f2 := hf [(1, 1)] (by decide)
  have f3 := hf [(1, 0), (-1, 1)] (by decide)
  have f4 := hf [(1, 2)] (by decide)
  have f5 := hf [(1, 0), (-1, 2)] (by decide)
  have f6 := hf [(1, 3)] (by decide)
  have f7 := hf [(1, 0), (-1, 3)] (by decide)
  have f8 := hf [(1, 4)] (by decide)
  have f9 := hf [(1, 0), (-1, 4)] (by decide)
  have f10 := hf [(1, 5)] (by decide)
  have f11 := hf [(1, 0), (-1, 5)] (by decide)
  simp only [qD, h0] at f0 f1 f2 f3 f4 f5 f6 f7 f8 f9 f10 f11
  have qxSD := hI.2.2.2.2.2.2.2.2.2.2.2.2.2.2.2.2.2.2.2.2.2.2.2.2.2.2.2.2.2.2.2.2.2.2.2.1
  have qxSE := hI.2.2.2.2.2.2.2.2.2.2.2.2.2.2.2.2.2.2.2.2.2.2.2.2.2.2.2.2.2.2.2.2.2.2.2.2.1
  refine ⟨ρ, fun _ _ => rfl, fun f h => ?_, ?_⟩
  · exact nomatch h
  · show sI (sU (sU (sU (sU (sU (sU (sU (sU (sU (sU (sU (sU (sU (sU (sU (sU M 91 249 (1 * ρ 0 + 0)) 91 240 (1 * ρ 0 + 0)) 91 241 (1 * ρ 0 + 0)) 91 242 (9 * ρ 0 + 0)) 91 243 (512 * ρ 0 + 0)) 91 246 (1 * ρ 6 + 0)) 91 244 (512 * ρ 0 + (-512 * ρ 5 + (1 * ρ 6 + 0)))) 91 245 (0)) 91 247 (512 * ρ 0 + 0)) 91 250 (0)) 91 251 (0)) 91 252 (0)) 91 253 (0)) 91 255 (1 * ρ 6 + 0)) 91 256 (512 * ρ 5 + 0)) 91 257 (0))
    obtain ⟨W, hW⟩ : ∃ W, W = (sU (sU (sU (sU (sU (sU (sU (sU (sU (sU (sU (sU (sU (sU (sU (sU M 91 249 (1 * ρ 0 + 0)) 91 240 (1 * ρ 0 + 0)) 91 241 (1 * ρ 0 + 0)) 91 242 (9 * ρ 0 + 0)) 91 243 (512 * ρ 0 + 0)) 91 246 (1 * ρ 6 + 0)) 91 244 (512 * ρ 0 + (-512 * ρ 5 + (1 * ρ 6 + 0)))) 91 245 (0)) 91 247 (512 * ρ 0 + 0)) 91 250 (0)) 91 251 (0)) 91 252 (0)) 91 253 (0)) 91 255 (1 * ρ 6 + 0)) 91 256 (512 * ρ 5 + 0)) 91 257 (0)) := ⟨_, rfl⟩
    rw [← hW]
    have base : sI0 W := by
      rw [hW]
      exact (si_u0 (si_u0 (si_u0 (si_u0 (si_u0 (si_u0 (si_u0 (si_u0 (si_u0 (si_u0 (si_u0 (si_u0 (si_u0 (si_u0 (si_u0 (si_u0 hI.1 (fun r hr => by cases hr)) (fun r hr => by cases hr)) (fun r hr => by cases hr)) (fun r hr => by cases hr)) (fun r hr => by cases hr)) (fun r hr => by cases hr)) (fun r hr => by cases hr)) (fun r hr => by cases hr)) (fun r hr => by cases hr)) (fun r hr => by cases hr)) (fun r hr => by cases hr)) (fun r hr => by cases hr)) (fun r hr => by cases hr)) (fun r hr => by cases hr)) (fun r hr => by cases hr)) (fun r hr => by cases hr))
    have k2 : XI2 W := by
      rw [hW]
      exact (xi2_u rfl (xi2_u rfl (xi2_u rfl (xi2_u rfl (xi2_u rfl (xi2_u rfl (xi2_u rfl (xi2_u rfl (xi2_u rfl (xi2_u rfl (xi2_u rfl (xi2_u rfl (xi2_u rfl (xi2_u rfl (xi2_u rfl (xi2_u rfl hI.2.1))))))))))))))))
    have k3 : XI3 W := by
      rw [hW]
      exact (xi3_u rfl (xi3_u rfl (xi3_u rfl (xi3_u rfl (xi3_u rfl (xi3_u rfl (xi3_u rfl (xi3_u rfl (xi3_u rfl (xi3_u rfl (xi3_u rfl (xi3_u rfl (xi3_u rfl (xi3_u rfl (xi3_u rfl (xi3_u rfl hI.2.2.1))))))))))))))))
    have kXA : XA W := by
      rw [hW]
      exact (uXA rfl (uXA rfl (uXA rfl (uXA rfl (uXA rfl (uXA rfl (uXA rfl (uXA rfl (uXA rfl (uXA rfl (uXA rfl (uXA rfl (uXA rfl (uXA rfl (uXA rfl (uXA rfl hI.2.2.2.1))))))))))))))))
    have k_xN1 : xN1 W := by
      rw [hW]
      exact (uxN1 rfl (uxN1 rfl (uxN1 rfl (uxN1 rfl (uxN1 rfl (uxN1 rfl (uxN1 rfl (uxN1 rfl (uxN1 rfl (uxN1 rfl (uxN1 rfl (uxN1 rfl (uxN1 rfl (uxN1 rfl (uxN1 rfl (uxN1 rfl hI.2.2.2.2.1))))))))))))))))
    have k_xN2 : xN2 W := by
      rw [hW]
      exact (uxN2 rfl (uxN2 rfl (uxN2 rfl (uxN2 rfl (uxN2 rfl (uxN2 rfl (uxN2 rfl (uxN2 rfl (uxN2 rfl (uxN2 rfl (uxN2 rfl (uxN2 rfl (uxN2 rfl (uxN2 rfl (uxN2 rfl (uxN2 rfl hI.2.2.2.2.2.1))))))))))))))))
    have k_xN3 : xN3 W := by
      rw [hW]
      exact (uxN3 rfl (uxN3 rfl (uxN3 rfl (uxN3 rfl (uxN3 rfl (uxN3 rfl (uxN3 rfl (uxN3 rfl (uxN3 rfl (uxN3 rfl (uxN3 rfl (uxN3 rfl (uxN3 rfl (uxN3 rfl (uxN3 rfl (uxN3 rfl hI.2.2.2.2.2.2.1))))))))))))))))
    have k_xN4 : xN4 W := by
      rw [hW]
      exact (uxN4 rfl (uxN4 rfl (uxN4 rfl (uxN4 rfl (uxN4 rfl (uxN4 rfl (uxN4 rfl (uxN4 rfl (uxN4 rfl (uxN4 rfl (uxN4 rfl (uxN4 rfl (uxN4 rfl (uxN4 rfl (uxN4 rfl (uxN4 rfl hI.2.2.2.2.2.2.2.1))))))))))))))))
    have k_xN5 : xN5 W := by
      rw [hW]
      exact (uxN5 rfl (uxN5 rfl (uxN5 rfl (uxN5 rfl (uxN5 rfl (uxN5 rfl (uxN5 rfl (uxN5 rfl (uxN5 rfl (uxN5 rfl (uxN5 rfl (uxN5 rfl (uxN5 rfl (uxN5 rfl (uxN5 rfl (uxN5 rfl hI.2.2.2.2.2.2.2.2.1))))))))))))))))
    have k_xN6 : xN6 W := by
      rw [hW]
      exact (uxN6 rfl (uxN6 rfl (uxN6 rfl (uxN6 rfl (uxN6 rfl (uxN6 rfl (uxN6 rfl (uxN6 rfl (uxN6 rfl (uxN6 rfl (uxN6 rfl (uxN6 rfl (uxN6 rfl (uxN6 rfl (uxN6 rfl (uxN6 rfl hI.2.2.2.2.2.2.2.2.2.1))))))))))))))))
    have k_xH1 : xH1 W := by
      rw [hW]
      exact (uxH1 rfl (uxH1 rfl (uxH1 rfl (uxH1 rfl (uxH1 rfl (uxH1 rfl (uxH1 rfl (uxH1 rfl (uxH1 rfl (uxH1 rfl (uxH1 rfl (uxH1 rfl (uxH1 rfl (uxH1 rfl (uxH1 rfl (uxH1 rfl hI.2.2.2.2.2.2.2.2.2.2.1))))))))))))))))
    have k_xK1 : xK1 W := by
      rw [hW]
      exact (uxK1 rfl (uxK1 rfl (uxK1 rfl (uxK1 rfl (uxK1 rfl (uxK1 rfl (uxK1 rfl (uxK1 rfl (uxK1 rfl (uxK1 rfl (uxK1 rfl (uxK1 rfl (uxK1 rfl (uxK1 rfl (uxK1 rfl (uxK1 rfl hI.2.2.2.2.2.2.2.2.2.2.2.1))))))))))))))))
    have k_xC1 : xC1 W := by
      rw [hW]
      exact (uxC1 rfl (uxC1 rfl (uxC1 rfl (uxC1 rfl (uxC1 rfl (uxC1 rfl (uxC1 rfl (uxC1 rfl (uxC1 rfl (uxC1 rfl (uxC1 rfl (uxC1 rfl (uxC1 rfl (uxC1 rfl (uxC1 rfl (uxC1 rfl hI.2.2.2.2.2.2.2.2.2.2.2.2.1))))))))))))))))
    have k_xRW : xRW W := by
      rw [hW]
      exact (uxRW rfl (uxRW rfl (uxRW rfl (uxRW rfl (uxRW rfl (uxRW rfl (uxRW rfl (uxRW rfl (uxRW rfl (uxRW rfl (uxRW rfl (uxRW rfl (uxRW rfl (uxRW rfl (uxRW rfl (uxRW rfl hI.2.2.2.2.2.2.2.2.2.2.2.2.2.1))))))))))))))))
    have k_xWT : xWT W := by
      rw [hW]
      exact (uxWT rfl (uxWT rfl (uxWT rfl (uxWT rfl (uxWT rfl (uxWT rfl (uxWT rfl (uxWT rfl (uxWT rfl (uxWT rfl (uxWT rfl (uxWT rfl (uxWT rfl (uxWT rfl (uxWT rfl (uxWT rfl hI.2.2.2.2.2.2.2.2.2.2.2.2.2.2.1))))))))))))))))
    have k_xCU : xCU W := by
      rw [hW]
      exact (uxCU rfl (uxCU rfl (uxCU rfl (uxCU rfl (uxCU rfl (uxCU rfl (uxCU rfl (uxCU rfl (uxCU rfl (uxCU rfl (uxCU rfl (uxCU rfl (uxCU rfl (uxCU rfl (uxCU rfl (uxCU rfl hI.2.2.2.2.2.2.2.2.2.2.2.2.2.2.2.1))))))))))))))))
    have k_xG2 : xG2 W := by
      rw [hW]
      exact (uxG2 rfl (uxG2 rfl (uxG2 rfl (uxG2 rfl (uxG2 rfl (uxG2 rfl (uxG2 rfl (uxG2 rfl (uxG2 rfl (uxG2 rfl (uxG2 rfl (uxG2 rfl (uxG2 rfl (uxG2 rfl (uxG2 rfl (uxG2 rfl hI.2.2.2.2.2.2.2.2.2.2.2.2.2.2.2.2.1))))))))))))))))
    have k_xG3 : xG3 W := by
      rw [hW]
      exact (uxG3 rfl (uxG3 rfl (uxG3 rfl (uxG3 rfl (uxG3 rfl (uxG3 rfl (uxG3 rfl (uxG3 rfl (uxG3 rfl (uxG3 rfl (uxG3 rfl (uxG3 rfl (uxG3 rfl (uxG3 rfl (uxG3 rfl (uxG3 rfl hI.2.2.2.2.2.2.2.2.2.2.2.2.2.2.2.2.2.1))))))))))))))))
    have k_xG4 : xG4 W := by
      rw [hW]
      exact (uxG4 rfl (uxG4 rfl (uxG4 rfl (uxG4 rfl (uxG4 rfl (uxG4 rfl (uxG4 rfl (uxG4 rfl (uxG4 rfl (uxG4 rfl (uxG4 rfl (uxG4 rfl (uxG4 rfl (uxG4 rfl (uxG4 rfl (uxG4 rfl hI.2.2.2.2.2.2.2.2.2.2.2.2.2.2.2.2.2.2.1))))))))))))))))
    have k_xG5 : xG5 W := by
      rw [hW]
      exact (uxG5 rfl (uxG5 rfl (uxG5 rfl (uxG5 rfl (uxG5 rfl (uxG5 rfl (uxG5 rfl (uxG5 rfl (uxG5 rfl (uxG5 rfl (uxG5 rfl (uxG5 rfl (uxG5 rfl (uxG5 rfl (uxG5 rfl (uxG5 rfl hI.2.2.2.2.2.2.2.2.2.2.2.2.2.2.2.2.2.2.2.1))))))))))))))))
    have k_xG6 : xG6 W := by
      rw [hW]
      exact (uxG6 rfl (uxG6 rfl (uxG6 rfl (uxG6 rfl (uxG6 rfl (uxG6 rfl (uxG6 rfl (uxG6 rfl (uxG6 rfl (uxG6 rfl (uxG6 rfl (uxG6 rfl (uxG6 rfl (uxG6 rfl (uxG6 rfl (uxG6 rfl hI.2.2.2.2.2.2.2.2.2.2.2.2.2.2.2.2.2.2.2.2.1))))))))))))))))
    have k_xS1 : xS1 W := by
      rw [hW]
      exact (uxS1 rfl (uxS1 rfl (uxS1 rfl (uxS1 rfl (uxS1 rfl (uxS1 rfl (uxS1 rfl (uxS1 rfl (uxS1 rfl (uxS1 rfl (uxS1 rfl (uxS1 rfl (uxS1 rfl (uxS1 rfl (uxS1 rfl (uxS1 rfl hI.2.2.2.2.2.2.2.2.2.2.2.2.2.2.2.2.2.2.2.2.2.1))))))))))))))))
    have k_xS2 : xS2 W := by
      rw [hW]
      exact (uxS2 rfl (uxS2 rfl (uxS2 rfl (uxS2 rfl (uxS2 rfl (uxS2 rfl (uxS2 rfl (uxS2 rfl (uxS2 rfl (uxS2 rfl (uxS2 rfl (uxS2 rfl (uxS2 rfl (uxS2 rfl (uxS2 rfl (uxS2 rfl hI.2.2.2.2.2.2.2.2.2.2.2.2.2.2.2.2.2.2.2.2.2.2.1))))))))))))))))
    have k_xS3 : xS3 W := by
      rw [hW]
      exact (uxS3 rfl (uxS3 rfl (uxS3 rfl (uxS3 rfl (uxS3 rfl (uxS3 rfl (uxS3 rfl (uxS3 rfl (uxS3 rfl (uxS3 rfl (uxS3 rfl (uxS3 rfl (uxS3 rfl (uxS3 rfl (uxS3 rfl (uxS3 rfl hI.2.2.2.2.2.2.2.2.2.2.2.2.2.2.2.2.2.2.2.2.2.2.2.1))))))))))))))))
    have k_xS4 : xS4 W := by
      rw [hW]
      exact (uxS4 rfl (uxS4 rfl (uxS4 rfl (uxS4 rfl (uxS4 rfl (uxS4 rfl (uxS4 rfl (uxS4 rfl (uxS4 rfl (uxS4 rfl (uxS4 rfl (uxS4 rfl (uxS4 rfl (uxS4 rfl (uxS4 rfl (uxS4 rfl hI.2.2.2.2.2.2.2.2.2.2.2.2.2.2.2.2.2.2.2.2.2.2.2.2.1))))))))))))))))
    have k_xS5 : xS5 W := by
      rw [hW]
      exact (uxS5 rfl (uxS5 rfl (uxS5 rfl (uxS5 rfl (uxS5 rfl (uxS5 rfl (uxS5 rfl (uxS5 rfl (uxS5 rfl (uxS5 rfl (uxS5 rfl (uxS5 rfl (uxS5 rfl (uxS5 rfl (uxS5 rfl (uxS5 rfl hI.2.2.2.2.2.2.2.2.2.2.2.2.2.2.2.2.2.2.2.2.2.2.2.2.2.1))))))))))))))))
    have k_xS6 : xS6 W := by
      rw [hW]
      exact (uxS6 rfl (uxS6 rfl (uxS6 rfl (uxS6 rfl (uxS6 rfl (uxS6 rfl (uxS6 rfl (uxS6 rfl (uxS6 rfl (uxS6 rfl (uxS6 rfl (uxS6 rfl (uxS6 rfl (uxS6 rfl (uxS6 rfl (uxS6 rfl hI.2.2.2.2.2.2.2.2.2.2.2.2.2.2.2.2.2.2.2.2.2.2.2.2.2.2.1))))))))))))))))
    have k_xS7 : xS7 W := by
      rw [hW]
      exact (uxS7 rfl (uxS7 rfl (uxS7 rfl (uxS7 rfl (uxS7 rfl (uxS7 rfl (uxS7 rfl (uxS7 rfl (uxS7 rfl (uxS7 rfl (uxS7 rfl (uxS7 rfl (uxS7 rfl (uxS7 rfl (uxS7 rfl (uxS7 rfl hI.2.2.2.2.2.2.2.2.2.2.2.2.2.2.2.2.2.2.2.2.2.2.2.2.2.2.2.1))))))))))))))))
    have k_xS8 : xS8 W := by
      rw [hW]
      exact (uxS8 rfl (uxS8 rfl (uxS8 rfl (uxS8 rfl (uxS8 rfl (uxS8 rfl (uxS8 rfl (uxS8 rfl (uxS8 rfl (uxS8 rfl (uxS8 rfl (uxS8 rfl (uxS8 rfl (uxS8 rfl (uxS8 rfl (uxS8 rfl hI.2.2.2.2.2.2.2.2.2.2.2.2.2.2.2.2.2.2.2.2.2.2.2.2.2.2.2.2.1))))))))))))))))
    have k_xS9 : xS9 W := by
      rw [hW]
      exact (uxS9 rfl (uxS9 rfl (uxS9 rfl (uxS9 rfl (uxS9 rfl (uxS9 rfl (uxS9 rfl (uxS9 rfl (uxS9 rfl (uxS9 rfl (uxS9 rfl (uxS9 rfl (uxS9 rfl (uxS9 rfl (uxS9 rfl (uxS9 rfl hI.2.2.2.2.2.2.2.2.2.2.2.2.2.2.2.2.2.2.2.2.2.2.2.2.2.2.2.2.2.1))))))))))))))))
    have k_xSA : xSA W := by
      rw [hW]
      exact (uxSA rfl (uxSA rfl (uxSA rfl (uxSA rfl (uxSA rfl (uxSA rfl (uxSA rfl (uxSA rfl (uxSA rfl (uxSA rfl (uxSA rfl (uxSA rfl (uxSA rfl (uxSA rfl (uxSA rfl (uxSA rfl hI.2.2.2.2.2.2.2.2.2.2.2.2.2.2.2.2.2.2.2.2.2.2.2.2.2.2.2.2.2.2.1))))))))))))))))
    have k_xSG : xSG W := by
      rw [hW]
      exact (uxSG rfl (uxSG rfl (uxSG rfl (uxSG rfl (uxSG rfl (uxSG rfl (uxSG rfl (uxSG rfl (uxSG rfl (uxSG rfl (uxSG rfl (uxSG rfl (uxSG rfl (uxSG rfl (uxSG rfl (uxSG rfl hI.2.2.2.2.2.2.2.2.2.2.2.2.2.2.2.2.2.2.2.2.2.2.2.2.2.2.2.2.2.2.2.1))))))))))))))))
    have k_xSF : xSF W := by
      rw [hW]
      exact (uxSF rfl (uxSF rfl (uxSF rfl (uxSF rfl (uxSF rfl (uxSF rfl (uxSF rfl (uxSF rfl (uxSF rfl (uxSF rfl (uxSF rfl (uxSF rfl (uxSF rfl (uxSF rfl (uxSF rfl (uxSF rfl hI.2.2.2.2.2.2.2.2.2.2.2.2.2.2.2.2.2.2.2.2.2.2.2.2.2.2.2.2.2.2.2.2.1))))))))))))))))
    have k_xSB : xSB W := by
      rw [hW]
      exact (uxSB rfl (uxSB rfl (uxSB rfl (uxSB rfl (uxSB rfl (uxSB rfl (uxSB rfl (uxSB rfl (uxSB rfl (uxSB rfl (uxSB rfl (uxSB rfl (uxSB rfl (uxSB rfl (uxSB rfl (uxSB rfl hI.2.2.2.2.2.2.2.2.2.2.2.2.2.2.2.2.2.2.2.2.2.2.2.2.2.2.2.2.2.2.2.2.2.1))))))))))))))))
    have k_xSC : xSC W := by
      rw [hW]
      exact (uxSC rfl (uxSC rfl (uxSC rfl (uxSC rfl (uxSC rfl (uxSC rfl (uxSC rfl (uxSC rfl (uxSC rfl (uxSC rfl (uxSC rfl (uxSC rfl (uxSC rfl (uxSC rfl (uxSC rfl (uxSC rfl hI.2.2.2.2.2.2.2.2.2.2.2.2.2.2.2.2.2.2.2.2.2.2.2.2.2.2.2.2.2.2.2.2.2.2.1))))))))))))))))
    have k_xSD : xSD W := by
      have r91_240 : W 91 240 = 1 * ρ 0 + 0 := by rw [hW, sU_ne (fun z => by omega), sU_ne (fun z => by omega), sU_ne (fun z => by omega), sU_ne (fun z => by omega), sU_ne (fun z => by omega), sU_ne (fun z => by omega), sU_ne (fun z => by omega), sU_ne (fun z => by omega), sU_ne (fun z => by omega), sU_ne (fun z => by omega), sU_ne (fun z => by omega), sU_ne (fun z => by omega), sU_ne (fun z => by omega), sU_ne (fun z => by omega), sU_at]
      have r91_241 : W 91 241 = 1 * ρ 0 + 0 := by rw [hW, sU_ne (fun z => by omega), sU_ne (fun z => by omega), sU_ne (fun z => by omega), sU_ne (fun z => by omega), sU_ne (fun z => by omega), sU_ne (fun z => by omega), sU_ne (fun z => by omega), sU_ne (fun z => by omega), sU_ne (fun z => by omega), sU_ne (fun z => by omega), sU_ne (fun z => by omega), sU_ne (fun z => by omega), sU_ne (fun z => by omega), sU_at]
      have r91_242 : W 91 242 = 9 * ρ 0 + 0 := by rw [hW, sU_ne (fun z => by omega), sU_ne (fun z => by omega), sU_ne (fun z => by omega), sU_ne (fun z => by omega), sU_ne (fun z => by omega), sU_ne (fun z => by omega), sU_ne (fun z => by omega), sU_ne (fun z => by omega), sU_ne (fun z => by omega), sU_ne (fun z => by omega), sU_ne (fun z => by omega), sU_ne (fun z => by omega), sU_at]
      have r91_243 : W 91 243 = 512 * ρ 0 + 0 := by rw [hW, sU_ne (fun z => by omega), sU_ne (fun z => by omega), sU_ne (fun z => by omega), sU_ne (fun z => by omega), sU_ne (fun z => by omega), sU_ne (fun z => by omega), sU_ne (fun z => by omega), sU_ne (fun z => by omega), sU_ne (fun z => by omega), sU_ne (fun z => by omega), sU_ne (fun z => by omega), sU_at]
      have r91_244 : W 91 244 = 512 * ρ 0 + (-512 * ρ 5 + (1 * ρ 6 + 0)) := by rw [hW, sU_ne (fun z => by omega), sU_ne (fun z => by omega), sU_ne (fun z => by omega), sU_ne (fun z => by omega), sU_ne (fun z => by omega), sU_ne (fun z => by omega), sU_ne (fun z => by omega), sU_ne (fun z => by omega), sU_ne (fun z => by omega), sU_at]
      have r91_245 : W 91 245 = 0 := by rw [hW, sU_ne (fun z => by omega), sU_ne (fun z => by omega), sU_ne (fun z => by omega), sU_ne (fun z => by omega), sU_ne (fun z => by omega), sU_ne (fun z => by omega), sU_ne (fun z => by omega), sU_ne (fun z => by omega), sU_at]
      have r91_246 : W 91 246 = 1 * ρ 6 + 0 := by rw [hW, sU_ne (fun z => by omega), sU_ne (fun z => by omega), sU_ne (fun z => by omega), sU_ne (fun z => by omega), sU_ne (fun z => by omega), sU_ne (fun z => by omega), sU_ne (fun z => by omega), sU_ne (fun z => by omega), sU_ne (fun z => by omega), sU_ne (fun z => by omega), sU_at]
      have r91_247 : W 91 247 = 512 * ρ 0 + 0 := by rw [hW, sU_ne (fun z => by omega), sU_ne (fun z => by omega), sU_ne (fun z => by omega), sU_ne (fun z => by omega), sU_ne (fun z => by omega), sU_ne (fun z => by omega), sU_ne (fun z => by omega), sU_at]
      intro h
      rw [r91_241, r91_242, r91_243, r91_244, r91_245, r91_246, r91_247, h0]
      have t := xtold_9 (a := ρ 1) (b := ρ 2) (c := ρ 3) (d := ρ 4) (e := ρ 5) (by omega) (by omega) (by omega) (by omega) (by omega)
      rw [show (1 * ρ 6 + 0 : Int) = 32 * ρ 1 + 64 * ρ 2 + 128 * ρ 3 + 256 * ρ 4 + 512 * ρ 5 by omega]
      refine ⟨by decide, ?_, by decide⟩
      rw [show ((512 : Int) * 1 + 0) = 512 from rfl, t.2]
      omega
    have k_xSE : xSE W := by
      have r91_249 : W 91 249 = 1 * ρ 0 + 0 := by rw [hW, sU_ne (fun z => by omega), sU_ne (fun z => by omega), sU_ne (fun z => by omega), sU_ne (fun z => by omega), sU_ne (fun z => by omega), sU_ne (fun z => by omega), sU_ne (fun z => by omega), sU_ne (fun z => by omega), sU_ne (fun z => by omega), sU_ne (fun z => by omega), sU_ne (fun z => by omega), sU_ne (fun z => by omega), sU_ne (fun z => by omega), sU_ne (fun z => by omega), sU_ne (fun z => by omega), sU_at]
      have r91_250 : W 91 250 = 0 := by rw [hW, sU_ne (fun z => by omega), sU_ne (fun z => by omega), sU_ne (fun z => by omega), sU_ne (fun z => by omega), sU_ne (fun z => by omega), sU_ne (fun z => by omega), sU_at]
      have r91_251 : W 91 251 = 0 := by rw [hW, sU_ne (fun z => by omega), sU_ne (fun z => by omega), sU_ne (fun z => by omega), sU_ne (fun z => by omega), sU_ne (fun z => by omega), sU_at]
      have r91_252 : W 91 252 = 0 := by rw [hW, sU_ne (fun z => by omega), sU_ne (fun z => by omega), sU_ne (fun z => by omega), sU_ne (fun z => by omega), sU_at]
      have r91_253 : W 91 253 = 0 := by rw [hW, sU_ne (fun z => by omega), sU_ne (fun z => by omega), sU_ne (fun z => by omega), sU_at]
      have r91_255 : W 91 255 = 1 * ρ 6 + 0 := by rw [hW, sU_ne (fun z => by omega), sU_ne (fun z => by omega), sU_at]
      have r91_256 : W 91 256 = 512 * ρ 5 + 0 := by rw [hW, sU_ne (fun z => by omega), sU_at]
      have r91_243 : W 91 243 = 512 * ρ 0 + 0 := by rw [hW, sU_ne (fun z => by omega), sU_ne (fun z => by omega), sU_ne (fun z => by omega), sU_ne (fun z => by omega), sU_ne (fun z => by omega), sU_ne (fun z => by omega), sU_ne (fun z => by omega), sU_ne (fun z => by omega), sU_ne (fun z => by omega), sU_ne (fun z => by omega), sU_ne (fun z => by omega), sU_at]
      have r91_257 : W 91 257 = 0 := by rw [hW, sU_at]
      intro h
      rw [r91_243, r91_250, r91_251, r91_252, r91_253, r91_255, r91_256, r91_257, h0]
      have t := xtold_9 (a := ρ 1) (b := ρ 2) (c := ρ 3) (d := ρ 4) (e := ρ 5) (by omega) (by omega) (by omega) (by omega) (by omega)
      rw [show (1 * ρ 6 + 0 : Int) = 32 * ρ 1 + 64 * ρ 2 + 128 * ρ 3 + 256 * ρ 4 + 512 * ρ 5 by omega]
      refine ⟨by decide, by decide, ?_, by decide⟩
      rw [show ((512 : Int) * 1 + 0) = 512 from rfl, t.1]
      omega
    have k_xSW : xSW W := by
      rw [hW]
      exact (uxSW rfl (uxSW rfl (uxSW rfl (uxSW rfl (uxSW rfl (uxSW rfl (uxSW rfl (uxSW rfl (uxSW rfl (uxSW rfl (uxSW rfl (uxSW rfl (uxSW rfl (uxSW rfl (uxSW rfl (uxSW rfl hI.2.2.2.2.2.2.2.2.2.2.2.2.2.2.2.2.2.2.2.2.2.2.2.2.2.2.2.2.2.2.2.2.2.2.2.2.2.1))))))))))))))))
    have k_xST : xST W := by
      rw [hW]
      exact (uxST rfl (uxST rfl (uxST rfl (uxST rfl (uxST rfl (uxST rfl (uxST rfl (uxST rfl (uxST rfl (uxST rfl (uxST rfl (uxST rfl (uxST rfl (uxST rfl (uxST rfl (uxST rfl hI.2.2.2.2.2.2.2.2.2.2.2.2.2.2.2.2.2.2.2.2.2.2.2.2.2.2.2.2.2.2.2.2.2.2.2.2.2.2.1))))))))))))))))
    have k_xSP : xSP W := by
      rw [hW]
      exact (uxSP rfl (uxSP rfl (uxSP rfl (uxSP rfl (uxSP rfl (uxSP rfl (uxSP rfl (uxSP rfl (uxSP rfl (uxSP rfl (uxSP rfl (uxSP rfl (uxSP rfl (uxSP rfl (uxSP rfl (uxSP rfl hI.2.2.2.2.2.2.2.2.2.2.2.2.2.2.2.2.2.2.2.2.2.2.2.2.2.2.2.2.2.2.2.2.2.2.2.2.2.2.2.1))))))))))))))))
    have k_xSL : xSL W := by
      rw [hW]
      exact (uxSL rfl (uxSL rfl (uxSL rfl (uxSL rfl (uxSL rfl (uxSL rfl (uxSL rfl (uxSL rfl (uxSL rfl (uxSL rfl (uxSL rfl (uxSL rfl (uxSL rfl (uxSL rfl (uxSL rfl (uxSL rfl hI.2.2.2.2.2.2.2.2.2.2.2.2.2.2.2.2.2.2.2.2.2.2.2.2.2.2.2.2.2.2.2.2.2.2.2.2.2.2.2.2.1))))))))))))))))
    have k_xSM : xSM W := by
      rw [hW]
      exact (uxSM rfl (uxSM rfl (uxSM rfl (uxSM rfl (uxSM rfl (uxSM rfl (uxSM rfl (uxSM rfl (uxSM rfl (uxSM rfl (uxSM rfl (uxSM rfl (uxSM rfl (uxSM rfl (uxSM rfl (uxSM rfl hI.2.2.2.2.2.2.2.2.2.2.2.2.2.2.2.2.2.2.2.2.2.2.2.2.2.2.2.2.2.2.2.2.2.2.2.2.2.2.2.2.2.1))))))))))))))))
    have k_xSI : xSI W := by
      rw [hW]
      exact (uxSI rfl (uxSI rfl (uxSI rfl (uxSI rfl (uxSI rfl (uxSI rfl (uxSI rfl (uxSI rfl (uxSI rfl (uxSI rfl (uxSI rfl (uxSI rfl (uxSI rfl (uxSI rfl (uxSI rfl (uxSI rfl hI.2.2.2.2.2.2.2.2.2.2.2.2.2.2.2.2.2.2.2.2.2.2.2.2.2.2.2.2.2.2.2.2.2.2.2.2.2.2.2.2.2.2.1))))))))))))))))
    have k_xD3 : xD3 W := by
      rw [hW]
      exact (uxD3 rfl (uxD3 rfl (uxD3 rfl (uxD3 rfl (uxD3 rfl (uxD3 rfl (uxD3 rfl (uxD3 rfl (uxD3 rfl (uxD3 rfl (uxD3 rfl (uxD3 rfl (uxD3 rfl (uxD3 rfl (uxD3 rfl (uxD3 rfl hI.2.2.2.2.2.2.2.2.2.2.2.2.2.2.2.2.2.2.2.2.2.2.2.2.2.2.2.2.2.2.2.2.2.2.2.2.2.2.2.2.2.2.2.1))))))))))))))))
    have k_xDV : xDV W := by
      rw [hW]
      exact (uxDV rfl (uxDV rfl (uxDV rfl (uxDV rfl (uxDV rfl (uxDV rfl (uxDV rfl (uxDV rfl (uxDV rfl (uxDV rfl (uxDV rfl (uxDV rfl (uxDV rfl (uxDV rfl (uxDV rfl (uxDV rfl hI.2.2.2.2.2.2.2.2.2.2.2.2.2.2.2.2.2.2.2.2.2.2.2.2.2.2.2.2.2.2.2.2.2.2.2.2.2.2.2.2.2.2.2.2.1))))))))))))))))
    have k_xDP : xDP W := by
      rw [hW]
      exact (uxDP rfl (uxDP rfl (uxDP rfl (uxDP rfl (uxDP rfl (uxDP rfl (uxDP rfl (uxDP rfl (uxDP rfl (uxDP rfl (uxDP rfl (uxDP rfl (uxDP rfl (uxDP rfl (uxDP rfl (uxDP rfl hI.2.2.2.2.2.2.2.2.2.2.2.2.2.2.2.2.2.2.2.2.2.2.2.2.2.2.2.2.2.2.2.2.2.2.2.2.2.2.2.2.2.2.2.2.2.1))))))))))))))))
    have k_xDE : xDE W := by
      rw [hW]
      exact (uxDE rfl (uxDE rfl (uxDE rfl (uxDE rfl (uxDE rfl (uxDE rfl (uxDE rfl (uxDE rfl (uxDE rfl (uxDE rfl (uxDE rfl (uxDE rfl (uxDE rfl (uxDE rfl (uxDE rfl (uxDE rfl hI.2.2.2.2.2.2.2.2.2.2.2.2.2.2.2.2.2.2.2.2.2.2.2.2.2.2.2.2.2.2.2.2.2.2.2.2.2.2.2.2.2.2.2.2.2.2.1))))))))))))))))
    have k_xQ5 : xQ5 W := by
      rw [hW]
      exact (uxQ5 rfl (uxQ5 rfl (uxQ5 rfl (uxQ5 rfl (uxQ5 rfl (uxQ5 rfl (uxQ5 rfl (uxQ5 rfl (uxQ5 rfl (uxQ5 rfl (uxQ5 rfl (uxQ5 rfl (uxQ5 rfl (uxQ5 rfl (uxQ5 rfl (uxQ5 rfl hI.2.2.2.2.2.2.2.2.2.2.2.2.2.2.2.2.2.2.2.2.2.2.2.2.2.2.2.2.2.2.2.2.2.2.2.2.2.2.2.2.2.2.2.2.2.2.2.1))))))))))))))))
    have k_xQL : xQL W := by
      rw [hW]
      exact (uxQL rfl (uxQL rfl (uxQL rfl (uxQL rfl (uxQL rfl (uxQL rfl (uxQL rfl (uxQL rfl (uxQL rfl (uxQL rfl (uxQL rfl (uxQL rfl (uxQL rfl (uxQL rfl (uxQL rfl (uxQL rfl hI.2.2.2.2.2.2.2.2.2.2.2.2.2.2.2.2.2.2.2.2.2.2.2.2.2.2.2.2.2.2.2.2.2.2.2.2.2.2.2.2.2.2.2.2.2.2.2.2.1))))))))))))))))
    have k_xQW : xQW W := by
      rw [hW]
      exact (uxQW rfl (uxQW rfl (uxQW rfl (uxQW rfl (uxQW rfl (uxQW rfl (uxQW rfl (uxQW rfl (uxQW rfl (uxQW rfl (uxQW rfl (uxQW rfl (uxQW rfl (uxQW rfl (uxQW rfl (uxQW rfl hI.2.2.2.2.2.2.2.2.2.2.2.2.2.2.2.2.2.2.2.2.2.2.2.2.2.2.2.2.2.2.2.2.2.2.2.2.2.2.2.2.2.2.2.2.2.2.2.2.2.1))))))))))))))))
    have k_xQM : xQM W := by
      rw [hW]
      exact (uxQM rfl (uxQM rfl (uxQM rfl (uxQM rfl (uxQM rfl (uxQM rfl (uxQM rfl (uxQM rfl (uxQM rfl (uxQM rfl (uxQM rfl (uxQM rfl (uxQM rfl (uxQM rfl (uxQM rfl (uxQM rfl hI.2.2.2.2.2.2.2.2.2.2.2.2.2.2.2.2.2.2.2.2.2.2.2.2.2.2.2.2.2.2.2.2.2.2.2.2.2.2.2.2.2.2.2.2.2.2.2.2.2.2.1))))))))))))))))
    have k_xQH : xQH W := by
      rw [hW]
      exact (uxQH rfl (uxQH rfl (uxQH rfl (uxQH rfl (uxQH rfl (uxQH rfl (uxQH rfl (uxQH rfl (uxQH rfl (uxQH rfl (uxQH rfl (uxQH rfl (uxQH rfl (uxQH rfl (uxQH rfl (uxQH rfl hI.2.2.2.2.2.2.2.2.2.2.2.2.2.2.2.2.2.2.2.2.2.2.2.2.2.2.2.2.2.2.2.2.2.2.2.2.2.2.2.2.2.2.2.2.2.2.2.2.2.2.2))))))))))))))))
    have k_XC : XC W := ⟨k_xS1, k_xS2, k_xS3, k_xS4, k_xS5, k_xS6, k_xS7, k_xS8, k_xS9, k_xSA, k_xSG, k_xSF, k_xSB, k_xSC, k_xSD, k_xSE, k_xSW, k_xST, k_xSP, k_xSL, k_xSM, k_xSI, k_xD3, k_xDV, k_xDP, k_xDE, k_xQ5, k_xQL, k_xQW, k_xQM, k_xQH⟩
    have kXB : XB W := ⟨k_xN1, k_xN2, k_xN3, k_xN4, k_xN5, k_xN6, k_xH1, k_xK1, k_xC1, k_xRW, k_xWT, k_xCU, k_xG2, k_xG3, k_xG4, k_xG5, k_xG6, k_XC⟩
    exact ⟨base, k2, k3, kXA, kXB⟩
-- wPush6
def xr_332 : qRu := (5, [[(-6, 0), (1, 2)], [(6, 0), (-1, 2)], [(1, 1)]], [(4, 276, [(1, 1)]), (4, 270, [(1, 3)]), (4, 271, [(1, 4)]), (55, 1001, [(1, 2)])], [], [(4, 276, [(1, 0), (1, 1)]), (4, 272, [(1, 3)]), (4, 273, [(1, 4)]), (4, 270, []), (4, 271, [(1, 3), (2, 4)]), (4, 274, [])], [])
theorem xo_332 : qRok xr_332 := by
  intro ρ M h0 hf hm hI
  have f0 := hf [(-6, 0), (1, 2)] (by decide)
  have f1 := hf [(6, 0), (-1, 2)] (by decide)
  have f2 := hf [(1, 1)] (by decide)
  simp only [qD, h0] at f0 f1 f2
  have m0 : M 4 276 = 1 * ρ 1 + 0 := hm (4, 276, [(1, 1)]) (by decide)
  have m1 : M 4 270 = 1 * ρ 3 + 0 := hm (4, 270, [(1, 3)]) (by decide)
  have m2 : M 4 271 = 1 * ρ 4 + 0 := hm (4, 271, [(1, 4)]) (by decide)
  have m3 : M 55 (zIx ρ (1000 + 1)) = 1 * ρ 2 + 0 := hm (55, 1001, [(1, 2)]) (by decide)
  rw [zix_p] at m3
  have qxSW := hI.2.2.2.2.2.2.2.2.2.2.2.2.2.2.2.2.2.2.2.2.2.2.2.2.2.2.2.2.2.2.2.2.2.2.2.2.2.1
  refine ⟨ρ, fun _ _ => rfl, fun f h => ?_, ?_⟩
  · exact nomatch h
  · show sI (sU (sU (sU (sU (sU (sU M 4 276 (1 * ρ 0 + (1 * ρ 1 + 0))) 4 272 (1 * ρ 3 + 0)) 4 273 (1 * ρ 4 + 0)) 4 270 (0)) 4 271 (1 * ρ 3 + (2 * ρ 4 + 0))) 4 274 (0))
    obtain ⟨W, hW⟩ : ∃ W, W = (sU (sU (sU (sU (sU (sU M 4 276 (1 * ρ 0 + (1 * ρ 1 + 0))) 4 272 (1 * ρ 3 + 0)) 4 273 (1 * ρ 4 + 0)) 4 270 (0)) 4 271 (1 * ρ 3 + (2 * ρ 4 + 0))) 4 274 (0)) := ⟨_, rfl⟩
    rw [← hW]
    have base : sI0 W := by
      rw [hW]
      exact (si_u0 (si_u0 (si_u0 (si_u0 (si_u0 (si_u0 hI.1 (fun r hr => by cases hr)) (fun r hr => by cases hr)) (fun r hr => by cases hr)) (fun r hr => by cases hr)) (fun r hr => by cases hr)) (fun r hr => by cases hr))
    have k2 : XI2 W := by
      rw [hW]
      exact (xi2_u rfl (xi2_u rfl (xi2_u rfl (xi2_u rfl (xi2_u rfl (xi2_u rfl hI.2.1))))))
    have k3 : XI3 W := by
      rw [hW]
      exact (xi3_u rfl (xi3_u rfl (xi3_u rfl (xi3_u rfl (xi3_u rfl (xi3_u rfl hI.2.2.1))))))
    have kXA : XA W := by
      rw [hW]
      exact (uXA rfl (uXA rfl (uXA rfl (uXA rfl (uXA rfl (uXA rfl hI.2.2.2.1))))))
    have k_xN1 : xN1 W := by
      rw [hW]
      exact (uxN1 rfl (uxN1 rfl (uxN1 rfl (uxN1 rfl (uxN1 rfl (uxN1 rfl hI.2.2.2.2.1))))))
    have k_xN2 : xN2 W := by
      rw [hW]
      exact (uxN2 rfl (uxN2 rfl (uxN2 rfl (uxN2 rfl (uxN2 rfl (uxN2 rfl hI.2.2.2.2.2.1))))))
    have k_xN3 : xN3 W := by
      rw [hW]
      exact (uxN3 rfl (uxN3 rfl (uxN3 rfl (uxN3 rfl (uxN3 rfl (uxN3 rfl hI.2.2.2.2.2.2.1))))))
    have k_xN4 : xN4 W := by
      rw [hW]
      exact (uxN4 rfl (uxN4 rfl (uxN4 rfl (uxN4 rfl (uxN4 rfl (uxN4 rfl hI.2.2.2.2.2.2.2.1))))))
    have k_xN5 : xN5 W := by
      rw [hW]
      exact (uxN5 rfl (uxN5 rfl (uxN5 rfl (uxN5 rfl (uxN5 rfl (uxN5 rfl hI.2.2.2.2.2.2.2.2.1))))))
    have k_xN6 : xN6 W := by
      rw [hW]
      exact (uxN6 rfl (uxN6 rfl (uxN6 rfl (uxN6 rfl (uxN6 rfl (uxN6 rfl hI.2.2.2.2.2.2.2.2.2.1))))))
    have k_xH1 : xH1 W := by
      rw [hW]
      exact (uxH1 rfl (uxH1 rfl (uxH1 rfl (uxH1 rfl (uxH1 rfl (uxH1 rfl hI.2.2.2.2.2.2.2.2.2.2.1))))))
    have k_xK1 : xK1 W := by
      rw [hW]
      exact (uxK1 rfl (uxK1 rfl (uxK1 rfl (uxK1 rfl (uxK1 rfl (uxK1 rfl hI.2.2.2.2.2.2.2.2.2.2.2.1))))))
    have k_xC1 : xC1 W := by
      rw [hW]
      exact (uxC1 rfl (uxC1 rfl (uxC1 rfl (uxC1 rfl (uxC1 rfl (uxC1 rfl hI.2.2.2.2.2.2.2.2.2.2.2.2.1))))))
    have k_xRW : xRW W := by
      rw [hW]
      exact (uxRW rfl (uxRW rfl (uxRW rfl (uxRW rfl (uxRW rfl (uxRW rfl hI.2.2.2.2.2.2.2.2.2.2.2.2.2.1))))))
    have k_xWT : xWT W := by
      rw [hW]
      exact (uxWT rfl (uxWT rfl (uxWT rfl (uxWT rfl (uxWT rfl (uxWT rfl hI.2.2.2.2.2.2.2.2.2.2.2.2.2.2.1))))))
    have k_xCU : xCU W := by
      rw [hW]
      exact (uxCU rfl (uxCU rfl (uxCU rfl (uxCU rfl (uxCU rfl (uxCU rfl hI.2.2.2.2.2.2.2.2.2.2.2.2.2.2.2.1))))))
    have k_xG2 : xG2 W := by
      rw [hW]
      exact (uxG2 rfl (uxG2 rfl (uxG2 rfl (uxG2 rfl (uxG2 rfl (uxG2 rfl hI.2.2.2.2.2.2.2.2.2.2.2.2.2.2.2.2.1))))))
    have k_xG3 : xG3 W := by
      rw [hW]
      exact (uxG3 rfl (uxG3 rfl (uxG3 rfl (uxG3 rfl (uxG3 rfl (uxG3 rfl hI.2.2.2.2.2.2.2.2.2.2.2.2.2.2.2.2.2.1))))))
    have k_xG4 : xG4 W := by
      rw [hW]
      exact (uxG4 rfl (uxG4 rfl (uxG4 rfl (uxG4 rfl (uxG4 rfl (uxG4 rfl hI.2.2.2.2.2.2.2.2.2.2.2.2.2.2.2.2.2.2.1))))))
    have k_xG5 : xG5 W := by
      rw [hW]
      exact (uxG5 rfl (uxG5 rfl (uxG5 rfl (uxG5 rfl (uxG5 rfl (uxG5 rfl hI.2.2.2.2.2.2.2.2.2.2.2.2.2.2.2.2.2.2.2.1))))))
    have k_xG6 : xG6 W := by
      rw [hW]
      exact (uxG6 rfl (uxG6 rfl (uxG6 rfl (uxG6 rfl (uxG6 rfl (uxG6 rfl hI.2.2.2.2.2.2.2.2.2.2.2.2.2.2.2.2.2.2.2.2.1))))))
    have k_xS1 : xS1 W := by
      rw [hW]
      exact (uxS1 rfl (uxS1 rfl (uxS1 rfl (uxS1 rfl (uxS1 rfl (uxS1 rfl hI.2.2.2.2.2.2.2.2.2.2.2.2.2.2.2.2.2.2.2.2.2.1))))))
    have k_xS2 : xS2 W := by
      rw [hW]
      exact (uxS2 rfl (uxS2 rfl (uxS2 rfl (uxS2 rfl (uxS2 rfl (uxS2 rfl hI.2.2.2.2.2.2.2.2.2.2.2.2.2.2.2.2.2.2.2.2.2.2.1))))))
    have k_xS3 : xS3 W := by
      rw [hW]
      exact (uxS3 rfl (uxS3 rfl (uxS3 rfl (uxS3 rfl (uxS3 rfl (uxS3 rfl hI.2.2.2.2.2.2.2.2.2.2.2.2.2.2.2.2.2.2.2.2.2.2.2.1))))))
    have k_xS4 : xS4 W := by
      rw [hW]
      exact (uxS4 rfl (uxS4 rfl (uxS4 rfl (uxS4 rfl (uxS4 rfl (uxS4 rfl hI.2.2.2.2.2.2.2.2.2.2.2.2.2.2.2.2.2.2.2.2.2.2.2.2.1))))))
    have k_xS5 : xS5 W := by
      rw [hW]
      exact (uxS5 rfl (uxS5 rfl (uxS5 rfl (uxS5 rfl (uxS5 rfl (uxS5 rfl hI.2.2.2.2.2.2.2.2.2.2.2.2.2.2.2.2.2.2.2.2.2.2.2.2.2.1))))))
    have k_xS6 : xS6 W := by
      rw [hW]
      exact (uxS6 rfl (uxS6 rfl (uxS6 rfl (uxS6 rfl (uxS6 rfl (uxS6 rfl hI.2.2.2.2.2.2.2.2.2.2.2.2.2.2.2.2.2.2.2.2.2.2.2.2.2.2.1))))))
    have k_xS7 : xS7 W := by
      rw [hW]
      exact (uxS7 rfl (uxS7 rfl (uxS7 rfl (uxS7 rfl (uxS7 rfl (uxS7 rfl hI.2.2.2.2.2.2.2.2.2.2.2.2.2.2.2.2.2.2.2.2.2.2.2.2.2.2.2.1))))))
    have k_xS8 : xS8 W := by
      rw [hW]
      exact (uxS8 rfl (uxS8 rfl (uxS8 rfl (uxS8 rfl (uxS8 rfl (uxS8 rfl hI.2.2.2.2.2.2.2.2.2.2.2.2.2.2.2.2.2.2.2.2.2.2.2.2.2.2.2.2.1))))))
    have k_xS9 : xS9 W := by
      rw [hW]
      exact (uxS9 rfl (uxS9 rfl (uxS9 rfl (uxS9 rfl (uxS9 rfl (uxS9 rfl hI.2.2.2.2.2.2.2.2.2.2.2.2.2.2.2.2.2.2.2.2.2.2.2.2.2.2.2.2.2.1))))))
    have k_xSA : xSA W := by
      rw [hW]
      exact (uxSA rfl (uxSA rfl (uxSA rfl (uxSA rfl (uxSA rfl (uxSA rfl hI.2.2.2.2.2.2.2.2.2.2.2.2.2.2.2.2.2.2.2.2.2.2.2.2.2.2.2.2.2.2.1))))))
    have k_xSG : xSG W := by
      rw [hW]
      exact (uxSG rfl (uxSG rfl (uxSG rfl (uxSG rfl (uxSG rfl (uxSG rfl hI.2.2.2.2.2.2.2.2.2.2.2.2.2.2.2.2.2.2.2.2.2.2.2.2.2.2.2.2.2.2.2.1))))))
    have k_xSF : xSF W := by
      rw [hW]
      exact (uxSF rfl (uxSF rfl (uxSF rfl (uxSF rfl (uxSF rfl (uxSF rfl hI.2.2.2.2.2.2.2.2.2.2.2.2.2.2.2.2.2.2.2.2.2.2.2.2.2.2.2.2.2.2.2.2.1))))))
    have k_xSB : xSB W := by
      rw [hW]
      exact (uxSB rfl (uxSB rfl (uxSB rfl (uxSB rfl (uxSB rfl (uxSB rfl hI.2.2.2.2.2.2.2.2.2.2.2.2.2.2.2.2.2.2.2.2.2.2.2.2.2.2.2.2.2.2.2.2.2.1))))))
    have k_xSC : xSC W := by
      rw [hW]
      exact (uxSC rfl (uxSC rfl (uxSC rfl (uxSC rfl (uxSC rfl (uxSC rfl hI.2.2.2.2.2.2.2.2.2.2.2.2.2.2.2.2.2.2.2.2.2.2.2.2.2.2.2.2.2.2.2.2.2.2.1))))))
    have k_xSD : xSD W := by
      rw [hW]
      exact (uxSD rfl (uxSD rfl (uxSD rfl (uxSD rfl (uxSD rfl (uxSD rfl hI.2.2.2.2.2.2.2.2.2.2.2.2.2.2.2.2.2.2.2.2.2.2.2.2.2.2.2.2.2.2.2.2.2.2.2.1))))))
    have k_xSE : xSE W := by
      rw [hW]
      exact (uxSE rfl (uxSE rfl (uxSE rfl (uxSE rfl (uxSE rfl (uxSE rfl hI.2.2.2.2.2.2.2.2.2.2.2.2.2.2.2.2.2.2.2.2.2.2.2.2.2.2.2.2.2.2.2.2.2.2.2.2.1))))))
    have k_xSW : xSW W := by
      have r4_270 : W 4 270 = 0 := by rw [hW, sU_ne (fun z => by omega), sU_ne (fun z => by omega), sU_at]
      have r4_271 : W 4 271 = 1 * ρ 3 + (2 * ρ 4 + 0) := by rw [hW, sU_ne (fun z => by omega), sU_at]
      have r4_272 : W 4 272 = 1 * ρ 3 + 0 := by rw [hW, sU_ne (fun z => by omega), sU_ne (fun z => by omega), sU_ne (fun z => by omega), sU_ne (fun z => by omega), sU_at]
      have r4_273 : W 4 273 = 1 * ρ 4 + 0 := by rw [hW, sU_ne (fun z => by omega), sU_ne (fun z => by omega), sU_ne (fun z => by omega), sU_at]
      have r4_274 : W 4 274 = 0 := by rw [hW, sU_at]
      have r4_276 : W 4 276 = 1 * ρ 0 + (1 * ρ 1 + 0) := by rw [hW, sU_ne (fun z => by omega), sU_ne (fun z => by omega), sU_ne (fun z => by omega), sU_ne (fun z => by omega), sU_ne (fun z => by omega), sU_at]
      have c55 : ∀ k, W 55 k = M 55 k := fun k => by rw [hW, sU_ne (fun z => by omega), sU_ne (fun z => by omega), sU_ne (fun z => by omega), sU_ne (fun z => by omega), sU_ne (fun z => by omega), sU_ne (fun z => by omega)]
      have e55 : W 55 = M 55 := funext c55
      unfold xSW
      rw [r4_270, r4_271, r4_272, r4_273, r4_274, r4_276]
      have s1 : (1 * ρ 0 + (1 * ρ 1 + 0)).toNat = (M 4 276).toNat + 1 := by rw [h0]; omega
      have s2 : (1 * ρ 0 + (1 * ρ 1 + 0)).toNat - 1 = (M 4 276).toNat := by rw [h0]; omega
      rw [s2, s1, xws_c c55, xws_c c55, xwn_c c55]
      obtain ⟨w1, w2, w3, w4, w5⟩ := gx_xSW hI
      rw [← w2]
      have hv : M 55 (M 4 276).toNat = ρ 2 := by rw [show (M 4 276).toNat = (ρ 1).toNat by omega]; omega
      have hx : xWs M ((M 4 276).toNat + 1) = (if M 55 (M 4 276).toNat = 6 then (0, 2 * (xWs M (M 4 276).toNat).2 + (xWs M (M 4 276).toNat).1) else if 12 ≤ M 55 (M 4 276).toNat ∧ M 55 (M 4 276).toNat ≤ 17 then (1, (xWs M (M 4 276).toNat).2) else if 33 ≤ M 55 (M 4 276).toNat ∧ M 55 (M 4 276).toNat ≤ 35 then (0, (xWs M (M 4 276).toNat).2) else xWs M (M 4 276).toNat) := rfl
      have hn : xWn M ((M 4 276).toNat + 1) = xKn (M 55 (M 4 276).toNat) := rfl
      rw [hx, hn, ← w2, hv]
      unfold xKn

      rw [if_pos (by omega), if_pos (by omega)]
      refine ⟨by rw [h0]; omega, ?_, ?_, ?_, fun i hi => ?_⟩
      · (try rw [h0])
        refine Prod.ext ?_ ?_
        · first | omega | (dsimp only; done) | (dsimp only; omega)
        · first | omega | (dsimp only; done) | (dsimp only; omega)
      · refine Prod.ext ?_ ?_
        · first | omega | (dsimp only; done) | (dsimp only; omega)
        · first | omega | (dsimp only; done) | (dsimp only; omega)
      · (try rw [h0])
        (try omega)
      · rw [c55]
        by_cases hq : (i : Int) < M 4 276
        · exact w5 i hq
        · have ei : i = (M 4 276).toNat := by rw [h0] at hi; omega
          rw [ei, hv]
          unfold xKo
          omega
    have k_xST : xST W := by
      rw [hW]
      exact (uxST rfl (uxST rfl (uxST rfl (uxST rfl (uxST rfl (uxST rfl hI.2.2.2.2.2.2.2.2.2.2.2.2.2.2.2.2.2.2.2.2.2.2.2.2.2.2.2.2.2.2.2.2.2.2.2.2.2.2.1))))))
    have k_xSP : xSP W := by
      rw [hW]
      exact (uxSP rfl (uxSP rfl (uxSP rfl (uxSP rfl (uxSP rfl (uxSP rfl hI.2.2.2.2.2.2.2.2.2.2.2.2.2.2.2.2.2.2.2.2.2.2.2.2.2.2.2.2.2.2.2.2.2.2.2.2.2.2.2.1))))))
    have k_xSL : xSL W := by
      rw [hW]
      exact (uxSL rfl (uxSL rfl (uxSL rfl (uxSL rfl (uxSL rfl (uxSL rfl hI.2.2.2.2.2.2.2.2.2.2.2.2.2.2.2.2.2.2.2.2.2.2.2.2.2.2.2.2.2.2.2.2.2.2.2.2.2.2.2.2.1))))))
    have k_xSM : xSM W := by
      rw [hW]
      exact (uxSM rfl (uxSM rfl (uxSM rfl (uxSM rfl (uxSM rfl (uxSM rfl hI.2.2.2.2.2.2.2.2.2.2.2.2.2.2.2.2.2.2.2.2.2.2.2.2.2.2.2.2.2.2.2.2.2.2.2.2.2.2.2.2.2.1))))))
    have k_xSI : xSI W := by
      rw [hW]
      exact (uxSI rfl (uxSI rfl (uxSI rfl (uxSI rfl (uxSI rfl (uxSI rfl hI.2.2.2.2.2.2.2.2.2.2.2.2.2.2.2.2.2.2.2.2.2.2.2.2.2.2.2.2.2.2.2.2.2.2.2.2.2.2.2.2.2.2.1))))))
    have k_xD3 : xD3 W := by
      rw [hW]
      exact (uxD3 rfl (uxD3 rfl (uxD3 rfl (uxD3 rfl (uxD3 rfl (uxD3 rfl hI.2.2.2.2.2.2.2.2.2.2.2.2.2.2.2.2.2.2.2.2.2.2.2.2.2.2.2.2.2.2.2.2.2.2.2.2.2.2.2.2.2.2.2.1))))))
    have k_xDV : xDV W := by
      rw [hW]
      exact (uxDV rfl (uxDV rfl (uxDV rfl (uxDV rfl (uxDV rfl (uxDV rfl hI.2.2.2.2.2.2.2.2.2.2.2.2.2.2.2.2.2.2.2.2.2.2.2.2.2.2.2.2.2.2.2.2.2.2.2.2.2.2.2.2.2.2.2.2.1))))))
    have k_xDP : xDP W := by
      rw [hW]
      exact (uxDP rfl (uxDP rfl (uxDP rfl (uxDP rfl (uxDP rfl (uxDP rfl hI.2.2.2.2.2.2.2.2.2.2.2.2.2.2.2.2.2.2.2.2.2.2.2.2.2.2.2.2.2.2.2.2.2.2.2.2.2.2.2.2.2.2.2.2.2.1))))))
    have k_xDE : xDE W := by
      rw [hW]
      exact (uxDE rfl (uxDE rfl (uxDE rfl (uxDE rfl (uxDE rfl (uxDE rfl hI.2.2.2.2.2.2.2.2.2.2.2.2.2.2.2.2.2.2.2.2.2.2.2.2.2.2.2.2.2.2.2.2.2.2.2.2.2.2.2.2.2.2.2.2.2.2.1))))))
    have k_xQ5 : xQ5 W := by
      rw [hW]
      exact (uxQ5 rfl (uxQ5 rfl (uxQ5 rfl (uxQ5 rfl (uxQ5 rfl (uxQ5 rfl hI.2.2.2.2.2.2.2.2.2.2.2.2.2.2.2.2.2.2.2.2.2.2.2.2.2.2.2.2.2.2.2.2.2.2.2.2.2.2.2.2.2.2.2.2.2.2.2.1))))))
    have k_xQL : xQL W := by
      rw [hW]
      exact (uxQL rfl (uxQL rfl (uxQL rfl (uxQL rfl (uxQL rfl (uxQL rfl hI.2.2.2.2.2.2.2.2.2.2.2.2.2.2.2.2.2.2.2.2.2.2.2.2.2.2.2.2.2.2.2.2.2.2.2.2.2.2.2.2.2.2.2.2.2.2.2.2.1))))))
    have k_xQW : xQW W := by
      rw [hW]
      exact (uxQW rfl (uxQW rfl (uxQW rfl (uxQW rfl (uxQW rfl (uxQW rfl hI.2.2.2.2.2.2.2.2.2.2.2.2.2.2.2.2.2.2.2.2.2.2.2.2.2.2.2.2.2.2.2.2.2.2.2.2.2.2.2.2.2.2.2.2.2.2.2.2.2.1))))))
    have k_xQM : xQM W := by
      rw [hW]
      exact (uxQM rfl (uxQM rfl (uxQM rfl (uxQM rfl (uxQM rfl (uxQM rfl hI.2.2.2.2.2.2.2.2.2.2.2.2.2.2.2.2.2.2.2.2.2.2.2.2.2.2.2.2.2.2.2.2.2.2.2.2.2.2.2.2.2.2.2.2.2.2.2.2.2.2.1))))))
    have k_xQH : xQH W := by
      rw [hW]
      exact (uxQH rfl (uxQH rfl (uxQH rfl (uxQH rfl (uxQH rfl (uxQH rfl hI.2.2.2.2.2.2.2.2.2.2.2.2.2.2.2.2.2.2.2.2.2.2.2.2.2.2.2.2.2.2.2.2.2.2.2.2.2.2.2.2.2.2.2.2.2.2.2.2.2.2.2))))))
    have k_XC : XC W := ⟨k_xS1, k_xS2, k_xS3, k_xS4, k_xS5, k_xS6, k_xS7, k_xS8, k_xS9, k_xSA, k_xSG, k_xSF, k_xSB, k_xSC, k_xSD, k_xSE, k_xSW, k_xST, k_xSP, k_xSL, k_xSM, k_xSI, k_xD3, k_xDV, k_xDP, k_xDE, k_xQ5, k_xQL, k_xQW, k_xQM, k_xQH⟩
    have kXB : XB W := ⟨k_xN1, k_xN2, k_xN3, k_xN4, k_xN5, k_xN6, k_xH1, k_xK1, k_xC1, k_xRW, k_xWT, k_xCU, k_xG2, k_xG3, k_xG4, k_xG5, k_xG6, k_XC⟩
    exact ⟨base, k2, k3, kXA, kXB⟩
-- wPushC
def xr_333 : qRu := (5, [[(-12, 0), (1, 2)], [(17, 0), (-1, 2)], [(1, 1)]], [(4, 276, [(1, 1)]), (4, 270, [(1, 3)]), (4, 271, [(1, 4)]), (55, 1001, [(1, 2)])], [], [(4, 276, [(1, 0), (1, 1)]), (4, 272, [(1, 3)]), (4, 273, [(1, 4)]), (4, 270, [(1, 0)]), (4, 271, [(1, 4)]), (4, 274, [(2, 0)])], [])
theorem xo_333 : qRok xr_333 := by
  intro ρ M h0 hf hm hI
  have f0 := hf [(-12, 0), (1, 2)] (by decide)
  have f1 := hf [(17, 0), (-1, 2)] (by decide)
  have f2 := hf [(1, 1)] (by decide)
  simp only [qD, h0] at f0 f1 f2
  have m0 : M 4 276 = 1 * ρ 1 + 0 := hm (4, 276, [(1, 1)]) (by decide)
  have m1 : M 4 270 = 1 * ρ 3 + 0 := hm (4, 270, [(1, 3)]) (by decide)
  have m2 : M 4 271 = 1 * ρ 4 + 0 := hm (4, 271, [(1, 4)]) (by decide)
  have m3 : M 55 (zIx ρ (1000 + 1)) = 1 * ρ 2 + 0 := hm (55, 1001, [(1, 2)]) (by decide)
  rw [zix_p] at m3
  have qxSW := hI.2.2.2.2.2.2.2.2.2.2.2.2.2.2.2.2.2.2.2.2.2.2.2.2.2.2.2.2.2.2.2.2.2.2.2.2.2.1
  refine ⟨ρ, fun _ _ => rfl, fun f h => ?_, ?_⟩
  · exact nomatch h
  · show sI (sU (sU (sU (sU (sU (sU M 4 276 (1 * ρ 0 + (1 * ρ 1 + 0))) 4 272 (1 * ρ 3 + 0)) 4 273 (1 * ρ 4 + 0)) 4 270 (1 * ρ 0 + 0)) 4 271 (1 * ρ 4 + 0)) 4 274 (2 * ρ 0 + 0))
    obtain ⟨W, hW⟩ : ∃ W, W = (sU (sU (sU (sU (sU (sU M 4 276 (1 * ρ 0 + (1 * ρ 1 + 0))) 4 272 (1 * ρ 3 + 0)) 4 273 (1 * ρ 4 + 0)) 4 270 (1 * ρ 0 + 0)) 4 271 (1 * ρ 4 + 0)) 4 274 (2 * ρ 0 + 0)) := ⟨_, rfl⟩
    rw [← hW]
    have base : sI0 W := by
      rw [hW]
      exact (si_u0 (si_u0 (si_u0 (si_u0 (si_u0 (si_u0 hI.1 (fun r hr => by cases hr)) (fun r hr => by cases hr)) (fun r hr => by cases hr)) (fun r hr => by cases hr)) (fun r hr => by cases hr)) (fun r hr => by cases hr))
    have k2 : XI2 W := by
      rw [hW]
      exact (xi2_u rfl (xi2_u rfl (xi2_u rfl (xi2_u rfl (xi2_u rfl (xi2_u rfl hI.2.1))))))
    have k3 : XI3 W := by
      rw [hW]
      exact (xi3_u rfl (xi3_u rfl (xi3_u rfl (xi3_u rfl (xi3_u rfl (xi3_u rfl hI.2.2.1))))))
    have kXA : XA W := by
      rw [hW]
      exact (uXA rfl (uXA rfl (uXA rfl (uXA rfl (uXA rfl (uXA rfl hI.2.2.2.1))))))
    have k_xN1 : xN1 W := by
      rw [hW]
      exact (uxN1 rfl (uxN1 rfl (uxN1 rfl (uxN1 rfl (uxN1 rfl (uxN1 rfl hI.2.2.2.2.1))))))
    have k_xN2 : xN2 W := by
      rw [hW]
      exact (uxN2 rfl (uxN2 rfl (uxN2 rfl (uxN2 rfl (uxN2 rfl (uxN2 rfl hI.2.2.2.2.2.1))))))
    have k_xN3 : xN3 W := by
      rw [hW]
      exact (uxN3 rfl (uxN3 rfl (uxN3 rfl (uxN3 rfl (uxN3 rfl (uxN3 rfl hI.2.2.2.2.2.2.1))))))
    have k_xN4 : xN4 W := by
      rw [hW]
      exact (uxN4 rfl (uxN4 rfl (uxN4 rfl (uxN4 rfl (uxN4 rfl (uxN4 rfl hI.2.2.2.2.2.2.2.1))))))
    have k_xN5 : xN5 W := by
      rw [hW]
      exact (uxN5 rfl (uxN5 rfl (uxN5 rfl (uxN5 rfl (uxN5 rfl (uxN5 rfl hI.2.2.2.2.2.2.2.2.1))))))
    have k_xN6 : xN6 W := by
      rw [hW]
      exact (uxN6 rfl (uxN6 rfl (uxN6 rfl (uxN6 rfl (uxN6 rfl (uxN6 rfl hI.2.2.2.2.2.2.2.2.2.1))))))
    have k_xH1 : xH1 W := by
      rw [hW]
      exact (uxH1 rfl (uxH1 rfl (uxH1 rfl (uxH1 rfl (uxH1 rfl (uxH1 rfl hI.2.2.2.2.2.2.2.2.2.2.1))))))
    have k_xK1 : xK1 W := by
      rw [hW]
      exact (uxK1 rfl (uxK1 rfl (uxK1 rfl (uxK1 rfl (uxK1 rfl (uxK1 rfl hI.2.2.2.2.2.2.2.2.2.2.2.1))))))
    have k_xC1 : xC1 W := by
      rw [hW]
      exact (uxC1 rfl (uxC1 rfl (uxC1 rfl (uxC1 rfl (uxC1 rfl (uxC1 rfl hI.2.2.2.2.2.2.2.2.2.2.2.2.1))))))
    have k_xRW : xRW W := by
      rw [hW]
      exact (uxRW rfl (uxRW rfl (uxRW rfl (uxRW rfl (uxRW rfl (uxRW rfl hI.2.2.2.2.2.2.2.2.2.2.2.2.2.1))))))
    have k_xWT : xWT W := by
      rw [hW]
      exact (uxWT rfl (uxWT rfl (uxWT rfl (uxWT rfl (uxWT rfl (uxWT rfl hI.2.2.2.2.2.2.2.2.2.2.2.2.2.2.1))))))
    have k_xCU : xCU W := by
      rw [hW]
      exact (uxCU rfl (uxCU rfl (uxCU rfl (uxCU rfl (uxCU rfl (uxCU rfl hI.2.2.2.2.2.2.2.2.2.2.2.2.2.2.2.1))))))
    have k_xG2 : xG2 W := by
      rw [hW]
      exact (uxG2 rfl (uxG2 rfl (uxG2 rfl (uxG2 rfl (uxG2 rfl (uxG2 rfl hI.2.2.2.2.2.2.2.2.2.2.2.2.2.2.2.2.1))))))
    have k_xG3 : xG3 W := by
      rw [hW]
      exact (uxG3 rfl (uxG3 rfl (uxG3 rfl (uxG3 rfl (uxG3 rfl (uxG3 rfl hI.2.2.2.2.2.2.2.2.2.2.2.2.2.2.2.2.2.1))))))
    have k_xG4 : xG4 W := by
      rw [hW]
      exact (uxG4 rfl (uxG4 rfl (uxG4 rfl (uxG4 rfl (uxG4 rfl (uxG4 rfl hI.2.2.2.2.2.2.2.2.2.2.2.2.2.2.2.2.2.2.1))))))
    have k_xG5 : xG5 W := by
      rw [hW]
      exact (uxG5 rfl (uxG5 rfl (uxG5 rfl (uxG5 rfl (uxG5 rfl (uxG5 rfl hI.2.2.2.2.2.2.2.2.2.2.2.2.2.2.2.2.2.2.2.1))))))
    have k_xG6 : xG6 W := by
      rw [hW]
      exact (uxG6 rfl (uxG6 rfl (uxG6 rfl (uxG6 rfl (uxG6 rfl (uxG6 rfl hI.2.2.2.2.2.2.2.2.2.2.2.2.2.2.2.2.2.2.2.2.1))))))
    have k_xS1 : xS1 W := by
      rw [hW]
      exact (uxS1 rfl (uxS1 rfl (uxS1 rfl (uxS1 rfl (uxS1 rfl (uxS1 rfl hI.2.2.2.2.2.2.2.2.2.2.2.2.2.2.2.2.2.2.2.2.2.1))))))
    have k_xS2 : xS2 W := by
      rw [hW]
      exact (uxS2 rfl (uxS2 rfl (uxS2 rfl (uxS2 rfl (uxS2 rfl (uxS2 rfl hI.2.2.2.2.2.2.2.2.2.2.2.2.2.2.2.2.2.2.2.2.2.2.1))))))
    have k_xS3 : xS3 W := by
      rw [hW]
      exact (uxS3 rfl (uxS3 rfl (uxS3 rfl (uxS3 rfl (uxS3 rfl (uxS3 rfl hI.2.2.2.2.2.2.2.2.2.2.2.2.2.2.2.2.2.2.2.2.2.2.2.1))))))
    have k_xS4 : xS4 W := by
      rw [hW]
      exact (uxS4 rfl (uxS4 rfl (uxS4 rfl (uxS4 rfl (uxS4 rfl (uxS4 rfl hI.2.2.2.2.2.2.2.2.2.2.2.2.2.2.2.2.2.2.2.2.2.2.2.2.1))))))
    have k_xS5 : xS5 W := by
      rw [hW]
      exact (uxS5 rfl (uxS5 rfl (uxS5 rfl (uxS5 rfl (uxS5 rfl (uxS5 rfl hI.2.2.2.2.2.2.2.2.2.2.2.2.2.2.2.2.2.2.2.2.2.2.2.2.2.1))))))
    have k_xS6 : xS6 W := by
      rw [hW]
      exact (uxS6 rfl (uxS6 rfl (uxS6 rfl (uxS6 rfl (uxS6 rfl (uxS6 rfl hI.2.2.2.2.2.2.2.2.2.2.2.2.2.2.2.2.2.2.2.2.2.2.2.2.2.2.1))))))
    have k_xS7 : xS7 W := by
      rw [hW]
      exact (uxS7 rfl (uxS7 rfl (uxS7 rfl (uxS7 rfl (uxS7 rfl (uxS7 rfl hI.2.2.2.2.2.2.2.2.2.2.2.2.2.2.2.2.2.2.2.2.2.2.2.2.2.2.2.1))))))
    have k_xS8 : xS8 W := by
      rw [hW]
      exact (uxS8 rfl (uxS8 rfl (uxS8 rfl (uxS8 rfl (uxS8 rfl (uxS8 rfl hI.2.2.2.2.2.2.2.2.2.2.2.2.2.2.2.2.2.2.2.2.2.2.2.2.2.2.2.2.1))))))
    have k_xS9 : xS9 W := by
      rw [hW]
      exact (uxS9 rfl (uxS9 rfl (uxS9 rfl (uxS9 rfl (uxS9 rfl (uxS9 rfl hI.2.2.2.2.2.2.2.2.2.2.2.2.2.2.2.2.2.2.2.2.2.2.2.2.2.2.2.2.2.1))))))
    have k_xSA : xSA W := by
      rw [hW]
      exact (uxSA rfl (uxSA rfl (uxSA rfl (uxSA rfl (uxSA rfl (uxSA rfl hI.2.2.2.2.2.2.2.2.2.2.2.2.2.2.2.2.2.2.2.2.2.2.2.2.2.2.2.2.2.2.1))))))
    have k_xSG : xSG W := by
      rw [hW]
      exact (uxSG rfl (uxSG rfl (uxSG rfl (uxSG rfl (uxSG rfl (uxSG rfl hI.2.2.2.2.2.2.2.2.2.2.2.2.2.2.2.2.2.2.2.2.2.2.2.2.2.2.2.2.2.2.2.1))))))
    have k_xSF : xSF W := by
      rw [hW]
      exact (uxSF rfl (uxSF rfl (uxSF rfl (uxSF rfl (uxSF rfl (uxSF rfl hI.2.2.2.2.2.2.2.2.2.2.2.2.2.2.2.2.2.2.2.2.2.2.2.2.2.2.2.2.2.2.2.2.1))))))
    have k_xSB : xSB W := by
      rw [hW]
      exact (uxSB rfl (uxSB rfl (uxSB rfl (uxSB rfl (uxSB rfl (uxSB rfl hI.2.2.2.2.2.2.2.2.2.2.2.2.2.2.2.2.2.2.2.2.2.2.2.2.2.2.2.2.2.2.2.2.2.1))))))
    have k_xSC : xSC W := by
      rw [hW]
      exact (uxSC rfl (uxSC rfl (uxSC rfl (uxSC rfl (uxSC rfl (uxSC rfl hI.2.2.2.2.2.2.2.2.2.2.2.2.2.2.2.2.2.2.2.2.2.2.2.2.2.2.2.2.2.2.2.2.2.2.1))))))
    have k_xSD : xSD W := by
      rw [hW]
      exact (uxSD rfl (uxSD rfl (uxSD rfl (uxSD rfl (uxSD rfl (uxSD rfl hI.2.2.2.2.2.2.2.2.2.2.2.2.2.2.2.2.2.2.2.2.2.2.2.2.2.2.2.2.2.2.2.2.2.2.2.1))))))
    have k_xSE : xSE W := by
      rw [hW]
      exact (uxSE rfl (uxSE rfl (uxSE rfl (uxSE rfl (uxSE rfl (uxSE rfl hI.2.2.2.2.2.2.2.2.2.2.2.2.2.2.2.2.2.2.2.2.2.2.2.2.2.2.2.2.2.2.2.2.2.2.2.2.1))))))
    have k_xSW : xSW W := by
      have r4_270 : W 4 270 = 1 * ρ 0 + 0 := by rw [hW, sU_ne (fun z => by omega), sU_ne (fun z => by omega), sU_at]
      have r4_271 : W 4 271 = 1 * ρ 4 + 0 := by rw [hW, sU_ne (fun z => by omega), sU_at]
      have r4_272 : W 4 272 = 1 * ρ 3 + 0 := by rw [hW, sU_ne (fun z => by omega), sU_ne (fun z => by omega), sU_ne (fun z => by omega), sU_ne (fun z => by omega), sU_at]
      have r4_273 : W 4 273 = 1 * ρ 4 + 0 := by rw [hW, sU_ne (fun z => by omega), sU_ne (fun z => by omega), sU_ne (fun z => by omega), sU_at]
      have r4_274 : W 4 274 = 2 * ρ 0 + 0 := by rw [hW, sU_at]
      have r4_276 : W 4 276 = 1 * ρ 0 + (1 * ρ 1 + 0) := by rw [hW, sU_ne (fun z => by omega), sU_ne (fun z => by omega), sU_ne (fun z => by omega), sU_ne (fun z => by omega), sU_ne (fun z => by omega), sU_at]
      have c55 : ∀ k, W 55 k = M 55 k := fun k => by rw [hW, sU_ne (fun z => by omega), sU_ne (fun z => by omega), sU_ne (fun z => by omega), sU_ne (fun z => by omega), sU_ne (fun z => by omega), sU_ne (fun z => by omega)]
      have e55 : W 55 = M 55 := funext c55
      unfold xSW
      rw [r4_270, r4_271, r4_272, r4_273, r4_274, r4_276]
      have s1 : (1 * ρ 0 + (1 * ρ 1 + 0)).toNat = (M 4 276).toNat + 1 := by rw [h0]; omega
      have s2 : (1 * ρ 0 + (1 * ρ 1 + 0)).toNat - 1 = (M 4 276).toNat := by rw [h0]; omega
      rw [s2, s1, xws_c c55, xws_c c55, xwn_c c55]
      obtain ⟨w1, w2, w3, w4, w5⟩ := gx_xSW hI
      rw [← w2]
      have hv : M 55 (M 4 276).toNat = ρ 2 := by rw [show (M 4 276).toNat = (ρ 1).toNat by omega]; omega
      have hx : xWs M ((M 4 276).toNat + 1) = (if M 55 (M 4 276).toNat = 6 then (0, 2 * (xWs M (M 4 276).toNat).2 + (xWs M (M 4 276).toNat).1) else if 12 ≤ M 55 (M 4 276).toNat ∧ M 55 (M 4 276).toNat ≤ 17 then (1, (xWs M (M 4 276).toNat).2) else if 33 ≤ M 55 (M 4 276).toNat ∧ M 55 (M 4 276).toNat ≤ 35 then (0, (xWs M (M 4 276).toNat).2) else xWs M (M 4 276).toNat) := rfl
      have hn : xWn M ((M 4 276).toNat + 1) = xKn (M 55 (M 4 276).toNat) := rfl
      rw [hx, hn, ← w2, hv]
      unfold xKn

      rw [if_neg (by omega), if_pos (by omega), if_neg (by omega), if_neg (by omega), if_pos (by omega)]
      refine ⟨by rw [h0]; omega, ?_, ?_, ?_, fun i hi => ?_⟩
      · (try rw [h0])
        refine Prod.ext ?_ ?_
        · first | omega | (dsimp only; done) | (dsimp only; omega)
        · first | omega | (dsimp only; done) | (dsimp only; omega)
      · refine Prod.ext ?_ ?_
        · first | omega | (dsimp only; done) | (dsimp only; omega)
        · first | omega | (dsimp only; done) | (dsimp only; omega)
      · (try rw [h0])
        (try omega)
      · rw [c55]
        by_cases hq : (i : Int) < M 4 276
        · exact w5 i hq
        · have ei : i = (M 4 276).toNat := by rw [h0] at hi; omega
          rw [ei, hv]
          unfold xKo
          omega
    have k_xST : xST W := by
      rw [hW]
      exact (uxST rfl (uxST rfl (uxST rfl (uxST rfl (uxST rfl (uxST rfl hI.2.2.2.2.2.2.2.2.2.2.2.2.2.2.2.2.2.2.2.2.2.2.2.2.2.2.2.2.2.2.2.2.2.2.2.2.2.2.1))))))
    have k_xSP : xSP W := by
      rw [hW]
      exact (uxSP rfl (uxSP rfl (uxSP rfl (uxSP rfl (uxSP rfl (uxSP rfl hI.2.2.2.2.2.2.2.2.2.2.2.2.2.2.2.2.2.2.2.2.2.2.2.2.2.2.2.2.2.2.2.2.2.2.2.2.2.2.2.1))))))
    have k_xSL : xSL W := by
      rw [hW]
      exact (uxSL rfl (uxSL rfl (uxSL rfl (uxSL rfl (uxSL rfl (uxSL rfl hI.2.2.2.2.2.2.2.2.2.2.2.2.2.2.2.2.2.2.2.2.2.2.2.2.2.2.2.2.2.2.2.2.2.2.2.2.2.2.2.2.1))))))
    have k_xSM : xSM W := by
      rw [hW]
      exact (uxSM rfl (uxSM rfl (uxSM rfl (uxSM rfl (uxSM rfl (uxSM rfl hI.2.2.2.2.2.2.2.2.2.2.2.2.2.2.2.2.2.2.2.2.2.2.2.2.2.2.2.2.2.2.2.2.2.2.2.2.2.2.2.2.2.1))))))
    have k_xSI : xSI W := by
      rw [hW]
      exact (uxSI rfl (uxSI rfl (uxSI rfl (uxSI rfl (uxSI rfl (uxSI rfl hI.2.2.2.2.2.2.2.2.2.2.2.2.2.2.2.2.2.2.2.2.2.2.2.2.2.2.2.2.2.2.2.2.2.2.2.2.2.2.2.2.2.2.1))))))
    have k_xD3 : xD3 W := by
      rw [hW]
      exact (uxD3 rfl (uxD3 rfl (uxD3 rfl (uxD3 rfl (uxD3 rfl (uxD3 rfl hI.2.2.2.2.2.2.2.2.2.2.2.2.2.2.2.2.2.2.2.2.2.2.2.2.2.2.2.2.2.2.2.2.2.2.2.2.2.2.2.2.2.2.2.1))))))
    have k_xDV : xDV W := by
      rw [hW]
      exact (uxDV rfl (uxDV rfl (uxDV rfl (uxDV rfl (uxDV rfl (uxDV rfl hI.2.2.2.2.2.2.2.2.2.2.2.2.2.2.2.2.2.2.2.2.2.2.2.2.2.2.2.2.2.2.2.2.2.2.2.2.2.2.2.2.2.2.2.2.1))))))
    have k_xDP : xDP W := by
      rw [hW]
      exact (uxDP rfl (uxDP rfl (uxDP rfl (uxDP rfl (uxDP rfl (uxDP rfl hI.2.2.2.2.2.2.2.2.2.2.2.2.2.2.2.2.2.2.2.2.2.2.2.2.2.2.2.2.2.2.2.2.2.2.2.2.2.2.2.2.2.2.2.2.2.1))))))
    have k_xDE : xDE W := by
      rw [hW]
      exact (uxDE rfl (uxDE rfl (uxDE rfl (uxDE rfl (uxDE rfl (uxDE rfl hI.2.2.2.2.2.2.2.2.2.2.2.2.2.2.2.2.2.2.2.2.2.2.2.2.2.2.2.2.2.2.2.2.2.2.2.2.2.2.2.2.2.2.2.2.2.2.1))))))
    have k_xQ5 : xQ5 W := by
      rw [hW]
      exact (uxQ5 rfl (uxQ5 rfl (uxQ5 rfl (uxQ5 rfl (uxQ5 rfl (uxQ5 rfl hI.2.2.2.2.2.2.2.2.2.2.2.2.2.2.2.2.2.2.2.2.2.2.2.2.2.2.2.2.2.2.2.2.2.2.2.2.2.2.2.2.2.2.2.2.2.2.2.1))))))
    have k_xQL : xQL W := by
      rw [hW]
      exact (uxQL rfl (uxQL rfl (uxQL rfl (uxQL rfl (uxQL rfl (uxQL rfl hI.2.2.2.2.2.2.2.2.2.2.2.2.2.2.2.2.2.2.2.2.2.2.2.2.2.2.2.2.2.2.2.2.2.2.2.2.2.2.2.2.2.2.2.2.2.2.2.2.1))))))
    have k_xQW : xQW W := by
      rw [hW]
      exact (uxQW rfl (uxQW rfl (uxQW rfl (uxQW rfl (uxQW rfl (uxQW rfl hI.2.2.2.2.2.2.2.2.2.2.2.2.2.2.2.2.2.2.2.2.2.2.2.2.2.2.2.2.2.2.2.2.2.2.2.2.2.2.2.2.2.2.2.2.2.2.2.2.2.1))))))
    have k_xQM : xQM W := by
      rw [hW]
      exact (uxQM rfl (uxQM rfl (uxQM rfl (uxQM rfl (uxQM rfl (uxQM rfl hI.2.2.2.2.2.2.2.2.2.2.2.2.2.2.2.2.2.2.2.2.2.2.2.2.2.2.2.2.2.2.2.2.2.2.2.2.2.2.2.2.2.2.2.2.2.2.2.2.2.2.1))))))
    have k_xQH : xQH W := by
      rw [hW]
      exact (uxQH rfl (uxQH rfl (uxQH rfl (uxQH rfl (uxQH rfl (uxQH rfl hI.2.2.2.2.2.2.2.2.2.2.2.2.2.2.2.2.2.2.2.2.2.2.2.2.2.2.2.2.2.2.2.2.2.2.2.2.2.2.2.2.2.2.2.2.2.2.2.2.2.2.2))))))
    have k_XC : XC W := ⟨k_xS1, k_xS2, k_xS3, k_xS4, k_xS5, k_xS6, k_xS7, k_xS8, k_xS9, k_xSA, k_xSG, k_xSF, k_xSB, k_xSC, k_xSD, k_xSE, k_xSW, k_xST, k_xSP, k_xSL, k_xSM, k_xSI, k_xD3, k_xDV, k_xDP, k_xDE, k_xQ5, k_xQL, k_xQW, k_xQM, k_xQH⟩
    have kXB : XB W := ⟨k_xN1, k_xN2, k_xN3, k_xN4, k_xN5, k_xN6, k_xH1, k_xK1, k_xC1, k_xRW, k_xWT, k_xCU, k_xG2, k_xG3, k_xG4, k_xG5, k_xG6, k_XC⟩
    exact ⟨base, k2, k3, kXA, kXB⟩
-- wPushJ
def xr_334 : qRu := (5, [[(-33, 0), (1, 2)], [(35, 0), (-1, 2)], [(1, 1)]], [(4, 276, [(1, 1)]), (4, 270, [(1, 3)]), (4, 271, [(1, 4)]), (55, 1001, [(1, 2)])], [], [(4, 276, [(1, 0), (1, 1)]), (4, 272, [(1, 3)]), (4, 273, [(1, 4)]), (4, 270, []), (4, 271, [(1, 4)]), (4, 274, [(1, 0)])], [])
theorem xo_334 : qRok xr_334 := by
  intro ρ M h0 hf hm hI
  have f0 := hf [(-33, 0), (1, 2)] (by decide)
  have f1 := hf [(35, 0), (-1, 2)] (by decide)
  have f2 := hf [(1, 1)] (by decide)
  simp only [qD, h0] at f0 f1 f2
  have m0 : M 4 276 = 1 * ρ 1 + 0 := hm (4, 276, [(1, 1)]) (by decide)
  have m1 : M 4 270 = 1 * ρ 3 + 0 := hm (4, 270, [(1, 3)]) (by decide)
  have m2 : M 4 271 = 1 * ρ 4 + 0 := hm (4, 271, [(1, 4)]) (by decide)
  have m3 : M 55 (zIx ρ (1000 + 1)) = 1 * ρ 2 + 0 := hm (55, 1001, [(1, 2)]) (by decide)
  rw [zix_p] at m3
  have qxSW := hI.2.2.2.2.2.2.2.2.2.2.2.2.2.2.2.2.2.2.2.2.2.2.2.2.2.2.2.2.2.2.2.2.2.2.2.2.2.1
  refine ⟨ρ, fun _ _ => rfl, fun f h => ?_, ?_⟩
  · exact nomatch h
  · show sI (sU (sU (sU (sU (sU (sU M 4 276 (1 * ρ 0 + (1 * ρ 1 + 0))) 4 272 (1 * ρ 3 + 0)) 4 273 (1 * ρ 4 + 0)) 4 270 (0)) 4 271 (1 * ρ 4 + 0)) 4 274 (1 * ρ 0 + 0))
    obtain ⟨W, hW⟩ : ∃ W, W = (sU (sU (sU (sU (sU (sU M 4 276 (1 * ρ 0 + (1 * ρ 1 + 0))) 4 272 (1 * ρ 3 + 0)) 4 273 (1 * ρ 4 + 0)) 4 270 (0)) 4 271 (1 * ρ 4 + 0)) 4 274 (1 * ρ 0 + 0)) := ⟨_, rfl⟩
    rw [← hW]
    have base : sI0 W := by
      rw [hW]
      exact (si_u0 (si_u0 (si_u0 (si_u0 (si_u0 (si_u0 hI.1 (fun r hr => by cases hr)) (fun r hr => by cases hr)) (fun r hr => by cases hr)) (fun r hr => by cases hr)) (fun r hr => by cases hr)) (fun r hr => by cases hr))
    have k2 : XI2 W := by
      rw [hW]
      exact (xi2_u rfl (xi2_u rfl (xi2_u rfl (xi2_u rfl (xi2_u rfl (xi2_u rfl hI.2.1))))))
    have k3 : XI3 W := by
      rw [hW]
      exact (xi3_u rfl (xi3_u rfl (xi3_u rfl (xi3_u rfl (xi3_u rfl (xi3_u rfl hI.2.2.1))))))
    have kXA : XA W := by
      rw [hW]
      exact (uXA rfl (uXA rfl (uXA rfl (uXA rfl (uXA rfl (uXA rfl hI.2.2.2.1))))))
    have k_xN1 : xN1 W := by
      rw [hW]
      exact (uxN1 rfl (uxN1 rfl (uxN1 rfl (uxN1 rfl (uxN1 rfl (uxN1 rfl hI.2.2.2.2.1))))))
    have k_xN2 : xN2 W := by
      rw [hW]
      exact (uxN2 rfl (uxN2 rfl (uxN2 rfl (uxN2 rfl (uxN2 rfl (uxN2 rfl hI.2.2.2.2.2.1))))))
    have k_xN3 : xN3 W := by
      rw [hW]
      exact (uxN3 rfl (uxN3 rfl (uxN3 rfl (uxN3 rfl (uxN3 rfl (uxN3 rfl hI.2.2.2.2.2.2.1))))))
    have k_xN4 : xN4 W := by
      rw [hW]
      exact (uxN4 rfl (uxN4 rfl (uxN4 rfl (uxN4 rfl (uxN4 rfl (uxN4 rfl hI.2.2.2.2.2.2.2.1))))))
    have k_xN5 : xN5 W := by
      rw [hW]
      exact (uxN5 rfl (uxN5 rfl (uxN5 rfl (uxN5 rfl (uxN5 rfl (uxN5 rfl hI.2.2.2.2.2.2.2.2.1))))))
    have k_xN6 : xN6 W := by
      rw [hW]
      exact (uxN6 rfl (uxN6 rfl (uxN6 rfl (uxN6 rfl (uxN6 rfl (uxN6 rfl hI.2.2.2.2.2.2.2.2.2.1))))))
    have k_xH1 : xH1 W := by
      rw [hW]
      exact (uxH1 rfl (uxH1 rfl (uxH1 rfl (uxH1 rfl (uxH1 rfl (uxH1 rfl hI.2.2.2.2.2.2.2.2.2.2.1))))))
    have k_xK1 : xK1 W := by
      rw [hW]
      exact (uxK1 rfl (uxK1 rfl (uxK1 rfl (uxK1 rfl (uxK1 rfl (uxK1 rfl hI.2.2.2.2.2.2.2.2.2.2.2.1))))))
    have k_xC1 : xC1 W := by
      rw [hW]
      exact (uxC1 rfl (uxC1 rfl (uxC1 rfl (uxC1 rfl (uxC1 rfl (uxC1 rfl hI.2.2.2.2.2.2.2.2.2.2.2.2.1))))))
    have k_xRW : xRW W := by
      rw [hW]
      exact (uxRW rfl (uxRW rfl (uxRW rfl (uxRW rfl (uxRW rfl (uxRW rfl hI.2.2.2.2.2.2.2.2.2.2.2.2.2.1))))))
    have k_xWT : xWT W := by
      rw [hW]
      exact (uxWT rfl (uxWT rfl (uxWT rfl (uxWT rfl (uxWT rfl (uxWT rfl hI.2.2.2.2.2.2.2.2.2.2.2.2.2.2.1))))))
    have k_xCU : xCU W := by
      rw [hW]
      exact (uxCU rfl (uxCU rfl (uxCU rfl (uxCU rfl (uxCU rfl (uxCU rfl hI.2.2.2.2.2.2.2.2.2.2.2.2.2.2.2.1))))))
    have k_xG2 : xG2 W := by
      rw [hW]
      exact (uxG2 rfl (uxG2 rfl (uxG2 rfl (uxG2 rfl (uxG2 rfl (uxG2 rfl hI.2.2.2.2.2.2.2.2.2.2.2.2.2.2.2.2.1))))))
    have k_xG3 : xG3 W := by
      rw [hW]
      exact (uxG3 rfl (uxG3 rfl (uxG3 rfl (uxG3 rfl (uxG3 rfl (uxG3 rfl hI.2.2.2.2.2.2.2.2.2.2.2.2.2.2.2.2.2.1))))))
    have k_xG4 : xG4 W := by
      rw [hW]
      exact (uxG4 rfl (uxG4 rfl (uxG4 rfl (uxG4 rfl (uxG4 rfl (uxG4 rfl hI.2.2.2.2.2.2.2.2.2.2.2.2.2.2.2.2.2.2.1))))))
    have k_xG5 : xG5 W := by
      rw [hW]
      exact (uxG5 rfl (uxG5 rfl (uxG5 rfl (uxG5 rfl (uxG5 rfl (uxG5 rfl hI.2.2.2.2.2.2.2.2.2.2.2.2.2.2.2.2.2.2.2.1))))))
    have k_xG6 : xG6 W := by
      rw [hW]
      exact (uxG6 rfl (uxG6 rfl (uxG6 rfl (uxG6 rfl (uxG6 rfl (uxG6 rfl hI.2.2.2.2.2.2.2.2.2.2.2.2.2.2.2.2.2.2.2.2.1))))))
    have k_xS1 : xS1 W := by
      rw [hW]
      exact (uxS1 rfl (uxS1 rfl (uxS1 rfl (uxS1 rfl (uxS1 rfl (uxS1 rfl hI.2.2.2.2.2.2.2.2.2.2.2.2.2.2.2.2.2.2.2.2.2.1))))))
    have k_xS2 : xS2 W := by
      rw [hW]
      exact (uxS2 rfl (uxS2 rfl (uxS2 rfl (uxS2 rfl (uxS2 rfl (uxS2 rfl hI.2.2.2.2.2.2.2.2.2.2.2.2.2.2.2.2.2.2.2.2.2.2.1))))))
    have k_xS3 : xS3 W := by
      rw [hW]
      exact (uxS3 rfl (uxS3 rfl (uxS3 rfl (uxS3 rfl (uxS3 rfl (uxS3 rfl hI.2.2.2.2.2.2.2.2.2.2.2.2.2.2.2.2.2.2.2.2.2.2.2.1))))))
    have k_xS4 : xS4 W := by
      rw [hW]
      exact (uxS4 rfl (uxS4 rfl (uxS4 rfl (uxS4 rfl (uxS4 rfl (uxS4 rfl hI.2.2.2.2.2.2.2.2.2.2.2.2.2.2.2.2.2.2.2.2.2.2.2.2.1))))))
    have k_xS5 : xS5 W := by
      rw [hW]
      exact (uxS5 rfl (uxS5 rfl (uxS5 rfl (uxS5 rfl (uxS5 rfl (uxS5 rfl hI.2.2.2.2.2.2.2.2.2.2.2.2.2.2.2.2.2.2.2.2.2.2.2.2.2.1))))))
    have k_xS6 : xS6 W := by
      rw [hW]
      exact (uxS6 rfl (uxS6 rfl (uxS6 rfl (uxS6 rfl (uxS6 rfl (uxS6 rfl hI.2.2.2.2.2.2.2.2.2.2.2.2.2.2.2.2.2.2.2.2.2.2.2.2.2.2.1))))))
    have k_xS7 : xS7 W := by
      rw [hW]
      exact (uxS7 rfl (uxS7 rfl (uxS7 rfl (uxS7 rfl (uxS7 rfl (uxS7 rfl hI.2.2.2.2.2.2.2.2.2.2.2.2.2.2.2.2.2.2.2.2.2.2.2.2.2.2.2.1))))))
    have k_xS8 : xS8 W := by
      rw [hW]
      exact (uxS8 rfl (uxS8 rfl (uxS8 rfl (uxS8 rfl (uxS8 rfl (uxS8 rfl hI.2.2.2.2.2.2.2.2.2.2.2.2.2.2.2.2.2.2.2.2.2.2.2.2.2.2.2.2.1))))))
    have k_xS9 : xS9 W := by
      rw [hW]
      exact (uxS9 rfl (uxS9 rfl (uxS9 rfl (uxS9 rfl (uxS9 rfl (uxS9 rfl hI.2.2.2.2.2.2.2.2.2.2.2.2.2.2.2.2.2.2.2.2.2.2.2.2.2.2.2.2.2.1))))))
    have k_xSA : xSA W := by
      rw [hW]
      exact (uxSA rfl (uxSA rfl (uxSA rfl (uxSA rfl (uxSA rfl (uxSA rfl hI.2.2.2.2.2.2.2.2.2.2.2.2.2.2.2.2.2.2.2.2.2.2.2.2.2.2.2.2.2.2.1))))))
    have k_xSG : xSG W := by
      rw [hW]
      exact (uxSG rfl (uxSG rfl (uxSG rfl (uxSG rfl (uxSG rfl (uxSG rfl hI.2.2.2.2.2.2.2.2.2.2.2.2.2.2.2.2.2.2.2.2.2.2.2.2.2.2.2.2.2.2.2.1))))))
    have k_xSF : xSF W := by
      rw [hW]
      exact (uxSF rfl (uxSF rfl (uxSF rfl (uxSF rfl (uxSF rfl (uxSF rfl hI.2.2.2.2.2.2.2.2.2.2.2.2.2.2.2.2.2.2.2.2.2.2.2.2.2.2.2.2.2.2.2.2.1))))))
    have k_xSB : xSB W := by
      rw [hW]
      exact (uxSB rfl (uxSB rfl (uxSB rfl (uxSB rfl (uxSB rfl (uxSB rfl hI.2.2.2.2.2.2.2.2.2.2.2.2.2.2.2.2.2.2.2.2.2.2.2.2.2.2.2.2.2.2.2.2.2.1))))))
    have k_xSC : xSC W := by
      rw [hW]
      exact (uxSC rfl (uxSC rfl (uxSC rfl (uxSC rfl (uxSC rfl (uxSC rfl hI.2.2.2.2.2.2.2.2.2.2.2.2.2.2.2.2.2.2.2.2.2.2.2.2.2.2.2.2.2.2.2.2.2.2.1))))))
    have k_xSD : xSD W := by
      rw [hW]
      exact (uxSD rfl (uxSD rfl (uxSD rfl (uxSD rfl (uxSD rfl (uxSD rfl hI.2.2.2.2.2.2.2.2.2.2.2.2.2.2.2.2.2.2.2.2.2.2.2.2.2.2.2.2.2.2.2.2.2.2.2.1))))))
    have k_xSE : xSE W := by
      rw [hW]
      exact (uxSE rfl (uxSE rfl (uxSE rfl (uxSE rfl (uxSE rfl (uxSE rfl hI.2.2.2.2.2.2.2.2.2.2.2.2.2.2.2.2.2.2.2.2.2.2.2.2.2.2.2.2.2.2.2.2.2.2.2.2.1))))))
    have k_xSW : xSW W := by
      have r4_270 : W 4 270 = 0 := by rw [hW, sU_ne (fun z => by omega), sU_ne (fun z => by omega), sU_at]
      have r4_271 : W 4 271 = 1 * ρ 4 + 0 := by rw [hW, sU_ne (fun z => by omega), sU_at]
      have r4_272 : W 4 272 = 1 * ρ 3 + 0 := by rw [hW, sU_ne (fun z => by omega), sU_ne (fun z => by omega), sU_ne (fun z => by omega), sU_ne (fun z => by omega), sU_at]
      have r4_273 : W 4 273 = 1 * ρ 4 + 0 := by rw [hW, sU_ne (fun z => by omega), sU_ne (fun z => by omega), sU_ne (fun z => by omega), sU_at]
      have r4_274 : W 4 274 = 1 * ρ 0 + 0 := by rw [hW, sU_at]
      have r4_276 : W 4 276 = 1 * ρ 0 + (1 * ρ 1 + 0) := by rw [hW, sU_ne (fun z => by omega), sU_ne (fun z => by omega), sU_ne (fun z => by omega), sU_ne (fun z => by omega), sU_ne (fun z => by omega), sU_at]
      have c55 : ∀ k, W 55 k = M 55 k := fun k => by rw [hW, sU_ne (fun z => by omega), sU_ne (fun z => by omega), sU_ne (fun z => by omega), sU_ne (fun z => by omega), sU_ne (fun z => by omega), sU_ne (fun z => by omega)]
      have e55 : W 55 = M 55 := funext c55
      unfold xSW
      rw [r4_270, r4_271, r4_272, r4_273, r4_274, r4_276]
      have s1 : (1 * ρ 0 + (1 * ρ 1 + 0)).toNat = (M 4 276).toNat + 1 := by rw [h0]; omega
      have s2 : (1 * ρ 0 + (1 * ρ 1 + 0)).toNat - 1 = (M 4 276).toNat := by rw [h0]; omega
      rw [s2, s1, xws_c c55, xws_c c55, xwn_c c55]
      obtain ⟨w1, w2, w3, w4, w5⟩ := gx_xSW hI
      rw [← w2]
      have hv : M 55 (M 4 276).toNat = ρ 2 := by rw [show (M 4 276).toNat = (ρ 1).toNat by omega]; omega
      have hx : xWs M ((M 4 276).toNat + 1) = (if M 55 (M 4 276).toNat = 6 then (0, 2 * (xWs M (M 4 276).toNat).2 + (xWs M (M 4 276).toNat).1) else if 12 ≤ M 55 (M 4 276).toNat ∧ M 55 (M 4 276).toNat ≤ 17 then (1, (xWs M (M 4 276).toNat).2) else if 33 ≤ M 55 (M 4 276).toNat ∧ M 55 (M 4 276).toNat ≤ 35 then (0, (xWs M (M 4 276).toNat).2) else xWs M (M 4 276).toNat) := rfl
      have hn : xWn M ((M 4 276).toNat + 1) = xKn (M 55 (M 4 276).toNat) := rfl
      rw [hx, hn, ← w2, hv]
      unfold xKn

      rw [if_neg (by omega), if_neg (by omega), if_pos (by omega), if_neg (by omega), if_pos (by omega)]
      refine ⟨by rw [h0]; omega, ?_, ?_, ?_, fun i hi => ?_⟩
      · (try rw [h0])
        refine Prod.ext ?_ ?_
        · first | omega | (dsimp only; done) | (dsimp only; omega)
        · first | omega | (dsimp only; done) | (dsimp only; omega)
      · refine Prod.ext ?_ ?_
        · first | omega | (dsimp only; done) | (dsimp only; omega)
        · first | omega | (dsimp only; done) | (dsimp only; omega)
      · (try rw [h0])
        (try omega)
      · rw [c55]
        by_cases hq : (i : Int) < M 4 276
        · exact w5 i hq
        · have ei : i = (M 4 276).toNat := by rw [h0] at hi; omega
          rw [ei, hv]
          unfold xKo
          omega
    have k_xST : xST W := by
      rw [hW]
      exact (uxST rfl (uxST rfl (uxST rfl (uxST rfl (uxST rfl (uxST rfl hI.2.2.2.2.2.2.2.2.2.2.2.2.2.2.2.2.2.2.2.2.2.2.2.2.2.2.2.2.2.2.2.2.2.2.2.2.2.2.1))))))
    have k_xSP : xSP W := by
      rw [hW]
      exact (uxSP rfl (uxSP rfl (uxSP rfl (uxSP rfl (uxSP rfl (uxSP rfl hI.2.2.2.2.2.2.2.2.2.2.2.2.2.2.2.2.2.2.2.2.2.2.2.2.2.2.2.2.2.2.2.2.2.2.2.2.2.2.2.1))))))
    have k_xSL : xSL W := by
      rw [hW]
      exact (uxSL rfl (uxSL rfl (uxSL rfl (uxSL rfl (uxSL rfl (uxSL rfl hI.2.2.2.2.2.2.2.2.2.2.2.2.2.2.2.2.2.2.2.2.2.2.2.2.2.2.2.2.2.2.2.2.2.2.2.2.2.2.2.2.1))))))
    have k_xSM : xSM W := by
      rw [hW]
      exact (uxSM rfl (uxSM rfl (uxSM rfl (uxSM rfl (uxSM rfl (uxSM rfl hI.2.2.2.2.2.2.2.2.2.2.2.2.2.2.2.2.2.2.2.2.2.2.2.2.2.2.2.2.2.2.2.2.2.2.2.2.2.2.2.2.2.1))))))
    have k_xSI : xSI W := by
      rw [hW]
      exact (uxSI rfl (uxSI rfl (uxSI rfl (uxSI rfl (uxSI rfl (uxSI rfl hI.2.2.2.2.2.2.2.2.2.2.2.2.2.2.2.2.2.2.2.2.2.2.2.2.2.2.2.2.2.2.2.2.2.2.2.2.2.2.2.2.2.2.1))))))
    have k_xD3 : xD3 W := by
      rw [hW]
      exact (uxD3 rfl (uxD3 rfl (uxD3 rfl (uxD3 rfl (uxD3 rfl (uxD3 rfl hI.2.2.2.2.2.2.2.2.2.2.2.2.2.2.2.2.2.2.2.2.2.2.2.2.2.2.2.2.2.2.2.2.2.2.2.2.2.2.2.2.2.2.2.1))))))
    have k_xDV : xDV W := by
      rw [hW]
      exact (uxDV rfl (uxDV rfl (uxDV rfl (uxDV rfl (uxDV rfl (uxDV rfl hI.2.2.2.2.2.2.2.2.2.2.2.2.2.2.2.2.2.2.2.2.2.2.2.2.2.2.2.2.2.2.2.2.2.2.2.2.2.2.2.2.2.2.2.2.1))))))
    have k_xDP : xDP W := by
      rw [hW]
      exact (uxDP rfl (uxDP rfl (uxDP rfl (uxDP rfl (uxDP rfl (uxDP rfl hI.2.2.2.2.2.2.2.2.2.2.2.2.2.2.2.2.2.2.2.2.2.2.2.2.2.2.2.2.2.2.2.2.2.2.2.2.2.2.2.2.2.2.2.2.2.1))))))
    have k_xDE : xDE W := by
      rw [hW]
      exact (uxDE rfl (uxDE rfl (uxDE rfl (uxDE rfl (uxDE rfl (uxDE rfl hI.2.2.2.2.2.2.2.2.2.2.2.2.2.2.2.2.2.2.2.2.2.2.2.2.2.2.2.2.2.2.2.2.2.2.2.2.2.2.2.2.2.2.2.2.2.2.1))))))
    have k_xQ5 : xQ5 W := by
      rw [hW]
      exact (uxQ5 rfl (uxQ5 rfl (uxQ5 rfl (uxQ5 rfl (uxQ5 rfl (uxQ5 rfl hI.2.2.2.2.2.2.2.2.2.2.2.2.2.2.2.2.2.2.2.2.2.2.2.2.2.2.2.2.2.2.2.2.2.2.2.2.2.2.2.2.2.2.2.2.2.2.2.1))))))
    have k_xQL : xQL W := by
      rw [hW]
      exact (uxQL rfl (uxQL rfl (uxQL rfl (uxQL rfl (uxQL rfl (uxQL rfl hI.2.2.2.2.2.2.2.2.2.2.2.2.2.2.2.2.2.2.2.2.2.2.2.2.2.2.2.2.2.2.2.2.2.2.2.2.2.2.2.2.2.2.2.2.2.2.2.2.1))))))
    have k_xQW : xQW W := by
      rw [hW]
      exact (uxQW rfl (uxQW rfl (uxQW rfl (uxQW rfl (uxQW rfl (uxQW rfl hI.2.2.2.2.2.2.2.2.2.2.2.2.2.2.2.2.2.2.2.2.2.2.2.2.2.2.2.2.2.2.2.2.2.2.2.2.2.2.2.2.2.2.2.2.2.2.2.2.2.1))))))
    have k_xQM : xQM W := by
      rw [hW]
      exact (uxQM rfl (uxQM rfl (uxQM rfl (uxQM rfl (uxQM rfl (uxQM rfl hI.2.2.2.2.2.2.2.2.2.2.2.2.2.2.2.2.2.2.2.2.2.2.2.2.2.2.2.2.2.2.2.2.2.2.2.2.2.2.2.2.2.2.2.2.2.2.2.2.2.2.1))))))
    have k_xQH : xQH W := by
      rw [hW]
      exact (uxQH rfl (uxQH rfl (uxQH rfl (uxQH rfl (uxQH rfl (uxQH rfl hI.2.2.2.2.2.2.2.2.2.2.2.2.2.2.2.2.2.2.2.2.2.2.2.2.2.2.2.2.2.2.2.2.2.2.2.2.2.2.2.2.2.2.2.2.2.2.2.2.2.2.2))))))
    have k_XC : XC W := ⟨k_xS1, k_xS2, k_xS3, k_xS4, k_xS5, k_xS6, k_xS7, k_xS8, k_xS9, k_xSA, k_xSG, k_xSF, k_xSB, k_xSC, k_xSD, k_xSE, k_xSW, k_xST, k_xSP, k_xSL, k_xSM, k_xSI, k_xD3, k_xDV, k_xDP, k_xDE, k_xQ5, k_xQL, k_xQW, k_xQM, k_xQH⟩
    have kXB : XB W := ⟨k_xN1, k_xN2, k_xN3, k_xN4, k_xN5, k_xN6, k_xH1, k_xK1, k_xC1, k_xRW, k_xWT, k_xCU, k_xG2, k_xG3, k_xG4, k_xG5, k_xG6, k_XC⟩
    exact ⟨base, k2, k3, kXA, kXB⟩
-- wPushA
def xr_335 : qRu := (5, [[(-8, 0), (1, 2)], [(11, 0), (-1, 2)], [(1, 1)]], [(4, 276, [(1, 1)]), (4, 270, [(1, 3)]), (4, 271, [(1, 4)]), (55, 1001, [(1, 2)])], [], [(4, 276, [(1, 0), (1, 1)]), (4, 272, [(1, 3)]), (4, 273, [(1, 4)]), (4, 270, [(1, 3)]), (4, 271, [(1, 4)]), (4, 274, [(3, 0)])], [])
theorem xo_335 : qRok xr_335 := by
  intro ρ M h0 hf hm hI
  have f0 := hf [(-8, 0), (1, 2)] (by decide)
  have f1 := hf [(11, 0), (-1, 2)] (by decide)
  have f2 := hf [(1, 1)] (by decide)
  simp only [qD, h0] at f0 f1 f2
  have m0 : M 4 276 = 1 * ρ 1 + 0 := hm (4, 276, [(1, 1)]) (by decide)
  have m1 : M 4 270 = 1 * ρ 3 + 0 := hm (4, 270, [(1, 3)]) (by decide)
  have m2 : M 4 271 = 1 * ρ 4 + 0 := hm (4, 271, [(1, 4)]) (by decide)
  have m3 : M 55 (zIx ρ (1000 + 1)) = 1 * ρ 2 + 0 := hm (55, 1001, [(1, 2)]) (by decide)
  rw [zix_p] at m3
  have qxSW := hI.2.2.2.2.2.2.2.2.2.2.2.2.2.2.2.2.2.2.2.2.2.2.2.2.2.2.2.2.2.2.2.2.2.2.2.2.2.1
  refine ⟨ρ, fun _ _ => rfl, fun f h => ?_, ?_⟩
  · exact nomatch h
  · show sI (sU (sU (sU (sU (sU (sU M 4 276 (1 * ρ 0 + (1 * ρ 1 + 0))) 4 272 (1 * ρ 3 + 0)) 4 273 (1 * ρ 4 + 0)) 4 270 (1 * ρ 3 + 0)) 4 271 (1 * ρ 4 + 0)) 4 274 (3 * ρ 0 + 0))
    obtain ⟨W, hW⟩ : ∃ W, W = (sU (sU (sU (sU (sU (sU M 4 276 (1 * ρ 0 + (1 * ρ 1 + 0))) 4 272 (1 * ρ 3 + 0)) 4 273 (1 * ρ 4 + 0)) 4 270 (1 * ρ 3 + 0)) 4 271 (1 * ρ 4 + 0)) 4 274 (3 * ρ 0 + 0)) := ⟨_, rfl⟩
    rw [← hW]
    have base : sI0 W := by
      rw [hW]
      exact (si_u0 (si_u0 (si_u0 (si_u0 (si_u0 (si_u0 hI.1 (fun r hr => by cases hr)) (fun r hr => by cases hr)) (fun r hr => by cases hr)) (fun r hr => by cases hr)) (fun r hr => by cases hr)) (fun r hr => by cases hr))
    have k2 : XI2 W := by
      rw [hW]
      exact (xi2_u rfl (xi2_u rfl (xi2_u rfl (xi2_u rfl (xi2_u rfl (xi2_u rfl hI.2.1))))))
    have k3 : XI3 W := by
      rw [hW]
      exact (xi3_u rfl (xi3_u rfl (xi3_u rfl (xi3_u rfl (xi3_u rfl (xi3_u rfl hI.2.2.1))))))
    have kXA : XA W := by
      rw [hW]
      exact (uXA rfl (uXA rfl (uXA rfl (uXA rfl (uXA rfl (uXA rfl hI.2.2.2.1))))))
    have k_xN1 : xN1 W := by
      rw [hW]
      exact (uxN1 rfl (uxN1 rfl (uxN1 rfl (uxN1 rfl (uxN1 rfl (uxN1 rfl hI.2.2.2.2.1))))))
    have k_xN2 : xN2 W := by
      rw [hW]
      exact (uxN2 rfl (uxN2 rfl (uxN2 rfl (uxN2 rfl (uxN2 rfl (uxN2 rfl hI.2.2.2.2.2.1))))))
    have k_xN3 : xN3 W := by
      rw [hW]
      exact (uxN3 rfl (uxN3 rfl (uxN3 rfl (uxN3 rfl (uxN3 rfl (uxN3 rfl hI.2.2.2.2.2.2.1))))))
    have k_xN4 : xN4 W := by
      rw [hW]
      exact (uxN4 rfl (uxN4 rfl (uxN4 rfl (uxN4 rfl (uxN4 rfl (uxN4 rfl hI.2.2.2.2.2.2.2.1))))))
    have k_xN5 : xN5 W := by
      rw [hW]
      exact (uxN5 rfl (uxN5 rfl (uxN5 rfl (uxN5 rfl (uxN5 rfl (uxN5 rfl hI.2.2.2.2.2.2.2.2.1))))))
    have k_xN6 : xN6 W := by
      rw [hW]
      exact (uxN6 rfl (uxN6 rfl (uxN6 rfl (uxN6 rfl (uxN6 rfl (uxN6 rfl hI.2.2.2.2.2.2.2.2.2.1))))))
    have k_xH1 : xH1 W := by
      rw [hW]
      exact (uxH1 rfl (uxH1 rfl (uxH1 rfl (uxH1 rfl (uxH1 rfl (uxH1 rfl hI.2.2.2.2.2.2.2.2.2.2.1))))))
    have k_xK1 : xK1 W := by
      rw [hW]
      exact (uxK1 rfl (uxK1 rfl (uxK1 rfl (uxK1 rfl (uxK1 rfl (uxK1 rfl hI.2.2.2.2.2.2.2.2.2.2.2.1))))))
    have k_xC1 : xC1 W := by
      rw [hW]
      exact (uxC1 rfl (uxC1 rfl (uxC1 rfl (uxC1 rfl (uxC1 rfl (uxC1 rfl hI.2.2.2.2.2.2.2.2.2.2.2.2.1))))))
    have k_xRW : xRW W := by
      rw [hW]
      exact (uxRW rfl (uxRW rfl (uxRW rfl (uxRW rfl (uxRW rfl (uxRW rfl hI.2.2.2.2.2.2.2.2.2.2.2.2.2.1))))))
    have k_xWT : xWT W := by
      rw [hW]
      exact (uxWT rfl (uxWT rfl (uxWT rfl (uxWT rfl (uxWT rfl (uxWT rfl hI.2.2.2.2.2.2.2.2.2.2.2.2.2.2.1))))))
    have k_xCU : xCU W := by
      rw [hW]
      exact (uxCU rfl (uxCU rfl (uxCU rfl (uxCU rfl (uxCU rfl (uxCU rfl hI.2.2.2.2.2.2.2.2.2.2.2.2.2.2.2.1))))))
    have k_xG2 : xG2 W := by
      rw [hW]
      exact (uxG2 rfl (uxG2 rfl (uxG2 rfl (uxG2 rfl (uxG2 rfl (uxG2 rfl hI.2.2.2.2.2.2.2.2.2.2.2.2.2.2.2.2.1))))))
    have k_xG3 : xG3 W := by
      rw [hW]
      exact (uxG3 rfl (uxG3 rfl (uxG3 rfl (uxG3 rfl (uxG3 rfl (uxG3 rfl hI.2.2.2.2.2.2.2.2.2.2.2.2.2.2.2.2.2.1))))))
    have k_xG4 : xG4 W := by
      rw [hW]
      exact (uxG4 rfl (uxG4 rfl (uxG4 rfl (uxG4 rfl (uxG4 rfl (uxG4 rfl hI.2.2.2.2.2.2.2.2.2.2.2.2.2.2.2.2.2.2.1))))))
    have k_xG5 : xG5 W := by
      rw [hW]
      exact (uxG5 rfl (uxG5 rfl (uxG5 rfl (uxG5 rfl (uxG5 rfl (uxG5 rfl hI.2.2.2.2.2.2.2.2.2.2.2.2.2.2.2.2.2.2.2.1))))))
    have k_xG6 : xG6 W := by
      rw [hW]
      exact (uxG6 rfl (uxG6 rfl (uxG6 rfl (uxG6 rfl (uxG6 rfl (uxG6 rfl hI.2.2.2.2.2.2.2.2.2.2.2.2.2.2.2.2.2.2.2.2.1))))))
    have k_xS1 : xS1 W := by
      rw [hW]
      exact (uxS1 rfl (uxS1 rfl (uxS1 rfl (uxS1 rfl (uxS1 rfl (uxS1 rfl hI.2.2.2.2.2.2.2.2.2.2.2.2.2.2.2.2.2.2.2.2.2.1))))))
    have k_xS2 : xS2 W := by
      rw [hW]
      exact (uxS2 rfl (uxS2 rfl (uxS2 rfl (uxS2 rfl (uxS2 rfl (uxS2 rfl hI.2.2.2.2.2.2.2.2.2.2.2.2.2.2.2.2.2.2.2.2.2.2.1))))))
    have k_xS3 : xS3 W := by
      rw [hW]
      exact (uxS3 rfl (uxS3 rfl (uxS3 rfl (uxS3 rfl (uxS3 rfl (uxS3 rfl hI.2.2.2.2.2.2.2.2.2.2.2.2.2.2.2.2.2.2.2.2.2.2.2.1))))))
    have k_xS4 : xS4 W := by
      rw [hW]
      exact (uxS4 rfl (uxS4 rfl (uxS4 rfl (uxS4 rfl (uxS4 rfl (uxS4 rfl hI.2.2.2.2.2.2.2.2.2.2.2.2.2.2.2.2.2.2.2.2.2.2.2.2.1))))))
    have k_xS5 : xS5 W := by
      rw [hW]
      exact (uxS5 rfl (uxS5 rfl (uxS5 rfl (uxS5 rfl (uxS5 rfl (uxS5 rfl hI.2.2.2.2.2.2.2.2.2.2.2.2.2.2.2.2.2.2.2.2.2.2.2.2.2.1))))))
    have k_xS6 : xS6 W := by
      rw [hW]
      exact (uxS6 rfl (uxS6 rfl (uxS6 rfl (uxS6 rfl (uxS6 rfl (uxS6 rfl hI.2.2.2.2.2.2.2.2.2.2.2.2.2.2.2.2.2.2.2.2.2.2.2.2.2.2.1))))))
    have k_xS7 : xS7 W := by
      rw [hW]
      exact (uxS7 rfl (uxS7 rfl (uxS7 rfl (uxS7 rfl (uxS7 rfl (uxS7 rfl hI.2.2.2.2.2.2.2.2.2.2.2.2.2.2.2.2.2.2.2.2.2.2.2.2.2.2.2.1))))))
    have k_xS8 : xS8 W := by
      rw [hW]
      exact (uxS8 rfl (uxS8 rfl (uxS8 rfl (uxS8 rfl (uxS8 rfl (uxS8 rfl hI.2.2.2.2.2.2.2.2.2.2.2.2.2.2.2.2.2.2.2.2.2.2.2.2.2.2.2.2.1))))))
    have k_xS9 : xS9 W := by
      rw [hW]
      exact (uxS9 rfl (uxS9 rfl (uxS9 rfl (uxS9 rfl (uxS9 rfl (uxS9 rfl hI.2.2.2.2.2.2.2.2.2.2.2.2.2.2.2.2.2.2.2.2.2.2.2.2.2.2.2.2.2.1))))))
    have k_xSA : xSA W := by
      rw [hW]
      exact (uxSA rfl (uxSA rfl (uxSA rfl (uxSA rfl (uxSA rfl (uxSA rfl hI.2.2.2.2.2.2.2.2.2.2.2.2.2.2.2.2.2.2.2.2.2.2.2.2.2.2.2.2.2.2.1))))))
    have k_xSG : xSG W := by
      rw [hW]
      exact (uxSG rfl (uxSG rfl (uxSG rfl (uxSG rfl (uxSG rfl (uxSG rfl hI.2.2.2.2.2.2.2.2.2.2.2.2.2.2.2.2.2.2.2.2.2.2.2.2.2.2.2.2.2.2.2.1))))))
    have k_xSF : xSF W := by
      rw [hW]
      exact (uxSF rfl (uxSF rfl (uxSF rfl (uxSF rfl (uxSF rfl (uxSF rfl hI.2.2.2.2.2.2.2.2.2.2.2.2.2.2.2.2.2.2.2.2.2.2.2.2.2.2.2.2.2.2.2.2.1))))))
    have k_xSB : xSB W := by
      rw [hW]
      exact (uxSB rfl (uxSB rfl (uxSB rfl (uxSB rfl (uxSB rfl (uxSB rfl hI.2.2.2.2.2.2.2.2.2.2.2.2.2.2.2.2.2.2.2.2.2.2.2.2.2.2.2.2.2.2.2.2.2.1))))))
    have k_xSC : xSC W := by
      rw [hW]
      exact (uxSC rfl (uxSC rfl (uxSC rfl (uxSC rfl (uxSC rfl (uxSC rfl hI.2.2.2.2.2.2.2.2.2.2.2.2.2.2.2.2.2.2.2.2.2.2.2.2.2.2.2.2.2.2.2.2.2.2.1))))))
    have k_xSD : xSD W := by
      rw [hW]
      exact (uxSD rfl (uxSD rfl (uxSD rfl (uxSD rfl (uxSD rfl (uxSD rfl hI.2.2.2.2.2.2.2.2.2.2.2.2.2.2.2.2.2.2.2.2.2.2.2.2.2.2.2.2.2.2.2.2.2.2.2.1))))))
    have k_xSE : xSE W := by
      rw [hW]
      exact (uxSE rfl (uxSE rfl (uxSE rfl (uxSE rfl (uxSE rfl (uxSE rfl hI.2.2.2.2.2.2.2.2.2.2.2.2.2.2.2.2.2.2.2.2.2.2.2.2.2.2.2.2.2.2.2.2.2.2.2.2.1))))))
    have k_xSW : xSW W := by
      have r4_270 : W 4 270 = 1 * ρ 3 + 0 := by rw [hW, sU_ne (fun z => by omega), sU_ne (fun z => by omega), sU_at]
      have r4_271 : W 4 271 = 1 * ρ 4 + 0 := by rw [hW, sU_ne (fun z => by omega), sU_at]
      have r4_272 : W 4 272 = 1 * ρ 3 + 0 := by rw [hW, sU_ne (fun z => by omega), sU_ne (fun z => by omega), sU_ne (fun z => by omega), sU_ne (fun z => by omega), sU_at]
      have r4_273 : W 4 273 = 1 * ρ 4 + 0 := by rw [hW, sU_ne (fun z => by omega), sU_ne (fun z => by omega), sU_ne (fun z => by omega), sU_at]
      have r4_274 : W 4 274 = 3 * ρ 0 + 0 := by rw [hW, sU_at]
      have r4_276 : W 4 276 = 1 * ρ 0 + (1 * ρ 1 + 0) := by rw [hW, sU_ne (fun z => by omega), sU_ne (fun z => by omega), sU_ne (fun z => by omega), sU_ne (fun z => by omega), sU_ne (fun z => by omega), sU_at]
      have c55 : ∀ k, W 55 k = M 55 k := fun k => by rw [hW, sU_ne (fun z => by omega), sU_ne (fun z => by omega), sU_ne (fun z => by omega), sU_ne (fun z => by omega), sU_ne (fun z => by omega), sU_ne (fun z => by omega)]
      have e55 : W 55 = M 55 := funext c55
      unfold xSW
      rw [r4_270, r4_271, r4_272, r4_273, r4_274, r4_276]
      have s1 : (1 * ρ 0 + (1 * ρ 1 + 0)).toNat = (M 4 276).toNat + 1 := by rw [h0]; omega
      have s2 : (1 * ρ 0 + (1 * ρ 1 + 0)).toNat - 1 = (M 4 276).toNat := by rw [h0]; omega
      rw [s2, s1, xws_c c55, xws_c c55, xwn_c c55]
      obtain ⟨w1, w2, w3, w4, w5⟩ := gx_xSW hI
      rw [← w2]
      have hv : M 55 (M 4 276).toNat = ρ 2 := by rw [show (M 4 276).toNat = (ρ 1).toNat by omega]; omega
      have hx : xWs M ((M 4 276).toNat + 1) = (if M 55 (M 4 276).toNat = 6 then (0, 2 * (xWs M (M 4 276).toNat).2 + (xWs M (M 4 276).toNat).1) else if 12 ≤ M 55 (M 4 276).toNat ∧ M 55 (M 4 276).toNat ≤ 17 then (1, (xWs M (M 4 276).toNat).2) else if 33 ≤ M 55 (M 4 276).toNat ∧ M 55 (M 4 276).toNat ≤ 35 then (0, (xWs M (M 4 276).toNat).2) else xWs M (M 4 276).toNat) := rfl
      have hn : xWn M ((M 4 276).toNat + 1) = xKn (M 55 (M 4 276).toNat) := rfl
      rw [hx, hn, ← w2, hv]
      unfold xKn

      rw [if_neg (by omega), if_neg (by omega), if_neg (by omega), if_neg (by omega), if_neg (by omega), if_neg (by omega)]
      refine ⟨by rw [h0]; omega, ?_, ?_, ?_, fun i hi => ?_⟩
      · (try rw [h0])
        refine Prod.ext ?_ ?_
        · first | omega | (dsimp only; done) | (dsimp only; omega)
        · first | omega | (dsimp only; done) | (dsimp only; omega)
      · refine Prod.ext ?_ ?_
        · first | omega | (dsimp only; done) | (dsimp only; omega)
        · first | omega | (dsimp only; done) | (dsimp only; omega)
      · (try rw [h0])
        (try omega)
      · rw [c55]
        by_cases hq : (i : Int) < M 4 276
        · exact w5 i hq
        · have ei : i = (M 4 276).toNat := by rw [h0] at hi; omega
          rw [ei, hv]
          unfold xKo
          omega
    have k_xST : xST W := by
      rw [hW]
      exact (uxST rfl (uxST rfl (uxST rfl (uxST rfl (uxST rfl (uxST rfl hI.2.2.2.2.2.2.2.2.2.2.2.2.2.2.2.2.2.2.2.2.2.2.2.2.2.2.2.2.2.2.2.2.2.2.2.2.2.2.1))))))
    have k_xSP : xSP W := by
      rw [hW]
      exact (uxSP rfl (uxSP rfl (uxSP rfl (uxSP rfl (uxSP rfl (uxSP rfl hI.2.2.2.2.2.2.2.2.2.2.2.2.2.2.2.2.2.2.2.2.2.2.2.2.2.2.2.2.2.2.2.2.2.2.2.2.2.2.2.1))))))
    have k_xSL : xSL W := by
      rw [hW]
      exact (uxSL rfl (uxSL rfl (uxSL rfl (uxSL rfl (uxSL rfl (uxSL rfl hI.2.2.2.2.2.2.2.2.2.2.2.2.2.2.2.2.2.2.2.2.2.2.2.2.2.2.2.2.2.2.2.2.2.2.2.2.2.2.2.2.1))))))
    have k_xSM : xSM W := by
      rw [hW]
      exact (uxSM rfl (uxSM rfl (uxSM rfl (uxSM rfl (uxSM rfl (uxSM rfl hI.2.2.2.2.2.2.2.2.2.2.2.2.2.2.2.2.2.2.2.2.2.2.2.2.2.2.2.2.2.2.2.2.2.2.2.2.2.2.2.2.2.1))))))
    have k_xSI : xSI W := by
      rw [hW]
      exact (uxSI rfl (uxSI rfl (uxSI rfl (uxSI rfl (uxSI rfl (uxSI rfl hI.2.2.2.2.2.2.2.2.2.2.2.2.2.2.2.2.2.2.2.2.2.2.2.2.2.2.2.2.2.2.2.2.2.2.2.2.2.2.2.2.2.2.1))))))
    have k_xD3 : xD3 W := by
      rw [hW]
      exact (uxD3 rfl (uxD3 rfl (uxD3 rfl (uxD3 rfl (uxD3 rfl (uxD3 rfl hI.2.2.2.2.2.2.2.2.2.2.2.2.2.2.2.2.2.2.2.2.2.2.2.2.2.2.2.2.2.2.2.2.2.2.2.2.2.2.2.2.2.2.2.1))))))
    have k_xDV : xDV W := by
      rw [hW]
      exact (uxDV rfl (uxDV rfl (uxDV rfl (uxDV rfl (uxDV rfl (uxDV rfl hI.2.2.2.2.2.2.2.2.2.2.2.2.2.2.2.2.2.2.2.2.2.2.2.2.2.2.2.2.2.2.2.2.2.2.2.2.2.2.2.2.2.2.2.2.1))))))
    have k_xDP : xDP W := by
      rw [hW]
      exact (uxDP rfl (uxDP rfl (uxDP rfl (uxDP rfl (uxDP rfl (uxDP rfl hI.2.2.2.2.2.2.2.2.2.2.2.2.2.2.2.2.2.2.2.2.2.2.2.2.2.2.2.2.2.2.2.2.2.2.2.2.2.2.2.2.2.2.2.2.2.1))))))
    have k_xDE : xDE W := by
      rw [hW]
      exact (uxDE rfl (uxDE rfl (uxDE rfl (uxDE rfl (uxDE rfl (uxDE rfl hI.2.2.2.2.2.2.2.2.2.2.2.2.2.2.2.2.2.2.2.2.2.2.2.2.2.2.2.2.2.2.2.2.2.2.2.2.2.2.2.2.2.2.2.2.2.2.1))))))
    have k_xQ5 : xQ5 W := by
      rw [hW]
      exact (uxQ5 rfl (uxQ5 rfl (uxQ5 rfl (uxQ5 rfl (uxQ5 rfl (uxQ5 rfl hI.2.2.2.2.2.2.2.2.2.2.2.2.2.2.2.2.2.2.2.2.2.2.2.2.2.2.2.2.2.2.2.2.2.2.2.2.2.2.2.2.2.2.2.2.2.2.2.1))))))
    have k_xQL : xQL W := by
      rw [hW]
      exact (uxQL rfl (uxQL rfl (uxQL rfl (uxQL rfl (uxQL rfl (uxQL rfl hI.2.2.2.2.2.2.2.2.2.2.2.2.2.2.2.2.2.2.2.2.2.2.2.2.2.2.2.2.2.2.2.2.2.2.2.2.2.2.2.2.2.2.2.2.2.2.2.2.1))))))
    have k_xQW : xQW W := by
      rw [hW]
      exact (uxQW rfl (uxQW rfl (uxQW rfl (uxQW rfl (uxQW rfl (uxQW rfl hI.2.2.2.2.2.2.2.2.2.2.2.2.2.2.2.2.2.2.2.2.2.2.2.2.2.2.2.2.2.2.2.2.2.2.2.2.2.2.2.2.2.2.2.2.2.2.2.2.2.1))))))
    have k_xQM : xQM W := by
      rw [hW]
      exact (uxQM rfl (uxQM rfl (uxQM rfl (uxQM rfl (uxQM rfl (uxQM rfl hI.2.2.2.2.2.2.2.2.2.2.2.2.2.2.2.2.2.2.2.2.2.2.2.2.2.2.2.2.2.2.2.2.2.2.2.2.2.2.2.2.2.2.2.2.2.2.2.2.2.2.1))))))
    have k_xQH : xQH W := by
      rw [hW]
      exact (uxQH rfl (uxQH rfl (uxQH rfl (uxQH rfl (uxQH rfl (uxQH rfl hI.2.2.2.2.2.2.2.2.2.2.2.2.2.2.2.2.2.2.2.2.2.2.2.2.2.2.2.2.2.2.2.2.2.2.2.2.2.2.2.2.2.2.2.2.2.2.2.2.2.2.2))))))
    have k_XC : XC W := ⟨k_xS1, k_xS2, k_xS3, k_xS4, k_xS5, k_xS6, k_xS7, k_xS8, k_xS9, k_xSA, k_xSG, k_xSF, k_xSB, k_xSC, k_xSD, k_xSE, k_xSW, k_xST, k_xSP, k_xSL, k_xSM, k_xSI, k_xD3, k_xDV, k_xDP, k_xDE, k_xQ5, k_xQL, k_xQW, k_xQM, k_xQH⟩
    have kXB : XB W := ⟨k_xN1, k_xN2, k_xN3, k_xN4, k_xN5, k_xN6, k_xH1, k_xK1, k_xC1, k_xRW, k_xWT, k_xCU, k_xG2, k_xG3, k_xG4, k_xG5, k_xG6, k_XC⟩
    exact ⟨base, k2, k3, kXA, kXB⟩
-- wPop
def xr_336 : qRu := (4, [[(-1, 0), (1, 1)]], [(4, 276, [(1, 1)]), (4, 272, [(1, 2)]), (4, 273, [(1, 3)])], [], [(4, 276, [(-1, 0), (1, 1)]), (4, 270, [(1, 2)]), (4, 271, [(1, 3)]), (4, 272, [(1, 4)]), (4, 273, [(1, 5)]), (4, 274, [(1, 6)])], [])
theorem xo_336 : qRok xr_336 := by
  intro ρ M h0 hf hm hI
  have f0 := hf [(-1, 0), (1, 1)] (by decide)
  simp only [qD, h0] at f0
  have m0 : M 4 276 = 1 * ρ 1 + 0 := hm (4, 276, [(1, 1)]) (by decide)
  have m1 : M 4 272 = 1 * ρ 2 + 0 := hm (4, 272, [(1, 2)]) (by decide)
  have m2 : M 4 273 = 1 * ρ 3 + 0 := hm (4, 273, [(1, 3)]) (by decide)
  have qxSW := hI.2.2.2.2.2.2.2.2.2.2.2.2.2.2.2.2.2.2.2.2.2.2.2.2.2.2.2.2.2.2.2.2.2.2.2.2.2.1
  refine ⟨fun a => cond (Nat.blt a 4) (ρ a) (([(xWs M ((M 4 276).toNat - 1 - 1)).1, (xWs M ((M 4 276).toNat - 1 - 1)).2, xWn M ((M 4 276).toNat - 1)] : List Int).getD (a - 4) 0), fun a ha => ?_, fun f h => ?_, ?_⟩
  · show cond (Nat.blt a 4) (ρ a) _ = ρ a
    rw [show Nat.blt a 4 = true from Nat.ble_eq_true_of_le ha]; rfl
  · exact nomatch h
  · show sI (sU (sU (sU (sU (sU (sU M 4 276 (-1 * ρ 0 + (1 * ρ 1 + 0))) 4 270 (1 * ρ 2 + 0)) 4 271 (1 * ρ 3 + 0)) 4 272 (1 * ((xWs M ((M 4 276).toNat - 1 - 1)).1) + 0)) 4 273 (1 * ((xWs M ((M 4 276).toNat - 1 - 1)).2) + 0)) 4 274 (1 * (xWn M ((M 4 276).toNat - 1)) + 0))
    obtain ⟨W, hW⟩ : ∃ W, W = (sU (sU (sU (sU (sU (sU M 4 276 (-1 * ρ 0 + (1 * ρ 1 + 0))) 4 270 (1 * ρ 2 + 0)) 4 271 (1 * ρ 3 + 0)) 4 272 (1 * ((xWs M ((M 4 276).toNat - 1 - 1)).1) + 0)) 4 273 (1 * ((xWs M ((M 4 276).toNat - 1 - 1)).2) + 0)) 4 274 (1 * (xWn M ((M 4 276).toNat - 1)) + 0)) := ⟨_, rfl⟩
    rw [← hW]
    have base : sI0 W := by
      rw [hW]
      exact (si_u0 (si_u0 (si_u0 (si_u0 (si_u0 (si_u0 hI.1 (fun r hr => by cases hr)) (fun r hr => by cases hr)) (fun r hr => by cases hr)) (fun r hr => by cases hr)) (fun r hr => by cases hr)) (fun r hr => by cases hr))
    have k2 : XI2 W := by
      rw [hW]
      exact (xi2_u rfl (xi2_u rfl (xi2_u rfl (xi2_u rfl (xi2_u rfl (xi2_u rfl hI.2.1))))))
    have k3 : XI3 W := by
      rw [hW]
      exact (xi3_u rfl (xi3_u rfl (xi3_u rfl (xi3_u rfl (xi3_u rfl (xi3_u rfl hI.2.2.1))))))
    have kXA : XA W := by
      rw [hW]
      exact (uXA rfl (uXA rfl (uXA rfl (uXA rfl (uXA rfl (uXA rfl hI.2.2.2.1))))))
    have k_xN1 : xN1 W := by
      rw [hW]
      exact (uxN1 rfl (uxN1 rfl (uxN1 rfl (uxN1 rfl (uxN1 rfl (uxN1 rfl hI.2.2.2.2.1))))))
    have k_xN2 : xN2 W := by
      rw [hW]
      exact (uxN2 rfl (uxN2 rfl (uxN2 rfl (uxN2 rfl (uxN2 rfl (uxN2 rfl hI.2.2.2.2.2.1))))))
    have k_xN3 : xN3 W := by
      rw [hW]
      exact (uxN3 rfl (uxN3 rfl (uxN3 rfl (uxN3 rfl (uxN3 rfl (uxN3 rfl hI.2.2.2.2.2.2.1))))))
    have k_xN4 : xN4 W := by
      rw [hW]
      exact (uxN4 rfl (uxN4 rfl (uxN4 rfl (uxN4 rfl (uxN4 rfl (uxN4 rfl hI.2.2.2.2.2.2.2.1))))))
    have k_xN5 : xN5 W := by
      rw [hW]
      exact (uxN5 rfl (uxN5 rfl (uxN5 rfl (uxN5 rfl (uxN5 rfl (uxN5 rfl hI.2.2.2.2.2.2.2.2.1))))))
    have k_xN6 : xN6 W := by
      rw [hW]
      exact (uxN6 rfl (uxN6 rfl (uxN6 rfl (uxN6 rfl (uxN6 rfl (uxN6 rfl hI.2.2.2.2.2.2.2.2.2.1))))))
    have k_xH1 : xH1 W := by
      rw [hW]
      exact (uxH1 rfl (uxH1 rfl (uxH1 rfl (uxH1 rfl (uxH1 rfl (uxH1 rfl hI.2.2.2.2.2.2.2.2.2.2.1))))))
    have k_xK1 : xK1 W := by
      rw [hW]
      exact (uxK1 rfl (uxK1 rfl (uxK1 rfl (uxK1 rfl (uxK1 rfl (uxK1 rfl hI.2.2.2.2.2.2.2.2.2.2.2.1))))))
    have k_xC1 : xC1 W := by
      rw [hW]
      exact (uxC1 rfl (uxC1 rfl (uxC1 rfl (uxC1 rfl (uxC1 rfl (uxC1 rfl hI.2.2.2.2.2.2.2.2.2.2.2.2.1))))))
    have k_xRW : xRW W := by
      rw [hW]
      exact (uxRW rfl (uxRW rfl (uxRW rfl (uxRW rfl (uxRW rfl (uxRW rfl hI.2.2.2.2.2.2.2.2.2.2.2.2.2.1))))))
    have k_xWT : xWT W := by
      rw [hW]
      exact (uxWT rfl (uxWT rfl (uxWT rfl (uxWT rfl (uxWT rfl (uxWT rfl hI.2.2.2.2.2.2.2.2.2.2.2.2.2.2.1))))))
    have k_xCU : xCU W := by
      rw [hW]
      exact (uxCU rfl (uxCU rfl (uxCU rfl (uxCU rfl (uxCU rfl (uxCU rfl hI.2.2.2.2.2.2.2.2.2.2.2.2.2.2.2.1))))))
    have k_xG2 : xG2 W := by
      rw [hW]
      exact (uxG2 rfl (uxG2 rfl (uxG2 rfl (uxG2 rfl (uxG2 rfl (uxG2 rfl hI.2.2.2.2.2.2.2.2.2.2.2.2.2.2.2.2.1))))))
    have k_xG3 : xG3 W := by
      rw [hW]
      exact (uxG3 rfl (uxG3 rfl (uxG3 rfl (uxG3 rfl (uxG3 rfl (uxG3 rfl hI.2.2.2.2.2.2.2.2.2.2.2.2.2.2.2.2.2.1))))))
    have k_xG4 : xG4 W := by
      rw [hW]
      exact (uxG4 rfl (uxG4 rfl (uxG4 rfl (uxG4 rfl (uxG4 rfl (uxG4 rfl hI.2.2.2.2.2.2.2.2.2.2.2.2.2.2.2.2.2.2.1))))))
    have k_xG5 : xG5 W := by
      rw [hW]
      exact (uxG5 rfl (uxG5 rfl (uxG5 rfl (uxG5 rfl (uxG5 rfl (uxG5 rfl hI.2.2.2.2.2.2.2.2.2.2.2.2.2.2.2.2.2.2.2.1))))))
    have k_xG6 : xG6 W := by
      rw [hW]
      exact (uxG6 rfl (uxG6 rfl (uxG6 rfl (uxG6 rfl (uxG6 rfl (uxG6 rfl hI.2.2.2.2.2.2.2.2.2.2.2.2.2.2.2.2.2.2.2.2.1))))))
    have k_xS1 : xS1 W := by
      rw [hW]
      exact (uxS1 rfl (uxS1 rfl (uxS1 rfl (uxS1 rfl (uxS1 rfl (uxS1 rfl hI.2.2.2.2.2.2.2.2.2.2.2.2.2.2.2.2.2.2.2.2.2.1))))))
    have k_xS2 : xS2 W := by
      rw [hW]
      exact (uxS2 rfl (uxS2 rfl (uxS2 rfl (uxS2 rfl (uxS2 rfl (uxS2 rfl hI.2.2.2.2.2.2.2.2.2.2.2.2.2.2.2.2.2.2.2.2.2.2.1))))))
    have k_xS3 : xS3 W := by
      rw [hW]
      exact (uxS3 rfl (uxS3 rfl (uxS3 rfl (uxS3 rfl (uxS3 rfl (uxS3 rfl hI.2.2.2.2.2.2.2.2.2.2.2.2.2.2.2.2.2.2.2.2.2.2.2.1))))))
    have k_xS4 : xS4 W := by
      rw [hW]
      exact (uxS4 rfl (uxS4 rfl (uxS4 rfl (uxS4 rfl (uxS4 rfl (uxS4 rfl hI.2.2.2.2.2.2.2.2.2.2.2.2.2.2.2.2.2.2.2.2.2.2.2.2.1))))))
    have k_xS5 : xS5 W := by
      rw [hW]
      exact (uxS5 rfl (uxS5 rfl (uxS5 rfl (uxS5 rfl (uxS5 rfl (uxS5 rfl hI.2.2.2.2.2.2.2.2.2.2.2.2.2.2.2.2.2.2.2.2.2.2.2.2.2.1))))))
    have k_xS6 : xS6 W := by
      rw [hW]
      exact (uxS6 rfl (uxS6 rfl (uxS6 rfl (uxS6 rfl (uxS6 rfl (uxS6 rfl hI.2.2.2.2.2.2.2.2.2.2.2.2.2.2.2.2.2.2.2.2.2.2.2.2.2.2.1))))))
    have k_xS7 : xS7 W := by
      rw [hW]
      exact (uxS7 rfl (uxS7 rfl (uxS7 rfl (uxS7 rfl (uxS7 rfl (uxS7 rfl hI.2.2.2.2.2.2.2.2.2.2.2.2.2.2.2.2.2.2.2.2.2.2.2.2.2.2.2.1))))))
    have k_xS8 : xS8 W := by
      rw [hW]
      exact (uxS8 rfl (uxS8 rfl (uxS8 rfl (uxS8 rfl (uxS8 rfl (uxS8 rfl hI.2.2.2.2.2.2.2.2.2.2.2.2.2.2.2.2.2.2.2.2.2.2.2.2.2.2.2.2.1))))))
    have k_xS9 : xS9 W := by
      rw [hW]
      exact (uxS9 rfl (uxS9 rfl (uxS9 rfl (uxS9 rfl (uxS9 rfl (uxS9 rfl hI.2.2.2.2.2.2.2.2.2.2.2.2.2.2.2.2.2.2.2.2.2.2.2.2.2.2.2.2.2.1))))))
    have k_xSA : xSA W := by
      rw [hW]
      exact (uxSA rfl (uxSA rfl (uxSA rfl (uxSA rfl (uxSA rfl (uxSA rfl hI.2.2.2.2.2.2.2.2.2.2.2.2.2.2.2.2.2.2.2.2.2.2.2.2.2.2.2.2.2.2.1))))))
    have k_xSG : xSG W := by
      rw [hW]
      exact (uxSG rfl (uxSG rfl (uxSG rfl (uxSG rfl (uxSG rfl (uxSG rfl hI.2.2.2.2.2.2.2.2.2.2.2.2.2.2.2.2.2.2.2.2.2.2.2.2.2.2.2.2.2.2.2.1))))))
    have k_xSF : xSF W := by
      rw [hW]
      exact (uxSF rfl (uxSF rfl (uxSF rfl (uxSF rfl (uxSF rfl (uxSF rfl hI.2.2.2.2.2.2.2.2.2.2.2.2.2.2.2.2.2.2.2.2.2.2.2.2.2.2.2.2.2.2.2.2.1))))))
    have k_xSB : xSB W := by
      rw [hW]
      exact (uxSB rfl (uxSB rfl (uxSB rfl (uxSB rfl (uxSB rfl (uxSB rfl hI.2.2.2.2.2.2.2.2.2.2.2.2.2.2.2.2.2.2.2.2.2.2.2.2.2.2.2.2.2.2.2.2.2.1))))))
    have k_xSC : xSC W := by
      rw [hW]
      exact (uxSC rfl (uxSC rfl (uxSC rfl (uxSC rfl (uxSC rfl (uxSC rfl hI.2.2.2.2.2.2.2.2.2.2.2.2.2.2.2.2.2.2.2.2.2.2.2.2.2.2.2.2.2.2.2.2.2.2.1))))))
    have k_xSD : xSD W := by
      rw [hW]
      exact (uxSD rfl (uxSD rfl (uxSD rfl (uxSD rfl (uxSD rfl (uxSD rfl hI.2.2.2.2.2.2.2.2.2.2.2.2.2.2.2.2.2.2.2.2.2.2.2.2.2.2.2.2.2.2.2.2.2.2.2.1))))))
    have k_xSE : xSE W := by
      rw [hW]
      exact (uxSE rfl (uxSE rfl (uxSE rfl (uxSE rfl (uxSE rfl (uxSE rfl hI.2.2.2.2.2.2.2.2.2.2.2.2.2.2.2.2.2.2.2.2.2.2.2.2.2.2.2.2.2.2.2.2.2.2.2.2.1))))))
    have k_xSW : xSW W := by
      have r4_270 : W 4 270 = 1 * ρ 2 + 0 := by rw [hW, sU_ne (fun z => by omega), sU_ne (fun z => by omega), sU_ne (fun z => by omega), sU_ne (fun z => by omega), sU_at]
      have r4_271 : W 4 271 = 1 * ρ 3 + 0 := by rw [hW, sU_ne (fun z => by omega), sU_ne (fun z => by omega), sU_ne (fun z => by omega), sU_at]
      have r4_272 : W 4 272 = 1 * ((xWs M ((M 4 276).toNat - 1 - 1)).1) + 0 := by rw [hW, sU_ne (fun z => by omega), sU_ne (fun z => by omega), sU_at]
      have r4_273 : W 4 273 = 1 * ((xWs M ((M 4 276).toNat - 1 - 1)).2) + 0 := by rw [hW, sU_ne (fun z => by omega), sU_at]
      have r4_274 : W 4 274 = 1 * (xWn M ((M 4 276).toNat - 1)) + 0 := by rw [hW, sU_at]
      have r4_276 : W 4 276 = -1 * ρ 0 + (1 * ρ 1 + 0) := by rw [hW, sU_ne (fun z => by omega), sU_ne (fun z => by omega), sU_ne (fun z => by omega), sU_ne (fun z => by omega), sU_ne (fun z => by omega), sU_at]
      have c55 : ∀ k, W 55 k = M 55 k := fun k => by rw [hW, sU_ne (fun z => by omega), sU_ne (fun z => by omega), sU_ne (fun z => by omega), sU_ne (fun z => by omega), sU_ne (fun z => by omega), sU_ne (fun z => by omega)]
      have e55 : W 55 = M 55 := funext c55
      unfold xSW
      rw [r4_270, r4_271, r4_272, r4_273, r4_274, r4_276]
      have s1 : (-1 * ρ 0 + (1 * ρ 1 + 0)).toNat = (M 4 276).toNat - 1 := by rw [h0]; omega
      rw [s1, xws_c c55, xws_c c55, xwn_c c55]
      obtain ⟨w1, w2, w3, w4, w5⟩ := gx_xSW hI
      refine ⟨by rw [h0]; omega, ?_, ?_, ?_, fun i hi => by rw [c55]; exact w5 i (by rw [h0] at hi; omega)⟩
      · rw [← w3]
        simp only [Prod.mk.injEq]
        omega
      · rw [show (1 * (xWs M ((M 4 276).toNat - 1 - 1)).1 + 0 : Int) = (xWs M ((M 4 276).toNat - 1 - 1)).1 by omega, show (1 * (xWs M ((M 4 276).toNat - 1 - 1)).2 + 0 : Int) = (xWs M ((M 4 276).toNat - 1 - 1)).2 by omega]
      · omega
    have k_xST : xST W := by
      rw [hW]
      exact (uxST rfl (uxST rfl (uxST rfl (uxST rfl (uxST rfl (uxST rfl hI.2.2.2.2.2.2.2.2.2.2.2.2.2.2.2.2.2.2.2.2.2.2.2.2.2.2.2.2.2.2.2.2.2.2.2.2.2.2.1))))))
    have k_xSP : xSP W := by
      rw [hW]
      exact (uxSP rfl (uxSP rfl (uxSP rfl (uxSP rfl (uxSP rfl (uxSP rfl hI.2.2.2.2.2.2.2.2.2.2.2.2.2.2.2.2.2.2.2.2.2.2.2.2.2.2.2.2.2.2.2.2.2.2.2.2.2.2.2.1))))))
    have k_xSL : xSL W := by
      rw [hW]
      exact (uxSL rfl (uxSL rfl (uxSL rfl (uxSL rfl (uxSL rfl (uxSL rfl hI.2.2.2.2.2.2.2.2.2.2.2.2.2.2.2.2.2.2.2.2.2.2.2.2.2.2.2.2.2.2.2.2.2.2.2.2.2.2.2.2.1))))))
    have k_xSM : xSM W := by
      rw [hW]
      exact (uxSM rfl (uxSM rfl (uxSM rfl (uxSM rfl (uxSM rfl (uxSM rfl hI.2.2.2.2.2.2.2.2.2.2.2.2.2.2.2.2.2.2.2.2.2.2.2.2.2.2.2.2.2.2.2.2.2.2.2.2.2.2.2.2.2.1))))))
    have k_xSI : xSI W := by
      rw [hW]
      exact (uxSI rfl (uxSI rfl (uxSI rfl (uxSI rfl (uxSI rfl (uxSI rfl hI.2.2.2.2.2.2.2.2.2.2.2.2.2.2.2.2.2.2.2.2.2.2.2.2.2.2.2.2.2.2.2.2.2.2.2.2.2.2.2.2.2.2.1))))))
    have k_xD3 : xD3 W := by
      rw [hW]
      exact (uxD3 rfl (uxD3 rfl (uxD3 rfl (uxD3 rfl (uxD3 rfl (uxD3 rfl hI.2.2.2.2.2.2.2.2.2.2.2.2.2.2.2.2.2.2.2.2.2.2.2.2.2.2.2.2.2.2.2.2.2.2.2.2.2.2.2.2.2.2.2.1))))))
    have k_xDV : xDV W := by
      rw [hW]
      exact (uxDV rfl (uxDV rfl (uxDV rfl (uxDV rfl (uxDV rfl (uxDV rfl hI.2.2.2.2.2.2.2.2.2.2.2.2.2.2.2.2.2.2.2.2.2.2.2.2.2.2.2.2.2.2.2.2.2.2.2.2.2.2.2.2.2.2.2.2.1))))))
    have k_xDP : xDP W := by
      rw [hW]
      exact (uxDP rfl (uxDP rfl (uxDP rfl (uxDP rfl (uxDP rfl (uxDP rfl hI.2.2.2.2.2.2.2.2.2.2.2.2.2.2.2.2.2.2.2.2.2.2.2.2.2.2.2.2.2.2.2.2.2.2.2.2.2.2.2.2.2.2.2.2.2.1))))))
    have k_xDE : xDE W := by
      rw [hW]
      exact (uxDE rfl (uxDE rfl (uxDE rfl (uxDE rfl (uxDE rfl (uxDE rfl hI.2.2.2.2.2.2.2.2.2.2.2.2.2.2.2.2.2.2.2.2.2.2.2.2.2.2.2.2.2.2.2.2.2.2.2.2.2.2.2.2.2.2.2.2.2.2.1))))))
    have k_xQ5 : xQ5 W := by
      rw [hW]
      exact (uxQ5 rfl (uxQ5 rfl (uxQ5 rfl (uxQ5 rfl (uxQ5 rfl (uxQ5 rfl hI.2.2.2.2.2.2.2.2.2.2.2.2.2.2.2.2.2.2.2.2.2.2.2.2.2.2.2.2.2.2.2.2.2.2.2.2.2.2.2.2.2.2.2.2.2.2.2.1))))))
    have k_xQL : xQL W := by
      rw [hW]
      exact (uxQL rfl (uxQL rfl (uxQL rfl (uxQL rfl (uxQL rfl (uxQL rfl hI.2.2.2.2.2.2.2.2.2.2.2.2.2.2.2.2.2.2.2.2.2.2.2.2.2.2.2.2.2.2.2.2.2.2.2.2.2.2.2.2.2.2.2.2.2.2.2.2.1))))))
    have k_xQW : xQW W := by
      rw [hW]
      exact (uxQW rfl (uxQW rfl (uxQW rfl (uxQW rfl (uxQW rfl (uxQW rfl hI.2.2.2.2.2.2.2.2.2.2.2.2.2.2.2.2.2.2.2.2.2.2.2.2.2.2.2.2.2.2.2.2.2.2.2.2.2.2.2.2.2.2.2.2.2.2.2.2.2.1))))))
    have k_xQM : xQM W := by
      rw [hW]
      exact (uxQM rfl (uxQM rfl (uxQM rfl (uxQM rfl (uxQM rfl (uxQM rfl hI.2.2.2.2.2.2.2.2.2.2.2.2.2.2.2.2.2.2.2.2.2.2.2.2.2.2.2.2.2.2.2.2.2.2.2.2.2.2.2.2.2.2.2.2.2.2.2.2.2.2.1))))))
    have k_xQH : xQH W := by
      rw [hW]
      exact (uxQH rfl (uxQH rfl (uxQH rfl (uxQH rfl (uxQH rfl (uxQH rfl hI.2.2.2.2.2.2.2.2.2.2.2.2.2.2.2.2.2.2.2.2.2.2.2.2.2.2.2.2.2.2.2.2.2.2.2.2.2.2.2.2.2.2.2.2.2.2.2.2.2.2.2))))))
    have k_XC : XC W := ⟨k_xS1, k_xS2, k_xS3, k_xS4, k_xS5, k_xS6, k_xS7, k_xS8, k_xS9, k_xSA, k_xSG, k_xSF, k_xSB, k_xSC, k_xSD, k_xSE, k_xSW, k_xST, k_xSP, k_xSL, k_xSM, k_xSI, k_xD3, k_xDV, k_xDP, k_xDE, k_xQ5, k_xQL, k_xQW, k_xQM, k_xQH⟩
    have kXB : XB W := ⟨k_xN1, k_xN2, k_xN3, k_xN4, k_xN5, k_xN6, k_xH1, k_xK1, k_xC1, k_xRW, k_xWT, k_xCU, k_xG2, k_xG3, k_xG4, k_xG5, k_xG6, k_XC⟩
    exact ⟨base, k2, k3, kXA, kXB⟩
-- wReset
def xr_337 : qRu := (1, [], [], [], [(4, 276, []), (4, 270, []), (4, 271, []), (4, 272, []), (4, 273, []), (4, 274, [])], [])
theorem xo_337 : qRok xr_337 := by
  intro ρ M h0 hf hm hI
  have qxSW := hI.2.2.2.2.2.2.2.2.2.2.2.2.2.2.2.2.2.2.2.2.2.2.2.2.2.2.2.2.2.2.2.2.2.2.2.2.2.1
  refine ⟨ρ, fun _ _ => rfl, fun f h => ?_, ?_⟩
  · exact nomatch h
  · show sI (sU (sU (sU (sU (sU (sU M 4 276 (0)) 4 270 (0)) 4 271 (0)) 4 272 (0)) 4 273 (0)) 4 274 (0))
    obtain ⟨W, hW⟩ : ∃ W, W = (sU (sU (sU (sU (sU (sU M 4 276 (0)) 4 270 (0)) 4 271 (0)) 4 272 (0)) 4 273 (0)) 4 274 (0)) := ⟨_, rfl⟩
    rw [← hW]
    have base : sI0 W := by
      rw [hW]
      exact (si_u0 (si_u0 (si_u0 (si_u0 (si_u0 (si_u0 hI.1 (fun r hr => by cases hr)) (fun r hr => by cases hr)) (fun r hr => by cases hr)) (fun r hr => by cases hr)) (fun r hr => by cases hr)) (fun r hr => by cases hr))
    have k2 : XI2 W := by
      rw [hW]
      exact (xi2_u rfl (xi2_u rfl (xi2_u rfl (xi2_u rfl (xi2_u rfl (xi2_u rfl hI.2.1))))))
    have k3 : XI3 W := by
      rw [hW]
      exact (xi3_u rfl (xi3_u rfl (xi3_u rfl (xi3_u rfl (xi3_u rfl (xi3_u rfl hI.2.2.1))))))
    have kXA : XA W := by
      rw [hW]
      exact (uXA rfl (uXA rfl (uXA rfl (uXA rfl (uXA rfl (uXA rfl hI.2.2.2.1))))))
    have k_xN1 : xN1 W := by
      rw [hW]
      exact (uxN1 rfl (uxN1 rfl (uxN1 rfl (uxN1 rfl (uxN1 rfl (uxN1 rfl hI.2.2.2.2.1))))))
    have k_xN2 : xN2 W := by
      rw [hW]
      exact (uxN2 rfl (uxN2 rfl (uxN2 rfl (uxN2 rfl (uxN2 rfl (uxN2 rfl hI.2.2.2.2.2.1))))))
    have k_xN3 : xN3 W := by
      rw [hW]
      exact (uxN3 rfl (uxN3 rfl (uxN3 rfl (uxN3 rfl (uxN3 rfl (uxN3 rfl hI.2.2.2.2.2.2.1))))))
    have k_xN4 : xN4 W := by
      rw [hW]
      exact (uxN4 rfl (uxN4 rfl (uxN4 rfl (uxN4 rfl (uxN4 rfl (uxN4 rfl hI.2.2.2.2.2.2.2.1))))))
    have k_xN5 : xN5 W := by
      rw [hW]
      exact (uxN5 rfl (uxN5 rfl (uxN5 rfl (uxN5 rfl (uxN5 rfl (uxN5 rfl hI.2.2.2.2.2.2.2.2.1))))))
    have k_xN6 : xN6 W := by
      rw [hW]
      exact (uxN6 rfl (uxN6 rfl (uxN6 rfl (uxN6 rfl (uxN6 rfl (uxN6 rfl hI.2.2.2.2.2.2.2.2.2.1))))))
    have k_xH1 : xH1 W := by
      rw [hW]
      exact (uxH1 rfl (uxH1 rfl (uxH1 rfl (uxH1 rfl (uxH1 rfl (uxH1 rfl hI.2.2.2.2.2.2.2.2.2.2.1))))))
    have k_xK1 : xK1 W := by
      rw [hW]
      exact (uxK1 rfl (uxK1 rfl (uxK1 rfl (uxK1 rfl (uxK1 rfl (uxK1 rfl hI.2.2.2.2.2.2.2.2.2.2.2.1))))))
    have k_xC1 : xC1 W := by
      rw [hW]
      exact (uxC1 rfl (uxC1 rfl (uxC1 rfl (uxC1 rfl (uxC1 rfl (uxC1 rfl hI.2.2.2.2.2.2.2.2.2.2.2.2.1))))))
    have k_xRW : xRW W := by
      rw [hW]
      exact (uxRW rfl (uxRW rfl (uxRW rfl (uxRW rfl (uxRW rfl (uxRW rfl hI.2.2.2.2.2.2.2.2.2.2.2.2.2.1))))))
    have k_xWT : xWT W := by
      rw [hW]
      exact (uxWT rfl (uxWT rfl (uxWT rfl (uxWT rfl (uxWT rfl (uxWT rfl hI.2.2.2.2.2.2.2.2.2.2.2.2.2.2.1))))))
    have k_xCU : xCU W := by
      rw [hW]
      exact (uxCU rfl (uxCU rfl (uxCU rfl (uxCU rfl (uxCU rfl (uxCU rfl hI.2.2.2.2.2.2.2.2.2.2.2.2.2.2.2.1))))))
    have k_xG2 : xG2 W := by
      rw [hW]
      exact (uxG2 rfl (uxG2 rfl (uxG2 rfl (uxG2 rfl (uxG2 rfl (uxG2 rfl hI.2.2.2.2.2.2.2.2.2.2.2.2.2.2.2.2.1))))))
    have k_xG3 : xG3 W := by
      rw [hW]
      exact (uxG3 rfl (uxG3 rfl (uxG3 rfl (uxG3 rfl (uxG3 rfl (uxG3 rfl hI.2.2.2.2.2.2.2.2.2.2.2.2.2.2.2.2.2.1))))))
    have k_xG4 : xG4 W := by
      rw [hW]
      exact (uxG4 rfl (uxG4 rfl (uxG4 rfl (uxG4 rfl (uxG4 rfl (uxG4 rfl hI.2.2.2.2.2.2.2.2.2.2.2.2.2.2.2.2.2.2.1))))))
    have k_xG5 : xG5 W := by
      rw [hW]
      exact (uxG5 rfl (uxG5 rfl (uxG5 rfl (uxG5 rfl (uxG5 rfl (uxG5 rfl hI.2.2.2.2.2.2.2.2.2.2.2.2.2.2.2.2.2.2.2.1))))))
    have k_xG6 : xG6 W := by
      rw [hW]
      exact (uxG6 rfl (uxG6 rfl (uxG6 rfl (uxG6 rfl (uxG6 rfl (uxG6 rfl hI.2.2.2.2.2.2.2.2.2.2.2.2.2.2.2.2.2.2.2.2.1))))))
    have k_xS1 : xS1 W := by
      rw [hW]
      exact (uxS1 rfl (uxS1 rfl (uxS1 rfl (uxS1 rfl (uxS1 rfl (uxS1 rfl hI.2.2.2.2.2.2.2.2.2.2.2.2.2.2.2.2.2.2.2.2.2.1))))))
    have k_xS2 : xS2 W := by
      rw [hW]
      exact (uxS2 rfl (uxS2 rfl (uxS2 rfl (uxS2 rfl (uxS2 rfl (uxS2 rfl hI.2.2.2.2.2.2.2.2.2.2.2.2.2.2.2.2.2.2.2.2.2.2.1))))))
    have k_xS3 : xS3 W := by
      rw [hW]
      exact (uxS3 rfl (uxS3 rfl (uxS3 rfl (uxS3 rfl (uxS3 rfl (uxS3 rfl hI.2.2.2.2.2.2.2.2.2.2.2.2.2.2.2.2.2.2.2.2.2.2.2.1))))))
    have k_xS4 : xS4 W := by
      rw [hW]
      exact (uxS4 rfl (uxS4 rfl (uxS4 rfl (uxS4 rfl (uxS4 rfl (uxS4 rfl hI.2.2.2.2.2.2.2.2.2.2.2.2.2.2.2.2.2.2.2.2.2.2.2.2.1))))))
    have k_xS5 : xS5 W := by
      rw [hW]
      exact (uxS5 rfl (uxS5 rfl (uxS5 rfl (uxS5 rfl (uxS5 rfl (uxS5 rfl hI.2.2.2.2.2.2.2.2.2.2.2.2.2.2.2.2.2.2.2.2.2.2.2.2.2.1))))))
    have k_xS6 : xS6 W := by
      rw [hW]
      exact (uxS6 rfl (uxS6 rfl (uxS6 rfl (uxS6 rfl (uxS6 rfl (uxS6 rfl hI.2.2.2.2.2.2.2.2.2.2.2.2.2.2.2.2.2.2.2.2.2.2.2.2.2.2.1))))))
    have k_xS7 : xS7 W := by
      rw [hW]
      exact (uxS7 rfl (uxS7 rfl (uxS7 rfl (uxS7 rfl (uxS7 rfl (uxS7 rfl hI.2.2.2.2.2.2.2.2.2.2.2.2.2.2.2.2.2.2.2.2.2.2.2.2.2.2.2.1))))))
    have k_xS8 : xS8 W := by
      rw [hW]
      exact (uxS8 rfl (uxS8 rfl (uxS8 rfl (uxS8 rfl (uxS8 rfl (uxS8 rfl hI.2.2.2.2.2.2.2.2.2.2.2.2.2.2.2.2.2.2.2.2.2.2.2.2.2.2.2.2.1))))))
    have k_xS9 : xS9 W := by
      rw [hW]
      exact (uxS9 rfl (uxS9 rfl (uxS9 rfl (uxS9 rfl (uxS9 rfl (uxS9 rfl hI.2.2.2.2.2.2.2.2.2.2.2.2.2.2.2.2.2.2.2.2.2.2.2.2.2.2.2.2.2.1))))))
    have k_xSA : xSA W := by
      rw [hW]
      exact (uxSA rfl (uxSA rfl (uxSA rfl (uxSA rfl (uxSA rfl (uxSA rfl hI.2.2.2.2.2.2.2.2.2.2.2.2.2.2.2.2.2.2.2.2.2.2.2.2.2.2.2.2.2.2.1))))))
    have k_xSG : xSG W := by
      rw [hW]
      exact (uxSG rfl (uxSG rfl (uxSG rfl (uxSG rfl (uxSG rfl (uxSG rfl hI.2.2.2.2.2.2.2.2.2.2.2.2.2.2.2.2.2.2.2.2.2.2.2.2.2.2.2.2.2.2.2.1))))))
    have k_xSF : xSF W := by
      rw [hW]
      exact (uxSF rfl (uxSF rfl (uxSF rfl (uxSF rfl (uxSF rfl (uxSF rfl hI.2.2.2.2.2.2.2.2.2.2.2.2.2.2.2.2.2.2.2.2.2.2.2.2.2.2.2.2.2.2.2.2.1))))))
    have k_xSB : xSB W := by
      rw [hW]
      exact (uxSB rfl (uxSB rfl (uxSB rfl (uxSB rfl (uxSB rfl (uxSB rfl hI.2.2.2.2.2.2.2.2.2.2.2.2.2.2.2.2.2.2.2.2.2.2.2.2.2.2.2.2.2.2.2.2.2.1))))))
    have k_xSC : xSC W := by
      rw [hW]
      exact (uxSC rfl (uxSC rfl (uxSC rfl (uxSC rfl (uxSC rfl (uxSC rfl hI.2.2.2.2.2.2.2.2.2.2.2.2.2.2.2.2.2.2.2.2.2.2.2.2.2.2.2.2.2.2.2.2.2.2.1))))))
    have k_xSD : xSD W := by
      rw [hW]
      exact (uxSD rfl (uxSD rfl (uxSD rfl (uxSD rfl (uxSD rfl (uxSD rfl hI.2.2.2.2.2.2.2.2.2.2.2.2.2.2.2.2.2.2.2.2.2.2.2.2.2.2.2.2.2.2.2.2.2.2.2.1))))))
    have k_xSE : xSE W := by
      rw [hW]
      exact (uxSE rfl (uxSE rfl (uxSE rfl (uxSE rfl (uxSE rfl (uxSE rfl hI.2.2.2.2.2.2.2.2.2.2.2.2.2.2.2.2.2.2.2.2.2.2.2.2.2.2.2.2.2.2.2.2.2.2.2.2.1))))))
    have k_xSW : xSW W := by
      have r4_270 : W 4 270 = 0 := by rw [hW, sU_ne (fun z => by omega), sU_ne (fun z => by omega), sU_ne (fun z => by omega), sU_ne (fun z => by omega), sU_at]
      have r4_271 : W 4 271 = 0 := by rw [hW, sU_ne (fun z => by omega), sU_ne (fun z => by omega), sU_ne (fun z => by omega), sU_at]
      have r4_272 : W 4 272 = 0 := by rw [hW, sU_ne (fun z => by omega), sU_ne (fun z => by omega), sU_at]
      have r4_273 : W 4 273 = 0 := by rw [hW, sU_ne (fun z => by omega), sU_at]
      have r4_274 : W 4 274 = 0 := by rw [hW, sU_at]
      have r4_276 : W 4 276 = 0 := by rw [hW, sU_ne (fun z => by omega), sU_ne (fun z => by omega), sU_ne (fun z => by omega), sU_ne (fun z => by omega), sU_ne (fun z => by omega), sU_at]
      have c55 : ∀ k, W 55 k = M 55 k := fun k => by rw [hW, sU_ne (fun z => by omega), sU_ne (fun z => by omega), sU_ne (fun z => by omega), sU_ne (fun z => by omega), sU_ne (fun z => by omega), sU_ne (fun z => by omega)]
      have e55 : W 55 = M 55 := funext c55
      unfold xSW
      rw [r4_270, r4_271, r4_272, r4_273, r4_274, r4_276]
      exact ⟨by omega, rfl, rfl, rfl, fun i hi => by omega⟩
    have k_xST : xST W := by
      rw [hW]
      exact (uxST rfl (uxST rfl (uxST rfl (uxST rfl (uxST rfl (uxST rfl hI.2.2.2.2.2.2.2.2.2.2.2.2.2.2.2.2.2.2.2.2.2.2.2.2.2.2.2.2.2.2.2.2.2.2.2.2.2.2.1))))))
    have k_xSP : xSP W := by
      rw [hW]
      exact (uxSP rfl (uxSP rfl (uxSP rfl (uxSP rfl (uxSP rfl (uxSP rfl hI.2.2.2.2.2.2.2.2.2.2.2.2.2.2.2.2.2.2.2.2.2.2.2.2.2.2.2.2.2.2.2.2.2.2.2.2.2.2.2.1))))))
    have k_xSL : xSL W := by
      rw [hW]
      exact (uxSL rfl (uxSL rfl (uxSL rfl (uxSL rfl (uxSL rfl (uxSL rfl hI.2.2.2.2.2.2.2.2.2.2.2.2.2.2.2.2.2.2.2.2.2.2.2.2.2.2.2.2.2.2.2.2.2.2.2.2.2.2.2.2.1))))))
    have k_xSM : xSM W := by
      rw [hW]
      exact (uxSM rfl (uxSM rfl (uxSM rfl (uxSM rfl (uxSM rfl (uxSM rfl hI.2.2.2.2.2.2.2.2.2.2.2.2.2.2.2.2.2.2.2.2.2.2.2.2.2.2.2.2.2.2.2.2.2.2.2.2.2.2.2.2.2.1))))))
    have k_xSI : xSI W := by
      rw [hW]
      exact (uxSI rfl (uxSI rfl (uxSI rfl (uxSI rfl (uxSI rfl (uxSI rfl hI.2.2.2.2.2.2.2.2.2.2.2.2.2.2.2.2.2.2.2.2.2.2.2.2.2.2.2.2.2.2.2.2.2.2.2.2.2.2.2.2.2.2.1))))))
    have k_xD3 : xD3 W := by
      rw [hW]
      exact (uxD3 rfl (uxD3 rfl (uxD3 rfl (uxD3 rfl (uxD3 rfl (uxD3 rfl hI.2.2.2.2.2.2.2.2.2.2.2.2.2.2.2.2.2.2.2.2.2.2.2.2.2.2.2.2.2.2.2.2.2.2.2.2.2.2.2.2.2.2.2.1))))))
    have k_xDV : xDV W := by
      rw [hW]
      exact (uxDV rfl (uxDV rfl (uxDV rfl (uxDV rfl (uxDV rfl (uxDV rfl hI.2.2.2.2.2.2.2.2.2.2.2.2.2.2.2.2.2.2.2.2.2.2.2.2.2.2.2.2.2.2.2.2.2.2.2.2.2.2.2.2.2.2.2.2.1))))))
    have k_xDP : xDP W := by
      rw [hW]
      exact (uxDP rfl (uxDP rfl (uxDP rfl (uxDP rfl (uxDP rfl (uxDP rfl hI.2.2.2.2.2.2.2.2.2.2.2.2.2.2.2.2.2.2.2.2.2.2.2.2.2.2.2.2.2.2.2.2.2.2.2.2.2.2.2.2.2.2.2.2.2.1))))))
    have k_xDE : xDE W := by
      rw [hW]
      exact (uxDE rfl (uxDE rfl (uxDE rfl (uxDE rfl (uxDE rfl (uxDE rfl hI.2.2.2.2.2.2.2.2.2.2.2.2.2.2.2.2.2.2.2.2.2.2.2.2.2.2.2.2.2.2.2.2.2.2.2.2.2.2.2.2.2.2.2.2.2.2.1))))))
    have k_xQ5 : xQ5 W := by
      rw [hW]
      exact (uxQ5 rfl (uxQ5 rfl (uxQ5 rfl (uxQ5 rfl (uxQ5 rfl (uxQ5 rfl hI.2.2.2.2.2.2.2.2.2.2.2.2.2.2.2.2.2.2.2.2.2.2.2.2.2.2.2.2.2.2.2.2.2.2.2.2.2.2.2.2.2.2.2.2.2.2.2.1))))))
    have k_xQL : xQL W := by
      rw [hW]
      exact (uxQL rfl (uxQL rfl (uxQL rfl (uxQL rfl (uxQL rfl (uxQL rfl hI.2.2.2.2.2.2.2.2.2.2.2.2.2.2.2.2.2.2.2.2.2.2.2.2.2.2.2.2.2.2.2.2.2.2.2.2.2.2.2.2.2.2.2.2.2.2.2.2.1))))))
    have k_xQW : xQW W := by
      rw [hW]
      exact (uxQW rfl (uxQW rfl (uxQW rfl (uxQW rfl (uxQW rfl (uxQW rfl hI.2.2.2.2.2.2.2.2.2.2.2.2.2.2.2.2.2.2.2.2.2.2.2.2.2.2.2.2.2.2.2.2.2.2.2.2.2.2.2.2.2.2.2.2.2.2.2.2.2.1))))))
    have k_xQM : xQM W := by
      rw [hW]
      exact (uxQM rfl (uxQM rfl (uxQM rfl (uxQM rfl (uxQM rfl (uxQM rfl hI.2.2.2.2.2.2.2.2.2.2.2.2.2.2.2.2.2.2.2.2.2.2.2.2.2.2.2.2.2.2.2.2.2.2.2.2.2.2.2.2.2.2.2.2.2.2.2.2.2.2.1))))))
    have k_xQH : xQH W := by
      rw [hW]
      exact (uxQH rfl (uxQH rfl (uxQH rfl (uxQH rfl (uxQH rfl (uxQH rfl hI.2.2.2.2.2.2.2.2.2.2.2.2.2.2.2.2.2.2.2.2.2.2.2.2.2.2.2.2.2.2.2.2.2.2.2.2.2.2.2.2.2.2.2.2.2.2.2.2.2.2.2))))))
    have k_XC : XC W := ⟨k_xS1, k_xS2, k_xS3, k_xS4, k_xS5, k_xS6, k_xS7, k_xS8, k_xS9, k_xSA, k_xSG, k_xSF, k_xSB, k_xSC, k_xSD, k_xSE, k_xSW, k_xST, k_xSP, k_xSL, k_xSM, k_xSI, k_xD3, k_xDV, k_xDP, k_xDE, k_xQ5, k_xQL, k_xQW, k_xQM, k_xQH⟩
    have kXB : XB W := ⟨k_xN1, k_xN2, k_xN3, k_xN4, k_xN5, k_xN6, k_xH1, k_xK1, k_xC1, k_xRW, k_xWT, k_xCU, k_xG2, k_xG3, k_xG4, k_xG5, k_xG6, k_XC⟩
    exact ⟨base, k2, k3, kXA, kXB⟩
-- wTop0
def xr_338 : qRu := (9, [[(-1, 1)]], [(4, 276, [(1, 1)]), (4, 270, [(1, 3)]), (4, 271, [(1, 4)]), (4, 272, [(1, 6)]), (4, 273, [(1, 7)]), (4, 274, [(1, 8)])], [], [], [[(1, 3)], [(-1, 3)], [(1, 4)], [(-1, 4)], [(1, 8)], [(-1, 8)]])
theorem xo_338 : qRok xr_338 := by
  intro ρ M h0 hf hm hI
  have f0 := hf [(-1, 1)] (by decide)
  simp only [qD, h0] at f0
  have m0 : M 4 276 = 1 * ρ 1 + 0 := hm (4, 276, [(1, 1)]) (by decide)
  have m1 : M 4 270 = 1 * ρ 3 + 0 := hm (4, 270, [(1, 3)]) (by decide)
  have m2 : M 4 271 = 1 * ρ 4 + 0 := hm (4, 271, [(1, 4)]) (by decide)
  have m3 : M 4 272 = 1 * ρ 6 + 0 := hm (4, 272, [(1, 6)]) (by decide)
  have m4 : M 4 273 = 1 * ρ 7 + 0 := hm (4, 273, [(1, 7)]) (by decide)
  have m5 : M 4 274 = 1 * ρ 8 + 0 := hm (4, 274, [(1, 8)]) (by decide)
  obtain ⟨w1, w2, w3, w4, w5⟩ := gx_xSW hI
  rw [show (M 4 276).toNat = 0 by omega] at w2 w4
  have w2 : (M 4 270, M 4 271) = ((0 : Int), (0 : Int)) := w2
  have w4 : M 4 274 = 0 := w4
  simp only [Prod.mk.injEq] at w2
  refine ⟨ρ, fun _ _ => rfl, fun f h => ?_, ?_⟩
  · have h : f ∈ ([[(1, 3)], [(-1, 3)], [(1, 4)], [(-1, 4)], [(1, 8)], [(-1, 8)]] : List qF) := h
    simp only [List.mem_cons, List.not_mem_nil, or_false] at h
    rcases h with rfl | rfl | rfl | rfl | rfl | rfl
    · show 0 ≤ 1 * ρ 3 + 0
      (try rw [h0]); omega
    · show 0 ≤ -1 * ρ 3 + 0
      (try rw [h0]); omega
    · show 0 ≤ 1 * ρ 4 + 0
      (try rw [h0]); omega
    · show 0 ≤ -1 * ρ 4 + 0
      (try rw [h0]); omega
    · show 0 ≤ 1 * ρ 8 + 0
      (try rw [h0]); omega
    · show 0 ≤ -1 * ρ 8 + 0
      (try rw [h0]); omega
  · show sI M
    exact hI
-- wTop6
def xr_339 : qRu := (9, [[(-6, 0), (1, 2)], [(6, 0), (-1, 2)], [(-1, 0), (1, 1)], [(1, 0), (-1, 1), (1, 5)], [(-1, 0), (1, 1), (-1, 5)]], [(4, 276, [(1, 1)]), (4, 270, [(1, 3)]), (4, 271, [(1, 4)]), (4, 272, [(1, 6)]), (4, 273, [(1, 7)]), (4, 274, [(1, 8)]), (55, 1005, [(1, 2)])], [], [], [[(1, 3)], [(-1, 3)], [(1, 4), (-1, 6), (-2, 7)], [(-1, 4), (1, 6), (2, 7)], [(1, 8)], [(-1, 8)]])
theorem xo_339 : qRok xr_339 := by
  intro ρ M h0 hf hm hI
  have f0 := hf [(-6, 0), (1, 2)] (by decide)
  have f1 := hf [(6, 0), (-1, 2)] (by decide)
  have f2 := hf [(-1, 0), (1, 1)] (by decide)
  have f3 := hf [(1, 0), (-1, 1), (1, 5)] (by decide)
  have f4 := hf [(-1, 0), (1, 1), (-1, 5)] (by decide)
  simp only [qD, h0] at f0 f1 f2 f3 f4
  have m0 : M 4 276 = 1 * ρ 1 + 0 := hm (4, 276, [(1, 1)]) (by decide)
  have m1 : M 4 270 = 1 * ρ 3 + 0 := hm (4, 270, [(1, 3)]) (by decide)
  have m2 : M 4 271 = 1 * ρ 4 + 0 := hm (4, 271, [(1, 4)]) (by decide)
  have m3 : M 4 272 = 1 * ρ 6 + 0 := hm (4, 272, [(1, 6)]) (by decide)
  have m4 : M 4 273 = 1 * ρ 7 + 0 := hm (4, 273, [(1, 7)]) (by decide)
  have m5 : M 4 274 = 1 * ρ 8 + 0 := hm (4, 274, [(1, 8)]) (by decide)
  have m6 : M 55 (zIx ρ (1000 + 5)) = 1 * ρ 2 + 0 := hm (55, 1005, [(1, 2)]) (by decide)
  rw [zix_p] at m6
  obtain ⟨w1, w2, w3, w4, w5⟩ := gx_xSW hI
  obtain ⟨t, ht⟩ : ∃ t : Nat, (M 4 276).toNat = t + 1 := ⟨(M 4 276).toNat - 1, by omega⟩
  rw [ht] at w2 w3 w4
  rw [show t + 1 - 1 = t by omega] at w3
  have hv : M 55 t = ρ 2 := by rw [show t = (ρ 5).toNat by omega]; omega
  have hx : xWs M (t + 1) = (if M 55 t = 6 then (0, 2 * (xWs M t).2 + (xWs M t).1) else if 12 ≤ M 55 t ∧ M 55 t ≤ 17 then (1, (xWs M t).2) else if 33 ≤ M 55 t ∧ M 55 t ≤ 35 then (0, (xWs M t).2) else xWs M t) := rfl
  have hn : xWn M (t + 1) = xKn (M 55 t) := rfl
  rw [hx, ← w3, hv, if_pos (by omega)] at w2
  rw [hn, hv] at w4
  unfold xKn at w4
  rw [if_pos (by omega)] at w4
  simp only [Prod.mk.injEq] at w2
  refine ⟨ρ, fun _ _ => rfl, fun f h => ?_, ?_⟩
  · have h : f ∈ ([[(1, 3)], [(-1, 3)], [(1, 4), (-1, 6), (-2, 7)], [(-1, 4), (1, 6), (2, 7)], [(1, 8)], [(-1, 8)]] : List qF) := h
    simp only [List.mem_cons, List.not_mem_nil, or_false] at h
    rcases h with rfl | rfl | rfl | rfl | rfl | rfl
    · show 0 ≤ 1 * ρ 3 + 0
      (try rw [h0]); omega
    · show 0 ≤ -1 * ρ 3 + 0
      (try rw [h0]); omega
    · show 0 ≤ 1 * ρ 4 + (-1 * ρ 6 + (-2 * ρ 7 + 0))
      (try rw [h0]); omega
    · show 0 ≤ -1 * ρ 4 + (1 * ρ 6 + (2 * ρ 7 + 0))
      (try rw [h0]); omega
    · show 0 ≤ 1 * ρ 8 + 0
      (try rw [h0]); omega
    · show 0 ≤ -1 * ρ 8 + 0
      (try rw [h0]); omega
  · show sI M
    exact hI
-- wTopC
def xr_340 : qRu := (9, [[(-12, 0), (1, 2)], [(17, 0), (-1, 2)], [(-1, 0), (1, 1)], [(1, 0), (-1, 1), (1, 5)], [(-1, 0), (1, 1), (-1, 5)]], [(4, 276, [(1, 1)]), (4, 270, [(1, 3)]), (4, 271, [(1, 4)]), (4, 272, [(1, 6)]), (4, 273, [(1, 7)]), (4, 274, [(1, 8)]), (55, 1005, [(1, 2)])], [], [], [[(-1, 0), (1, 3)], [(1, 0), (-1, 3)], [(1, 4), (-1, 7)], [(-1, 4), (1, 7)], [(-2, 0), (1, 8)], [(2, 0), (-1, 8)]])
theorem xo_340 : qRok xr_340 := by
  intro ρ M h0 hf hm hI
  have f0 := hf [(-12, 0), (1, 2)] (by decide)
  have f1 := hf [(17, 0), (-1, 2)] (by decide)
  have f2 := hf [(-1, 0), (1, 1)] (by decide)
  have f3 := hf [(1, 0), (-1, 1), (1, 5)] (by decide)
  have f4 := hf [(-1, 0), (1, 1), (-1, 5)] (by decide)
  simp only [qD, h0] at f0 f1 f2 f3 f4
  have m0 : M 4 276 = 1 * ρ 1 + 0 := hm (4, 276, [(1, 1)]) (by decide)
  have m1 : M 4 270 = 1 * ρ 3 + 0 := hm (4, 270, [(1, 3)]) (by decide)
  have m2 : M 4 271 = 1 * ρ 4 + 0 := hm (4, 271, [(1, 4)]) (by decide)
  have m3 : M 4 272 = 1 * ρ 6 + 0 := hm (4, 272, [(1, 6)]) (by decide)
  have m4 : M 4 273 = 1 * ρ 7 + 0 := hm (4, 273, [(1, 7)]) (by decide)
  have m5 : M 4 274 = 1 * ρ 8 + 0 := hm (4, 274, [(1, 8)]) (by decide)
  have m6 : M 55 (zIx ρ (1000 + 5)) = 1 * ρ 2 + 0 := hm (55, 1005, [(1, 2)]) (by decide)
  rw [zix_p] at m6
  obtain ⟨w1, w2, w3, w4, w5⟩ := gx_xSW hI
  obtain ⟨t, ht⟩ : ∃ t : Nat, (M 4 276).toNat = t + 1 := ⟨(M 4 276).toNat - 1, by omega⟩
  rw [ht] at w2 w3 w4
  rw [show t + 1 - 1 = t by omega] at w3
  have hv : M 55 t = ρ 2 := by rw [show t = (ρ 5).toNat by omega]; omega
  have hx : xWs M (t + 1) = (if M 55 t = 6 then (0, 2 * (xWs M t).2 + (xWs M t).1) else if 12 ≤ M 55 t ∧ M 55 t ≤ 17 then (1, (xWs M t).2) else if 33 ≤ M 55 t ∧ M 55 t ≤ 35 then (0, (xWs M t).2) else xWs M t) := rfl
  have hn : xWn M (t + 1) = xKn (M 55 t) := rfl
  rw [hx, ← w3, hv, if_neg (by omega), if_pos (by omega)] at w2
  rw [hn, hv] at w4
  unfold xKn at w4
  rw [if_neg (by omega), if_neg (by omega), if_pos (by omega)] at w4
  simp only [Prod.mk.injEq] at w2
  refine ⟨ρ, fun _ _ => rfl, fun f h => ?_, ?_⟩
  · have h : f ∈ ([[(-1, 0), (1, 3)], [(1, 0), (-1, 3)], [(1, 4), (-1, 7)], [(-1, 4), (1, 7)], [(-2, 0), (1, 8)], [(2, 0), (-1, 8)]] : List qF) := h
    simp only [List.mem_cons, List.not_mem_nil, or_false] at h
    rcases h with rfl | rfl | rfl | rfl | rfl | rfl
    · show 0 ≤ -1 * ρ 0 + (1 * ρ 3 + 0)
      (try rw [h0]); omega
    · show 0 ≤ 1 * ρ 0 + (-1 * ρ 3 + 0)
      (try rw [h0]); omega
    · show 0 ≤ 1 * ρ 4 + (-1 * ρ 7 + 0)
      (try rw [h0]); omega
    · show 0 ≤ -1 * ρ 4 + (1 * ρ 7 + 0)
      (try rw [h0]); omega
    · show 0 ≤ -2 * ρ 0 + (1 * ρ 8 + 0)
      (try rw [h0]); omega
    · show 0 ≤ 2 * ρ 0 + (-1 * ρ 8 + 0)
      (try rw [h0]); omega
  · show sI M
    exact hI
-- wTopJ
def xr_341 : qRu := (9, [[(-33, 0), (1, 2)], [(35, 0), (-1, 2)], [(-1, 0), (1, 1)], [(1, 0), (-1, 1), (1, 5)], [(-1, 0), (1, 1), (-1, 5)]], [(4, 276, [(1, 1)]), (4, 270, [(1, 3)]), (4, 271, [(1, 4)]), (4, 272, [(1, 6)]), (4, 273, [(1, 7)]), (4, 274, [(1, 8)]), (55, 1005, [(1, 2)])], [], [], [[(1, 3)], [(-1, 3)], [(1, 4), (-1, 7)], [(-1, 4), (1, 7)], [(-1, 0), (1, 8)], [(1, 0), (-1, 8)]])
theorem xo_341 : qRok xr_341 := by
  intro ρ M h0 hf hm hI
  have f0 := hf [(-33, 0), (1, 2)] (by decide)
  have f1 := hf [(35, 0), (-1, 2)] (by decide)
  have f2 := hf [(-1, 0), (1, 1)] (by decide)
  have f3 := hf [(1, 0), (-1, 1), (1, 5)] (by decide)
  have f4 := hf [(-1, 0), (1, 1), (-1, 5)] (by decide)
  simp only [qD, h0] at f0 f1 f2 f3 f4
  have m0 : M 4 276 = 1 * ρ 1 + 0 := hm (4, 276, [(1, 1)]) (by decide)
  have m1 : M 4 270 = 1 * ρ 3 + 0 := hm (4, 270, [(1, 3)]) (by decide)
  have m2 : M 4 271 = 1 * ρ 4 + 0 := hm (4, 271, [(1, 4)]) (by decide)
  have m3 : M 4 272 = 1 * ρ 6 + 0 := hm (4, 272, [(1, 6)]) (by decide)
  have m4 : M 4 273 = 1 * ρ 7 + 0 := hm (4, 273, [(1, 7)]) (by decide)
  have m5 : M 4 274 = 1 * ρ 8 + 0 := hm (4, 274, [(1, 8)]) (by decide)
  have m6 : M 55 (zIx ρ (1000 + 5)) = 1 * ρ 2 + 0 := hm (55, 1005, [(1, 2)]) (by decide)
  rw [zix_p] at m6
  obtain ⟨w1, w2, w3, w4, w5⟩ := gx_xSW hI
  obtain ⟨t, ht⟩ : ∃ t : Nat, (M 4 276).toNat = t + 1 := ⟨(M 4 276).toNat - 1, by omega⟩
  rw [ht] at w2 w3 w4
  rw [show t + 1 - 1 = t by omega] at w3
  have hv : M 55 t = ρ 2 := by rw [show t = (ρ 5).toNat by omega]; omega
  have hx : xWs M (t + 1) = (if M 55 t = 6 then (0, 2 * (xWs M t).2 + (xWs M t).1) else if 12 ≤ M 55 t ∧ M 55 t ≤ 17 then (1, (xWs M t).2) else if 33 ≤ M 55 t ∧ M 55 t ≤ 35 then (0, (xWs M t).2) else xWs M t) := rfl
  have hn : xWn M (t + 1) = xKn (M 55 t) := rfl
  rw [hx, ← w3, hv, if_neg (by omega), if_neg (by omega), if_pos (by omega)] at w2
  rw [hn, hv] at w4
  unfold xKn at w4
  rw [if_neg (by omega), if_pos (by omega)] at w4
  simp only [Prod.mk.injEq] at w2
  refine ⟨ρ, fun _ _ => rfl, fun f h => ?_, ?_⟩
  · have h : f ∈ ([[(1, 3)], [(-1, 3)], [(1, 4), (-1, 7)], [(-1, 4), (1, 7)], [(-1, 0), (1, 8)], [(1, 0), (-1, 8)]] : List qF) := h
    simp only [List.mem_cons, List.not_mem_nil, or_false] at h
    rcases h with rfl | rfl | rfl | rfl | rfl | rfl
    · show 0 ≤ 1 * ρ 3 + 0
      (try rw [h0]); omega
    · show 0 ≤ -1 * ρ 3 + 0
      (try rw [h0]); omega
    · show 0 ≤ 1 * ρ 4 + (-1 * ρ 7 + 0)
      (try rw [h0]); omega
    · show 0 ≤ -1 * ρ 4 + (1 * ρ 7 + 0)
      (try rw [h0]); omega
    · show 0 ≤ -1 * ρ 0 + (1 * ρ 8 + 0)
      (try rw [h0]); omega
    · show 0 ≤ 1 * ρ 0 + (-1 * ρ 8 + 0)
      (try rw [h0]); omega
  · show sI M
    exact hI
-- wTopA
def xr_342 : qRu := (9, [[(-8, 0), (1, 2)], [(11, 0), (-1, 2)], [(-1, 0), (1, 1)], [(1, 0), (-1, 1), (1, 5)], [(-1, 0), (1, 1), (-1, 5)]], [(4, 276, [(1, 1)]), (4, 270, [(1, 3)]), (4, 271, [(1, 4)]), (4, 272, [(1, 6)]), (4, 273, [(1, 7)]), (4, 274, [(1, 8)]), (55, 1005, [(1, 2)])], [], [], [[(1, 3), (-1, 6)], [(-1, 3), (1, 6)], [(1, 4), (-1, 7)], [(-1, 4), (1, 7)], [(-3, 0), (1, 8)], [(3, 0), (-1, 8)]])
theorem xo_342 : qRok xr_342 := by
  intro ρ M h0 hf hm hI
  have f0 := hf [(-8, 0), (1, 2)] (by decide)
  have f1 := hf [(11, 0), (-1, 2)] (by decide)
  have f2 := hf [(-1, 0), (1, 1)] (by decide)
  have f3 := hf [(1, 0), (-1, 1), (1, 5)] (by decide)
  have f4 := hf [(-1, 0), (1, 1), (-1, 5)] (by decide)
  simp only [qD, h0] at f0 f1 f2 f3 f4
  have m0 : M 4 276 = 1 * ρ 1 + 0 := hm (4, 276, [(1, 1)]) (by decide)
  have m1 : M 4 270 = 1 * ρ 3 + 0 := hm (4, 270, [(1, 3)]) (by decide)
  have m2 : M 4 271 = 1 * ρ 4 + 0 := hm (4, 271, [(1, 4)]) (by decide)
  have m3 : M 4 272 = 1 * ρ 6 + 0 := hm (4, 272, [(1, 6)]) (by decide)
  have m4 : M 4 273 = 1 * ρ 7 + 0 := hm (4, 273, [(1, 7)]) (by decide)
  have m5 : M 4 274 = 1 * ρ 8 + 0 := hm (4, 274, [(1, 8)]) (by decide)
  have m6 : M 55 (zIx ρ (1000 + 5)) = 1 * ρ 2 + 0 := hm (55, 1005, [(1, 2)]) (by decide)
  rw [zix_p] at m6
  obtain ⟨w1, w2, w3, w4, w5⟩ := gx_xSW hI
  obtain ⟨t, ht⟩ : ∃ t : Nat, (M 4 276).toNat = t + 1 := ⟨(M 4 276).toNat - 1, by omega⟩
  rw [ht] at w2 w3 w4
  rw [show t + 1 - 1 = t by omega] at w3
  have hv : M 55 t = ρ 2 := by rw [show t = (ρ 5).toNat by omega]; omega
  have hx : xWs M (t + 1) = (if M 55 t = 6 then (0, 2 * (xWs M t).2 + (xWs M t).1) else if 12 ≤ M 55 t ∧ M 55 t ≤ 17 then (1, (xWs M t).2) else if 33 ≤ M 55 t ∧ M 55 t ≤ 35 then (0, (xWs M t).2) else xWs M t) := rfl
  have hn : xWn M (t + 1) = xKn (M 55 t) := rfl
  rw [hx, ← w3, hv, if_neg (by omega), if_neg (by omega), if_neg (by omega)] at w2
  rw [hn, hv] at w4
  unfold xKn at w4
  rw [if_neg (by omega), if_neg (by omega), if_neg (by omega)] at w4
  simp only [Prod.mk.injEq] at w2
  refine ⟨ρ, fun _ _ => rfl, fun f h => ?_, ?_⟩
  · have h : f ∈ ([[(1, 3), (-1, 6)], [(-1, 3), (1, 6)], [(1, 4), (-1, 7)], [(-1, 4), (1, 7)], [(-3, 0), (1, 8)], [(3, 0), (-1, 8)]] : List qF) := h
    simp only [List.mem_cons, List.not_mem_nil, or_false] at h
    rcases h with rfl | rfl | rfl | rfl | rfl | rfl
    · show 0 ≤ 1 * ρ 3 + (-1 * ρ 6 + 0)
      (try rw [h0]); omega
    · show 0 ≤ -1 * ρ 3 + (1 * ρ 6 + 0)
      (try rw [h0]); omega
    · show 0 ≤ 1 * ρ 4 + (-1 * ρ 7 + 0)
      (try rw [h0]); omega
    · show 0 ≤ -1 * ρ 4 + (1 * ρ 7 + 0)
      (try rw [h0]); omega
    · show 0 ≤ -3 * ρ 0 + (1 * ρ 8 + 0)
      (try rw [h0]); omega
    · show 0 ≤ 3 * ρ 0 + (-1 * ρ 8 + 0)
      (try rw [h0]); omega
  · show sI M
    exact hI
-- orKeep
def xr_343 : qRu := (4, [], [(91, 240, [(1, 0)]), (91, 241, [(1, 0)]), (91, 242, [(1, 2)]), (91, 246, [(1, 1)]), (91, 244, [(1, 3)])], [], [(4, 283, [(1, 0)]), (4, 280, [(1, 1)]), (4, 281, [(1, 2)]), (4, 282, [(1, 3)])], [])
theorem xo_343 : qRok xr_343 := by
  intro ρ M h0 hf hm hI
  have m0 : M 91 240 = 1 * ρ 0 + 0 := hm (91, 240, [(1, 0)]) (by decide)
  have m1 : M 91 241 = 1 * ρ 0 + 0 := hm (91, 241, [(1, 0)]) (by decide)
  have m2 : M 91 242 = 1 * ρ 2 + 0 := hm (91, 242, [(1, 2)]) (by decide)
  have m3 : M 91 246 = 1 * ρ 1 + 0 := hm (91, 246, [(1, 1)]) (by decide)
  have m4 : M 91 244 = 1 * ρ 3 + 0 := hm (91, 244, [(1, 3)]) (by decide)
  simp only [h0] at m0 m1
  have qxSM := hI.2.2.2.2.2.2.2.2.2.2.2.2.2.2.2.2.2.2.2.2.2.2.2.2.2.2.2.2.2.2.2.2.2.2.2.2.2.2.2.2.2.1
  refine ⟨ρ, fun _ _ => rfl, fun f h => ?_, ?_⟩
  · exact nomatch h
  · show sI (sU (sU (sU (sU M 4 283 (1 * ρ 0 + 0)) 4 280 (1 * ρ 1 + 0)) 4 281 (1 * ρ 2 + 0)) 4 282 (1 * ρ 3 + 0))
    obtain ⟨W, hW⟩ : ∃ W, W = (sU (sU (sU (sU M 4 283 (1 * ρ 0 + 0)) 4 280 (1 * ρ 1 + 0)) 4 281 (1 * ρ 2 + 0)) 4 282 (1 * ρ 3 + 0)) := ⟨_, rfl⟩
    rw [← hW]
    have base : sI0 W := by
      rw [hW]
      exact (si_u0 (si_u0 (si_u0 (si_u0 hI.1 (fun r hr => by cases hr)) (fun r hr => by cases hr)) (fun r hr => by cases hr)) (fun r hr => by cases hr))
    have k2 : XI2 W := by
      rw [hW]
      exact (xi2_u rfl (xi2_u rfl (xi2_u rfl (xi2_u rfl hI.2.1))))
    have k3 : XI3 W := by
      rw [hW]
      exact (xi3_u rfl (xi3_u rfl (xi3_u rfl (xi3_u rfl hI.2.2.1))))
    have kXA : XA W := by
      rw [hW]
      exact (uXA rfl (uXA rfl (uXA rfl (uXA rfl hI.2.2.2.1))))
    have k_xN1 : xN1 W := by
      rw [hW]
      exact (uxN1 rfl (uxN1 rfl (uxN1 rfl (uxN1 rfl hI.2.2.2.2.1))))
    have k_xN2 : xN2 W := by
      rw [hW]
      exact (uxN2 rfl (uxN2 rfl (uxN2 rfl (uxN2 rfl hI.2.2.2.2.2.1))))
    have k_xN3 : xN3 W := by
      rw [hW]
      exact (uxN3 rfl (uxN3 rfl (uxN3 rfl (uxN3 rfl hI.2.2.2.2.2.2.1))))
    have k_xN4 : xN4 W := by
      rw [hW]
      exact (uxN4 rfl (uxN4 rfl (uxN4 rfl (uxN4 rfl hI.2.2.2.2.2.2.2.1))))
    have k_xN5 : xN5 W := by
      rw [hW]
      exact (uxN5 rfl (uxN5 rfl (uxN5 rfl (uxN5 rfl hI.2.2.2.2.2.2.2.2.1))))
    have k_xN6 : xN6 W := by
      rw [hW]
      exact (uxN6 rfl (uxN6 rfl (uxN6 rfl (uxN6 rfl hI.2.2.2.2.2.2.2.2.2.1))))
    have k_xH1 : xH1 W := by
      rw [hW]
      exact (uxH1 rfl (uxH1 rfl (uxH1 rfl (uxH1 rfl hI.2.2.2.2.2.2.2.2.2.2.1))))
    have k_xK1 : xK1 W := by
      rw [hW]
      exact (uxK1 rfl (uxK1 rfl (uxK1 rfl (uxK1 rfl hI.2.2.2.2.2.2.2.2.2.2.2.1))))
    have k_xC1 : xC1 W := by
      rw [hW]
      exact (uxC1 rfl (uxC1 rfl (uxC1 rfl (uxC1 rfl hI.2.2.2.2.2.2.2.2.2.2.2.2.1))))
    have k_xRW : xRW W := by
      rw [hW]
      exact (uxRW rfl (uxRW rfl (uxRW rfl (uxRW rfl hI.2.2.2.2.2.2.2.2.2.2.2.2.2.1))))
    have k_xWT : xWT W := by
      rw [hW]
      exact (uxWT rfl (uxWT rfl (uxWT rfl (uxWT rfl hI.2.2.2.2.2.2.2.2.2.2.2.2.2.2.1))))
    have k_xCU : xCU W := by
      rw [hW]
      exact (uxCU rfl (uxCU rfl (uxCU rfl (uxCU rfl hI.2.2.2.2.2.2.2.2.2.2.2.2.2.2.2.1))))
    have k_xG2 : xG2 W := by
      rw [hW]
      exact (uxG2 rfl (uxG2 rfl (uxG2 rfl (uxG2 rfl hI.2.2.2.2.2.2.2.2.2.2.2.2.2.2.2.2.1))))
    have k_xG3 : xG3 W := by
      rw [hW]
      exact (uxG3 rfl (uxG3 rfl (uxG3 rfl (uxG3 rfl hI.2.2.2.2.2.2.2.2.2.2.2.2.2.2.2.2.2.1))))
    have k_xG4 : xG4 W := by
      rw [hW]
      exact (uxG4 rfl (uxG4 rfl (uxG4 rfl (uxG4 rfl hI.2.2.2.2.2.2.2.2.2.2.2.2.2.2.2.2.2.2.1))))
    have k_xG5 : xG5 W := by
      rw [hW]
      exact (uxG5 rfl (uxG5 rfl (uxG5 rfl (uxG5 rfl hI.2.2.2.2.2.2.2.2.2.2.2.2.2.2.2.2.2.2.2.1))))
    have k_xG6 : xG6 W := by
      rw [hW]
      exact (uxG6 rfl (uxG6 rfl (uxG6 rfl (uxG6 rfl hI.2.2.2.2.2.2.2.2.2.2.2.2.2.2.2.2.2.2.2.2.1))))
    have k_xS1 : xS1 W := by
      rw [hW]
      exact (uxS1 rfl (uxS1 rfl (uxS1 rfl (uxS1 rfl hI.2.2.2.2.2.2.2.2.2.2.2.2.2.2.2.2.2.2.2.2.2.1))))
    have k_xS2 : xS2 W := by
      rw [hW]
      exact (uxS2 rfl (uxS2 rfl (uxS2 rfl (uxS2 rfl hI.2.2.2.2.2.2.2.2.2.2.2.2.2.2.2.2.2.2.2.2.2.2.1))))
    have k_xS3 : xS3 W := by
      rw [hW]
      exact (uxS3 rfl (uxS3 rfl (uxS3 rfl (uxS3 rfl hI.2.2.2.2.2.2.2.2.2.2.2.2.2.2.2.2.2.2.2.2.2.2.2.1))))
    have k_xS4 : xS4 W := by
      rw [hW]
      exact (uxS4 rfl (uxS4 rfl (uxS4 rfl (uxS4 rfl hI.2.2.2.2.2.2.2.2.2.2.2.2.2.2.2.2.2.2.2.2.2.2.2.2.1))))
    have k_xS5 : xS5 W := by
      rw [hW]
      exact (uxS5 rfl (uxS5 rfl (uxS5 rfl (uxS5 rfl hI.2.2.2.2.2.2.2.2.2.2.2.2.2.2.2.2.2.2.2.2.2.2.2.2.2.1))))
    have k_xS6 : xS6 W := by
      rw [hW]
      exact (uxS6 rfl (uxS6 rfl (uxS6 rfl (uxS6 rfl hI.2.2.2.2.2.2.2.2.2.2.2.2.2.2.2.2.2.2.2.2.2.2.2.2.2.2.1))))
    have k_xS7 : xS7 W := by
      rw [hW]
      exact (uxS7 rfl (uxS7 rfl (uxS7 rfl (uxS7 rfl hI.2.2.2.2.2.2.2.2.2.2.2.2.2.2.2.2.2.2.2.2.2.2.2.2.2.2.2.1))))
    have k_xS8 : xS8 W := by
      rw [hW]
      exact (uxS8 rfl (uxS8 rfl (uxS8 rfl (uxS8 rfl hI.2.2.2.2.2.2.2.2.2.2.2.2.2.2.2.2.2.2.2.2.2.2.2.2.2.2.2.2.1))))
    have k_xS9 : xS9 W := by
      rw [hW]
      exact (uxS9 rfl (uxS9 rfl (uxS9 rfl (uxS9 rfl hI.2.2.2.2.2.2.2.2.2.2.2.2.2.2.2.2.2.2.2.2.2.2.2.2.2.2.2.2.2.1))))
    have k_xSA : xSA W := by
      rw [hW]
      exact (uxSA rfl (uxSA rfl (uxSA rfl (uxSA rfl hI.2.2.2.2.2.2.2.2.2.2.2.2.2.2.2.2.2.2.2.2.2.2.2.2.2.2.2.2.2.2.1))))
    have k_xSG : xSG W := by
      rw [hW]
      exact (uxSG rfl (uxSG rfl (uxSG rfl (uxSG rfl hI.2.2.2.2.2.2.2.2.2.2.2.2.2.2.2.2.2.2.2.2.2.2.2.2.2.2.2.2.2.2.2.1))))
    have k_xSF : xSF W := by
      rw [hW]
      exact (uxSF rfl (uxSF rfl (uxSF rfl (uxSF rfl hI.2.2.2.2.2.2.2.2.2.2.2.2.2.2.2.2.2.2.2.2.2.2.2.2.2.2.2.2.2.2.2.2.1))))
    have k_xSB : xSB W := by
      rw [hW]
      exact (uxSB rfl (uxSB rfl (uxSB rfl (uxSB rfl hI.2.2.2.2.2.2.2.2.2.2.2.2.2.2.2.2.2.2.2.2.2.2.2.2.2.2.2.2.2.2.2.2.2.1))))
    have k_xSC : xSC W := by
      rw [hW]
      exact (uxSC rfl (uxSC rfl (uxSC rfl (uxSC rfl hI.2.2.2.2.2.2.2.2.2.2.2.2.2.2.2.2.2.2.2.2.2.2.2.2.2.2.2.2.2.2.2.2.2.2.1))))
    have k_xSD : xSD W := by
      rw [hW]
      exact (uxSD rfl (uxSD rfl (uxSD rfl (uxSD rfl hI.2.2.2.2.2.2.2.2.2.2.2.2.2.2.2.2.2.2.2.2.2.2.2.2.2.2.2.2.2.2.2.2.2.2.2.1))))
    have k_xSE : xSE W := by
      rw [hW]
      exact (uxSE rfl (uxSE rfl (uxSE rfl (uxSE rfl hI.2.2.2.2.2.2.2.2.2.2.2.2.2.2.2.2.2.2.2.2.2.2.2.2.2.2.2.2.2.2.2.2.2.2.2.2.1))))
    have k_xSW : xSW W := by
      rw [hW]
      exact (uxSW rfl (uxSW rfl (uxSW rfl (uxSW rfl hI.2.2.2.2.2.2.2.2.2.2.2.2.2.2.2.2.2.2.2.2.2.2.2.2.2.2.2.2.2.2.2.2.2.2.2.2.2.1))))
    have k_xST : xST W := by
      rw [hW]
      exact (uxST rfl (uxST rfl (uxST rfl (uxST rfl hI.2.2.2.2.2.2.2.2.2.2.2.2.2.2.2.2.2.2.2.2.2.2.2.2.2.2.2.2.2.2.2.2.2.2.2.2.2.2.1))))
    have k_xSP : xSP W := by
      rw [hW]
      exact (uxSP rfl (uxSP rfl (uxSP rfl (uxSP rfl hI.2.2.2.2.2.2.2.2.2.2.2.2.2.2.2.2.2.2.2.2.2.2.2.2.2.2.2.2.2.2.2.2.2.2.2.2.2.2.2.1))))
    have k_xSL : xSL W := by
      rw [hW]
      exact (uxSL rfl (uxSL rfl (uxSL rfl (uxSL rfl hI.2.2.2.2.2.2.2.2.2.2.2.2.2.2.2.2.2.2.2.2.2.2.2.2.2.2.2.2.2.2.2.2.2.2.2.2.2.2.2.2.1))))
    have k_xSM : xSM W := by
      have r4_280 : W 4 280 = 1 * ρ 1 + 0 := by rw [hW, sU_ne (fun z => by omega), sU_ne (fun z => by omega), sU_at]
      have r4_281 : W 4 281 = 1 * ρ 2 + 0 := by rw [hW, sU_ne (fun z => by omega), sU_at]
      have r4_282 : W 4 282 = 1 * ρ 3 + 0 := by rw [hW, sU_at]
      have r4_283 : W 4 283 = 1 * ρ 0 + 0 := by rw [hW, sU_ne (fun z => by omega), sU_ne (fun z => by omega), sU_ne (fun z => by omega), sU_at]
      intro h
      rw [r4_280, r4_281, r4_282]
      obtain ⟨d1, d2, d3⟩ := gx_xSD hI (by omega)
      rw [show (1 * ρ 1 + 0 : Int) = M 91 246 by omega, show (1 * ρ 2 + 0 : Int) = M 91 242 by omega, show (1 * ρ 3 + 0 : Int) = M 91 244 by omega, d2, d1, show M 91 241 = 1 by omega]
    have k_xSI : xSI W := by
      rw [hW]
      exact (uxSI rfl (uxSI rfl (uxSI rfl (uxSI rfl hI.2.2.2.2.2.2.2.2.2.2.2.2.2.2.2.2.2.2.2.2.2.2.2.2.2.2.2.2.2.2.2.2.2.2.2.2.2.2.2.2.2.2.1))))
    have k_xD3 : xD3 W := by
      rw [hW]
      exact (uxD3 rfl (uxD3 rfl (uxD3 rfl (uxD3 rfl hI.2.2.2.2.2.2.2.2.2.2.2.2.2.2.2.2.2.2.2.2.2.2.2.2.2.2.2.2.2.2.2.2.2.2.2.2.2.2.2.2.2.2.2.1))))
    have k_xDV : xDV W := by
      rw [hW]
      exact (uxDV rfl (uxDV rfl (uxDV rfl (uxDV rfl hI.2.2.2.2.2.2.2.2.2.2.2.2.2.2.2.2.2.2.2.2.2.2.2.2.2.2.2.2.2.2.2.2.2.2.2.2.2.2.2.2.2.2.2.2.1))))
    have k_xDP : xDP W := by
      rw [hW]
      exact (uxDP rfl (uxDP rfl (uxDP rfl (uxDP rfl hI.2.2.2.2.2.2.2.2.2.2.2.2.2.2.2.2.2.2.2.2.2.2.2.2.2.2.2.2.2.2.2.2.2.2.2.2.2.2.2.2.2.2.2.2.2.1))))
    have k_xDE : xDE W := by
      rw [hW]
      exact (uxDE rfl (uxDE rfl (uxDE rfl (uxDE rfl hI.2.2.2.2.2.2.2.2.2.2.2.2.2.2.2.2.2.2.2.2.2.2.2.2.2.2.2.2.2.2.2.2.2.2.2.2.2.2.2.2.2.2.2.2.2.2.1))))
    have k_xQ5 : xQ5 W := by
      rw [hW]
      exact (uxQ5 rfl (uxQ5 rfl (uxQ5 rfl (uxQ5 rfl hI.2.2.2.2.2.2.2.2.2.2.2.2.2.2.2.2.2.2.2.2.2.2.2.2.2.2.2.2.2.2.2.2.2.2.2.2.2.2.2.2.2.2.2.2.2.2.2.1))))
    have k_xQL : xQL W := by
      rw [hW]
      exact (uxQL rfl (uxQL rfl (uxQL rfl (uxQL rfl hI.2.2.2.2.2.2.2.2.2.2.2.2.2.2.2.2.2.2.2.2.2.2.2.2.2.2.2.2.2.2.2.2.2.2.2.2.2.2.2.2.2.2.2.2.2.2.2.2.1))))
    have k_xQW : xQW W := by
      rw [hW]
      exact (uxQW rfl (uxQW rfl (uxQW rfl (uxQW rfl hI.2.2.2.2.2.2.2.2.2.2.2.2.2.2.2.2.2.2.2.2.2.2.2.2.2.2.2.2.2.2.2.2.2.2.2.2.2.2.2.2.2.2.2.2.2.2.2.2.2.1))))
    have k_xQM : xQM W := by
      rw [hW]
      exact (uxQM rfl (uxQM rfl (uxQM rfl (uxQM rfl hI.2.2.2.2.2.2.2.2.2.2.2.2.2.2.2.2.2.2.2.2.2.2.2.2.2.2.2.2.2.2.2.2.2.2.2.2.2.2.2.2.2.2.2.2.2.2.2.2.2.2.1))))
    have k_xQH : xQH W := by
      rw [hW]
      exact (uxQH rfl (uxQH rfl (uxQH rfl (uxQH rfl hI.2.2.2.2.2.2.2.2.2.2.2.2.2.2.2.2.2.2.2.2.2.2.2.2.2.2.2.2.2.2.2.2.2.2.2.2.2.2.2.2.2.2.2.2.2.2.2.2.2.2.2))))
    have k_XC : XC W := ⟨k_xS1, k_xS2, k_xS3, k_xS4, k_xS5, k_xS6, k_xS7, k_xS8, k_xS9, k_xSA, k_xSG, k_xSF, k_xSB, k_xSC, k_xSD, k_xSE, k_xSW, k_xST, k_xSP, k_xSL, k_xSM, k_xSI, k_xD3, k_xDV, k_xDP, k_xDE, k_xQ5, k_xQL, k_xQW, k_xQM, k_xQH⟩
    have kXB : XB W := ⟨k_xN1, k_xN2, k_xN3, k_xN4, k_xN5, k_xN6, k_xH1, k_xK1, k_xC1, k_xRW, k_xWT, k_xCU, k_xG2, k_xG3, k_xG4, k_xG5, k_xG6, k_XC⟩
    exact ⟨base, k2, k3, kXA, kXB⟩
-- orBack
def xr_344 : qRu := (4, [], [(4, 283, [(1, 0)]), (4, 280, [(1, 1)]), (4, 281, [(1, 2)]), (4, 282, [(1, 3)]), (91, 249, [])], [], [(91, 240, [(1, 0)]), (91, 241, [(1, 0)]), (91, 242, [(1, 2)]), (91, 243, [(1, 4)]), (91, 246, [(1, 1)]), (91, 244, [(1, 3)]), (91, 245, []), (91, 247, [(1, 5)])], [[(2147483648, 0), (1, 3)], [(2147483647, 0), (-1, 3)]])
theorem xo_344 : qRok xr_344 := by
  intro ρ M h0 hf hm hI
  have m0 : M 4 283 = 1 * ρ 0 + 0 := hm (4, 283, [(1, 0)]) (by decide)
  have m1 : M 4 280 = 1 * ρ 1 + 0 := hm (4, 280, [(1, 1)]) (by decide)
  have m2 : M 4 281 = 1 * ρ 2 + 0 := hm (4, 281, [(1, 2)]) (by decide)
  have m3 : M 4 282 = 1 * ρ 3 + 0 := hm (4, 282, [(1, 3)]) (by decide)
  have m4 : M 91 249 = 0 := hm (91, 249, []) (by decide)
  simp only [h0] at m0
  have qxSD := hI.2.2.2.2.2.2.2.2.2.2.2.2.2.2.2.2.2.2.2.2.2.2.2.2.2.2.2.2.2.2.2.2.2.2.2.1
  have hb := x5_b (M 4 280) (xop 4 1 (M 4 281))
  have hb2 := gx_xSM hI (by omega)
  refine ⟨fun a => cond (Nat.blt a 4) (ρ a) (([xop 4 1 (ρ 2), xop 5 (xop 4 1 (ρ 2)) 0] : List Int).getD (a - 4) 0), fun a ha => ?_, fun f h => ?_, ?_⟩
  · show cond (Nat.blt a 4) (ρ a) _ = ρ a
    rw [show Nat.blt a 4 = true from Nat.ble_eq_true_of_le ha]; rfl
  · have h : f ∈ ([[(2147483648, 0), (1, 3)], [(2147483647, 0), (-1, 3)]] : List qF) := h
    simp only [List.mem_cons, List.not_mem_nil, or_false] at h
    rcases h with rfl | rfl
    · show 0 ≤ 2147483648 * ρ 0 + (1 * ρ 3 + 0)
      (try rw [h0]); omega
    · show 0 ≤ 2147483647 * ρ 0 + (-1 * ρ 3 + 0)
      (try rw [h0]); omega
  · show sI (sU (sU (sU (sU (sU (sU (sU (sU M 91 240 (1 * ρ 0 + 0)) 91 241 (1 * ρ 0 + 0)) 91 242 (1 * ρ 2 + 0)) 91 243 (1 * (xop 4 1 (ρ 2)) + 0)) 91 246 (1 * ρ 1 + 0)) 91 244 (1 * ρ 3 + 0)) 91 245 (0)) 91 247 (1 * (xop 5 (xop 4 1 (ρ 2)) 0) + 0))
    obtain ⟨W, hW⟩ : ∃ W, W = (sU (sU (sU (sU (sU (sU (sU (sU M 91 240 (1 * ρ 0 + 0)) 91 241 (1 * ρ 0 + 0)) 91 242 (1 * ρ 2 + 0)) 91 243 (1 * (xop 4 1 (ρ 2)) + 0)) 91 246 (1 * ρ 1 + 0)) 91 244 (1 * ρ 3 + 0)) 91 245 (0)) 91 247 (1 * (xop 5 (xop 4 1 (ρ 2)) 0) + 0)) := ⟨_, rfl⟩
    rw [← hW]
    have base : sI0 W := by
      rw [hW]
      exact (si_u0 (si_u0 (si_u0 (si_u0 (si_u0 (si_u0 (si_u0 (si_u0 hI.1 (fun r hr => by cases hr)) (fun r hr => by cases hr)) (fun r hr => by cases hr)) (fun r hr => by cases hr)) (fun r hr => by cases hr)) (fun r hr => by cases hr)) (fun r hr => by cases hr)) (fun r hr => by cases hr))
    have k2 : XI2 W := by
      rw [hW]
      exact (xi2_u rfl (xi2_u rfl (xi2_u rfl (xi2_u rfl (xi2_u rfl (xi2_u rfl (xi2_u rfl (xi2_u rfl hI.2.1))))))))
    have k3 : XI3 W := by
      rw [hW]
      exact (xi3_u rfl (xi3_u rfl (xi3_u rfl (xi3_u rfl (xi3_u rfl (xi3_u rfl (xi3_u rfl (xi3_u rfl hI.2.2.1))))))))
    have kXA : XA W := by
      rw [hW]
      exact (uXA rfl (uXA rfl (uXA rfl (uXA rfl (uXA rfl (uXA rfl (uXA rfl (uXA rfl hI.2.2.2.1))))))))
    have k_xN1 : xN1 W := by
      rw [hW]
      exact (uxN1 rfl (uxN1 rfl (uxN1 rfl (uxN1 rfl (uxN1 rfl (uxN1 rfl (uxN1 rfl (uxN1 rfl hI.2.2.2.2.1))))))))
    have k_xN2 : xN2 W := by
      rw [hW]
      exact (uxN2 rfl (uxN2 rfl (uxN2 rfl (uxN2 rfl (uxN2 rfl (uxN2 rfl (uxN2 rfl (uxN2 rfl hI.2.2.2.2.2.1))))))))
    have k_xN3 : xN3 W := by
      rw [hW]
      exact (uxN3 rfl (uxN3 rfl (uxN3 rfl (uxN3 rfl (uxN3 rfl (uxN3 rfl (uxN3 rfl (uxN3 rfl hI.2.2.2.2.2.2.1))))))))
    have k_xN4 : xN4 W := by
      rw [hW]
      exact (uxN4 rfl (uxN4 rfl (uxN4 rfl (uxN4 rfl (uxN4 rfl (uxN4 rfl (uxN4 rfl (uxN4 rfl hI.2.2.2.2.2.2.2.1))))))))
    have k_xN5 : xN5 W := by
      rw [hW]
      exact (uxN5 rfl (uxN5 rfl (uxN5 rfl (uxN5 rfl (uxN5 rfl (uxN5 rfl (uxN5 rfl (uxN5 rfl hI.2.2.2.2.2.2.2.2.1))))))))
    have k_xN6 : xN6 W := by
      rw [hW]
      exact (uxN6 rfl (uxN6 rfl (uxN6 rfl (uxN6 rfl (uxN6 rfl (uxN6 rfl (uxN6 rfl (uxN6 rfl hI.2.2.2.2.2.2.2.2.2.1))))))))
    have k_xH1 : xH1 W := by
      rw [hW]
      exact (uxH1 rfl (uxH1 rfl (uxH1 rfl (uxH1 rfl (uxH1 rfl (uxH1 rfl (uxH1 rfl (uxH1 rfl hI.2.2.2.2.2.2.2.2.2.2.1))))))))
    have k_xK1 : xK1 W := by
      rw [hW]
      exact (uxK1 rfl (uxK1 rfl (uxK1 rfl (uxK1 rfl (uxK1 rfl (uxK1 rfl (uxK1 rfl (uxK1 rfl hI.2.2.2.2.2.2.2.2.2.2.2.1))))))))
    have k_xC1 : xC1 W := by
      rw [hW]
      exact (uxC1 rfl (uxC1 rfl (uxC1 rfl (uxC1 rfl (uxC1 rfl (uxC1 rfl (uxC1 rfl (uxC1 rfl hI.2.2.2.2.2.2.2.2.2.2.2.2.1))))))))
    have k_xRW : xRW W := by
      rw [hW]
      exact (uxRW rfl (uxRW rfl (uxRW rfl (uxRW rfl (uxRW rfl (uxRW rfl (uxRW rfl (uxRW rfl hI.2.2.2.2.2.2.2.2.2.2.2.2.2.1))))))))
    have k_xWT : xWT W := by
      rw [hW]
      exact (uxWT rfl (uxWT rfl (uxWT rfl (uxWT rfl (uxWT rfl (uxWT rfl (uxWT rfl (uxWT rfl hI.2.2.2.2.2.2.2.2.2.2.2.2.2.2.1))))))))
    have k_xCU : xCU W := by
      rw [hW]
      exact (uxCU rfl (uxCU rfl (uxCU rfl (uxCU rfl (uxCU rfl (uxCU rfl (uxCU rfl (uxCU rfl hI.2.2.2.2.2.2.2.2.2.2.2.2.2.2.2.1))))))))
    have k_xG2 : xG2 W := by
      rw [hW]
      exact (uxG2 rfl (uxG2 rfl (uxG2 rfl (uxG2 rfl (uxG2 rfl (uxG2 rfl (uxG2 rfl (uxG2 rfl hI.2.2.2.2.2.2.2.2.2.2.2.2.2.2.2.2.1))))))))
    have k_xG3 : xG3 W := by
      rw [hW]
      exact (uxG3 rfl (uxG3 rfl (uxG3 rfl (uxG3 rfl (uxG3 rfl (uxG3 rfl (uxG3 rfl (uxG3 rfl hI.2.2.2.2.2.2.2.2.2.2.2.2.2.2.2.2.2.1))))))))
    have k_xG4 : xG4 W := by
      rw [hW]
      exact (uxG4 rfl (uxG4 rfl (uxG4 rfl (uxG4 rfl (uxG4 rfl (uxG4 rfl (uxG4 rfl (uxG4 rfl hI.2.2.2.2.2.2.2.2.2.2.2.2.2.2.2.2.2.2.1))))))))
    have k_xG5 : xG5 W := by
      rw [hW]
      exact (uxG5 rfl (uxG5 rfl (uxG5 rfl (uxG5 rfl (uxG5 rfl (uxG5 rfl (uxG5 rfl (uxG5 rfl hI.2.2.2.2.2.2.2.2.2.2.2.2.2.2.2.2.2.2.2.1))))))))
    have k_xG6 : xG6 W := by
      rw [hW]
      exact (uxG6 rfl (uxG6 rfl (uxG6 rfl (uxG6 rfl (uxG6 rfl (uxG6 rfl (uxG6 rfl (uxG6 rfl hI.2.2.2.2.2.2.2.2.2.2.2.2.2.2.2.2.2.2.2.2.1))))))))
    have k_xS1 : xS1 W := by
      rw [hW]
      exact (uxS1 rfl (uxS1 rfl (uxS1 rfl (uxS1 rfl (uxS1 rfl (uxS1 rfl (uxS1 rfl (uxS1 rfl hI.2.2.2.2.2.2.2.2.2.2.2.2.2.2.2.2.2.2.2.2.2.1))))))))
    have k_xS2 : xS2 W := by
      rw [hW]
      exact (uxS2 rfl (uxS2 rfl (uxS2 rfl (uxS2 rfl (uxS2 rfl (uxS2 rfl (uxS2 rfl (uxS2 rfl hI.2.2.2.2.2.2.2.2.2.2.2.2.2.2.2.2.2.2.2.2.2.2.1))))))))
    have k_xS3 : xS3 W := by
      rw [hW]
      exact (uxS3 rfl (uxS3 rfl (uxS3 rfl (uxS3 rfl (uxS3 rfl (uxS3 rfl (uxS3 rfl (uxS3 rfl hI.2.2.2.2.2.2.2.2.2.2.2.2.2.2.2.2.2.2.2.2.2.2.2.1))))))))
    have k_xS4 : xS4 W := by
      rw [hW]
      exact (uxS4 rfl (uxS4 rfl (uxS4 rfl (uxS4 rfl (uxS4 rfl (uxS4 rfl (uxS4 rfl (uxS4 rfl hI.2.2.2.2.2.2.2.2.2.2.2.2.2.2.2.2.2.2.2.2.2.2.2.2.1))))))))
    have k_xS5 : xS5 W := by
      rw [hW]
      exact (uxS5 rfl (uxS5 rfl (uxS5 rfl (uxS5 rfl (uxS5 rfl (uxS5 rfl (uxS5 rfl (uxS5 rfl hI.2.2.2.2.2.2.2.2.2.2.2.2.2.2.2.2.2.2.2.2.2.2.2.2.2.1))))))))
    have k_xS6 : xS6 W := by
      rw [hW]
      exact (uxS6 rfl (uxS6 rfl (uxS6 rfl (uxS6 rfl (uxS6 rfl (uxS6 rfl (uxS6 rfl (uxS6 rfl hI.2.2.2.2.2.2.2.2.2.2.2.2.2.2.2.2.2.2.2.2.2.2.2.2.2.2.1))))))))
    have k_xS7 : xS7 W := by
      rw [hW]
      exact (uxS7 rfl (uxS7 rfl (uxS7 rfl (uxS7 rfl (uxS7 rfl (uxS7 rfl (uxS7 rfl (uxS7 rfl hI.2.2.2.2.2.2.2.2.2.2.2.2.2.2.2.2.2.2.2.2.2.2.2.2.2.2.2.1))))))))
    have k_xS8 : xS8 W := by
      rw [hW]
      exact (uxS8 rfl (uxS8 rfl (uxS8 rfl (uxS8 rfl (uxS8 rfl (uxS8 rfl (uxS8 rfl (uxS8 rfl hI.2.2.2.2.2.2.2.2.2.2.2.2.2.2.2.2.2.2.2.2.2.2.2.2.2.2.2.2.1))))))))
    have k_xS9 : xS9 W := by
      rw [hW]
      exact (uxS9 rfl (uxS9 rfl (uxS9 rfl (uxS9 rfl (uxS9 rfl (uxS9 rfl (uxS9 rfl (uxS9 rfl hI.2.2.2.2.2.2.2.2.2.2.2.2.2.2.2.2.2.2.2.2.2.2.2.2.2.2.2.2.2.1))))))))
    have k_xSA : xSA W := by
      rw [hW]
      exact (uxSA rfl (uxSA rfl (uxSA rfl (uxSA rfl (uxSA rfl (uxSA rfl (uxSA rfl (uxSA rfl hI.2.2.2.2.2.2.2.2.2.2.2.2.2.2.2.2.2.2.2.2.2.2.2.2.2.2.2.2.2.2.1))))))))
    have k_xSG : xSG W := by
      rw [hW]
      exact (uxSG rfl (uxSG rfl (uxSG rfl (uxSG rfl (uxSG rfl (uxSG rfl (uxSG rfl (uxSG rfl hI.2.2.2.2.2.2.2.2.2.2.2.2.2.2.2.2.2.2.2.2.2.2.2.2.2.2.2.2.2.2.2.1))))))))
    have k_xSF : xSF W := by
      rw [hW]
      exact (uxSF rfl (uxSF rfl (uxSF rfl (uxSF rfl (uxSF rfl (uxSF rfl (uxSF rfl (uxSF rfl hI.2.2.2.2.2.2.2.2.2.2.2.2.2.2.2.2.2.2.2.2.2.2.2.2.2.2.2.2.2.2.2.2.1))))))))
    have k_xSB : xSB W := by
      rw [hW]
      exact (uxSB rfl (uxSB rfl (uxSB rfl (uxSB rfl (uxSB rfl (uxSB rfl (uxSB rfl (uxSB rfl hI.2.2.2.2.2.2.2.2.2.2.2.2.2.2.2.2.2.2.2.2.2.2.2.2.2.2.2.2.2.2.2.2.2.1))))))))
    have k_xSC : xSC W := by
      rw [hW]
      exact (uxSC rfl (uxSC rfl (uxSC rfl (uxSC rfl (uxSC rfl (uxSC rfl (uxSC rfl (uxSC rfl hI.2.2.2.2.2.2.2.2.2.2.2.2.2.2.2.2.2.2.2.2.2.2.2.2.2.2.2.2.2.2.2.2.2.2.1))))))))
    have k_xSD : xSD W := by
      have r91_240 : W 91 240 = 1 * ρ 0 + 0 := by rw [hW, sU_ne (fun z => by omega), sU_ne (fun z => by omega), sU_ne (fun z => by omega), sU_ne (fun z => by omega), sU_ne (fun z => by omega), sU_ne (fun z => by omega), sU_ne (fun z => by omega), sU_at]
      have r91_241 : W 91 241 = 1 * ρ 0 + 0 := by rw [hW, sU_ne (fun z => by omega), sU_ne (fun z => by omega), sU_ne (fun z => by omega), sU_ne (fun z => by omega), sU_ne (fun z => by omega), sU_ne (fun z => by omega), sU_at]
      have r91_242 : W 91 242 = 1 * ρ 2 + 0 := by rw [hW, sU_ne (fun z => by omega), sU_ne (fun z => by omega), sU_ne (fun z => by omega), sU_ne (fun z => by omega), sU_ne (fun z => by omega), sU_at]
      have r91_243 : W 91 243 = 1 * (xop 4 1 (ρ 2)) + 0 := by rw [hW, sU_ne (fun z => by omega), sU_ne (fun z => by omega), sU_ne (fun z => by omega), sU_ne (fun z => by omega), sU_at]
      have r91_244 : W 91 244 = 1 * ρ 3 + 0 := by rw [hW, sU_ne (fun z => by omega), sU_ne (fun z => by omega), sU_at]
      have r91_245 : W 91 245 = 0 := by rw [hW, sU_ne (fun z => by omega), sU_at]
      have r91_246 : W 91 246 = 1 * ρ 1 + 0 := by rw [hW, sU_ne (fun z => by omega), sU_ne (fun z => by omega), sU_ne (fun z => by omega), sU_at]
      have r91_247 : W 91 247 = 1 * (xop 5 (xop 4 1 (ρ 2)) 0) + 0 := by rw [hW, sU_at]
      intro h
      rw [r91_241, r91_242, r91_243, r91_244, r91_245, r91_246, r91_247, h0]
      have d := gx_xSM hI (by omega)
      have z : (1 * (xop 4 1 (ρ 2)) + 0 : Int) = xop 4 1 (ρ 2) := by omega
      rw [z, show (1 * 1 + 0 : Int) = 1 from rfl, show (1 * ρ 2 + 0 : Int) = ρ 2 by omega, show (1 * ρ 1 + 0 : Int) = ρ 1 by omega]
      refine ⟨rfl, ?_, by omega⟩
      rw [show (1 * ρ 3 + 0 : Int) = M 4 282 by omega, d, show M 4 280 = ρ 1 by omega, show M 4 281 = ρ 2 by omega]
    have k_xSE : xSE W := by
      have r : W 91 249 = 0 := by
        have e := m4
        rw [hW, sU_ne (fun z => by omega), sU_ne (fun z => by omega), sU_ne (fun z => by omega), sU_ne (fun z => by omega), sU_ne (fun z => by omega), sU_ne (fun z => by omega), sU_ne (fun z => by omega), sU_ne (fun z => by omega)]
        omega
      intro h
      rw [r] at h
      omega
    have k_xSW : xSW W := by
      rw [hW]
      exact (uxSW rfl (uxSW rfl (uxSW rfl (uxSW rfl (uxSW rfl (uxSW rfl (uxSW rfl (uxSW rfl hI.2.2.2.2.2.2.2.2.2.2.2.2.2.2.2.2.2.2.2.2.2.2.2.2.2.2.2.2.2.2.2.2.2.2.2.2.2.1))))))))
    have k_xST : xST W := by
      rw [hW]
      exact (uxST rfl (uxST rfl (uxST rfl (uxST rfl (uxST rfl (uxST rfl (uxST rfl (uxST rfl hI.2.2.2.2.2.2.2.2.2.2.2.2.2.2.2.2.2.2.2.2.2.2.2.2.2.2.2.2.2.2.2.2.2.2.2.2.2.2.1))))))))
    have k_xSP : xSP W := by
      rw [hW]
      exact (uxSP rfl (uxSP rfl (uxSP rfl (uxSP rfl (uxSP rfl (uxSP rfl (uxSP rfl (uxSP rfl hI.2.2.2.2.2.2.2.2.2.2.2.2.2.2.2.2.2.2.2.2.2.2.2.2.2.2.2.2.2.2.2.2.2.2.2.2.2.2.2.1))))))))
    have k_xSL : xSL W := by
      rw [hW]
      exact (uxSL rfl (uxSL rfl (uxSL rfl (uxSL rfl (uxSL rfl (uxSL rfl (uxSL rfl (uxSL rfl hI.2.2.2.2.2.2.2.2.2.2.2.2.2.2.2.2.2.2.2.2.2.2.2.2.2.2.2.2.2.2.2.2.2.2.2.2.2.2.2.2.1))))))))
    have k_xSM : xSM W := by
      rw [hW]
      exact (uxSM rfl (uxSM rfl (uxSM rfl (uxSM rfl (uxSM rfl (uxSM rfl (uxSM rfl (uxSM rfl hI.2.2.2.2.2.2.2.2.2.2.2.2.2.2.2.2.2.2.2.2.2.2.2.2.2.2.2.2.2.2.2.2.2.2.2.2.2.2.2.2.2.1))))))))
    have k_xSI : xSI W := by
      rw [hW]
      exact (uxSI rfl (uxSI rfl (uxSI rfl (uxSI rfl (uxSI rfl (uxSI rfl (uxSI rfl (uxSI rfl hI.2.2.2.2.2.2.2.2.2.2.2.2.2.2.2.2.2.2.2.2.2.2.2.2.2.2.2.2.2.2.2.2.2.2.2.2.2.2.2.2.2.2.1))))))))
    have k_xD3 : xD3 W := by
      rw [hW]
      exact (uxD3 rfl (uxD3 rfl (uxD3 rfl (uxD3 rfl (uxD3 rfl (uxD3 rfl (uxD3 rfl (uxD3 rfl hI.2.2.2.2.2.2.2.2.2.2.2.2.2.2.2.2.2.2.2.2.2.2.2.2.2.2.2.2.2.2.2.2.2.2.2.2.2.2.2.2.2.2.2.1))))))))
    have k_xDV : xDV W := by
      rw [hW]
      exact (uxDV rfl (uxDV rfl (uxDV rfl (uxDV rfl (uxDV rfl (uxDV rfl (uxDV rfl (uxDV rfl hI.2.2.2.2.2.2.2.2.2.2.2.2.2.2.2.2.2.2.2.2.2.2.2.2.2.2.2.2.2.2.2.2.2.2.2.2.2.2.2.2.2.2.2.2.1))))))))
    have k_xDP : xDP W := by
      rw [hW]
      exact (uxDP rfl (uxDP rfl (uxDP rfl (uxDP rfl (uxDP rfl (uxDP rfl (uxDP rfl (uxDP rfl hI.2.2.2.2.2.2.2.2.2.2.2.2.2.2.2.2.2.2.2.2.2.2.2.2.2.2.2.2.2.2.2.2.2.2.2.2.2.2.2.2.2.2.2.2.2.1))))))))
    have k_xDE : xDE W := by
      rw [hW]
      exact (uxDE rfl (uxDE rfl (uxDE rfl (uxDE rfl (uxDE rfl (uxDE rfl (uxDE rfl (uxDE rfl hI.2.2.2.2.2.2.2.2.2.2.2.2.2.2.2.2.2.2.2.2.2.2.2.2.2.2.2.2.2.2.2.2.2.2.2.2.2.2.2.2.2.2.2.2.2.2.1))))))))
    have k_xQ5 : xQ5 W := by
      rw [hW]
      exact (uxQ5 rfl (uxQ5 rfl (uxQ5 rfl (uxQ5 rfl (uxQ5 rfl (uxQ5 rfl (uxQ5 rfl (uxQ5 rfl hI.2.2.2.2.2.2.2.2.2.2.2.2.2.2.2.2.2.2.2.2.2.2.2.2.2.2.2.2.2.2.2.2.2.2.2.2.2.2.2.2.2.2.2.2.2.2.2.1))))))))
    have k_xQL : xQL W := by
      rw [hW]
      exact (uxQL rfl (uxQL rfl (uxQL rfl (uxQL rfl (uxQL rfl (uxQL rfl (uxQL rfl (uxQL rfl hI.2.2.2.2.2.2.2.2.2.2.2.2.2.2.2.2.2.2.2.2.2.2.2.2.2.2.2.2.2.2.2.2.2.2.2.2.2.2.2.2.2.2.2.2.2.2.2.2.1))))))))
    have k_xQW : xQW W := by
      rw [hW]
      exact (uxQW rfl (uxQW rfl (uxQW rfl (uxQW rfl (uxQW rfl (uxQW rfl (uxQW rfl (uxQW rfl hI.2.2.2.2.2.2.2.2.2.2.2.2.2.2.2.2.2.2.2.2.2.2.2.2.2.2.2.2.2.2.2.2.2.2.2.2.2.2.2.2.2.2.2.2.2.2.2.2.2.1))))))))
    have k_xQM : xQM W := by
      rw [hW]
      exact (uxQM rfl (uxQM rfl (uxQM rfl (uxQM rfl (uxQM rfl (uxQM rfl (uxQM rfl (uxQM rfl hI.2.2.2.2.2.2.2.2.2.2.2.2.2.2.2.2.2.2.2.2.2.2.2.2.2.2.2.2.2.2.2.2.2.2.2.2.2.2.2.2.2.2.2.2.2.2.2.2.2.2.1))))))))
    have k_xQH : xQH W := by
      rw [hW]
      exact (uxQH rfl (uxQH rfl (uxQH rfl (uxQH rfl (uxQH rfl (uxQH rfl (uxQH rfl (uxQH rfl hI.2.2.2.2.2.2.2.2.2.2.2.2.2.2.2.2.2.2.2.2.2.2.2.2.2.2.2.2.2.2.2.2.2.2.2.2.2.2.2.2.2.2.2.2.2.2.2.2.2.2.2))))))))
    have k_XC : XC W := ⟨k_xS1, k_xS2, k_xS3, k_xS4, k_xS5, k_xS6, k_xS7, k_xS8, k_xS9, k_xSA, k_xSG, k_xSF, k_xSB, k_xSC, k_xSD, k_xSE, k_xSW, k_xST, k_xSP, k_xSL, k_xSM, k_xSI, k_xD3, k_xDV, k_xDP, k_xDE, k_xQ5, k_xQL, k_xQW, k_xQM, k_xQH⟩
    have kXB : XB W := ⟨k_xN1, k_xN2, k_xN3, k_xN4, k_xN5, k_xN6, k_xH1, k_xK1, k_xC1, k_xRW, k_xWT, k_xCU, k_xG2, k_xG3, k_xG4, k_xG5, k_xG6, k_XC⟩
    exact ⟨base, k2, k3, kXA, kXB⟩
-- orOff
def xr_345 : qRu := (1, [], [], [], [(4, 283, [])], [])
theorem xo_345 : qRok xr_345 := by
  intro ρ M h0 hf hm hI
  refine ⟨ρ, fun _ _ => rfl, fun f h => ?_, ?_⟩
  · exact nomatch h
  · show sI (sU M 4 283 (0))
    obtain ⟨W, hW⟩ : ∃ W, W = (sU M 4 283 (0)) := ⟨_, rfl⟩
    rw [← hW]
    have base : sI0 W := by
      rw [hW]
      exact (si_u0 hI.1 (fun r hr => by cases hr))
    have k2 : XI2 W := by
      rw [hW]
      exact (xi2_u rfl hI.2.1)
    have k3 : XI3 W := by
      rw [hW]
      exact (xi3_u rfl hI.2.2.1)
    have kXA : XA W := by
      rw [hW]
      exact (uXA rfl hI.2.2.2.1)
    have k_xN1 : xN1 W := by
      rw [hW]
      exact (uxN1 rfl hI.2.2.2.2.1)
    have k_xN2 : xN2 W := by
      rw [hW]
      exact (uxN2 rfl hI.2.2.2.2.2.1)
    have k_xN3 : xN3 W := by
      rw [hW]
      exact (uxN3 rfl hI.2.2.2.2.2.2.1)
    have k_xN4 : xN4 W := by
      rw [hW]
      exact (uxN4 rfl hI.2.2.2.2.2.2.2.1)
    have k_xN5 : xN5 W := by
      rw [hW]
      exact (uxN5 rfl hI.2.2.2.2.2.2.2.2.1)
    have k_xN6 : xN6 W := by
      rw [hW]
      exact (uxN6 rfl hI.2.2.2.2.2.2.2.2.2.1)
    have k_xH1 : xH1 W := by
      rw [hW]
      exact (uxH1 rfl hI.2.2.2.2.2.2.2.2.2.2.1)
    have k_xK1 : xK1 W := by
      rw [hW]
      exact (uxK1 rfl hI.2.2.2.2.2.2.2.2.2.2.2.1)
    have k_xC1 : xC1 W := by
      rw [hW]
      exact (uxC1 rfl hI.2.2.2.2.2.2.2.2.2.2.2.2.1)
    have k_xRW : xRW W := by
      rw [hW]
      exact (uxRW rfl hI.2.2.2.2.2.2.2.2.2.2.2.2.2.1)
    have k_xWT : xWT W := by
      rw [hW]
      exact (uxWT rfl hI.2.2.2.2.2.2.2.2.2.2.2.2.2.2.1)
    have k_xCU : xCU W := by
      rw [hW]
      exact (uxCU rfl hI.2.2.2.2.2.2.2.2.2.2.2.2.2.2.2.1)
    have k_xG2 : xG2 W := by
      rw [hW]
      exact (uxG2 rfl hI.2.2.2.2.2.2.2.2.2.2.2.2.2.2.2.2.1)
    have k_xG3 : xG3 W := by
      rw [hW]
      exact (uxG3 rfl hI.2.2.2.2.2.2.2.2.2.2.2.2.2.2.2.2.2.1)
    have k_xG4 : xG4 W := by
      rw [hW]
      exact (uxG4 rfl hI.2.2.2.2.2.2.2.2.2.2.2.2.2.2.2.2.2.2.1)
    have k_xG5 : xG5 W := by
      rw [hW]
      exact (uxG5 rfl hI.2.2.2.2.2.2.2.2.2.2.2.2.2.2.2.2.2.2.2.1)
    have k_xG6 : xG6 W := by
      rw [hW]
      exact (uxG6 rfl hI.2.2.2.2.2.2.2.2.2.2.2.2.2.2.2.2.2.2.2.2.1)
    have k_xS1 : xS1 W := by
      rw [hW]
      exact (uxS1 rfl hI.2.2.2.2.2.2.2.2.2.2.2.2.2.2.2.2.2.2.2.2.2.1)
    have k_xS2 : xS2 W := by
      rw [hW]
      exact (uxS2 rfl hI.2.2.2.2.2.2.2.2.2.2.2.2.2.2.2.2.2.2.2.2.2.2.1)
    have k_xS3 : xS3 W := by
      rw [hW]
      exact (uxS3 rfl hI.2.2.2.2.2.2.2.2.2.2.2.2.2.2.2.2.2.2.2.2.2.2.2.1)
    have k_xS4 : xS4 W := by
      rw [hW]
      exact (uxS4 rfl hI.2.2.2.2.2.2.2.2.2.2.2.2.2.2.2.2.2.2.2.2.2.2.2.2.1)
    have k_xS5 : xS5 W := by
      rw [hW]
      exact (uxS5 rfl hI.2.2.2.2.2.2.2.2.2.2.2.2.2.2.2.2.2.2.2.2.2.2.2.2.2.1)
    have k_xS6 : xS6 W := by
      rw [hW]
      exact (uxS6 rfl hI.2.2.2.2.2.2.2.2.2.2.2.2.2.2.2.2.2.2.2.2.2.2.2.2.2.2.1)
    have k_xS7 : xS7 W := by
      rw [hW]
      exact (uxS7 rfl hI.2.2.2.2.2.2.2.2.2.2.2.2.2.2.2.2.2.2.2.2.2.2.2.2.2.2.2.1)
    have k_xS8 : xS8 W := by
      rw [hW]
      exact (uxS8 rfl hI.2.2.2.2.2.2.2.2.2.2.2.2.2.2.2.2.2.2.2.2.2.2.2.2.2.2.2.2.1)
    have k_xS9 : xS9 W := by
      rw [hW]
      exact (uxS9 rfl hI.2.2.2.2.2.2.2.2.2.2.2.2.2.2.2.2.2.2.2.2.2.2.2.2.2.2.2.2.2.1)
    have k_xSA : xSA W := by
      rw [hW]
      exact (uxSA rfl hI.2.2.2.2.2.2.2.2.2.2.2.2.2.2.2.2.2.2.2.2.2.2.2.2.2.2.2.2.2.2.1)
    have k_xSG : xSG W := by
      rw [hW]
      exact (uxSG rfl hI.2.2.2.2.2.2.2.2.2.2.2.2.2.2.2.2.2.2.2.2.2.2.2.2.2.2.2.2.2.2.2.1)
    have k_xSF : xSF W := by
      rw [hW]
      exact (uxSF rfl hI.2.2.2.2.2.2.2.2.2.2.2.2.2.2.2.2.2.2.2.2.2.2.2.2.2.2.2.2.2.2.2.2.1)
    have k_xSB : xSB W := by
      rw [hW]
      exact (uxSB rfl hI.2.2.2.2.2.2.2.2.2.2.2.2.2.2.2.2.2.2.2.2.2.2.2.2.2.2.2.2.2.2.2.2.2.1)
    have k_xSC : xSC W := by
      rw [hW]
      exact (uxSC rfl hI.2.2.2.2.2.2.2.2.2.2.2.2.2.2.2.2.2.2.2.2.2.2.2.2.2.2.2.2.2.2.2.2.2.2.1)
    have k_xSD : xSD W := by
      rw [hW]
      exact (uxSD rfl hI.2.2.2.2.2.2.2.2.2.2.2.2.2.2.2.2.2.2.2.2.2.2.2.2.2.2.2.2.2.2.2.2.2.2.2.1)
    have k_xSE : xSE W := by
      rw [hW]
      exact (uxSE rfl hI.2.2.2.2.2.2.2.2.2.2.2.2.2.2.2.2.2.2.2.2.2.2.2.2.2.2.2.2.2.2.2.2.2.2.2.2.1)
    have k_xSW : xSW W := by
      rw [hW]
      exact (uxSW rfl hI.2.2.2.2.2.2.2.2.2.2.2.2.2.2.2.2.2.2.2.2.2.2.2.2.2.2.2.2.2.2.2.2.2.2.2.2.2.1)
    have k_xST : xST W := by
      rw [hW]
      exact (uxST rfl hI.2.2.2.2.2.2.2.2.2.2.2.2.2.2.2.2.2.2.2.2.2.2.2.2.2.2.2.2.2.2.2.2.2.2.2.2.2.2.1)
    have k_xSP : xSP W := by
      rw [hW]
      exact (uxSP rfl hI.2.2.2.2.2.2.2.2.2.2.2.2.2.2.2.2.2.2.2.2.2.2.2.2.2.2.2.2.2.2.2.2.2.2.2.2.2.2.2.1)
    have k_xSL : xSL W := by
      rw [hW]
      exact (uxSL rfl hI.2.2.2.2.2.2.2.2.2.2.2.2.2.2.2.2.2.2.2.2.2.2.2.2.2.2.2.2.2.2.2.2.2.2.2.2.2.2.2.2.1)
    have k_xSM : xSM W := by
      have r : W 4 283 = 0 := by rw [hW, sU_at]
      intro h
      rw [r] at h
      omega
    have k_xSI : xSI W := by
      rw [hW]
      exact (uxSI rfl hI.2.2.2.2.2.2.2.2.2.2.2.2.2.2.2.2.2.2.2.2.2.2.2.2.2.2.2.2.2.2.2.2.2.2.2.2.2.2.2.2.2.2.1)
    have k_xD3 : xD3 W := by
      rw [hW]
      exact (uxD3 rfl hI.2.2.2.2.2.2.2.2.2.2.2.2.2.2.2.2.2.2.2.2.2.2.2.2.2.2.2.2.2.2.2.2.2.2.2.2.2.2.2.2.2.2.2.1)
    have k_xDV : xDV W := by
      rw [hW]
      exact (uxDV rfl hI.2.2.2.2.2.2.2.2.2.2.2.2.2.2.2.2.2.2.2.2.2.2.2.2.2.2.2.2.2.2.2.2.2.2.2.2.2.2.2.2.2.2.2.2.1)
    have k_xDP : xDP W := by
      rw [hW]
      exact (uxDP rfl hI.2.2.2.2.2.2.2.2.2.2.2.2.2.2.2.2.2.2.2.2.2.2.2.2.2.2.2.2.2.2.2.2.2.2.2.2.2.2.2.2.2.2.2.2.2.1)
    have k_xDE : xDE W := by
      rw [hW]
      exact (uxDE rfl hI.2.2.2.2.2.2.2.2.2.2.2.2.2.2.2.2.2.2.2.2.2.2.2.2.2.2.2.2.2.2.2.2.2.2.2.2.2.2.2.2.2.2.2.2.2.2.1)
    have k_xQ5 : xQ5 W := by
      rw [hW]
      exact (uxQ5 rfl hI.2.2.2.2.2.2.2.2.2.2.2.2.2.2.2.2.2.2.2.2.2.2.2.2.2.2.2.2.2.2.2.2.2.2.2.2.2.2.2.2.2.2.2.2.2.2.2.1)
    have k_xQL : xQL W := by
      rw [hW]
      exact (uxQL rfl hI.2.2.2.2.2.2.2.2.2.2.2.2.2.2.2.2.2.2.2.2.2.2.2.2.2.2.2.2.2.2.2.2.2.2.2.2.2.2.2.2.2.2.2.2.2.2.2.2.1)
    have k_xQW : xQW W := by
      rw [hW]
      exact (uxQW rfl hI.2.2.2.2.2.2.2.2.2.2.2.2.2.2.2.2.2.2.2.2.2.2.2.2.2.2.2.2.2.2.2.2.2.2.2.2.2.2.2.2.2.2.2.2.2.2.2.2.2.1)
    have k_xQM : xQM W := by
      rw [hW]
      exact (uxQM rfl hI.2.2.2.2.2.2.2.2.2.2.2.2.2.2.2.2.2.2.2.2.2.2.2.2.2.2.2.2.2.2.2.2.2.2.2.2.2.2.2.2.2.2.2.2.2.2.2.2.2.2.1)
    have k_xQH : xQH W := by
      rw [hW]
      exact (uxQH rfl hI.2.2.2.2.2.2.2.2.2.2.2.2.2.2.2.2.2.2.2.2.2.2.2.2.2.2.2.2.2.2.2.2.2.2.2.2.2.2.2.2.2.2.2.2.2.2.2.2.2.2.2)
    have k_XC : XC W := ⟨k_xS1, k_xS2, k_xS3, k_xS4, k_xS5, k_xS6, k_xS7, k_xS8, k_xS9, k_xSA, k_xSG, k_xSF, k_xSB, k_xSC, k_xSD, k_xSE, k_xSW, k_xST, k_xSP, k_xSL, k_xSM, k_xSI, k_xD3, k_xDV, k_xDP, k_xDE, k_xQ5, k_xQL, k_xQW, k_xQM, k_xQH⟩
    have kXB : XB W := ⟨k_xN1, k_xN2, k_xN3, k_xN4, k_xN5, k_xN6, k_xH1, k_xK1, k_xC1, k_xRW, k_xWT, k_xCU, k_xG2, k_xG3, k_xG4, k_xG5, k_xG6, k_XC⟩
    exact ⟨base, k2, k3, kXA, kXB⟩
-- wNoa
def xr_346 : qRu := (4, [[(5, 0), (-1, 2)], [(1, 3)], [(-1, 0), (1, 1), (-1, 3)]], [(4, 276, [(1, 1)]), (55, 1003, [(1, 2)])], [], [], [[(-1, 0)]])
theorem xo_346 : qRok xr_346 := by
  intro ρ M h0 hf hm hI
  have f0 := hf [(5, 0), (-1, 2)] (by decide)
  have f1 := hf [(1, 3)] (by decide)
  have f2 := hf [(-1, 0), (1, 1), (-1, 3)] (by decide)
  simp only [qD, h0] at f0 f1 f2
  have m0 : M 4 276 = 1 * ρ 1 + 0 := hm (4, 276, [(1, 1)]) (by decide)
  have m1 : M 55 (zIx ρ (1000 + 3)) = 1 * ρ 2 + 0 := hm (55, 1003, [(1, 2)]) (by decide)
  rw [zix_p] at m1
  obtain ⟨w1, w2, w3, w4, w5⟩ := gx_xSW hI
  have hk := w5 (ρ 3).toNat (by omega)
  rw [show M 55 (ρ 3).toNat = ρ 2 by omega] at hk
  unfold xKo at hk
  refine ⟨ρ, fun _ _ => rfl, fun f h => ?_, ?_⟩
  · have h : f ∈ ([[(-1, 0)]] : List qF) := h
    simp only [List.mem_cons, List.not_mem_nil, or_false] at h
    rcases h with rfl
    · show 0 ≤ -1 * ρ 0 + 0
      (try rw [h0]); omega
  · show sI M
    exact hI
-- wNob
def xr_347 : qRu := (4, [[(-7, 0), (1, 2)], [(7, 0), (-1, 2)], [(1, 3)], [(-1, 0), (1, 1), (-1, 3)]], [(4, 276, [(1, 1)]), (55, 1003, [(1, 2)])], [], [], [[(-1, 0)]])
theorem xo_347 : qRok xr_347 := by
  intro ρ M h0 hf hm hI
  have f0 := hf [(-7, 0), (1, 2)] (by decide)
  have f1 := hf [(7, 0), (-1, 2)] (by decide)
  have f2 := hf [(1, 3)] (by decide)
  have f3 := hf [(-1, 0), (1, 1), (-1, 3)] (by decide)
  simp only [qD, h0] at f0 f1 f2 f3
  have m0 : M 4 276 = 1 * ρ 1 + 0 := hm (4, 276, [(1, 1)]) (by decide)
  have m1 : M 55 (zIx ρ (1000 + 3)) = 1 * ρ 2 + 0 := hm (55, 1003, [(1, 2)]) (by decide)
  rw [zix_p] at m1
  obtain ⟨w1, w2, w3, w4, w5⟩ := gx_xSW hI
  have hk := w5 (ρ 3).toNat (by omega)
  rw [show M 55 (ρ 3).toNat = ρ 2 by omega] at hk
  unfold xKo at hk
  refine ⟨ρ, fun _ _ => rfl, fun f h => ?_, ?_⟩
  · have h : f ∈ ([[(-1, 0)]] : List qF) := h
    simp only [List.mem_cons, List.not_mem_nil, or_false] at h
    rcases h with rfl
    · show 0 ≤ -1 * ρ 0 + 0
      (try rw [h0]); omega
  · show sI M
    exact hI
-- wNoc
def xr_348 : qRu := (4, [[(-18, 0), (1, 2)], [(32, 0), (-1, 2)], [(1, 3)], [(-1, 0), (1, 1), (-1, 3)]], [(4, 276, [(1, 1)]), (55, 1003, [(1, 2)])], [], [], [[(-1, 0)]])
theorem xo_348 : qRok xr_348 := by
  intro ρ M h0 hf hm hI
  have f0 := hf [(-18, 0), (1, 2)] (by decide)
  have f1 := hf [(32, 0), (-1, 2)] (by decide)
  have f2 := hf [(1, 3)] (by decide)
  have f3 := hf [(-1, 0), (1, 1), (-1, 3)] (by decide)
  simp only [qD, h0] at f0 f1 f2 f3
  have m0 : M 4 276 = 1 * ρ 1 + 0 := hm (4, 276, [(1, 1)]) (by decide)
  have m1 : M 55 (zIx ρ (1000 + 3)) = 1 * ρ 2 + 0 := hm (55, 1003, [(1, 2)]) (by decide)
  rw [zix_p] at m1
  obtain ⟨w1, w2, w3, w4, w5⟩ := gx_xSW hI
  have hk := w5 (ρ 3).toNat (by omega)
  rw [show M 55 (ρ 3).toNat = ρ 2 by omega] at hk
  unfold xKo at hk
  refine ⟨ρ, fun _ _ => rfl, fun f h => ?_, ?_⟩
  · have h : f ∈ ([[(-1, 0)]] : List qF) := h
    simp only [List.mem_cons, List.not_mem_nil, or_false] at h
    rcases h with rfl
    · show 0 ≤ -1 * ρ 0 + 0
      (try rw [h0]); omega
  · show sI M
    exact hI
-- wNod
def xr_349 : qRu := (4, [[(-36, 0), (1, 2)], [(1, 3)], [(-1, 0), (1, 1), (-1, 3)]], [(4, 276, [(1, 1)]), (55, 1003, [(1, 2)])], [], [], [[(-1, 0)]])
theorem xo_349 : qRok xr_349 := by
  intro ρ M h0 hf hm hI
  have f0 := hf [(-36, 0), (1, 2)] (by decide)
  have f1 := hf [(1, 3)] (by decide)
  have f2 := hf [(-1, 0), (1, 1), (-1, 3)] (by decide)
  simp only [qD, h0] at f0 f1 f2
  have m0 : M 4 276 = 1 * ρ 1 + 0 := hm (4, 276, [(1, 1)]) (by decide)
  have m1 : M 55 (zIx ρ (1000 + 3)) = 1 * ρ 2 + 0 := hm (55, 1003, [(1, 2)]) (by decide)
  rw [zix_p] at m1
  obtain ⟨w1, w2, w3, w4, w5⟩ := gx_xSW hI
  have hk := w5 (ρ 3).toNat (by omega)
  rw [show M 55 (ρ 3).toNat = ρ 2 by omega] at hk
  unfold xKo at hk
  refine ⟨ρ, fun _ _ => rfl, fun f h => ?_, ?_⟩
  · have h : f ∈ ([[(-1, 0)]] : List qF) := h
    simp only [List.mem_cons, List.not_mem_nil, or_false] at h
    rcases h with rfl
    · show 0 ≤ -1 * ρ 0 + 0
      (try rw [h0]); omega
  · show sI M
    exact hI
-- growL
def xr_350 : qRu := (5, [[(-1, 0), (1, 1)], [(1, 0), (-1, 2)]], [(4, 100, [(1, 1)]), (3, 44, [(1, 2)]), (3, 46, [(1, 3)]), (3, 47, [(1, 4)])], [], [], [[(-1, 0), (-1, 3), (1, 4)]])
theorem xo_350 : qRok xr_350 := by
  intro ρ M h0 hf hm hI
  have f0 := hf [(-1, 0), (1, 1)] (by decide)
  have f1 := hf [(1, 0), (-1, 2)] (by decide)
  simp only [qD, h0] at f0 f1
  have m0 : M 4 100 = 1 * ρ 1 + 0 := hm (4, 100, [(1, 1)]) (by decide)
  have m1 : M 3 44 = 1 * ρ 2 + 0 := hm (3, 44, [(1, 2)]) (by decide)
  have m2 : M 3 46 = 1 * ρ 3 + 0 := hm (3, 46, [(1, 3)]) (by decide)
  have m3 : M 3 47 = 1 * ρ 4 + 0 := hm (3, 47, [(1, 4)]) (by decide)
  obtain ⟨o1, o2, o3⟩ := gx_xS2 hI (by omega)
  have hb := tto_b (M 92) (n := (M 4 101).toNat) (p := (M 4 102).toNat) (M 4 107) (M 4 108) (by omega)
  rw [← o3] at hb
  have hb2 : M 3 44 ≠ 2 → M 3 46 + 1 ≤ M 3 47 := hb.2.2.2.2.2
  refine ⟨ρ, fun _ _ => rfl, fun f h => ?_, ?_⟩
  · have h : f ∈ ([[(-1, 0), (-1, 3), (1, 4)]] : List qF) := h
    simp only [List.mem_cons, List.not_mem_nil, or_false] at h
    rcases h with rfl
    · show 0 ≤ -1 * ρ 0 + (-1 * ρ 3 + (1 * ρ 4 + 0))
      (try rw [h0]); omega
  · show sI M
    exact hI
-- growH
def xr_351 : qRu := (5, [[(-1, 0), (1, 1)], [(-3, 0), (1, 2)]], [(4, 100, [(1, 1)]), (3, 44, [(1, 2)]), (3, 46, [(1, 3)]), (3, 47, [(1, 4)])], [], [], [[(-1, 0), (-1, 3), (1, 4)]])
theorem xo_351 : qRok xr_351 := by
  intro ρ M h0 hf hm hI
  have f0 := hf [(-1, 0), (1, 1)] (by decide)
  have f1 := hf [(-3, 0), (1, 2)] (by decide)
  simp only [qD, h0] at f0 f1
  have m0 : M 4 100 = 1 * ρ 1 + 0 := hm (4, 100, [(1, 1)]) (by decide)
  have m1 : M 3 44 = 1 * ρ 2 + 0 := hm (3, 44, [(1, 2)]) (by decide)
  have m2 : M 3 46 = 1 * ρ 3 + 0 := hm (3, 46, [(1, 3)]) (by decide)
  have m3 : M 3 47 = 1 * ρ 4 + 0 := hm (3, 47, [(1, 4)]) (by decide)
  obtain ⟨o1, o2, o3⟩ := gx_xS2 hI (by omega)
  have hb := tto_b (M 92) (n := (M 4 101).toNat) (p := (M 4 102).toNat) (M 4 107) (M 4 108) (by omega)
  rw [← o3] at hb
  have hb2 : M 3 44 ≠ 2 → M 3 46 + 1 ≤ M 3 47 := hb.2.2.2.2.2
  refine ⟨ρ, fun _ _ => rfl, fun f h => ?_, ?_⟩
  · have h : f ∈ ([[(-1, 0), (-1, 3), (1, 4)]] : List qF) := h
    simp only [List.mem_cons, List.not_mem_nil, or_false] at h
    rcases h with rfl
    · show 0 ≤ -1 * ρ 0 + (-1 * ρ 3 + (1 * ρ 4 + 0))
      (try rw [h0]); omega
  · show sI M
    exact hI
-- eq55
def xr_352 : qRu := (5, [[(1, 1), (-1, 3)], [(-1, 1), (1, 3)]], [(55, 1001, [(1, 2)]), (55, 1003, [(1, 4)])], [], [], [[(1, 2), (-1, 4)], [(-1, 2), (1, 4)]])
theorem xo_352 : qRok xr_352 := by
  intro ρ M h0 hf hm hI
  have f0 := hf [(1, 1), (-1, 3)] (by decide)
  have f1 := hf [(-1, 1), (1, 3)] (by decide)
  simp only [qD, h0] at f0 f1
  have m0 : M 55 (zIx ρ (1000 + 1)) = 1 * ρ 2 + 0 := hm (55, 1001, [(1, 2)]) (by decide)
  rw [zix_p] at m0
  have m1 : M 55 (zIx ρ (1000 + 3)) = 1 * ρ 4 + 0 := hm (55, 1003, [(1, 4)]) (by decide)
  rw [zix_p] at m1
  rw [show (ρ 1).toNat = (ρ 3).toNat by omega] at m0
  refine ⟨ρ, fun _ _ => rfl, fun f h => ?_, ?_⟩
  · have h : f ∈ ([[(1, 2), (-1, 4)], [(-1, 2), (1, 4)]] : List qF) := h
    simp only [List.mem_cons, List.not_mem_nil, or_false] at h
    rcases h with rfl | rfl
    · show 0 ≤ 1 * ρ 2 + (-1 * ρ 4 + 0)
      (try rw [h0]); omega
    · show 0 ≤ -1 * ρ 2 + (1 * ρ 4 + 0)
      (try rw [h0]); omega
  · show sI M
    exact hI
-- wBit
def xr_353 : qRu := (3, [], [(4, 270, [(1, 1)]), (4, 272, [(1, 2)])], [], [], [[(1, 1)], [(1, 0), (-1, 1)], [(1, 2)], [(1, 0), (-1, 2)]])
theorem xo_353 : qRok xr_353 := by
  intro ρ M h0 hf hm hI
  have m0 : M 4 270 = 1 * ρ 1 + 0 := hm (4, 270, [(1, 1)]) (by decide)
  have m1 : M 4 272 = 1 * ρ 2 + 0 := hm (4, 272, [(1, 2)]) (by decide)
  obtain ⟨w1, w2, w3, w4, w5⟩ := gx_xSW hI
  have b1 := xws_b M (M 4 276).toNat
  have b2 := xws_b M ((M 4 276).toNat - 1)
  rw [← w2] at b1
  rw [← w3] at b2
  have b1 : 0 ≤ M 4 270 ∧ M 4 270 ≤ 1 := b1
  have b2 : 0 ≤ M 4 272 ∧ M 4 272 ≤ 1 := b2
  refine ⟨ρ, fun _ _ => rfl, fun f h => ?_, ?_⟩
  · have h : f ∈ ([[(1, 1)], [(1, 0), (-1, 1)], [(1, 2)], [(1, 0), (-1, 2)]] : List qF) := h
    simp only [List.mem_cons, List.not_mem_nil, or_false] at h
    rcases h with rfl | rfl | rfl | rfl
    · show 0 ≤ 1 * ρ 1 + 0
      (try rw [h0]); omega
    · show 0 ≤ 1 * ρ 0 + (-1 * ρ 1 + 0)
      (try rw [h0]); omega
    · show 0 ≤ 1 * ρ 2 + 0
      (try rw [h0]); omega
    · show 0 ≤ 1 * ρ 0 + (-1 * ρ 2 + 0)
      (try rw [h0]); omega
  · show sI M
    exact hI
