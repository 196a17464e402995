/-! RULES OF THE REFERENCE (wip/p3/xsf.py). -/
-- ktM
def xr_646 : qRu := (6, [[(-1, 0), (1, 1)], [(-3, 0), (1, 4)], [(3, 0), (-1, 4)], [(-42, 0), (1, 5)], [(47, 0), (-1, 5)]], [(4, 100, [(1, 1)]), (3, 44, [(1, 2)]), (3, 45, [(1, 3)]), (3, 50, [(1, 4)]), (3, 51, [(1, 5)])], [], [], [[(-8, 0), (1, 2)], [(11, 0), (-1, 2)]])
theorem xo_646 : qRok xr_646 := by
  intro ρ M h0 hf hm hI
  have f0 := hf [(-1, 0), (1, 1)] (by decide)
  have f1 := hf [(-3, 0), (1, 4)] (by decide)
  have f2 := hf [(3, 0), (-1, 4)] (by decide)
  have f3 := hf [(-42, 0), (1, 5)] (by decide)
  have f4 := hf [(47, 0), (-1, 5)] (by decide)
  simp only [qD, h0] at f0 f1 f2 f3 f4
  have m0 : M 4 100 = 1 * ρ 1 + 0 := hm (4, 100, [(1, 1)]) (by decide)
  have m1 : M 3 44 = 1 * ρ 2 + 0 := hm (3, 44, [(1, 2)]) (by decide)
  have m2 : M 3 45 = 1 * ρ 3 + 0 := hm (3, 45, [(1, 3)]) (by decide)
  have m3 : M 3 50 = 1 * ρ 4 + 0 := hm (3, 50, [(1, 4)]) (by decide)
  have m4 : M 3 51 = 1 * ρ 5 + 0 := hm (3, 51, [(1, 5)]) (by decide)
  have hk := xs_kr hI (by omega)
  obtain ⟨z0, z1, z2, z3, z4, z5⟩ := hk
  have z := z3 (by omega)
  refine ⟨ρ, fun _ _ => rfl, fun f h => ?_, ?_⟩
  · have h : f ∈ ([[(-8, 0), (1, 2)], [(11, 0), (-1, 2)]] : List qF) := h
    simp only [List.mem_cons, List.not_mem_nil, or_false] at h
    rcases h with rfl | rfl
    · show 0 ≤ -8 * ρ 0 + (1 * ρ 2 + 0)
      (try rw [h0]); omega
    · show 0 ≤ 11 * ρ 0 + (-1 * ρ 2 + 0)
      (try rw [h0]); omega
  · show sI M
    exact hI
-- ktM2
def xr_647 : qRu := (6, [[(-1, 0), (1, 1)], [(-3, 0), (1, 4)], [(3, 0), (-1, 4)], [(-43, 0), (1, 5)], [(46, 0), (-1, 5)]], [(4, 100, [(1, 1)]), (3, 44, [(1, 2)]), (3, 45, [(1, 3)]), (3, 50, [(1, 4)]), (3, 51, [(1, 5)])], [], [], [[(-8, 0), (1, 2)], [(9, 0), (-1, 2)]])
theorem xo_647 : qRok xr_647 := by
  intro ρ M h0 hf hm hI
  have f0 := hf [(-1, 0), (1, 1)] (by decide)
  have f1 := hf [(-3, 0), (1, 4)] (by decide)
  have f2 := hf [(3, 0), (-1, 4)] (by decide)
  have f3 := hf [(-43, 0), (1, 5)] (by decide)
  have f4 := hf [(46, 0), (-1, 5)] (by decide)
  simp only [qD, h0] at f0 f1 f2 f3 f4
  have m0 : M 4 100 = 1 * ρ 1 + 0 := hm (4, 100, [(1, 1)]) (by decide)
  have m1 : M 3 44 = 1 * ρ 2 + 0 := hm (3, 44, [(1, 2)]) (by decide)
  have m2 : M 3 45 = 1 * ρ 3 + 0 := hm (3, 45, [(1, 3)]) (by decide)
  have m3 : M 3 50 = 1 * ρ 4 + 0 := hm (3, 50, [(1, 4)]) (by decide)
  have m4 : M 3 51 = 1 * ρ 5 + 0 := hm (3, 51, [(1, 5)]) (by decide)
  have hk := xs_kr hI (by omega)
  obtain ⟨z0, z1, z2, z3, z4, z5⟩ := hk
  have z := z3 (by omega)
  refine ⟨ρ, fun _ _ => rfl, fun f h => ?_, ?_⟩
  · have h : f ∈ ([[(-8, 0), (1, 2)], [(9, 0), (-1, 2)]] : List qF) := h
    simp only [List.mem_cons, List.not_mem_nil, or_false] at h
    rcases h with rfl | rfl
    · show 0 ≤ -8 * ρ 0 + (1 * ρ 2 + 0)
      (try rw [h0]); omega
    · show 0 ≤ 9 * ρ 0 + (-1 * ρ 2 + 0)
      (try rw [h0]); omega
  · show sI M
    exact hI
-- kt11
def xr_648 : qRu := (6, [[(-1, 0), (1, 1)], [(-3, 0), (1, 4)], [(3, 0), (-1, 4)], [(59, 0), (-1, 5)]], [(4, 100, [(1, 1)]), (3, 44, [(1, 2)]), (3, 45, [(1, 3)]), (3, 50, [(1, 4)]), (3, 51, [(1, 5)])], [], [], [[(-5, 0), (1, 2)], [(11, 0), (-1, 2)]])
theorem xo_648 : qRok xr_648 := by
  intro ρ M h0 hf hm hI
  have f0 := hf [(-1, 0), (1, 1)] (by decide)
  have f1 := hf [(-3, 0), (1, 4)] (by decide)
  have f2 := hf [(3, 0), (-1, 4)] (by decide)
  have f3 := hf [(59, 0), (-1, 5)] (by decide)
  simp only [qD, h0] at f0 f1 f2 f3
  have m0 : M 4 100 = 1 * ρ 1 + 0 := hm (4, 100, [(1, 1)]) (by decide)
  have m1 : M 3 44 = 1 * ρ 2 + 0 := hm (3, 44, [(1, 2)]) (by decide)
  have m2 : M 3 45 = 1 * ρ 3 + 0 := hm (3, 45, [(1, 3)]) (by decide)
  have m3 : M 3 50 = 1 * ρ 4 + 0 := hm (3, 50, [(1, 4)]) (by decide)
  have m4 : M 3 51 = 1 * ρ 5 + 0 := hm (3, 51, [(1, 5)]) (by decide)
  have hk := xs_kr hI (by omega)
  obtain ⟨z0, z1, z2, z3, z4, z5⟩ := hk
  have z := z3 (by omega)
  refine ⟨ρ, fun _ _ => rfl, fun f h => ?_, ?_⟩
  · have h : f ∈ ([[(-5, 0), (1, 2)], [(11, 0), (-1, 2)]] : List qF) := h
    simp only [List.mem_cons, List.not_mem_nil, or_false] at h
    rcases h with rfl | rfl
    · show 0 ≤ -5 * ρ 0 + (1 * ρ 2 + 0)
      (try rw [h0]); omega
    · show 0 ≤ 11 * ρ 0 + (-1 * ρ 2 + 0)
      (try rw [h0]); omega
  · show sI M
    exact hI
-- half2
def xr_649 : qRu := (2, [[(1, 1)]], [], [], [(0, 900, [(1, 2)])], [[(1, 1), (-2, 2)], [(1, 0), (-1, 1), (2, 2)], [(1, 2)]])
theorem xo_649 : qRok xr_649 := by
  intro ρ M h0 hf hm hI
  have f0 := hf [(1, 1)] (by decide)
  simp only [qD, h0] at f0
  refine ⟨fun a => cond (Nat.blt a 2) (ρ a) (([((1 * ρ 1 + 0) / 2)] : List Int).getD (a - 2) 0), fun a ha => ?_, fun f h => ?_, ?_⟩
  · show cond (Nat.blt a 2) (ρ a) _ = ρ a
    rw [show Nat.blt a 2 = true from Nat.ble_eq_true_of_le ha]; rfl
  · have h : f ∈ ([[(1, 1), (-2, 2)], [(1, 0), (-1, 1), (2, 2)], [(1, 2)]] : List qF) := h
    simp only [List.mem_cons, List.not_mem_nil, or_false] at h
    rcases h with rfl | rfl | rfl
    · show 0 ≤ 1 * ρ 1 + (-2 * (((1 * ρ 1 + 0) / 2)) + 0)
      (try rw [h0]); omega
    · show 0 ≤ 1 * ρ 0 + (-1 * ρ 1 + (2 * (((1 * ρ 1 + 0) / 2)) + 0))
      (try rw [h0]); omega
    · show 0 ≤ 1 * (((1 * ρ 1 + 0) / 2)) + 0
      (try rw [h0]); omega
  · show sI (sU M 0 900 (1 * (((1 * ρ 1 + 0) / 2)) + 0))
    obtain ⟨W, hW⟩ : ∃ W, W = (sU M 0 900 (1 * (((1 * ρ 1 + 0) / 2)) + 0)) := ⟨_, rfl⟩
    rw [← hW]
    have base : sI0 W := by
      rw [hW]
      exact (si_u0 hI.1 (fun r hr => by cases hr))
    have k2 : XI2 W := by
      rw [hW]
      exact (xi2_u rfl hI.2.1)
    have k3 : XI3 W := by
      rw [hW]
      exact (xi3_u rfl hI.2.2.1)
    have kXA : XA W := by
      rw [hW]
      exact (uXA rfl hI.2.2.2.1)
    have kXB : XB W := by
      rw [hW]
      exact (uXB rfl hI.2.2.2.2)
    exact ⟨base, k2, k3, kXA, kXB⟩
