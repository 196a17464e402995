/-! THE OPERATIONS on both objects (by program, wip/p2/mku.py). -/
theorem ub01 {x : Int32} (h : x = 0 ∨ x = 1) : 0 ≤ x.toInt ∧ x.toInt ≤ 1 := by
  rcases h with rfl | rfl <;> decide
theorem uo_2 {M : sM} (hM : uG M) (J : pHp) (x1 : Int32) : ∃ (v1 : Int32) (M1 : sM) (v2 : Int32) (M2 : sM), pEx 300 70 [.ref 0, .int x1] (sHp sLay M ++ J) (some (.int v1)) (sHp sLay M1 ++ J) ∧ pEx 300 201 [.ref 91, .int x1] (sHp sLay M1 ++ J) (some (.int v2)) (sHp sLay M2 ++ J) ∧ uG M2 := by
  obtain ⟨z1, M1, z2, M2, e1, e2, e3⟩ := u_two ko_6 ko_6 ko_r589 (bs := [false]) (by decide +kernel) hM (as := [x1.toInt]) ⟨⟨uarg_i _, fun h => nomatch h⟩, trivial⟩ J
  simp only [List.map_cons, List.map_nil, i32_of] at e1 e2
  exact ⟨Int32.ofInt z1, M1, Int32.ofInt z2, M2, e1, e2, e3⟩
theorem up_10 {ρ : Nat → Int} {M M' : sM} {rv : Option sV} (h : qPost kc_10 ρ M rv M') : ∃ ρ' : Nat → Int, (∀ a, a < 9 → ρ' a = ρ a) ∧ rv = qRv 0 (ρ' 9) ∧ (M' 4 350 = ρ' 10 ∧ M' 4 352 = ρ' 11 ∧ M' 4 353 = ρ' 12 ∧ M' 4 354 = ρ' 13 ∧ M' 4 351 = ρ' 14) ∧ ((0 ≤ 1 * ρ' 0 + (1 * ρ' 9 + 0) ∧ 0 ≤ -1 * ρ' 0 + (-1 * ρ' 9 + 0) ∧ 0 ≤ 1 * ρ' 10 + 0 ∧ 0 ≤ -1 * ρ' 10 + 0 ∧ 0 ≤ -1 * ρ' 0 + (-1 * ρ' 1 + 0)) ∨ (0 ≤ 1 * ρ' 0 + (1 * ρ' 9 + 0) ∧ 0 ≤ -1 * ρ' 0 + (-1 * ρ' 9 + 0) ∧ 0 ≤ 1 * ρ' 10 + 0 ∧ 0 ≤ -1 * ρ' 10 + 0 ∧ 0 ≤ -3 * ρ' 0 + (1 * ρ' 1 + 0)) ∨ (0 ≤ 1 * ρ' 9 + (-1 * ρ' 13 + 0) ∧ 0 ≤ -1 * ρ' 9 + (1 * ρ' 13 + 0) ∧ 0 ≤ -5 * ρ' 0 + (1 * ρ' 10 + 0) ∧ 0 ≤ 5 * ρ' 0 + (-1 * ρ' 10 + 0) ∧ 0 ≤ -1 * ρ' 1 + (1 * ρ' 11 + 0) ∧ 0 ≤ 1 * ρ' 1 + (-1 * ρ' 11 + 0) ∧ 0 ≤ -1 * ρ' 2 + (1 * ρ' 12 + 0) ∧ 0 ≤ 1 * ρ' 2 + (-1 * ρ' 12 + 0) ∧ 0 ≤ 1 * ρ' 1 + 0 ∧ 0 ≤ -1 * ρ' 1 + 0) ∨ (0 ≤ 1 * ρ' 9 + (-1 * ρ' 13 + 0) ∧ 0 ≤ -1 * ρ' 9 + (1 * ρ' 13 + 0) ∧ 0 ≤ -5 * ρ' 0 + (1 * ρ' 10 + 0) ∧ 0 ≤ 5 * ρ' 0 + (-1 * ρ' 10 + 0) ∧ 0 ≤ -1 * ρ' 1 + (1 * ρ' 11 + 0) ∧ 0 ≤ 1 * ρ' 1 + (-1 * ρ' 11 + 0) ∧ 0 ≤ -1 * ρ' 2 + (1 * ρ' 12 + 0) ∧ 0 ≤ 1 * ρ' 2 + (-1 * ρ' 12 + 0) ∧ 0 ≤ -1 * ρ' 0 + (1 * ρ' 1 + 0) ∧ 0 ≤ 1 * ρ' 0 + (-1 * ρ' 1 + 0)) ∨ (0 ≤ 1 * ρ' 9 + (-1 * ρ' 13 + 0) ∧ 0 ≤ -1 * ρ' 9 + (1 * ρ' 13 + 0) ∧ 0 ≤ -5 * ρ' 0 + (1 * ρ' 10 + 0) ∧ 0 ≤ 5 * ρ' 0 + (-1 * ρ' 10 + 0) ∧ 0 ≤ -1 * ρ' 1 + (1 * ρ' 11 + 0) ∧ 0 ≤ 1 * ρ' 1 + (-1 * ρ' 11 + 0) ∧ 0 ≤ -1 * ρ' 2 + (1 * ρ' 12 + 0) ∧ 0 ≤ 1 * ρ' 2 + (-1 * ρ' 12 + 0) ∧ 0 ≤ -2 * ρ' 0 + (1 * ρ' 1 + 0) ∧ 0 ≤ 2 * ρ' 0 + (-1 * ρ' 1 + 0))) ∧ sI M' ∧ sF (cS kc_10) M M' := by
  obtain ⟨ρ', h1, h2, ⟨al, hal, hf⟩, h3, h4, h5⟩ := h
  refine ⟨ρ', h1, h2, ⟨h3 (4, 350, 10) (List.mem_of_getElem? (i := 0) rfl), h3 (4, 352, 11) (List.mem_of_getElem? (i := 1) rfl), h3 (4, 353, 12) (List.mem_of_getElem? (i := 2) rfl), h3 (4, 354, 13) (List.mem_of_getElem? (i := 3) rfl), h3 (4, 351, 14) (List.mem_of_getElem? (i := 4) rfl)⟩, ?_, h4, h5⟩
  have hal : al ∈ ([[[(1, 0), (1, 9)], [(-1, 0), (-1, 9)], [(1, 10)], [(-1, 10)], [(-1, 0), (-1, 1)]], [[(1, 0), (1, 9)], [(-1, 0), (-1, 9)], [(1, 10)], [(-1, 10)], [(-3, 0), (1, 1)]], [[(1, 9), (-1, 13)], [(-1, 9), (1, 13)], [(-5, 0), (1, 10)], [(5, 0), (-1, 10)], [(-1, 1), (1, 11)], [(1, 1), (-1, 11)], [(-1, 2), (1, 12)], [(1, 2), (-1, 12)], [(1, 1)], [(-1, 1)]], [[(1, 9), (-1, 13)], [(-1, 9), (1, 13)], [(-5, 0), (1, 10)], [(5, 0), (-1, 10)], [(-1, 1), (1, 11)], [(1, 1), (-1, 11)], [(-1, 2), (1, 12)], [(1, 2), (-1, 12)], [(-1, 0), (1, 1)], [(1, 0), (-1, 1)]], [[(1, 9), (-1, 13)], [(-1, 9), (1, 13)], [(-5, 0), (1, 10)], [(5, 0), (-1, 10)], [(-1, 1), (1, 11)], [(1, 1), (-1, 11)], [(-1, 2), (1, 12)], [(1, 2), (-1, 12)], [(-2, 0), (1, 1)], [(2, 0), (-1, 1)]]] : List (List qF)) := hal
  simp only [List.mem_cons, List.not_mem_nil, or_false] at hal
  rcases hal with rfl | rfl | rfl | rfl | rfl
  · exact Or.inl ⟨hf [(1, 0), (1, 9)] (List.mem_of_getElem? (i := 0) rfl), hf [(-1, 0), (-1, 9)] (List.mem_of_getElem? (i := 1) rfl), hf [(1, 10)] (List.mem_of_getElem? (i := 2) rfl), hf [(-1, 10)] (List.mem_of_getElem? (i := 3) rfl), hf [(-1, 0), (-1, 1)] (List.mem_of_getElem? (i := 4) rfl)⟩
  · exact Or.inr (Or.inl ⟨hf [(1, 0), (1, 9)] (List.mem_of_getElem? (i := 0) rfl), hf [(-1, 0), (-1, 9)] (List.mem_of_getElem? (i := 1) rfl), hf [(1, 10)] (List.mem_of_getElem? (i := 2) rfl), hf [(-1, 10)] (List.mem_of_getElem? (i := 3) rfl), hf [(-3, 0), (1, 1)] (List.mem_of_getElem? (i := 4) rfl)⟩)
  · exact Or.inr (Or.inr (Or.inl ⟨hf [(1, 9), (-1, 13)] (List.mem_of_getElem? (i := 0) rfl), hf [(-1, 9), (1, 13)] (List.mem_of_getElem? (i := 1) rfl), hf [(-5, 0), (1, 10)] (List.mem_of_getElem? (i := 2) rfl), hf [(5, 0), (-1, 10)] (List.mem_of_getElem? (i := 3) rfl), hf [(-1, 1), (1, 11)] (List.mem_of_getElem? (i := 4) rfl), hf [(1, 1), (-1, 11)] (List.mem_of_getElem? (i := 5) rfl), hf [(-1, 2), (1, 12)] (List.mem_of_getElem? (i := 6) rfl), hf [(1, 2), (-1, 12)] (List.mem_of_getElem? (i := 7) rfl), hf [(1, 1)] (List.mem_of_getElem? (i := 8) rfl), hf [(-1, 1)] (List.mem_of_getElem? (i := 9) rfl)⟩))
  · exact Or.inr (Or.inr (Or.inr (Or.inl ⟨hf [(1, 9), (-1, 13)] (List.mem_of_getElem? (i := 0) rfl), hf [(-1, 9), (1, 13)] (List.mem_of_getElem? (i := 1) rfl), hf [(-5, 0), (1, 10)] (List.mem_of_getElem? (i := 2) rfl), hf [(5, 0), (-1, 10)] (List.mem_of_getElem? (i := 3) rfl), hf [(-1, 1), (1, 11)] (List.mem_of_getElem? (i := 4) rfl), hf [(1, 1), (-1, 11)] (List.mem_of_getElem? (i := 5) rfl), hf [(-1, 2), (1, 12)] (List.mem_of_getElem? (i := 6) rfl), hf [(1, 2), (-1, 12)] (List.mem_of_getElem? (i := 7) rfl), hf [(-1, 0), (1, 1)] (List.mem_of_getElem? (i := 8) rfl), hf [(1, 0), (-1, 1)] (List.mem_of_getElem? (i := 9) rfl)⟩)))
  · exact Or.inr (Or.inr (Or.inr (Or.inr (⟨hf [(1, 9), (-1, 13)] (List.mem_of_getElem? (i := 0) rfl), hf [(-1, 9), (1, 13)] (List.mem_of_getElem? (i := 1) rfl), hf [(-5, 0), (1, 10)] (List.mem_of_getElem? (i := 2) rfl), hf [(5, 0), (-1, 10)] (List.mem_of_getElem? (i := 3) rfl), hf [(-1, 1), (1, 11)] (List.mem_of_getElem? (i := 4) rfl), hf [(1, 1), (-1, 11)] (List.mem_of_getElem? (i := 5) rfl), hf [(-1, 2), (1, 12)] (List.mem_of_getElem? (i := 6) rfl), hf [(1, 2), (-1, 12)] (List.mem_of_getElem? (i := 7) rfl), hf [(-2, 0), (1, 1)] (List.mem_of_getElem? (i := 8) rfl), hf [(2, 0), (-1, 1)] (List.mem_of_getElem? (i := 9) rfl)⟩))))
theorem up_210 {ρ : Nat → Int} {M M' : sM} {rv : Option sV} (h : qPost kc_210 ρ M rv M') : ∃ ρ' : Nat → Int, (∀ a, a < 9 → ρ' a = ρ a) ∧ rv = qRv 0 (ρ' 9) ∧ (M' 4 350 = ρ' 10 ∧ M' 4 352 = ρ' 11 ∧ M' 4 353 = ρ' 12 ∧ M' 4 354 = ρ' 13 ∧ M' 4 351 = ρ' 14) ∧ ((0 ≤ 1 * ρ' 0 + (1 * ρ' 9 + 0) ∧ 0 ≤ -1 * ρ' 0 + (-1 * ρ' 9 + 0) ∧ 0 ≤ 1 * ρ' 10 + 0 ∧ 0 ≤ -1 * ρ' 10 + 0 ∧ 0 ≤ -1 * ρ' 0 + (-1 * ρ' 1 + 0)) ∨ (0 ≤ 1 * ρ' 0 + (1 * ρ' 9 + 0) ∧ 0 ≤ -1 * ρ' 0 + (-1 * ρ' 9 + 0) ∧ 0 ≤ 1 * ρ' 10 + 0 ∧ 0 ≤ -1 * ρ' 10 + 0 ∧ 0 ≤ -3 * ρ' 0 + (1 * ρ' 1 + 0)) ∨ (0 ≤ 1 * ρ' 9 + (-1 * ρ' 13 + 0) ∧ 0 ≤ -1 * ρ' 9 + (1 * ρ' 13 + 0) ∧ 0 ≤ -5 * ρ' 0 + (1 * ρ' 10 + 0) ∧ 0 ≤ 5 * ρ' 0 + (-1 * ρ' 10 + 0) ∧ 0 ≤ -1 * ρ' 1 + (1 * ρ' 11 + 0) ∧ 0 ≤ 1 * ρ' 1 + (-1 * ρ' 11 + 0) ∧ 0 ≤ -1 * ρ' 2 + (1 * ρ' 12 + 0) ∧ 0 ≤ 1 * ρ' 2 + (-1 * ρ' 12 + 0) ∧ 0 ≤ 1 * ρ' 1 + 0 ∧ 0 ≤ -1 * ρ' 1 + 0) ∨ (0 ≤ 1 * ρ' 9 + (-1 * ρ' 13 + 0) ∧ 0 ≤ -1 * ρ' 9 + (1 * ρ' 13 + 0) ∧ 0 ≤ -5 * ρ' 0 + (1 * ρ' 10 + 0) ∧ 0 ≤ 5 * ρ' 0 + (-1 * ρ' 10 + 0) ∧ 0 ≤ -1 * ρ' 1 + (1 * ρ' 11 + 0) ∧ 0 ≤ 1 * ρ' 1 + (-1 * ρ' 11 + 0) ∧ 0 ≤ -1 * ρ' 2 + (1 * ρ' 12 + 0) ∧ 0 ≤ 1 * ρ' 2 + (-1 * ρ' 12 + 0) ∧ 0 ≤ -1 * ρ' 0 + (1 * ρ' 1 + 0) ∧ 0 ≤ 1 * ρ' 0 + (-1 * ρ' 1 + 0)) ∨ (0 ≤ 1 * ρ' 9 + (-1 * ρ' 13 + 0) ∧ 0 ≤ -1 * ρ' 9 + (1 * ρ' 13 + 0) ∧ 0 ≤ -5 * ρ' 0 + (1 * ρ' 10 + 0) ∧ 0 ≤ 5 * ρ' 0 + (-1 * ρ' 10 + 0) ∧ 0 ≤ -1 * ρ' 1 + (1 * ρ' 11 + 0) ∧ 0 ≤ 1 * ρ' 1 + (-1 * ρ' 11 + 0) ∧ 0 ≤ -1 * ρ' 2 + (1 * ρ' 12 + 0) ∧ 0 ≤ 1 * ρ' 2 + (-1 * ρ' 12 + 0) ∧ 0 ≤ -2 * ρ' 0 + (1 * ρ' 1 + 0) ∧ 0 ≤ 2 * ρ' 0 + (-1 * ρ' 1 + 0))) ∧ sI M' ∧ sF (cS kc_210) M M' := by
  obtain ⟨ρ', h1, h2, ⟨al, hal, hf⟩, h3, h4, h5⟩ := h
  refine ⟨ρ', h1, h2, ⟨h3 (4, 350, 10) (List.mem_of_getElem? (i := 0) rfl), h3 (4, 352, 11) (List.mem_of_getElem? (i := 1) rfl), h3 (4, 353, 12) (List.mem_of_getElem? (i := 2) rfl), h3 (4, 354, 13) (List.mem_of_getElem? (i := 3) rfl), h3 (4, 351, 14) (List.mem_of_getElem? (i := 4) rfl)⟩, ?_, h4, h5⟩
  have hal : al ∈ ([[[(1, 0), (1, 9)], [(-1, 0), (-1, 9)], [(1, 10)], [(-1, 10)], [(-1, 0), (-1, 1)]], [[(1, 0), (1, 9)], [(-1, 0), (-1, 9)], [(1, 10)], [(-1, 10)], [(-3, 0), (1, 1)]], [[(1, 9), (-1, 13)], [(-1, 9), (1, 13)], [(-5, 0), (1, 10)], [(5, 0), (-1, 10)], [(-1, 1), (1, 11)], [(1, 1), (-1, 11)], [(-1, 2), (1, 12)], [(1, 2), (-1, 12)], [(1, 1)], [(-1, 1)]], [[(1, 9), (-1, 13)], [(-1, 9), (1, 13)], [(-5, 0), (1, 10)], [(5, 0), (-1, 10)], [(-1, 1), (1, 11)], [(1, 1), (-1, 11)], [(-1, 2), (1, 12)], [(1, 2), (-1, 12)], [(-1, 0), (1, 1)], [(1, 0), (-1, 1)]], [[(1, 9), (-1, 13)], [(-1, 9), (1, 13)], [(-5, 0), (1, 10)], [(5, 0), (-1, 10)], [(-1, 1), (1, 11)], [(1, 1), (-1, 11)], [(-1, 2), (1, 12)], [(1, 2), (-1, 12)], [(-2, 0), (1, 1)], [(2, 0), (-1, 1)]]] : List (List qF)) := hal
  simp only [List.mem_cons, List.not_mem_nil, or_false] at hal
  rcases hal with rfl | rfl | rfl | rfl | rfl
  · exact Or.inl ⟨hf [(1, 0), (1, 9)] (List.mem_of_getElem? (i := 0) rfl), hf [(-1, 0), (-1, 9)] (List.mem_of_getElem? (i := 1) rfl), hf [(1, 10)] (List.mem_of_getElem? (i := 2) rfl), hf [(-1, 10)] (List.mem_of_getElem? (i := 3) rfl), hf [(-1, 0), (-1, 1)] (List.mem_of_getElem? (i := 4) rfl)⟩
  · exact Or.inr (Or.inl ⟨hf [(1, 0), (1, 9)] (List.mem_of_getElem? (i := 0) rfl), hf [(-1, 0), (-1, 9)] (List.mem_of_getElem? (i := 1) rfl), hf [(1, 10)] (List.mem_of_getElem? (i := 2) rfl), hf [(-1, 10)] (List.mem_of_getElem? (i := 3) rfl), hf [(-3, 0), (1, 1)] (List.mem_of_getElem? (i := 4) rfl)⟩)
  · exact Or.inr (Or.inr (Or.inl ⟨hf [(1, 9), (-1, 13)] (List.mem_of_getElem? (i := 0) rfl), hf [(-1, 9), (1, 13)] (List.mem_of_getElem? (i := 1) rfl), hf [(-5, 0), (1, 10)] (List.mem_of_getElem? (i := 2) rfl), hf [(5, 0), (-1, 10)] (List.mem_of_getElem? (i := 3) rfl), hf [(-1, 1), (1, 11)] (List.mem_of_getElem? (i := 4) rfl), hf [(1, 1), (-1, 11)] (List.mem_of_getElem? (i := 5) rfl), hf [(-1, 2), (1, 12)] (List.mem_of_getElem? (i := 6) rfl), hf [(1, 2), (-1, 12)] (List.mem_of_getElem? (i := 7) rfl), hf [(1, 1)] (List.mem_of_getElem? (i := 8) rfl), hf [(-1, 1)] (List.mem_of_getElem? (i := 9) rfl)⟩))
  · exact Or.inr (Or.inr (Or.inr (Or.inl ⟨hf [(1, 9), (-1, 13)] (List.mem_of_getElem? (i := 0) rfl), hf [(-1, 9), (1, 13)] (List.mem_of_getElem? (i := 1) rfl), hf [(-5, 0), (1, 10)] (List.mem_of_getElem? (i := 2) rfl), hf [(5, 0), (-1, 10)] (List.mem_of_getElem? (i := 3) rfl), hf [(-1, 1), (1, 11)] (List.mem_of_getElem? (i := 4) rfl), hf [(1, 1), (-1, 11)] (List.mem_of_getElem? (i := 5) rfl), hf [(-1, 2), (1, 12)] (List.mem_of_getElem? (i := 6) rfl), hf [(1, 2), (-1, 12)] (List.mem_of_getElem? (i := 7) rfl), hf [(-1, 0), (1, 1)] (List.mem_of_getElem? (i := 8) rfl), hf [(1, 0), (-1, 1)] (List.mem_of_getElem? (i := 9) rfl)⟩)))
  · exact Or.inr (Or.inr (Or.inr (Or.inr (⟨hf [(1, 9), (-1, 13)] (List.mem_of_getElem? (i := 0) rfl), hf [(-1, 9), (1, 13)] (List.mem_of_getElem? (i := 1) rfl), hf [(-5, 0), (1, 10)] (List.mem_of_getElem? (i := 2) rfl), hf [(5, 0), (-1, 10)] (List.mem_of_getElem? (i := 3) rfl), hf [(-1, 1), (1, 11)] (List.mem_of_getElem? (i := 4) rfl), hf [(1, 1), (-1, 11)] (List.mem_of_getElem? (i := 5) rfl), hf [(-1, 2), (1, 12)] (List.mem_of_getElem? (i := 6) rfl), hf [(1, 2), (-1, 12)] (List.mem_of_getElem? (i := 7) rfl), hf [(-2, 0), (1, 1)] (List.mem_of_getElem? (i := 8) rfl), hf [(2, 0), (-1, 1)] (List.mem_of_getElem? (i := 9) rfl)⟩))))
theorem up_r594 {ρ : Nat → Int} {M M' : sM} {rv : Option sV} (h : qPost kc_r594 ρ M rv M') : ∃ ρ' : Nat → Int, (∀ a, a < 3 → ρ' a = ρ a) ∧ rv = qRv 0 (ρ' 3) ∧ (True) ∧ ((0 ≤ 1 * ρ' 0 + (1 * ρ' 3 + 0) ∧ 0 ≤ -1 * ρ' 0 + (-1 * ρ' 3 + 0))) ∧ sI M' ∧ sF (cS kc_r594) M M' := by
  obtain ⟨ρ', h1, h2, ⟨al, hal, hf⟩, h3, h4, h5⟩ := h
  refine ⟨ρ', h1, h2, trivial, ?_, h4, h5⟩
  have hal : al ∈ ([[[(1, 0), (1, 3)], [(-1, 0), (-1, 3)]]] : List (List qF)) := hal
  simp only [List.mem_cons, List.not_mem_nil, or_false] at hal
  rcases hal with rfl
  · exact ⟨hf [(1, 0), (1, 3)] (List.mem_of_getElem? (i := 0) rfl), hf [(-1, 0), (-1, 3)] (List.mem_of_getElem? (i := 1) rfl)⟩
theorem up_r595 {ρ : Nat → Int} {M M' : sM} {rv : Option sV} (h : qPost kc_r595 ρ M rv M') : ∃ ρ' : Nat → Int, (∀ a, a < 3 → ρ' a = ρ a) ∧ rv = qRv 0 (ρ' 3) ∧ (True) ∧ ((0 ≤ 1 * ρ' 0 + (1 * ρ' 3 + 0) ∧ 0 ≤ -1 * ρ' 0 + (-1 * ρ' 3 + 0))) ∧ sI M' ∧ sF (cS kc_r595) M M' := by
  obtain ⟨ρ', h1, h2, ⟨al, hal, hf⟩, h3, h4, h5⟩ := h
  refine ⟨ρ', h1, h2, trivial, ?_, h4, h5⟩
  have hal : al ∈ ([[[(1, 0), (1, 3)], [(-1, 0), (-1, 3)]]] : List (List qF)) := hal
  simp only [List.mem_cons, List.not_mem_nil, or_false] at hal
  rcases hal with rfl
  · exact ⟨hf [(1, 0), (1, 3)] (List.mem_of_getElem? (i := 0) rfl), hf [(-1, 0), (-1, 3)] (List.mem_of_getElem? (i := 1) rfl)⟩
theorem up_r593 {ρ : Nat → Int} {M M' : sM} {rv : Option sV} (h : qPost kc_r593 ρ M rv M') : ∃ ρ' : Nat → Int, (∀ a, a < 9 → ρ' a = ρ a) ∧ rv = qRv 0 (ρ' 9) ∧ (M' 4 350 = 0 ∧ M' 4 351 = ρ' 11) ∧ ((0 ≤ -1 * ρ' 5 + (1 * ρ' 9 + 0) ∧ 0 ≤ 1 * ρ' 5 + (-1 * ρ' 9 + 0) ∧ (0 : Int) ≤ 0 ∧ (0 : Int) ≤ 0)) ∧ sI M' ∧ sF (cS kc_r593) M M' := by
  obtain ⟨ρ', h1, h2, ⟨al, hal, hf⟩, h3, h4, h5⟩ := h
  refine ⟨ρ', h1, h2, ⟨h3 (4, 350, 100000) (List.mem_of_getElem? (i := 0) rfl), h3 (4, 351, 11) (List.mem_of_getElem? (i := 1) rfl)⟩, ?_, h4, h5⟩
  have hal : al ∈ ([[[(-1, 5), (1, 9)], [(1, 5), (-1, 9)], [], []]] : List (List qF)) := hal
  simp only [List.mem_cons, List.not_mem_nil, or_false] at hal
  rcases hal with rfl
  · exact ⟨hf [(-1, 5), (1, 9)] (List.mem_of_getElem? (i := 0) rfl), hf [(1, 5), (-1, 9)] (List.mem_of_getElem? (i := 1) rfl), hf [] (List.mem_of_getElem? (i := 2) rfl), hf [] (List.mem_of_getElem? (i := 3) rfl)⟩
set_option maxHeartbeats 4000000 in
theorem uo_3 {M : sM} (hM : uG M) (J : pHp) (x1 : Int32) (x2 : Int32) : ∃ (v : Int32) (M1 M2 : sM), pEx 300 71 [.ref 0, .int x1, .int x2] (sHp sLay M ++ J) (some (.int v)) (sHp sLay M1 ++ J) ∧ pEx 300 202 [.ref 91, .int x1, .int x2] (sHp sLay M1 ++ J) (some (.int v)) (sHp sLay M2 ++ J) ∧ uG M2 := by
  obtain ⟨r, hr, hs, hT⟩ := hM
  rcases hr with rfl | rfl
  · have kM_0 : M 0 1 = M 91 2 := hT (0, 1, 91, 2) (List.mem_of_getElem? (i := 0) rfl)
    have kM_1 : M 4 261 = M 0 1 := hT (4, 261, 0, 1) (List.mem_of_getElem? (i := 1) rfl)
    have kM_2 : M 0 2 = M 91 33 := hT (0, 2, 91, 33) (List.mem_of_getElem? (i := 2) rfl)
    have kM_3 : M 0 3 = M 91 34 := hT (0, 3, 91, 34) (List.mem_of_getElem? (i := 3) rfl)
    have kM_4 : M 2 8 = M 93 0 := hT ((2 : Int).toNat, 8, 93, 0) (List.mem_of_getElem? (i := 4) rfl)
    have kM_5 : M 2 9 = M 93 1 := hT ((2 : Int).toNat, 9, 93, 1) (List.mem_of_getElem? (i := 5) rfl)
    have kM_6 : M 2 10 = M 93 2 := hT ((2 : Int).toNat, 10, 93, 2) (List.mem_of_getElem? (i := 6) rfl)
    have kM_7 : M 77 6 = M 91 61 := hT (77, 6, 91, 61) (List.mem_of_getElem? (i := 7) rfl)
    obtain ⟨rv1, N1, e1, p1, q1⟩ := u_runX ko_10 (ks := uKs 2) (ex := [[(1, 3), (-1, 6)], [(-1, 3), (1, 6)], [(1, 4), (-1, 7)], [(-1, 4), (1, 7)], [(1, 5), (-1, 8)], [(-1, 5), (1, 8)]]) (o := 0) (bs := [false, false]) (by decide +kernel) hs.1 hs.2 (as := [x1.toInt, x2.toInt]) ⟨⟨uarg_i _, fun h => nomatch h⟩, ⟨⟨uarg_i _, fun h => nomatch h⟩, trivial⟩⟩ (fun hm f hf => by
        obtain ⟨ρ, hρ⟩ : ∃ ρ, ρ = uRho [x1.toInt, x2.toInt] M (cM kc_10) := ⟨_, rfl⟩
        have o1 : ρ 0 = 1 := by rw [hρ]; rfl
        rw [← hρ] at hm ⊢
        have m3 : M 93 0 = 1 * ρ 3 + 0 := hm (93, 0, [(1, 3)]) (List.mem_of_getElem? (i := 3) rfl)
        have m4 : M 93 1 = 1 * ρ 4 + 0 := hm (93, 1, [(1, 4)]) (List.mem_of_getElem? (i := 4) rfl)
        have m5 : M 93 2 = 1 * ρ 5 + 0 := hm (93, 2, [(1, 5)]) (List.mem_of_getElem? (i := 5) rfl)
        have m6 : M 2 8 = 1 * ρ 6 + 0 := hm (2, 8, [(1, 6)]) (List.mem_of_getElem? (i := 6) rfl)
        have m7 : M 2 9 = 1 * ρ 7 + 0 := hm (2, 9, [(1, 7)]) (List.mem_of_getElem? (i := 7) rfl)
        have m8 : M 2 10 = 1 * ρ 8 + 0 := hm (2, 10, [(1, 8)]) (List.mem_of_getElem? (i := 8) rfl)
        have hf : f ∈ ([[(1, 3), (-1, 6)], [(-1, 3), (1, 6)], [(1, 4), (-1, 7)], [(-1, 4), (1, 7)], [(1, 5), (-1, 8)], [(-1, 5), (1, 8)]] : List qF) := hf
        simp only [List.mem_cons, List.not_mem_nil, or_false] at hf
        rcases hf with rfl | rfl | rfl | rfl | rfl | rfl
        · show 0 ≤ 1 * ρ 3 + (-1 * ρ 6 + 0)
          omega
        · show 0 ≤ -1 * ρ 3 + (1 * ρ 6 + 0)
          omega
        · show 0 ≤ 1 * ρ 4 + (-1 * ρ 7 + 0)
          omega
        · show 0 ≤ -1 * ρ 4 + (1 * ρ 7 + 0)
          omega
        · show 0 ≤ 1 * ρ 5 + (-1 * ρ 8 + 0)
          omega
        · show 0 ≤ -1 * ρ 5 + (1 * ρ 8 + 0)
          omega) J (N := 300) (by decide)
    obtain ⟨ρ1, u1, w1, t1, z1, i1, y1⟩ := up_10 p1
    have o1 : ρ1 0 = 1 := u1 0 (by decide)
    have a1_1 : ρ1 1 = x1.toInt := (u1 1 (by decide)).trans (urho_a (as := [x1.toInt, x2.toInt]) (j := 0) (show (0 : Nat) < 2 from by decide))
    have a1_2 : ρ1 2 = x2.toInt := (u1 2 (by decide)).trans (urho_a (as := [x1.toInt, x2.toInt]) (j := 1) (show (1 : Nat) < 2 from by decide))
    have m1_93_0 : M 93 0 = ρ1 3 := by
      have h := q1 (93, 0, [(1, 3)]) (List.mem_of_getElem? (i := 3) rfl)
      have h : M 93 0 = 1 * uRho [x1.toInt, x2.toInt] M (cM kc_10) 3 + 0 := h
      rw [u1 3 (by decide)]
      omega
    have m1_93_1 : M 93 1 = ρ1 4 := by
      have h := q1 (93, 1, [(1, 4)]) (List.mem_of_getElem? (i := 4) rfl)
      have h : M 93 1 = 1 * uRho [x1.toInt, x2.toInt] M (cM kc_10) 4 + 0 := h
      rw [u1 4 (by decide)]
      omega
    have m1_93_2 : M 93 2 = ρ1 5 := by
      have h := q1 (93, 2, [(1, 5)]) (List.mem_of_getElem? (i := 5) rfl)
      have h : M 93 2 = 1 * uRho [x1.toInt, x2.toInt] M (cM kc_10) 5 + 0 := h
      rw [u1 5 (by decide)]
      omega
    have m1_2_8 : M 2 8 = ρ1 6 := by
      have h := q1 (2, 8, [(1, 6)]) (List.mem_of_getElem? (i := 6) rfl)
      have h : M 2 8 = 1 * uRho [x1.toInt, x2.toInt] M (cM kc_10) 6 + 0 := h
      rw [u1 6 (by decide)]
      omega
    have m1_2_9 : M 2 9 = ρ1 7 := by
      have h := q1 (2, 9, [(1, 7)]) (List.mem_of_getElem? (i := 7) rfl)
      have h : M 2 9 = 1 * uRho [x1.toInt, x2.toInt] M (cM kc_10) 7 + 0 := h
      rw [u1 7 (by decide)]
      omega
    have m1_2_10 : M 2 10 = ρ1 8 := by
      have h := q1 (2, 10, [(1, 8)]) (List.mem_of_getElem? (i := 8) rfl)
      have h : M 2 10 = 1 * uRho [x1.toInt, x2.toInt] M (cM kc_10) 8 + 0 := h
      rw [u1 8 (by decide)]
      omega
    obtain ⟨t1_0, t1_1, t1_2, t1_3, t1_4⟩ := t1
    rw [o1] at z1
    have k1 : ∀ q ∈ uKq 2, N1 q.1 q.2.1 = q.2.2 := ukeepX_ok (ks := uKs 2) (c := kc_10) (by decide +kernel) hs.2 p1
    have b1_0_1 : N1 0 1 = M 0 1 := y1 0 1 (by decide +kernel)
    have b1_0_2 : N1 0 2 = M 0 2 := y1 0 2 (by decide +kernel)
    have b1_0_3 : N1 0 3 = M 0 3 := y1 0 3 (by decide +kernel)
    have b1_2_8 : N1 2 8 = M 2 8 := y1 2 8 (by decide +kernel)
    have b1_2_9 : N1 2 9 = M 2 9 := y1 2 9 (by decide +kernel)
    have b1_2_10 : N1 2 10 = M 2 10 := y1 2 10 (by decide +kernel)
    have b1_4_261 : N1 4 261 = M 4 261 := y1 4 261 (by decide +kernel)
    have b1_4_350 : N1 4 350 = ρ1 10 := t1_0
    have b1_4_352 : N1 4 352 = ρ1 11 := t1_1
    have b1_4_353 : N1 4 353 = ρ1 12 := t1_2
    have b1_4_354 : N1 4 354 = ρ1 13 := t1_3
    have b1_77_6 : N1 77 6 = M 77 6 := y1 77 6 (by decide +kernel)
    have b1_91_2 : N1 91 2 = M 91 2 := y1 91 2 (by decide +kernel)
    have b1_91_33 : N1 91 33 = M 91 33 := y1 91 33 (by decide +kernel)
    have b1_91_34 : N1 91 34 = M 91 34 := y1 91 34 (by decide +kernel)
    have b1_91_61 : N1 91 61 = M 91 61 := y1 91 61 (by decide +kernel)
    have b1_93_0 : N1 93 0 = M 93 0 := y1 93 0 (by decide +kernel)
    have b1_93_1 : N1 93 1 = M 93 1 := y1 93 1 (by decide +kernel)
    have b1_93_2 : N1 93 2 = M 93 2 := y1 93 2 (by decide +kernel)
    rcases z1 with z1 | z1 | z1 | z1 | z1
    · have v1 : N1 4 350 = 0 := by omega
      obtain ⟨rv2, N2, e2, p2, q2⟩ := u_runX ko_r594 (ks := uKq 2 ++ [(4, 350, 0)]) (ex := [[(-1, 0), (-1, 1)]]) (o := 91) (bs := [false, false]) (by decide +kernel) i1 (fun q hq => by rcases List.mem_append.mp hq with hq | hq; exact k1 q hq; rw [List.mem_singleton] at hq; rw [hq]; exact v1) (as := [x1.toInt, x2.toInt]) ⟨⟨uarg_i _, fun h => nomatch h⟩, ⟨⟨uarg_i _, fun h => nomatch h⟩, trivial⟩⟩ (fun hm f hf => by
          obtain ⟨ρ, hρ⟩ : ∃ ρ, ρ = uRho [x1.toInt, x2.toInt] N1 (cM kc_r594) := ⟨_, rfl⟩
          have o1 : ρ 0 = 1 := by rw [hρ]; rfl
          have a1 : ρ 1 = x1.toInt := by rw [hρ]; exact urho_a (as := [x1.toInt, x2.toInt]) (j := 0) (show (0 : Nat) < 2 from by decide)
          rw [← hρ] at hm ⊢
          have hf : f ∈ ([[(-1, 0), (-1, 1)]] : List qF) := hf
          simp only [List.mem_cons, List.not_mem_nil, or_false] at hf
          rcases hf with rfl
          · show 0 ≤ -1 * ρ 0 + (-1 * ρ 1 + 0)
            omega) J (N := 300) (by decide)
      obtain ⟨ρ2, u2, w2, t2, z2, i2, y2⟩ := up_r594 p2
      have o2 : ρ2 0 = 1 := u2 0 (by decide)
      have a2_1 : ρ2 1 = x1.toInt := (u2 1 (by decide)).trans (urho_a (as := [x1.toInt, x2.toInt]) (j := 0) (show (0 : Nat) < 2 from by decide))
      have a2_2 : ρ2 2 = x2.toInt := (u2 2 (by decide)).trans (urho_a (as := [x1.toInt, x2.toInt]) (j := 1) (show (1 : Nat) < 2 from by decide))
      rw [o2] at z2
      have s2 : uSt 2 N2 := ⟨i2, ukeepX_ok (ks := uKq 2 ++ [(4, 350, 0)]) (c := kc_r594) (by decide +kernel) (fun q hq => by rcases List.mem_append.mp hq with hq | hq; exact k1 q hq; rw [List.mem_singleton] at hq; rw [hq]; exact v1) p2⟩
      have b2_0_1 : N2 0 1 = N1 0 1 := y2 0 1 (by decide +kernel)
      have b2_0_2 : N2 0 2 = N1 0 2 := y2 0 2 (by decide +kernel)
      have b2_0_3 : N2 0 3 = N1 0 3 := y2 0 3 (by decide +kernel)
      have b2_2_8 : N2 2 8 = N1 2 8 := y2 2 8 (by decide +kernel)
      have b2_2_9 : N2 2 9 = N1 2 9 := y2 2 9 (by decide +kernel)
      have b2_2_10 : N2 2 10 = N1 2 10 := y2 2 10 (by decide +kernel)
      have b2_4_261 : N2 4 261 = N1 4 261 := y2 4 261 (by decide +kernel)
      have b2_77_6 : N2 77 6 = N1 77 6 := y2 77 6 (by decide +kernel)
      have b2_91_2 : N2 91 2 = N1 91 2 := y2 91 2 (by decide +kernel)
      have b2_91_33 : N2 91 33 = N1 91 33 := y2 91 33 (by decide +kernel)
      have b2_91_34 : N2 91 34 = N1 91 34 := y2 91 34 (by decide +kernel)
      have b2_91_61 : N2 91 61 = N1 91 61 := y2 91 61 (by decide +kernel)
      have b2_93_0 : N2 93 0 = N1 93 0 := y2 93 0 (by decide +kernel)
      have b2_93_1 : N2 93 1 = N1 93 1 := y2 93 1 (by decide +kernel)
      have b2_93_2 : N2 93 2 = N1 93 2 := y2 93 2 (by decide +kernel)
      have hv : ρ2 3 = ρ1 9 := by omega
      clear z1 z2
      rw [w1] at e1
      rw [w2, hv] at e2
      simp only [List.map_cons, List.map_nil, i32_of] at e1 e2
      exact ⟨Int32.ofInt (ρ1 9), N1, N2, e1, e2, 2, Or.inl rfl, s2, (fun q hq => by
        have hq : q ∈ ([(0, 1, 91, 2), (4, 261, 0, 1), (0, 2, 91, 33), (0, 3, 91, 34), (2, 8, 93, 0), (2, 9, 93, 1), (2, 10, 93, 2), (77, 6, 91, 61)] : List (Nat × Nat × Nat × Nat)) := hq
        simp only [List.mem_cons, List.not_mem_nil, or_false] at hq
        rcases hq with rfl | rfl | rfl | rfl | rfl | rfl | rfl | rfl
        · exact (show N2 0 1 = N2 91 2 by omega)
        · exact (show N2 4 261 = N2 0 1 by omega)
        · exact (show N2 0 2 = N2 91 33 by omega)
        · exact (show N2 0 3 = N2 91 34 by omega)
        · exact (show N2 2 8 = N2 93 0 by omega)
        · exact (show N2 2 9 = N2 93 1 by omega)
        · exact (show N2 2 10 = N2 93 2 by omega)
        · exact (show N2 77 6 = N2 91 61 by omega))⟩
    · have v1 : N1 4 350 = 0 := by omega
      obtain ⟨rv2, N2, e2, p2, q2⟩ := u_runX ko_r595 (ks := uKq 2 ++ [(4, 350, 0)]) (ex := [[(-3, 0), (1, 1)]]) (o := 91) (bs := [false, false]) (by decide +kernel) i1 (fun q hq => by rcases List.mem_append.mp hq with hq | hq; exact k1 q hq; rw [List.mem_singleton] at hq; rw [hq]; exact v1) (as := [x1.toInt, x2.toInt]) ⟨⟨uarg_i _, fun h => nomatch h⟩, ⟨⟨uarg_i _, fun h => nomatch h⟩, trivial⟩⟩ (fun hm f hf => by
          obtain ⟨ρ, hρ⟩ : ∃ ρ, ρ = uRho [x1.toInt, x2.toInt] N1 (cM kc_r595) := ⟨_, rfl⟩
          have o1 : ρ 0 = 1 := by rw [hρ]; rfl
          have a1 : ρ 1 = x1.toInt := by rw [hρ]; exact urho_a (as := [x1.toInt, x2.toInt]) (j := 0) (show (0 : Nat) < 2 from by decide)
          rw [← hρ] at hm ⊢
          have hf : f ∈ ([[(-3, 0), (1, 1)]] : List qF) := hf
          simp only [List.mem_cons, List.not_mem_nil, or_false] at hf
          rcases hf with rfl
          · show 0 ≤ -3 * ρ 0 + (1 * ρ 1 + 0)
            omega) J (N := 300) (by decide)
      obtain ⟨ρ2, u2, w2, t2, z2, i2, y2⟩ := up_r595 p2
      have o2 : ρ2 0 = 1 := u2 0 (by decide)
      have a2_1 : ρ2 1 = x1.toInt := (u2 1 (by decide)).trans (urho_a (as := [x1.toInt, x2.toInt]) (j := 0) (show (0 : Nat) < 2 from by decide))
      have a2_2 : ρ2 2 = x2.toInt := (u2 2 (by decide)).trans (urho_a (as := [x1.toInt, x2.toInt]) (j := 1) (show (1 : Nat) < 2 from by decide))
      rw [o2] at z2
      have s2 : uSt 2 N2 := ⟨i2, ukeepX_ok (ks := uKq 2 ++ [(4, 350, 0)]) (c := kc_r595) (by decide +kernel) (fun q hq => by rcases List.mem_append.mp hq with hq | hq; exact k1 q hq; rw [List.mem_singleton] at hq; rw [hq]; exact v1) p2⟩
      have b2_0_1 : N2 0 1 = N1 0 1 := y2 0 1 (by decide +kernel)
      have b2_0_2 : N2 0 2 = N1 0 2 := y2 0 2 (by decide +kernel)
      have b2_0_3 : N2 0 3 = N1 0 3 := y2 0 3 (by decide +kernel)
      have b2_2_8 : N2 2 8 = N1 2 8 := y2 2 8 (by decide +kernel)
      have b2_2_9 : N2 2 9 = N1 2 9 := y2 2 9 (by decide +kernel)
      have b2_2_10 : N2 2 10 = N1 2 10 := y2 2 10 (by decide +kernel)
      have b2_4_261 : N2 4 261 = N1 4 261 := y2 4 261 (by decide +kernel)
      have b2_77_6 : N2 77 6 = N1 77 6 := y2 77 6 (by decide +kernel)
      have b2_91_2 : N2 91 2 = N1 91 2 := y2 91 2 (by decide +kernel)
      have b2_91_33 : N2 91 33 = N1 91 33 := y2 91 33 (by decide +kernel)
      have b2_91_34 : N2 91 34 = N1 91 34 := y2 91 34 (by decide +kernel)
      have b2_91_61 : N2 91 61 = N1 91 61 := y2 91 61 (by decide +kernel)
      have b2_93_0 : N2 93 0 = N1 93 0 := y2 93 0 (by decide +kernel)
      have b2_93_1 : N2 93 1 = N1 93 1 := y2 93 1 (by decide +kernel)
      have b2_93_2 : N2 93 2 = N1 93 2 := y2 93 2 (by decide +kernel)
      have hv : ρ2 3 = ρ1 9 := by omega
      clear z1 z2
      rw [w1] at e1
      rw [w2, hv] at e2
      simp only [List.map_cons, List.map_nil, i32_of] at e1 e2
      exact ⟨Int32.ofInt (ρ1 9), N1, N2, e1, e2, 2, Or.inl rfl, s2, (fun q hq => by
        have hq : q ∈ ([(0, 1, 91, 2), (4, 261, 0, 1), (0, 2, 91, 33), (0, 3, 91, 34), (2, 8, 93, 0), (2, 9, 93, 1), (2, 10, 93, 2), (77, 6, 91, 61)] : List (Nat × Nat × Nat × Nat)) := hq
        simp only [List.mem_cons, List.not_mem_nil, or_false] at hq
        rcases hq with rfl | rfl | rfl | rfl | rfl | rfl | rfl | rfl
        · exact (show N2 0 1 = N2 91 2 by omega)
        · exact (show N2 4 261 = N2 0 1 by omega)
        · exact (show N2 0 2 = N2 91 33 by omega)
        · exact (show N2 0 3 = N2 91 34 by omega)
        · exact (show N2 2 8 = N2 93 0 by omega)
        · exact (show N2 2 9 = N2 93 1 by omega)
        · exact (show N2 2 10 = N2 93 2 by omega)
        · exact (show N2 77 6 = N2 91 61 by omega))⟩
    · have v1 : N1 4 350 = 5 := by omega
      obtain ⟨rv2, N2, e2, p2, q2⟩ := u_runX ko_r593 (ks := uKq 2 ++ [(4, 350, 5)]) (ex := [[(-1, 1), (1, 3)], [(1, 1), (-1, 3)], [(-1, 2), (1, 4)], [(1, 2), (-1, 4)], [(1, 1)], [(2, 0), (-1, 1)]]) (o := 91) (bs := [false, false]) (by decide +kernel) i1 (fun q hq => by rcases List.mem_append.mp hq with hq | hq; exact k1 q hq; rw [List.mem_singleton] at hq; rw [hq]; exact v1) (as := [x1.toInt, x2.toInt]) ⟨⟨uarg_i _, fun h => nomatch h⟩, ⟨⟨uarg_i _, fun h => nomatch h⟩, trivial⟩⟩ (fun hm f hf => by
          obtain ⟨ρ, hρ⟩ : ∃ ρ, ρ = uRho [x1.toInt, x2.toInt] N1 (cM kc_r593) := ⟨_, rfl⟩
          have o1 : ρ 0 = 1 := by rw [hρ]; rfl
          have a1 : ρ 1 = x1.toInt := by rw [hρ]; exact urho_a (as := [x1.toInt, x2.toInt]) (j := 0) (show (0 : Nat) < 2 from by decide)
          have a2 : ρ 2 = x2.toInt := by rw [hρ]; exact urho_a (as := [x1.toInt, x2.toInt]) (j := 1) (show (1 : Nat) < 2 from by decide)
          rw [← hρ] at hm ⊢
          have m1 : N1 4 352 = 1 * ρ 3 + 0 := hm (4, 352, [(1, 3)]) (List.mem_of_getElem? (i := 1) rfl)
          have m2 : N1 4 353 = 1 * ρ 4 + 0 := hm (4, 353, [(1, 4)]) (List.mem_of_getElem? (i := 2) rfl)
          have hf : f ∈ ([[(-1, 1), (1, 3)], [(1, 1), (-1, 3)], [(-1, 2), (1, 4)], [(1, 2), (-1, 4)], [(1, 1)], [(2, 0), (-1, 1)]] : List qF) := hf
          simp only [List.mem_cons, List.not_mem_nil, or_false] at hf
          rcases hf with rfl | rfl | rfl | rfl | rfl | rfl
          · show 0 ≤ -1 * ρ 1 + (1 * ρ 3 + 0)
            omega
          · show 0 ≤ 1 * ρ 1 + (-1 * ρ 3 + 0)
            omega
          · show 0 ≤ -1 * ρ 2 + (1 * ρ 4 + 0)
            omega
          · show 0 ≤ 1 * ρ 2 + (-1 * ρ 4 + 0)
            omega
          · show 0 ≤ 1 * ρ 1 + 0
            omega
          · show 0 ≤ 2 * ρ 0 + (-1 * ρ 1 + 0)
            omega) J (N := 300) (by decide)
      obtain ⟨ρ2, u2, w2, t2, z2, i2, y2⟩ := up_r593 p2
      have o2 : ρ2 0 = 1 := u2 0 (by decide)
      have a2_1 : ρ2 1 = x1.toInt := (u2 1 (by decide)).trans (urho_a (as := [x1.toInt, x2.toInt]) (j := 0) (show (0 : Nat) < 2 from by decide))
      have a2_2 : ρ2 2 = x2.toInt := (u2 2 (by decide)).trans (urho_a (as := [x1.toInt, x2.toInt]) (j := 1) (show (1 : Nat) < 2 from by decide))
      have m2_4_352 : N1 4 352 = ρ2 3 := by
        have h := q2 (4, 352, [(1, 3)]) (List.mem_of_getElem? (i := 1) rfl)
        have h : N1 4 352 = 1 * uRho [x1.toInt, x2.toInt] N1 (cM kc_r593) 3 + 0 := h
        rw [u2 3 (by decide)]
        omega
      have m2_4_353 : N1 4 353 = ρ2 4 := by
        have h := q2 (4, 353, [(1, 4)]) (List.mem_of_getElem? (i := 2) rfl)
        have h : N1 4 353 = 1 * uRho [x1.toInt, x2.toInt] N1 (cM kc_r593) 4 + 0 := h
        rw [u2 4 (by decide)]
        omega
      have m2_4_354 : N1 4 354 = ρ2 5 := by
        have h := q2 (4, 354, [(1, 5)]) (List.mem_of_getElem? (i := 3) rfl)
        have h : N1 4 354 = 1 * uRho [x1.toInt, x2.toInt] N1 (cM kc_r593) 5 + 0 := h
        rw [u2 5 (by decide)]
        omega
      have m2_93_0 : N1 93 0 = ρ2 6 := by
        have h := q2 (93, 0, [(1, 6)]) (List.mem_of_getElem? (i := 4) rfl)
        have h : N1 93 0 = 1 * uRho [x1.toInt, x2.toInt] N1 (cM kc_r593) 6 + 0 := h
        rw [u2 6 (by decide)]
        omega
      have m2_93_1 : N1 93 1 = ρ2 7 := by
        have h := q2 (93, 1, [(1, 7)]) (List.mem_of_getElem? (i := 5) rfl)
        have h : N1 93 1 = 1 * uRho [x1.toInt, x2.toInt] N1 (cM kc_r593) 7 + 0 := h
        rw [u2 7 (by decide)]
        omega
      have m2_93_2 : N1 93 2 = ρ2 8 := by
        have h := q2 (93, 2, [(1, 8)]) (List.mem_of_getElem? (i := 6) rfl)
        have h : N1 93 2 = 1 * uRho [x1.toInt, x2.toInt] N1 (cM kc_r593) 8 + 0 := h
        rw [u2 8 (by decide)]
        omega
      obtain ⟨t2_0, t2_1⟩ := t2
      rw [o2] at z2
      have s2 : uSt 2 N2 := ⟨i2, ukeepX_ok (ks := uKq 2 ++ [(4, 350, 5)]) (c := kc_r593) (by decide +kernel) (fun q hq => by rcases List.mem_append.mp hq with hq | hq; exact k1 q hq; rw [List.mem_singleton] at hq; rw [hq]; exact v1) p2⟩
      have b2_0_1 : N2 0 1 = N1 0 1 := y2 0 1 (by decide +kernel)
      have b2_0_2 : N2 0 2 = N1 0 2 := y2 0 2 (by decide +kernel)
      have b2_0_3 : N2 0 3 = N1 0 3 := y2 0 3 (by decide +kernel)
      have b2_2_8 : N2 2 8 = N1 2 8 := y2 2 8 (by decide +kernel)
      have b2_2_9 : N2 2 9 = N1 2 9 := y2 2 9 (by decide +kernel)
      have b2_2_10 : N2 2 10 = N1 2 10 := y2 2 10 (by decide +kernel)
      have b2_4_261 : N2 4 261 = N1 4 261 := y2 4 261 (by decide +kernel)
      have b2_77_6 : N2 77 6 = N1 77 6 := y2 77 6 (by decide +kernel)
      have b2_91_2 : N2 91 2 = N1 91 2 := y2 91 2 (by decide +kernel)
      have b2_91_33 : N2 91 33 = N1 91 33 := y2 91 33 (by decide +kernel)
      have b2_91_34 : N2 91 34 = N1 91 34 := y2 91 34 (by decide +kernel)
      have b2_91_61 : N2 91 61 = N1 91 61 := y2 91 61 (by decide +kernel)
      have b2_93_0 : N2 93 0 = N1 93 0 := y2 93 0 (by decide +kernel)
      have b2_93_1 : N2 93 1 = N1 93 1 := y2 93 1 (by decide +kernel)
      have b2_93_2 : N2 93 2 = N1 93 2 := y2 93 2 (by decide +kernel)
      have hv : ρ2 9 = ρ1 9 := by omega
      clear z1 z2
      rw [w1] at e1
      rw [w2, hv] at e2
      simp only [List.map_cons, List.map_nil, i32_of] at e1 e2
      exact ⟨Int32.ofInt (ρ1 9), N1, N2, e1, e2, 2, Or.inl rfl, s2, (fun q hq => by
        have hq : q ∈ ([(0, 1, 91, 2), (4, 261, 0, 1), (0, 2, 91, 33), (0, 3, 91, 34), (2, 8, 93, 0), (2, 9, 93, 1), (2, 10, 93, 2), (77, 6, 91, 61)] : List (Nat × Nat × Nat × Nat)) := hq
        simp only [List.mem_cons, List.not_mem_nil, or_false] at hq
        rcases hq with rfl | rfl | rfl | rfl | rfl | rfl | rfl | rfl
        · exact (show N2 0 1 = N2 91 2 by omega)
        · exact (show N2 4 261 = N2 0 1 by omega)
        · exact (show N2 0 2 = N2 91 33 by omega)
        · exact (show N2 0 3 = N2 91 34 by omega)
        · exact (show N2 2 8 = N2 93 0 by omega)
        · exact (show N2 2 9 = N2 93 1 by omega)
        · exact (show N2 2 10 = N2 93 2 by omega)
        · exact (show N2 77 6 = N2 91 61 by omega))⟩
    · have v1 : N1 4 350 = 5 := by omega
      obtain ⟨rv2, N2, e2, p2, q2⟩ := u_runX ko_r593 (ks := uKq 2 ++ [(4, 350, 5)]) (ex := [[(-1, 1), (1, 3)], [(1, 1), (-1, 3)], [(-1, 2), (1, 4)], [(1, 2), (-1, 4)], [(1, 1)], [(2, 0), (-1, 1)]]) (o := 91) (bs := [false, false]) (by decide +kernel) i1 (fun q hq => by rcases List.mem_append.mp hq with hq | hq; exact k1 q hq; rw [List.mem_singleton] at hq; rw [hq]; exact v1) (as := [x1.toInt, x2.toInt]) ⟨⟨uarg_i _, fun h => nomatch h⟩, ⟨⟨uarg_i _, fun h => nomatch h⟩, trivial⟩⟩ (fun hm f hf => by
          obtain ⟨ρ, hρ⟩ : ∃ ρ, ρ = uRho [x1.toInt, x2.toInt] N1 (cM kc_r593) := ⟨_, rfl⟩
          have o1 : ρ 0 = 1 := by rw [hρ]; rfl
          have a1 : ρ 1 = x1.toInt := by rw [hρ]; exact urho_a (as := [x1.toInt, x2.toInt]) (j := 0) (show (0 : Nat) < 2 from by decide)
          have a2 : ρ 2 = x2.toInt := by rw [hρ]; exact urho_a (as := [x1.toInt, x2.toInt]) (j := 1) (show (1 : Nat) < 2 from by decide)
          rw [← hρ] at hm ⊢
          have m1 : N1 4 352 = 1 * ρ 3 + 0 := hm (4, 352, [(1, 3)]) (List.mem_of_getElem? (i := 1) rfl)
          have m2 : N1 4 353 = 1 * ρ 4 + 0 := hm (4, 353, [(1, 4)]) (List.mem_of_getElem? (i := 2) rfl)
          have hf : f ∈ ([[(-1, 1), (1, 3)], [(1, 1), (-1, 3)], [(-1, 2), (1, 4)], [(1, 2), (-1, 4)], [(1, 1)], [(2, 0), (-1, 1)]] : List qF) := hf
          simp only [List.mem_cons, List.not_mem_nil, or_false] at hf
          rcases hf with rfl | rfl | rfl | rfl | rfl | rfl
          · show 0 ≤ -1 * ρ 1 + (1 * ρ 3 + 0)
            omega
          · show 0 ≤ 1 * ρ 1 + (-1 * ρ 3 + 0)
            omega
          · show 0 ≤ -1 * ρ 2 + (1 * ρ 4 + 0)
            omega
          · show 0 ≤ 1 * ρ 2 + (-1 * ρ 4 + 0)
            omega
          · show 0 ≤ 1 * ρ 1 + 0
            omega
          · show 0 ≤ 2 * ρ 0 + (-1 * ρ 1 + 0)
            omega) J (N := 300) (by decide)
      obtain ⟨ρ2, u2, w2, t2, z2, i2, y2⟩ := up_r593 p2
      have o2 : ρ2 0 = 1 := u2 0 (by decide)
      have a2_1 : ρ2 1 = x1.toInt := (u2 1 (by decide)).trans (urho_a (as := [x1.toInt, x2.toInt]) (j := 0) (show (0 : Nat) < 2 from by decide))
      have a2_2 : ρ2 2 = x2.toInt := (u2 2 (by decide)).trans (urho_a (as := [x1.toInt, x2.toInt]) (j := 1) (show (1 : Nat) < 2 from by decide))
      have m2_4_352 : N1 4 352 = ρ2 3 := by
        have h := q2 (4, 352, [(1, 3)]) (List.mem_of_getElem? (i := 1) rfl)
        have h : N1 4 352 = 1 * uRho [x1.toInt, x2.toInt] N1 (cM kc_r593) 3 + 0 := h
        rw [u2 3 (by decide)]
        omega
      have m2_4_353 : N1 4 353 = ρ2 4 := by
        have h := q2 (4, 353, [(1, 4)]) (List.mem_of_getElem? (i := 2) rfl)
        have h : N1 4 353 = 1 * uRho [x1.toInt, x2.toInt] N1 (cM kc_r593) 4 + 0 := h
        rw [u2 4 (by decide)]
        omega
      have m2_4_354 : N1 4 354 = ρ2 5 := by
        have h := q2 (4, 354, [(1, 5)]) (List.mem_of_getElem? (i := 3) rfl)
        have h : N1 4 354 = 1 * uRho [x1.toInt, x2.toInt] N1 (cM kc_r593) 5 + 0 := h
        rw [u2 5 (by decide)]
        omega
      have m2_93_0 : N1 93 0 = ρ2 6 := by
        have h := q2 (93, 0, [(1, 6)]) (List.mem_of_getElem? (i := 4) rfl)
        have h : N1 93 0 = 1 * uRho [x1.toInt, x2.toInt] N1 (cM kc_r593) 6 + 0 := h
        rw [u2 6 (by decide)]
        omega
      have m2_93_1 : N1 93 1 = ρ2 7 := by
        have h := q2 (93, 1, [(1, 7)]) (List.mem_of_getElem? (i := 5) rfl)
        have h : N1 93 1 = 1 * uRho [x1.toInt, x2.toInt] N1 (cM kc_r593) 7 + 0 := h
        rw [u2 7 (by decide)]
        omega
      have m2_93_2 : N1 93 2 = ρ2 8 := by
        have h := q2 (93, 2, [(1, 8)]) (List.mem_of_getElem? (i := 6) rfl)
        have h : N1 93 2 = 1 * uRho [x1.toInt, x2.toInt] N1 (cM kc_r593) 8 + 0 := h
        rw [u2 8 (by decide)]
        omega
      obtain ⟨t2_0, t2_1⟩ := t2
      rw [o2] at z2
      have s2 : uSt 2 N2 := ⟨i2, ukeepX_ok (ks := uKq 2 ++ [(4, 350, 5)]) (c := kc_r593) (by decide +kernel) (fun q hq => by rcases List.mem_append.mp hq with hq | hq; exact k1 q hq; rw [List.mem_singleton] at hq; rw [hq]; exact v1) p2⟩
      have b2_0_1 : N2 0 1 = N1 0 1 := y2 0 1 (by decide +kernel)
      have b2_0_2 : N2 0 2 = N1 0 2 := y2 0 2 (by decide +kernel)
      have b2_0_3 : N2 0 3 = N1 0 3 := y2 0 3 (by decide +kernel)
      have b2_2_8 : N2 2 8 = N1 2 8 := y2 2 8 (by decide +kernel)
      have b2_2_9 : N2 2 9 = N1 2 9 := y2 2 9 (by decide +kernel)
      have b2_2_10 : N2 2 10 = N1 2 10 := y2 2 10 (by decide +kernel)
      have b2_4_261 : N2 4 261 = N1 4 261 := y2 4 261 (by decide +kernel)
      have b2_77_6 : N2 77 6 = N1 77 6 := y2 77 6 (by decide +kernel)
      have b2_91_2 : N2 91 2 = N1 91 2 := y2 91 2 (by decide +kernel)
      have b2_91_33 : N2 91 33 = N1 91 33 := y2 91 33 (by decide +kernel)
      have b2_91_34 : N2 91 34 = N1 91 34 := y2 91 34 (by decide +kernel)
      have b2_91_61 : N2 91 61 = N1 91 61 := y2 91 61 (by decide +kernel)
      have b2_93_0 : N2 93 0 = N1 93 0 := y2 93 0 (by decide +kernel)
      have b2_93_1 : N2 93 1 = N1 93 1 := y2 93 1 (by decide +kernel)
      have b2_93_2 : N2 93 2 = N1 93 2 := y2 93 2 (by decide +kernel)
      have hv : ρ2 9 = ρ1 9 := by omega
      clear z1 z2
      rw [w1] at e1
      rw [w2, hv] at e2
      simp only [List.map_cons, List.map_nil, i32_of] at e1 e2
      exact ⟨Int32.ofInt (ρ1 9), N1, N2, e1, e2, 2, Or.inl rfl, s2, (fun q hq => by
        have hq : q ∈ ([(0, 1, 91, 2), (4, 261, 0, 1), (0, 2, 91, 33), (0, 3, 91, 34), (2, 8, 93, 0), (2, 9, 93, 1), (2, 10, 93, 2), (77, 6, 91, 61)] : List (Nat × Nat × Nat × Nat)) := hq
        simp only [List.mem_cons, List.not_mem_nil, or_false] at hq
        rcases hq with rfl | rfl | rfl | rfl | rfl | rfl | rfl | rfl
        · exact (show N2 0 1 = N2 91 2 by omega)
        · exact (show N2 4 261 = N2 0 1 by omega)
        · exact (show N2 0 2 = N2 91 33 by omega)
        · exact (show N2 0 3 = N2 91 34 by omega)
        · exact (show N2 2 8 = N2 93 0 by omega)
        · exact (show N2 2 9 = N2 93 1 by omega)
        · exact (show N2 2 10 = N2 93 2 by omega)
        · exact (show N2 77 6 = N2 91 61 by omega))⟩
    · have v1 : N1 4 350 = 5 := by omega
      obtain ⟨rv2, N2, e2, p2, q2⟩ := u_runX ko_r593 (ks := uKq 2 ++ [(4, 350, 5)]) (ex := [[(-1, 1), (1, 3)], [(1, 1), (-1, 3)], [(-1, 2), (1, 4)], [(1, 2), (-1, 4)], [(1, 1)], [(2, 0), (-1, 1)]]) (o := 91) (bs := [false, false]) (by decide +kernel) i1 (fun q hq => by rcases List.mem_append.mp hq with hq | hq; exact k1 q hq; rw [List.mem_singleton] at hq; rw [hq]; exact v1) (as := [x1.toInt, x2.toInt]) ⟨⟨uarg_i _, fun h => nomatch h⟩, ⟨⟨uarg_i _, fun h => nomatch h⟩, trivial⟩⟩ (fun hm f hf => by
          obtain ⟨ρ, hρ⟩ : ∃ ρ, ρ = uRho [x1.toInt, x2.toInt] N1 (cM kc_r593) := ⟨_, rfl⟩
          have o1 : ρ 0 = 1 := by rw [hρ]; rfl
          have a1 : ρ 1 = x1.toInt := by rw [hρ]; exact urho_a (as := [x1.toInt, x2.toInt]) (j := 0) (show (0 : Nat) < 2 from by decide)
          have a2 : ρ 2 = x2.toInt := by rw [hρ]; exact urho_a (as := [x1.toInt, x2.toInt]) (j := 1) (show (1 : Nat) < 2 from by decide)
          rw [← hρ] at hm ⊢
          have m1 : N1 4 352 = 1 * ρ 3 + 0 := hm (4, 352, [(1, 3)]) (List.mem_of_getElem? (i := 1) rfl)
          have m2 : N1 4 353 = 1 * ρ 4 + 0 := hm (4, 353, [(1, 4)]) (List.mem_of_getElem? (i := 2) rfl)
          have hf : f ∈ ([[(-1, 1), (1, 3)], [(1, 1), (-1, 3)], [(-1, 2), (1, 4)], [(1, 2), (-1, 4)], [(1, 1)], [(2, 0), (-1, 1)]] : List qF) := hf
          simp only [List.mem_cons, List.not_mem_nil, or_false] at hf
          rcases hf with rfl | rfl | rfl | rfl | rfl | rfl
          · show 0 ≤ -1 * ρ 1 + (1 * ρ 3 + 0)
            omega
          · show 0 ≤ 1 * ρ 1 + (-1 * ρ 3 + 0)
            omega
          · show 0 ≤ -1 * ρ 2 + (1 * ρ 4 + 0)
            omega
          · show 0 ≤ 1 * ρ 2 + (-1 * ρ 4 + 0)
            omega
          · show 0 ≤ 1 * ρ 1 + 0
            omega
          · show 0 ≤ 2 * ρ 0 + (-1 * ρ 1 + 0)
            omega) J (N := 300) (by decide)
      obtain ⟨ρ2, u2, w2, t2, z2, i2, y2⟩ := up_r593 p2
      have o2 : ρ2 0 = 1 := u2 0 (by decide)
      have a2_1 : ρ2 1 = x1.toInt := (u2 1 (by decide)).trans (urho_a (as := [x1.toInt, x2.toInt]) (j := 0) (show (0 : Nat) < 2 from by decide))
      have a2_2 : ρ2 2 = x2.toInt := (u2 2 (by decide)).trans (urho_a (as := [x1.toInt, x2.toInt]) (j := 1) (show (1 : Nat) < 2 from by decide))
      have m2_4_352 : N1 4 352 = ρ2 3 := by
        have h := q2 (4, 352, [(1, 3)]) (List.mem_of_getElem? (i := 1) rfl)
        have h : N1 4 352 = 1 * uRho [x1.toInt, x2.toInt] N1 (cM kc_r593) 3 + 0 := h
        rw [u2 3 (by decide)]
        omega
      have m2_4_353 : N1 4 353 = ρ2 4 := by
        have h := q2 (4, 353, [(1, 4)]) (List.mem_of_getElem? (i := 2) rfl)
        have h : N1 4 353 = 1 * uRho [x1.toInt, x2.toInt] N1 (cM kc_r593) 4 + 0 := h
        rw [u2 4 (by decide)]
        omega
      have m2_4_354 : N1 4 354 = ρ2 5 := by
        have h := q2 (4, 354, [(1, 5)]) (List.mem_of_getElem? (i := 3) rfl)
        have h : N1 4 354 = 1 * uRho [x1.toInt, x2.toInt] N1 (cM kc_r593) 5 + 0 := h
        rw [u2 5 (by decide)]
        omega
      have m2_93_0 : N1 93 0 = ρ2 6 := by
        have h := q2 (93, 0, [(1, 6)]) (List.mem_of_getElem? (i := 4) rfl)
        have h : N1 93 0 = 1 * uRho [x1.toInt, x2.toInt] N1 (cM kc_r593) 6 + 0 := h
        rw [u2 6 (by decide)]
        omega
      have m2_93_1 : N1 93 1 = ρ2 7 := by
        have h := q2 (93, 1, [(1, 7)]) (List.mem_of_getElem? (i := 5) rfl)
        have h : N1 93 1 = 1 * uRho [x1.toInt, x2.toInt] N1 (cM kc_r593) 7 + 0 := h
        rw [u2 7 (by decide)]
        omega
      have m2_93_2 : N1 93 2 = ρ2 8 := by
        have h := q2 (93, 2, [(1, 8)]) (List.mem_of_getElem? (i := 6) rfl)
        have h : N1 93 2 = 1 * uRho [x1.toInt, x2.toInt] N1 (cM kc_r593) 8 + 0 := h
        rw [u2 8 (by decide)]
        omega
      obtain ⟨t2_0, t2_1⟩ := t2
      rw [o2] at z2
      have s2 : uSt 2 N2 := ⟨i2, ukeepX_ok (ks := uKq 2 ++ [(4, 350, 5)]) (c := kc_r593) (by decide +kernel) (fun q hq => by rcases List.mem_append.mp hq with hq | hq; exact k1 q hq; rw [List.mem_singleton] at hq; rw [hq]; exact v1) p2⟩
      have b2_0_1 : N2 0 1 = N1 0 1 := y2 0 1 (by decide +kernel)
      have b2_0_2 : N2 0 2 = N1 0 2 := y2 0 2 (by decide +kernel)
      have b2_0_3 : N2 0 3 = N1 0 3 := y2 0 3 (by decide +kernel)
      have b2_2_8 : N2 2 8 = N1 2 8 := y2 2 8 (by decide +kernel)
      have b2_2_9 : N2 2 9 = N1 2 9 := y2 2 9 (by decide +kernel)
      have b2_2_10 : N2 2 10 = N1 2 10 := y2 2 10 (by decide +kernel)
      have b2_4_261 : N2 4 261 = N1 4 261 := y2 4 261 (by decide +kernel)
      have b2_77_6 : N2 77 6 = N1 77 6 := y2 77 6 (by decide +kernel)
      have b2_91_2 : N2 91 2 = N1 91 2 := y2 91 2 (by decide +kernel)
      have b2_91_33 : N2 91 33 = N1 91 33 := y2 91 33 (by decide +kernel)
      have b2_91_34 : N2 91 34 = N1 91 34 := y2 91 34 (by decide +kernel)
      have b2_91_61 : N2 91 61 = N1 91 61 := y2 91 61 (by decide +kernel)
      have b2_93_0 : N2 93 0 = N1 93 0 := y2 93 0 (by decide +kernel)
      have b2_93_1 : N2 93 1 = N1 93 1 := y2 93 1 (by decide +kernel)
      have b2_93_2 : N2 93 2 = N1 93 2 := y2 93 2 (by decide +kernel)
      have hv : ρ2 9 = ρ1 9 := by omega
      clear z1 z2
      rw [w1] at e1
      rw [w2, hv] at e2
      simp only [List.map_cons, List.map_nil, i32_of] at e1 e2
      exact ⟨Int32.ofInt (ρ1 9), N1, N2, e1, e2, 2, Or.inl rfl, s2, (fun q hq => by
        have hq : q ∈ ([(0, 1, 91, 2), (4, 261, 0, 1), (0, 2, 91, 33), (0, 3, 91, 34), (2, 8, 93, 0), (2, 9, 93, 1), (2, 10, 93, 2), (77, 6, 91, 61)] : List (Nat × Nat × Nat × Nat)) := hq
        simp only [List.mem_cons, List.not_mem_nil, or_false] at hq
        rcases hq with rfl | rfl | rfl | rfl | rfl | rfl | rfl | rfl
        · exact (show N2 0 1 = N2 91 2 by omega)
        · exact (show N2 4 261 = N2 0 1 by omega)
        · exact (show N2 0 2 = N2 91 33 by omega)
        · exact (show N2 0 3 = N2 91 34 by omega)
        · exact (show N2 2 8 = N2 93 0 by omega)
        · exact (show N2 2 9 = N2 93 1 by omega)
        · exact (show N2 2 10 = N2 93 2 by omega)
        · exact (show N2 77 6 = N2 91 61 by omega))⟩
  · have kM_0 : M 0 1 = M 91 2 := hT (0, 1, 91, 2) (List.mem_of_getElem? (i := 0) rfl)
    have kM_1 : M 4 261 = M 0 1 := hT (4, 261, 0, 1) (List.mem_of_getElem? (i := 1) rfl)
    have kM_2 : M 0 2 = M 91 33 := hT (0, 2, 91, 33) (List.mem_of_getElem? (i := 2) rfl)
    have kM_3 : M 0 3 = M 91 34 := hT (0, 3, 91, 34) (List.mem_of_getElem? (i := 3) rfl)
    have kM_4 : M 28 8 = M 93 0 := hT ((28 : Int).toNat, 8, 93, 0) (List.mem_of_getElem? (i := 4) rfl)
    have kM_5 : M 28 9 = M 93 1 := hT ((28 : Int).toNat, 9, 93, 1) (List.mem_of_getElem? (i := 5) rfl)
    have kM_6 : M 28 10 = M 93 2 := hT ((28 : Int).toNat, 10, 93, 2) (List.mem_of_getElem? (i := 6) rfl)
    have kM_7 : M 77 6 = M 91 61 := hT (77, 6, 91, 61) (List.mem_of_getElem? (i := 7) rfl)
    obtain ⟨rv1, N1, e1, p1, q1⟩ := u_runX ko_210 (ks := uKs 28) (ex := [[(1, 3), (-1, 6)], [(-1, 3), (1, 6)], [(1, 4), (-1, 7)], [(-1, 4), (1, 7)], [(1, 5), (-1, 8)], [(-1, 5), (1, 8)]]) (o := 0) (bs := [false, false]) (by decide +kernel) hs.1 hs.2 (as := [x1.toInt, x2.toInt]) ⟨⟨uarg_i _, fun h => nomatch h⟩, ⟨⟨uarg_i _, fun h => nomatch h⟩, trivial⟩⟩ (fun hm f hf => by
        obtain ⟨ρ, hρ⟩ : ∃ ρ, ρ = uRho [x1.toInt, x2.toInt] M (cM kc_210) := ⟨_, rfl⟩
        have o1 : ρ 0 = 1 := by rw [hρ]; rfl
        rw [← hρ] at hm ⊢
        have m3 : M 93 0 = 1 * ρ 3 + 0 := hm (93, 0, [(1, 3)]) (List.mem_of_getElem? (i := 3) rfl)
        have m4 : M 93 1 = 1 * ρ 4 + 0 := hm (93, 1, [(1, 4)]) (List.mem_of_getElem? (i := 4) rfl)
        have m5 : M 93 2 = 1 * ρ 5 + 0 := hm (93, 2, [(1, 5)]) (List.mem_of_getElem? (i := 5) rfl)
        have m6 : M 28 8 = 1 * ρ 6 + 0 := hm (28, 8, [(1, 6)]) (List.mem_of_getElem? (i := 6) rfl)
        have m7 : M 28 9 = 1 * ρ 7 + 0 := hm (28, 9, [(1, 7)]) (List.mem_of_getElem? (i := 7) rfl)
        have m8 : M 28 10 = 1 * ρ 8 + 0 := hm (28, 10, [(1, 8)]) (List.mem_of_getElem? (i := 8) rfl)
        have hf : f ∈ ([[(1, 3), (-1, 6)], [(-1, 3), (1, 6)], [(1, 4), (-1, 7)], [(-1, 4), (1, 7)], [(1, 5), (-1, 8)], [(-1, 5), (1, 8)]] : List qF) := hf
        simp only [List.mem_cons, List.not_mem_nil, or_false] at hf
        rcases hf with rfl | rfl | rfl | rfl | rfl | rfl
        · show 0 ≤ 1 * ρ 3 + (-1 * ρ 6 + 0)
          omega
        · show 0 ≤ -1 * ρ 3 + (1 * ρ 6 + 0)
          omega
        · show 0 ≤ 1 * ρ 4 + (-1 * ρ 7 + 0)
          omega
        · show 0 ≤ -1 * ρ 4 + (1 * ρ 7 + 0)
          omega
        · show 0 ≤ 1 * ρ 5 + (-1 * ρ 8 + 0)
          omega
        · show 0 ≤ -1 * ρ 5 + (1 * ρ 8 + 0)
          omega) J (N := 300) (by decide)
    obtain ⟨ρ1, u1, w1, t1, z1, i1, y1⟩ := up_210 p1
    have o1 : ρ1 0 = 1 := u1 0 (by decide)
    have a1_1 : ρ1 1 = x1.toInt := (u1 1 (by decide)).trans (urho_a (as := [x1.toInt, x2.toInt]) (j := 0) (show (0 : Nat) < 2 from by decide))
    have a1_2 : ρ1 2 = x2.toInt := (u1 2 (by decide)).trans (urho_a (as := [x1.toInt, x2.toInt]) (j := 1) (show (1 : Nat) < 2 from by decide))
    have m1_93_0 : M 93 0 = ρ1 3 := by
      have h := q1 (93, 0, [(1, 3)]) (List.mem_of_getElem? (i := 3) rfl)
      have h : M 93 0 = 1 * uRho [x1.toInt, x2.toInt] M (cM kc_210) 3 + 0 := h
      rw [u1 3 (by decide)]
      omega
    have m1_93_1 : M 93 1 = ρ1 4 := by
      have h := q1 (93, 1, [(1, 4)]) (List.mem_of_getElem? (i := 4) rfl)
      have h : M 93 1 = 1 * uRho [x1.toInt, x2.toInt] M (cM kc_210) 4 + 0 := h
      rw [u1 4 (by decide)]
      omega
    have m1_93_2 : M 93 2 = ρ1 5 := by
      have h := q1 (93, 2, [(1, 5)]) (List.mem_of_getElem? (i := 5) rfl)
      have h : M 93 2 = 1 * uRho [x1.toInt, x2.toInt] M (cM kc_210) 5 + 0 := h
      rw [u1 5 (by decide)]
      omega
    have m1_28_8 : M 28 8 = ρ1 6 := by
      have h := q1 (28, 8, [(1, 6)]) (List.mem_of_getElem? (i := 6) rfl)
      have h : M 28 8 = 1 * uRho [x1.toInt, x2.toInt] M (cM kc_210) 6 + 0 := h
      rw [u1 6 (by decide)]
      omega
    have m1_28_9 : M 28 9 = ρ1 7 := by
      have h := q1 (28, 9, [(1, 7)]) (List.mem_of_getElem? (i := 7) rfl)
      have h : M 28 9 = 1 * uRho [x1.toInt, x2.toInt] M (cM kc_210) 7 + 0 := h
      rw [u1 7 (by decide)]
      omega
    have m1_28_10 : M 28 10 = ρ1 8 := by
      have h := q1 (28, 10, [(1, 8)]) (List.mem_of_getElem? (i := 8) rfl)
      have h : M 28 10 = 1 * uRho [x1.toInt, x2.toInt] M (cM kc_210) 8 + 0 := h
      rw [u1 8 (by decide)]
      omega
    obtain ⟨t1_0, t1_1, t1_2, t1_3, t1_4⟩ := t1
    rw [o1] at z1
    have k1 : ∀ q ∈ uKq 28, N1 q.1 q.2.1 = q.2.2 := ukeepX_ok (ks := uKs 28) (c := kc_210) (by decide +kernel) hs.2 p1
    have b1_0_1 : N1 0 1 = M 0 1 := y1 0 1 (by decide +kernel)
    have b1_0_2 : N1 0 2 = M 0 2 := y1 0 2 (by decide +kernel)
    have b1_0_3 : N1 0 3 = M 0 3 := y1 0 3 (by decide +kernel)
    have b1_4_261 : N1 4 261 = M 4 261 := y1 4 261 (by decide +kernel)
    have b1_4_350 : N1 4 350 = ρ1 10 := t1_0
    have b1_4_352 : N1 4 352 = ρ1 11 := t1_1
    have b1_4_353 : N1 4 353 = ρ1 12 := t1_2
    have b1_4_354 : N1 4 354 = ρ1 13 := t1_3
    have b1_28_8 : N1 28 8 = M 28 8 := y1 28 8 (by decide +kernel)
    have b1_28_9 : N1 28 9 = M 28 9 := y1 28 9 (by decide +kernel)
    have b1_28_10 : N1 28 10 = M 28 10 := y1 28 10 (by decide +kernel)
    have b1_77_6 : N1 77 6 = M 77 6 := y1 77 6 (by decide +kernel)
    have b1_91_2 : N1 91 2 = M 91 2 := y1 91 2 (by decide +kernel)
    have b1_91_33 : N1 91 33 = M 91 33 := y1 91 33 (by decide +kernel)
    have b1_91_34 : N1 91 34 = M 91 34 := y1 91 34 (by decide +kernel)
    have b1_91_61 : N1 91 61 = M 91 61 := y1 91 61 (by decide +kernel)
    have b1_93_0 : N1 93 0 = M 93 0 := y1 93 0 (by decide +kernel)
    have b1_93_1 : N1 93 1 = M 93 1 := y1 93 1 (by decide +kernel)
    have b1_93_2 : N1 93 2 = M 93 2 := y1 93 2 (by decide +kernel)
    rcases z1 with z1 | z1 | z1 | z1 | z1
    · have v1 : N1 4 350 = 0 := by omega
      obtain ⟨rv2, N2, e2, p2, q2⟩ := u_runX ko_r594 (ks := uKq 28 ++ [(4, 350, 0)]) (ex := [[(-1, 0), (-1, 1)]]) (o := 91) (bs := [false, false]) (by decide +kernel) i1 (fun q hq => by rcases List.mem_append.mp hq with hq | hq; exact k1 q hq; rw [List.mem_singleton] at hq; rw [hq]; exact v1) (as := [x1.toInt, x2.toInt]) ⟨⟨uarg_i _, fun h => nomatch h⟩, ⟨⟨uarg_i _, fun h => nomatch h⟩, trivial⟩⟩ (fun hm f hf => by
          obtain ⟨ρ, hρ⟩ : ∃ ρ, ρ = uRho [x1.toInt, x2.toInt] N1 (cM kc_r594) := ⟨_, rfl⟩
          have o1 : ρ 0 = 1 := by rw [hρ]; rfl
          have a1 : ρ 1 = x1.toInt := by rw [hρ]; exact urho_a (as := [x1.toInt, x2.toInt]) (j := 0) (show (0 : Nat) < 2 from by decide)
          rw [← hρ] at hm ⊢
          have hf : f ∈ ([[(-1, 0), (-1, 1)]] : List qF) := hf
          simp only [List.mem_cons, List.not_mem_nil, or_false] at hf
          rcases hf with rfl
          · show 0 ≤ -1 * ρ 0 + (-1 * ρ 1 + 0)
            omega) J (N := 300) (by decide)
      obtain ⟨ρ2, u2, w2, t2, z2, i2, y2⟩ := up_r594 p2
      have o2 : ρ2 0 = 1 := u2 0 (by decide)
      have a2_1 : ρ2 1 = x1.toInt := (u2 1 (by decide)).trans (urho_a (as := [x1.toInt, x2.toInt]) (j := 0) (show (0 : Nat) < 2 from by decide))
      have a2_2 : ρ2 2 = x2.toInt := (u2 2 (by decide)).trans (urho_a (as := [x1.toInt, x2.toInt]) (j := 1) (show (1 : Nat) < 2 from by decide))
      rw [o2] at z2
      have s2 : uSt 28 N2 := ⟨i2, ukeepX_ok (ks := uKq 28 ++ [(4, 350, 0)]) (c := kc_r594) (by decide +kernel) (fun q hq => by rcases List.mem_append.mp hq with hq | hq; exact k1 q hq; rw [List.mem_singleton] at hq; rw [hq]; exact v1) p2⟩
      have b2_0_1 : N2 0 1 = N1 0 1 := y2 0 1 (by decide +kernel)
      have b2_0_2 : N2 0 2 = N1 0 2 := y2 0 2 (by decide +kernel)
      have b2_0_3 : N2 0 3 = N1 0 3 := y2 0 3 (by decide +kernel)
      have b2_4_261 : N2 4 261 = N1 4 261 := y2 4 261 (by decide +kernel)
      have b2_28_8 : N2 28 8 = N1 28 8 := y2 28 8 (by decide +kernel)
      have b2_28_9 : N2 28 9 = N1 28 9 := y2 28 9 (by decide +kernel)
      have b2_28_10 : N2 28 10 = N1 28 10 := y2 28 10 (by decide +kernel)
      have b2_77_6 : N2 77 6 = N1 77 6 := y2 77 6 (by decide +kernel)
      have b2_91_2 : N2 91 2 = N1 91 2 := y2 91 2 (by decide +kernel)
      have b2_91_33 : N2 91 33 = N1 91 33 := y2 91 33 (by decide +kernel)
      have b2_91_34 : N2 91 34 = N1 91 34 := y2 91 34 (by decide +kernel)
      have b2_91_61 : N2 91 61 = N1 91 61 := y2 91 61 (by decide +kernel)
      have b2_93_0 : N2 93 0 = N1 93 0 := y2 93 0 (by decide +kernel)
      have b2_93_1 : N2 93 1 = N1 93 1 := y2 93 1 (by decide +kernel)
      have b2_93_2 : N2 93 2 = N1 93 2 := y2 93 2 (by decide +kernel)
      have hv : ρ2 3 = ρ1 9 := by omega
      clear z1 z2
      rw [w1] at e1
      rw [w2, hv] at e2
      simp only [List.map_cons, List.map_nil, i32_of] at e1 e2
      exact ⟨Int32.ofInt (ρ1 9), N1, N2, e1, e2, 28, Or.inr rfl, s2, (fun q hq => by
        have hq : q ∈ ([(0, 1, 91, 2), (4, 261, 0, 1), (0, 2, 91, 33), (0, 3, 91, 34), (28, 8, 93, 0), (28, 9, 93, 1), (28, 10, 93, 2), (77, 6, 91, 61)] : List (Nat × Nat × Nat × Nat)) := hq
        simp only [List.mem_cons, List.not_mem_nil, or_false] at hq
        rcases hq with rfl | rfl | rfl | rfl | rfl | rfl | rfl | rfl
        · exact (show N2 0 1 = N2 91 2 by omega)
        · exact (show N2 4 261 = N2 0 1 by omega)
        · exact (show N2 0 2 = N2 91 33 by omega)
        · exact (show N2 0 3 = N2 91 34 by omega)
        · exact (show N2 28 8 = N2 93 0 by omega)
        · exact (show N2 28 9 = N2 93 1 by omega)
        · exact (show N2 28 10 = N2 93 2 by omega)
        · exact (show N2 77 6 = N2 91 61 by omega))⟩
    · have v1 : N1 4 350 = 0 := by omega
      obtain ⟨rv2, N2, e2, p2, q2⟩ := u_runX ko_r595 (ks := uKq 28 ++ [(4, 350, 0)]) (ex := [[(-3, 0), (1, 1)]]) (o := 91) (bs := [false, false]) (by decide +kernel) i1 (fun q hq => by rcases List.mem_append.mp hq with hq | hq; exact k1 q hq; rw [List.mem_singleton] at hq; rw [hq]; exact v1) (as := [x1.toInt, x2.toInt]) ⟨⟨uarg_i _, fun h => nomatch h⟩, ⟨⟨uarg_i _, fun h => nomatch h⟩, trivial⟩⟩ (fun hm f hf => by
          obtain ⟨ρ, hρ⟩ : ∃ ρ, ρ = uRho [x1.toInt, x2.toInt] N1 (cM kc_r595) := ⟨_, rfl⟩
          have o1 : ρ 0 = 1 := by rw [hρ]; rfl
          have a1 : ρ 1 = x1.toInt := by rw [hρ]; exact urho_a (as := [x1.toInt, x2.toInt]) (j := 0) (show (0 : Nat) < 2 from by decide)
          rw [← hρ] at hm ⊢
          have hf : f ∈ ([[(-3, 0), (1, 1)]] : List qF) := hf
          simp only [List.mem_cons, List.not_mem_nil, or_false] at hf
          rcases hf with rfl
          · show 0 ≤ -3 * ρ 0 + (1 * ρ 1 + 0)
            omega) J (N := 300) (by decide)
      obtain ⟨ρ2, u2, w2, t2, z2, i2, y2⟩ := up_r595 p2
      have o2 : ρ2 0 = 1 := u2 0 (by decide)
      have a2_1 : ρ2 1 = x1.toInt := (u2 1 (by decide)).trans (urho_a (as := [x1.toInt, x2.toInt]) (j := 0) (show (0 : Nat) < 2 from by decide))
      have a2_2 : ρ2 2 = x2.toInt := (u2 2 (by decide)).trans (urho_a (as := [x1.toInt, x2.toInt]) (j := 1) (show (1 : Nat) < 2 from by decide))
      rw [o2] at z2
      have s2 : uSt 28 N2 := ⟨i2, ukeepX_ok (ks := uKq 28 ++ [(4, 350, 0)]) (c := kc_r595) (by decide +kernel) (fun q hq => by rcases List.mem_append.mp hq with hq | hq; exact k1 q hq; rw [List.mem_singleton] at hq; rw [hq]; exact v1) p2⟩
      have b2_0_1 : N2 0 1 = N1 0 1 := y2 0 1 (by decide +kernel)
      have b2_0_2 : N2 0 2 = N1 0 2 := y2 0 2 (by decide +kernel)
      have b2_0_3 : N2 0 3 = N1 0 3 := y2 0 3 (by decide +kernel)
      have b2_4_261 : N2 4 261 = N1 4 261 := y2 4 261 (by decide +kernel)
      have b2_28_8 : N2 28 8 = N1 28 8 := y2 28 8 (by decide +kernel)
      have b2_28_9 : N2 28 9 = N1 28 9 := y2 28 9 (by decide +kernel)
      have b2_28_10 : N2 28 10 = N1 28 10 := y2 28 10 (by decide +kernel)
      have b2_77_6 : N2 77 6 = N1 77 6 := y2 77 6 (by decide +kernel)
      have b2_91_2 : N2 91 2 = N1 91 2 := y2 91 2 (by decide +kernel)
      have b2_91_33 : N2 91 33 = N1 91 33 := y2 91 33 (by decide +kernel)
      have b2_91_34 : N2 91 34 = N1 91 34 := y2 91 34 (by decide +kernel)
      have b2_91_61 : N2 91 61 = N1 91 61 := y2 91 61 (by decide +kernel)
      have b2_93_0 : N2 93 0 = N1 93 0 := y2 93 0 (by decide +kernel)
      have b2_93_1 : N2 93 1 = N1 93 1 := y2 93 1 (by decide +kernel)
      have b2_93_2 : N2 93 2 = N1 93 2 := y2 93 2 (by decide +kernel)
      have hv : ρ2 3 = ρ1 9 := by omega
      clear z1 z2
      rw [w1] at e1
      rw [w2, hv] at e2
      simp only [List.map_cons, List.map_nil, i32_of] at e1 e2
      exact ⟨Int32.ofInt (ρ1 9), N1, N2, e1, e2, 28, Or.inr rfl, s2, (fun q hq => by
        have hq : q ∈ ([(0, 1, 91, 2), (4, 261, 0, 1), (0, 2, 91, 33), (0, 3, 91, 34), (28, 8, 93, 0), (28, 9, 93, 1), (28, 10, 93, 2), (77, 6, 91, 61)] : List (Nat × Nat × Nat × Nat)) := hq
        simp only [List.mem_cons, List.not_mem_nil, or_false] at hq
        rcases hq with rfl | rfl | rfl | rfl | rfl | rfl | rfl | rfl
        · exact (show N2 0 1 = N2 91 2 by omega)
        · exact (show N2 4 261 = N2 0 1 by omega)
        · exact (show N2 0 2 = N2 91 33 by omega)
        · exact (show N2 0 3 = N2 91 34 by omega)
        · exact (show N2 28 8 = N2 93 0 by omega)
        · exact (show N2 28 9 = N2 93 1 by omega)
        · exact (show N2 28 10 = N2 93 2 by omega)
        · exact (show N2 77 6 = N2 91 61 by omega))⟩
    · have v1 : N1 4 350 = 5 := by omega
      obtain ⟨rv2, N2, e2, p2, q2⟩ := u_runX ko_r593 (ks := uKq 28 ++ [(4, 350, 5)]) (ex := [[(-1, 1), (1, 3)], [(1, 1), (-1, 3)], [(-1, 2), (1, 4)], [(1, 2), (-1, 4)], [(1, 1)], [(2, 0), (-1, 1)]]) (o := 91) (bs := [false, false]) (by decide +kernel) i1 (fun q hq => by rcases List.mem_append.mp hq with hq | hq; exact k1 q hq; rw [List.mem_singleton] at hq; rw [hq]; exact v1) (as := [x1.toInt, x2.toInt]) ⟨⟨uarg_i _, fun h => nomatch h⟩, ⟨⟨uarg_i _, fun h => nomatch h⟩, trivial⟩⟩ (fun hm f hf => by
          obtain ⟨ρ, hρ⟩ : ∃ ρ, ρ = uRho [x1.toInt, x2.toInt] N1 (cM kc_r593) := ⟨_, rfl⟩
          have o1 : ρ 0 = 1 := by rw [hρ]; rfl
          have a1 : ρ 1 = x1.toInt := by rw [hρ]; exact urho_a (as := [x1.toInt, x2.toInt]) (j := 0) (show (0 : Nat) < 2 from by decide)
          have a2 : ρ 2 = x2.toInt := by rw [hρ]; exact urho_a (as := [x1.toInt, x2.toInt]) (j := 1) (show (1 : Nat) < 2 from by decide)
          rw [← hρ] at hm ⊢
          have m1 : N1 4 352 = 1 * ρ 3 + 0 := hm (4, 352, [(1, 3)]) (List.mem_of_getElem? (i := 1) rfl)
          have m2 : N1 4 353 = 1 * ρ 4 + 0 := hm (4, 353, [(1, 4)]) (List.mem_of_getElem? (i := 2) rfl)
          have hf : f ∈ ([[(-1, 1), (1, 3)], [(1, 1), (-1, 3)], [(-1, 2), (1, 4)], [(1, 2), (-1, 4)], [(1, 1)], [(2, 0), (-1, 1)]] : List qF) := hf
          simp only [List.mem_cons, List.not_mem_nil, or_false] at hf
          rcases hf with rfl | rfl | rfl | rfl | rfl | rfl
          · show 0 ≤ -1 * ρ 1 + (1 * ρ 3 + 0)
            omega
          · show 0 ≤ 1 * ρ 1 + (-1 * ρ 3 + 0)
            omega
          · show 0 ≤ -1 * ρ 2 + (1 * ρ 4 + 0)
            omega
          · show 0 ≤ 1 * ρ 2 + (-1 * ρ 4 + 0)
            omega
          · show 0 ≤ 1 * ρ 1 + 0
            omega
          · show 0 ≤ 2 * ρ 0 + (-1 * ρ 1 + 0)
            omega) J (N := 300) (by decide)
      obtain ⟨ρ2, u2, w2, t2, z2, i2, y2⟩ := up_r593 p2
      have o2 : ρ2 0 = 1 := u2 0 (by decide)
      have a2_1 : ρ2 1 = x1.toInt := (u2 1 (by decide)).trans (urho_a (as := [x1.toInt, x2.toInt]) (j := 0) (show (0 : Nat) < 2 from by decide))
      have a2_2 : ρ2 2 = x2.toInt := (u2 2 (by decide)).trans (urho_a (as := [x1.toInt, x2.toInt]) (j := 1) (show (1 : Nat) < 2 from by decide))
      have m2_4_352 : N1 4 352 = ρ2 3 := by
        have h := q2 (4, 352, [(1, 3)]) (List.mem_of_getElem? (i := 1) rfl)
        have h : N1 4 352 = 1 * uRho [x1.toInt, x2.toInt] N1 (cM kc_r593) 3 + 0 := h
        rw [u2 3 (by decide)]
        omega
      have m2_4_353 : N1 4 353 = ρ2 4 := by
        have h := q2 (4, 353, [(1, 4)]) (List.mem_of_getElem? (i := 2) rfl)
        have h : N1 4 353 = 1 * uRho [x1.toInt, x2.toInt] N1 (cM kc_r593) 4 + 0 := h
        rw [u2 4 (by decide)]
        omega
      have m2_4_354 : N1 4 354 = ρ2 5 := by
        have h := q2 (4, 354, [(1, 5)]) (List.mem_of_getElem? (i := 3) rfl)
        have h : N1 4 354 = 1 * uRho [x1.toInt, x2.toInt] N1 (cM kc_r593) 5 + 0 := h
        rw [u2 5 (by decide)]
        omega
      have m2_93_0 : N1 93 0 = ρ2 6 := by
        have h := q2 (93, 0, [(1, 6)]) (List.mem_of_getElem? (i := 4) rfl)
        have h : N1 93 0 = 1 * uRho [x1.toInt, x2.toInt] N1 (cM kc_r593) 6 + 0 := h
        rw [u2 6 (by decide)]
        omega
      have m2_93_1 : N1 93 1 = ρ2 7 := by
        have h := q2 (93, 1, [(1, 7)]) (List.mem_of_getElem? (i := 5) rfl)
        have h : N1 93 1 = 1 * uRho [x1.toInt, x2.toInt] N1 (cM kc_r593) 7 + 0 := h
        rw [u2 7 (by decide)]
        omega
      have m2_93_2 : N1 93 2 = ρ2 8 := by
        have h := q2 (93, 2, [(1, 8)]) (List.mem_of_getElem? (i := 6) rfl)
        have h : N1 93 2 = 1 * uRho [x1.toInt, x2.toInt] N1 (cM kc_r593) 8 + 0 := h
        rw [u2 8 (by decide)]
        omega
      obtain ⟨t2_0, t2_1⟩ := t2
      rw [o2] at z2
      have s2 : uSt 28 N2 := ⟨i2, ukeepX_ok (ks := uKq 28 ++ [(4, 350, 5)]) (c := kc_r593) (by decide +kernel) (fun q hq => by rcases List.mem_append.mp hq with hq | hq; exact k1 q hq; rw [List.mem_singleton] at hq; rw [hq]; exact v1) p2⟩
      have b2_0_1 : N2 0 1 = N1 0 1 := y2 0 1 (by decide +kernel)
      have b2_0_2 : N2 0 2 = N1 0 2 := y2 0 2 (by decide +kernel)
      have b2_0_3 : N2 0 3 = N1 0 3 := y2 0 3 (by decide +kernel)
      have b2_4_261 : N2 4 261 = N1 4 261 := y2 4 261 (by decide +kernel)
      have b2_28_8 : N2 28 8 = N1 28 8 := y2 28 8 (by decide +kernel)
      have b2_28_9 : N2 28 9 = N1 28 9 := y2 28 9 (by decide +kernel)
      have b2_28_10 : N2 28 10 = N1 28 10 := y2 28 10 (by decide +kernel)
      have b2_77_6 : N2 77 6 = N1 77 6 := y2 77 6 (by decide +kernel)
      have b2_91_2 : N2 91 2 = N1 91 2 := y2 91 2 (by decide +kernel)
      have b2_91_33 : N2 91 33 = N1 91 33 := y2 91 33 (by decide +kernel)
      have b2_91_34 : N2 91 34 = N1 91 34 := y2 91 34 (by decide +kernel)
      have b2_91_61 : N2 91 61 = N1 91 61 := y2 91 61 (by decide +kernel)
      have b2_93_0 : N2 93 0 = N1 93 0 := y2 93 0 (by decide +kernel)
      have b2_93_1 : N2 93 1 = N1 93 1 := y2 93 1 (by decide +kernel)
      have b2_93_2 : N2 93 2 = N1 93 2 := y2 93 2 (by decide +kernel)
      have hv : ρ2 9 = ρ1 9 := by omega
      clear z1 z2
      rw [w1] at e1
      rw [w2, hv] at e2
      simp only [List.map_cons, List.map_nil, i32_of] at e1 e2
      exact ⟨Int32.ofInt (ρ1 9), N1, N2, e1, e2, 28, Or.inr rfl, s2, (fun q hq => by
        have hq : q ∈ ([(0, 1, 91, 2), (4, 261, 0, 1), (0, 2, 91, 33), (0, 3, 91, 34), (28, 8, 93, 0), (28, 9, 93, 1), (28, 10, 93, 2), (77, 6, 91, 61)] : List (Nat × Nat × Nat × Nat)) := hq
        simp only [List.mem_cons, List.not_mem_nil, or_false] at hq
        rcases hq with rfl | rfl | rfl | rfl | rfl | rfl | rfl | rfl
        · exact (show N2 0 1 = N2 91 2 by omega)
        · exact (show N2 4 261 = N2 0 1 by omega)
        · exact (show N2 0 2 = N2 91 33 by omega)
        · exact (show N2 0 3 = N2 91 34 by omega)
        · exact (show N2 28 8 = N2 93 0 by omega)
        · exact (show N2 28 9 = N2 93 1 by omega)
        · exact (show N2 28 10 = N2 93 2 by omega)
        · exact (show N2 77 6 = N2 91 61 by omega))⟩
    · have v1 : N1 4 350 = 5 := by omega
      obtain ⟨rv2, N2, e2, p2, q2⟩ := u_runX ko_r593 (ks := uKq 28 ++ [(4, 350, 5)]) (ex := [[(-1, 1), (1, 3)], [(1, 1), (-1, 3)], [(-1, 2), (1, 4)], [(1, 2), (-1, 4)], [(1, 1)], [(2, 0), (-1, 1)]]) (o := 91) (bs := [false, false]) (by decide +kernel) i1 (fun q hq => by rcases List.mem_append.mp hq with hq | hq; exact k1 q hq; rw [List.mem_singleton] at hq; rw [hq]; exact v1) (as := [x1.toInt, x2.toInt]) ⟨⟨uarg_i _, fun h => nomatch h⟩, ⟨⟨uarg_i _, fun h => nomatch h⟩, trivial⟩⟩ (fun hm f hf => by
          obtain ⟨ρ, hρ⟩ : ∃ ρ, ρ = uRho [x1.toInt, x2.toInt] N1 (cM kc_r593) := ⟨_, rfl⟩
          have o1 : ρ 0 = 1 := by rw [hρ]; rfl
          have a1 : ρ 1 = x1.toInt := by rw [hρ]; exact urho_a (as := [x1.toInt, x2.toInt]) (j := 0) (show (0 : Nat) < 2 from by decide)
          have a2 : ρ 2 = x2.toInt := by rw [hρ]; exact urho_a (as := [x1.toInt, x2.toInt]) (j := 1) (show (1 : Nat) < 2 from by decide)
          rw [← hρ] at hm ⊢
          have m1 : N1 4 352 = 1 * ρ 3 + 0 := hm (4, 352, [(1, 3)]) (List.mem_of_getElem? (i := 1) rfl)
          have m2 : N1 4 353 = 1 * ρ 4 + 0 := hm (4, 353, [(1, 4)]) (List.mem_of_getElem? (i := 2) rfl)
          have hf : f ∈ ([[(-1, 1), (1, 3)], [(1, 1), (-1, 3)], [(-1, 2), (1, 4)], [(1, 2), (-1, 4)], [(1, 1)], [(2, 0), (-1, 1)]] : List qF) := hf
          simp only [List.mem_cons, List.not_mem_nil, or_false] at hf
          rcases hf with rfl | rfl | rfl | rfl | rfl | rfl
          · show 0 ≤ -1 * ρ 1 + (1 * ρ 3 + 0)
            omega
          · show 0 ≤ 1 * ρ 1 + (-1 * ρ 3 + 0)
            omega
          · show 0 ≤ -1 * ρ 2 + (1 * ρ 4 + 0)
            omega
          · show 0 ≤ 1 * ρ 2 + (-1 * ρ 4 + 0)
            omega
          · show 0 ≤ 1 * ρ 1 + 0
            omega
          · show 0 ≤ 2 * ρ 0 + (-1 * ρ 1 + 0)
            omega) J (N := 300) (by decide)
      obtain ⟨ρ2, u2, w2, t2, z2, i2, y2⟩ := up_r593 p2
      have o2 : ρ2 0 = 1 := u2 0 (by decide)
      have a2_1 : ρ2 1 = x1.toInt := (u2 1 (by decide)).trans (urho_a (as := [x1.toInt, x2.toInt]) (j := 0) (show (0 : Nat) < 2 from by decide))
      have a2_2 : ρ2 2 = x2.toInt := (u2 2 (by decide)).trans (urho_a (as := [x1.toInt, x2.toInt]) (j := 1) (show (1 : Nat) < 2 from by decide))
      have m2_4_352 : N1 4 352 = ρ2 3 := by
        have h := q2 (4, 352, [(1, 3)]) (List.mem_of_getElem? (i := 1) rfl)
        have h : N1 4 352 = 1 * uRho [x1.toInt, x2.toInt] N1 (cM kc_r593) 3 + 0 := h
        rw [u2 3 (by decide)]
        omega
      have m2_4_353 : N1 4 353 = ρ2 4 := by
        have h := q2 (4, 353, [(1, 4)]) (List.mem_of_getElem? (i := 2) rfl)
        have h : N1 4 353 = 1 * uRho [x1.toInt, x2.toInt] N1 (cM kc_r593) 4 + 0 := h
        rw [u2 4 (by decide)]
        omega
      have m2_4_354 : N1 4 354 = ρ2 5 := by
        have h := q2 (4, 354, [(1, 5)]) (List.mem_of_getElem? (i := 3) rfl)
        have h : N1 4 354 = 1 * uRho [x1.toInt, x2.toInt] N1 (cM kc_r593) 5 + 0 := h
        rw [u2 5 (by decide)]
        omega
      have m2_93_0 : N1 93 0 = ρ2 6 := by
        have h := q2 (93, 0, [(1, 6)]) (List.mem_of_getElem? (i := 4) rfl)
        have h : N1 93 0 = 1 * uRho [x1.toInt, x2.toInt] N1 (cM kc_r593) 6 + 0 := h
        rw [u2 6 (by decide)]
        omega
      have m2_93_1 : N1 93 1 = ρ2 7 := by
        have h := q2 (93, 1, [(1, 7)]) (List.mem_of_getElem? (i := 5) rfl)
        have h : N1 93 1 = 1 * uRho [x1.toInt, x2.toInt] N1 (cM kc_r593) 7 + 0 := h
        rw [u2 7 (by decide)]
        omega
      have m2_93_2 : N1 93 2 = ρ2 8 := by
        have h := q2 (93, 2, [(1, 8)]) (List.mem_of_getElem? (i := 6) rfl)
        have h : N1 93 2 = 1 * uRho [x1.toInt, x2.toInt] N1 (cM kc_r593) 8 + 0 := h
        rw [u2 8 (by decide)]
        omega
      obtain ⟨t2_0, t2_1⟩ := t2
      rw [o2] at z2
      have s2 : uSt 28 N2 := ⟨i2, ukeepX_ok (ks := uKq 28 ++ [(4, 350, 5)]) (c := kc_r593) (by decide +kernel) (fun q hq => by rcases List.mem_append.mp hq with hq | hq; exact k1 q hq; rw [List.mem_singleton] at hq; rw [hq]; exact v1) p2⟩
      have b2_0_1 : N2 0 1 = N1 0 1 := y2 0 1 (by decide +kernel)
      have b2_0_2 : N2 0 2 = N1 0 2 := y2 0 2 (by decide +kernel)
      have b2_0_3 : N2 0 3 = N1 0 3 := y2 0 3 (by decide +kernel)
      have b2_4_261 : N2 4 261 = N1 4 261 := y2 4 261 (by decide +kernel)
      have b2_28_8 : N2 28 8 = N1 28 8 := y2 28 8 (by decide +kernel)
      have b2_28_9 : N2 28 9 = N1 28 9 := y2 28 9 (by decide +kernel)
      have b2_28_10 : N2 28 10 = N1 28 10 := y2 28 10 (by decide +kernel)
      have b2_77_6 : N2 77 6 = N1 77 6 := y2 77 6 (by decide +kernel)
      have b2_91_2 : N2 91 2 = N1 91 2 := y2 91 2 (by decide +kernel)
      have b2_91_33 : N2 91 33 = N1 91 33 := y2 91 33 (by decide +kernel)
      have b2_91_34 : N2 91 34 = N1 91 34 := y2 91 34 (by decide +kernel)
      have b2_91_61 : N2 91 61 = N1 91 61 := y2 91 61 (by decide +kernel)
      have b2_93_0 : N2 93 0 = N1 93 0 := y2 93 0 (by decide +kernel)
      have b2_93_1 : N2 93 1 = N1 93 1 := y2 93 1 (by decide +kernel)
      have b2_93_2 : N2 93 2 = N1 93 2 := y2 93 2 (by decide +kernel)
      have hv : ρ2 9 = ρ1 9 := by omega
      clear z1 z2
      rw [w1] at e1
      rw [w2, hv] at e2
      simp only [List.map_cons, List.map_nil, i32_of] at e1 e2
      exact ⟨Int32.ofInt (ρ1 9), N1, N2, e1, e2, 28, Or.inr rfl, s2, (fun q hq => by
        have hq : q ∈ ([(0, 1, 91, 2), (4, 261, 0, 1), (0, 2, 91, 33), (0, 3, 91, 34), (28, 8, 93, 0), (28, 9, 93, 1), (28, 10, 93, 2), (77, 6, 91, 61)] : List (Nat × Nat × Nat × Nat)) := hq
        simp only [List.mem_cons, List.not_mem_nil, or_false] at hq
        rcases hq with rfl | rfl | rfl | rfl | rfl | rfl | rfl | rfl
        · exact (show N2 0 1 = N2 91 2 by omega)
        · exact (show N2 4 261 = N2 0 1 by omega)
        · exact (show N2 0 2 = N2 91 33 by omega)
        · exact (show N2 0 3 = N2 91 34 by omega)
        · exact (show N2 28 8 = N2 93 0 by omega)
        · exact (show N2 28 9 = N2 93 1 by omega)
        · exact (show N2 28 10 = N2 93 2 by omega)
        · exact (show N2 77 6 = N2 91 61 by omega))⟩
    · have v1 : N1 4 350 = 5 := by omega
      obtain ⟨rv2, N2, e2, p2, q2⟩ := u_runX ko_r593 (ks := uKq 28 ++ [(4, 350, 5)]) (ex := [[(-1, 1), (1, 3)], [(1, 1), (-1, 3)], [(-1, 2), (1, 4)], [(1, 2), (-1, 4)], [(1, 1)], [(2, 0), (-1, 1)]]) (o := 91) (bs := [false, false]) (by decide +kernel) i1 (fun q hq => by rcases List.mem_append.mp hq with hq | hq; exact k1 q hq; rw [List.mem_singleton] at hq; rw [hq]; exact v1) (as := [x1.toInt, x2.toInt]) ⟨⟨uarg_i _, fun h => nomatch h⟩, ⟨⟨uarg_i _, fun h => nomatch h⟩, trivial⟩⟩ (fun hm f hf => by
          obtain ⟨ρ, hρ⟩ : ∃ ρ, ρ = uRho [x1.toInt, x2.toInt] N1 (cM kc_r593) := ⟨_, rfl⟩
          have o1 : ρ 0 = 1 := by rw [hρ]; rfl
          have a1 : ρ 1 = x1.toInt := by rw [hρ]; exact urho_a (as := [x1.toInt, x2.toInt]) (j := 0) (show (0 : Nat) < 2 from by decide)
          have a2 : ρ 2 = x2.toInt := by rw [hρ]; exact urho_a (as := [x1.toInt, x2.toInt]) (j := 1) (show (1 : Nat) < 2 from by decide)
          rw [← hρ] at hm ⊢
          have m1 : N1 4 352 = 1 * ρ 3 + 0 := hm (4, 352, [(1, 3)]) (List.mem_of_getElem? (i := 1) rfl)
          have m2 : N1 4 353 = 1 * ρ 4 + 0 := hm (4, 353, [(1, 4)]) (List.mem_of_getElem? (i := 2) rfl)
          have hf : f ∈ ([[(-1, 1), (1, 3)], [(1, 1), (-1, 3)], [(-1, 2), (1, 4)], [(1, 2), (-1, 4)], [(1, 1)], [(2, 0), (-1, 1)]] : List qF) := hf
          simp only [List.mem_cons, List.not_mem_nil, or_false] at hf
          rcases hf with rfl | rfl | rfl | rfl | rfl | rfl
          · show 0 ≤ -1 * ρ 1 + (1 * ρ 3 + 0)
            omega
          · show 0 ≤ 1 * ρ 1 + (-1 * ρ 3 + 0)
            omega
          · show 0 ≤ -1 * ρ 2 + (1 * ρ 4 + 0)
            omega
          · show 0 ≤ 1 * ρ 2 + (-1 * ρ 4 + 0)
            omega
          · show 0 ≤ 1 * ρ 1 + 0
            omega
          · show 0 ≤ 2 * ρ 0 + (-1 * ρ 1 + 0)
            omega) J (N := 300) (by decide)
      obtain ⟨ρ2, u2, w2, t2, z2, i2, y2⟩ := up_r593 p2
      have o2 : ρ2 0 = 1 := u2 0 (by decide)
      have a2_1 : ρ2 1 = x1.toInt := (u2 1 (by decide)).trans (urho_a (as := [x1.toInt, x2.toInt]) (j := 0) (show (0 : Nat) < 2 from by decide))
      have a2_2 : ρ2 2 = x2.toInt := (u2 2 (by decide)).trans (urho_a (as := [x1.toInt, x2.toInt]) (j := 1) (show (1 : Nat) < 2 from by decide))
      have m2_4_352 : N1 4 352 = ρ2 3 := by
        have h := q2 (4, 352, [(1, 3)]) (List.mem_of_getElem? (i := 1) rfl)
        have h : N1 4 352 = 1 * uRho [x1.toInt, x2.toInt] N1 (cM kc_r593) 3 + 0 := h
        rw [u2 3 (by decide)]
        omega
      have m2_4_353 : N1 4 353 = ρ2 4 := by
        have h := q2 (4, 353, [(1, 4)]) (List.mem_of_getElem? (i := 2) rfl)
        have h : N1 4 353 = 1 * uRho [x1.toInt, x2.toInt] N1 (cM kc_r593) 4 + 0 := h
        rw [u2 4 (by decide)]
        omega
      have m2_4_354 : N1 4 354 = ρ2 5 := by
        have h := q2 (4, 354, [(1, 5)]) (List.mem_of_getElem? (i := 3) rfl)
        have h : N1 4 354 = 1 * uRho [x1.toInt, x2.toInt] N1 (cM kc_r593) 5 + 0 := h
        rw [u2 5 (by decide)]
        omega
      have m2_93_0 : N1 93 0 = ρ2 6 := by
        have h := q2 (93, 0, [(1, 6)]) (List.mem_of_getElem? (i := 4) rfl)
        have h : N1 93 0 = 1 * uRho [x1.toInt, x2.toInt] N1 (cM kc_r593) 6 + 0 := h
        rw [u2 6 (by decide)]
        omega
      have m2_93_1 : N1 93 1 = ρ2 7 := by
        have h := q2 (93, 1, [(1, 7)]) (List.mem_of_getElem? (i := 5) rfl)
        have h : N1 93 1 = 1 * uRho [x1.toInt, x2.toInt] N1 (cM kc_r593) 7 + 0 := h
        rw [u2 7 (by decide)]
        omega
      have m2_93_2 : N1 93 2 = ρ2 8 := by
        have h := q2 (93, 2, [(1, 8)]) (List.mem_of_getElem? (i := 6) rfl)
        have h : N1 93 2 = 1 * uRho [x1.toInt, x2.toInt] N1 (cM kc_r593) 8 + 0 := h
        rw [u2 8 (by decide)]
        omega
      obtain ⟨t2_0, t2_1⟩ := t2
      rw [o2] at z2
      have s2 : uSt 28 N2 := ⟨i2, ukeepX_ok (ks := uKq 28 ++ [(4, 350, 5)]) (c := kc_r593) (by decide +kernel) (fun q hq => by rcases List.mem_append.mp hq with hq | hq; exact k1 q hq; rw [List.mem_singleton] at hq; rw [hq]; exact v1) p2⟩
      have b2_0_1 : N2 0 1 = N1 0 1 := y2 0 1 (by decide +kernel)
      have b2_0_2 : N2 0 2 = N1 0 2 := y2 0 2 (by decide +kernel)
      have b2_0_3 : N2 0 3 = N1 0 3 := y2 0 3 (by decide +kernel)
      have b2_4_261 : N2 4 261 = N1 4 261 := y2 4 261 (by decide +kernel)
      have b2_28_8 : N2 28 8 = N1 28 8 := y2 28 8 (by decide +kernel)
      have b2_28_9 : N2 28 9 = N1 28 9 := y2 28 9 (by decide +kernel)
      have b2_28_10 : N2 28 10 = N1 28 10 := y2 28 10 (by decide +kernel)
      have b2_77_6 : N2 77 6 = N1 77 6 := y2 77 6 (by decide +kernel)
      have b2_91_2 : N2 91 2 = N1 91 2 := y2 91 2 (by decide +kernel)
      have b2_91_33 : N2 91 33 = N1 91 33 := y2 91 33 (by decide +kernel)
      have b2_91_34 : N2 91 34 = N1 91 34 := y2 91 34 (by decide +kernel)
      have b2_91_61 : N2 91 61 = N1 91 61 := y2 91 61 (by decide +kernel)
      have b2_93_0 : N2 93 0 = N1 93 0 := y2 93 0 (by decide +kernel)
      have b2_93_1 : N2 93 1 = N1 93 1 := y2 93 1 (by decide +kernel)
      have b2_93_2 : N2 93 2 = N1 93 2 := y2 93 2 (by decide +kernel)
      have hv : ρ2 9 = ρ1 9 := by omega
      clear z1 z2
      rw [w1] at e1
      rw [w2, hv] at e2
      simp only [List.map_cons, List.map_nil, i32_of] at e1 e2
      exact ⟨Int32.ofInt (ρ1 9), N1, N2, e1, e2, 28, Or.inr rfl, s2, (fun q hq => by
        have hq : q ∈ ([(0, 1, 91, 2), (4, 261, 0, 1), (0, 2, 91, 33), (0, 3, 91, 34), (28, 8, 93, 0), (28, 9, 93, 1), (28, 10, 93, 2), (77, 6, 91, 61)] : List (Nat × Nat × Nat × Nat)) := hq
        simp only [List.mem_cons, List.not_mem_nil, or_false] at hq
        rcases hq with rfl | rfl | rfl | rfl | rfl | rfl | rfl | rfl
        · exact (show N2 0 1 = N2 91 2 by omega)
        · exact (show N2 4 261 = N2 0 1 by omega)
        · exact (show N2 0 2 = N2 91 33 by omega)
        · exact (show N2 0 3 = N2 91 34 by omega)
        · exact (show N2 28 8 = N2 93 0 by omega)
        · exact (show N2 28 9 = N2 93 1 by omega)
        · exact (show N2 28 10 = N2 93 2 by omega)
        · exact (show N2 77 6 = N2 91 61 by omega))⟩
theorem uo_5 {M : sM} (hM : uG M) (J : pHp) (x1 : Int32) (x2 : Int32) : ∃ (v1 : Int32) (M1 : sM) (v2 : Int32) (M2 : sM), pEx 300 72 [.ref 0, .int x1, .int x2] (sHp sLay M ++ J) (some (.int v1)) (sHp sLay M1 ++ J) ∧ pEx 300 206 [.ref 91, .int x1, .int x2] (sHp sLay M1 ++ J) (some (.int v2)) (sHp sLay M2 ++ J) ∧ uG M2 := by
  obtain ⟨z1, M1, z2, M2, e1, e2, e3⟩ := u_two ko_12 ko_212 ko_r601 (bs := [false, false]) (by decide +kernel) hM (as := [x1.toInt, x2.toInt]) ⟨⟨uarg_i _, fun h => nomatch h⟩, ⟨⟨uarg_i _, fun h => nomatch h⟩, trivial⟩⟩ J
  simp only [List.map_cons, List.map_nil, i32_of] at e1 e2
  exact ⟨Int32.ofInt z1, M1, Int32.ofInt z2, M2, e1, e2, e3⟩
theorem uo_6 {M : sM} (hM : uG M) (J : pHp) (x1 : Int32) (x2 : Int32) : ∃ (v1 : Int32) (M1 : sM) (v2 : Int32) (M2 : sM), pEx 300 74 [.ref 0, .int x1, .int x2] (sHp sLay M ++ J) (some (.int v1)) (sHp sLay M1 ++ J) ∧ pEx 300 208 [.ref 91, .int x1, .int x2] (sHp sLay M1 ++ J) (some (.int v2)) (sHp sLay M2 ++ J) ∧ uG M2 := by
  obtain ⟨z1, M1, z2, M2, e1, e2, e3⟩ := u_two ko_14 ko_214 ko_r603 (bs := [false, false]) (by decide +kernel) hM (as := [x1.toInt, x2.toInt]) ⟨⟨uarg_i _, fun h => nomatch h⟩, ⟨⟨uarg_i _, fun h => nomatch h⟩, trivial⟩⟩ J
  simp only [List.map_cons, List.map_nil, i32_of] at e1 e2
  exact ⟨Int32.ofInt z1, M1, Int32.ofInt z2, M2, e1, e2, e3⟩
theorem uo_7 {M : sM} (hM : uG M) (J : pHp) (x1 : Int32) (x2 : Int32) (x3 : Int32) : ∃ (v1 : Int32) (M1 : sM) (v2 : Int32) (M2 : sM), pEx 300 76 [.ref 0, .int x1, .int x2, .int x3] (sHp sLay M ++ J) (some (.int v1)) (sHp sLay M1 ++ J) ∧ pEx 300 210 [.ref 91, .int x1, .int x2, .int x3] (sHp sLay M1 ++ J) (some (.int v2)) (sHp sLay M2 ++ J) ∧ uG M2 := by
  obtain ⟨z1, M1, z2, M2, e1, e2, e3⟩ := u_two ko_26 ko_220 ko_r616 (bs := [false, false, false]) (by decide +kernel) hM (as := [x1.toInt, x2.toInt, x3.toInt]) ⟨⟨uarg_i _, fun h => nomatch h⟩, ⟨⟨uarg_i _, fun h => nomatch h⟩, ⟨⟨uarg_i _, fun h => nomatch h⟩, trivial⟩⟩⟩ J
  simp only [List.map_cons, List.map_nil, i32_of] at e1 e2
  exact ⟨Int32.ofInt z1, M1, Int32.ofInt z2, M2, e1, e2, e3⟩
theorem uo_8 {M : sM} (hM : uG M) (J : pHp) (x1 : Int32) (x2 : Int32) : ∃ (v1 : Int32) (M1 : sM) (v2 : Int32) (M2 : sM), pEx 300 88 [.ref 0, .int x1, .int x2] (sHp sLay M ++ J) (some (.int v1)) (sHp sLay M1 ++ J) ∧ pEx 300 220 [.ref 91, .int x1, .int x2] (sHp sLay M1 ++ J) (some (.int v2)) (sHp sLay M2 ++ J) ∧ uG M2 := by
  obtain ⟨z1, M1, z2, M2, e1, e2, e3⟩ := u_two ko_30 ko_224 ko_r621 (bs := [false, false]) (by decide +kernel) hM (as := [x1.toInt, x2.toInt]) ⟨⟨uarg_i _, fun h => nomatch h⟩, ⟨⟨uarg_i _, fun h => nomatch h⟩, trivial⟩⟩ J
  simp only [List.map_cons, List.map_nil, i32_of] at e1 e2
  exact ⟨Int32.ofInt z1, M1, Int32.ofInt z2, M2, e1, e2, e3⟩
theorem uo_9 {M : sM} (hM : uG M) (J : pHp) (x1 : Int32) (x2 : Int32) : ∃ (v1 : Int32) (M1 : sM) (v2 : Int32) (M2 : sM), pEx 300 90 [.ref 0, .int x1, .int x2] (sHp sLay M ++ J) (some (.int v1)) (sHp sLay M1 ++ J) ∧ pEx 300 223 [.ref 91, .int x1, .int x2] (sHp sLay M1 ++ J) (some (.int v2)) (sHp sLay M2 ++ J) ∧ uG M2 := by
  obtain ⟨z1, M1, z2, M2, e1, e2, e3⟩ := u_two ko_34 ko_228 ko_r624 (bs := [false, false]) (by decide +kernel) hM (as := [x1.toInt, x2.toInt]) ⟨⟨uarg_i _, fun h => nomatch h⟩, ⟨⟨uarg_i _, fun h => nomatch h⟩, trivial⟩⟩ J
  simp only [List.map_cons, List.map_nil, i32_of] at e1 e2
  exact ⟨Int32.ofInt z1, M1, Int32.ofInt z2, M2, e1, e2, e3⟩
theorem uo_10 {M : sM} (hM : uG M) (J : pHp) (x1 : Int32) (x2 : Int32) (x3 : Int32) (x4 : Int32) : ∃ (v1 : Int64) (M1 : sM) (v2 : Int64) (M2 : sM), pEx 300 94 [.ref 0, .int x1, .int x2, .int x3, .int x4] (sHp sLay M ++ J) (some (.long v1)) (sHp sLay M1 ++ J) ∧ pEx 300 226 [.ref 91, .int x1, .int x2, .int x3, .int x4] (sHp sLay M1 ++ J) (some (.long v2)) (sHp sLay M2 ++ J) ∧ uG M2 := by
  obtain ⟨z1, M1, z2, M2, e1, e2, e3⟩ := u_two ko_37 ko_229 ko_r625 (bs := [false, false, false, false]) (by decide +kernel) hM (as := [x1.toInt, x2.toInt, x3.toInt, x4.toInt]) ⟨⟨uarg_i _, fun h => nomatch h⟩, ⟨⟨uarg_i _, fun h => nomatch h⟩, ⟨⟨uarg_i _, fun h => nomatch h⟩, ⟨⟨uarg_i _, fun h => nomatch h⟩, trivial⟩⟩⟩⟩ J
  simp only [List.map_cons, List.map_nil, i32_of] at e1 e2
  exact ⟨Int64.ofInt z1, M1, Int64.ofInt z2, M2, e1, e2, e3⟩
theorem uo_11 {M : sM} (hM : uG M) (J : pHp) (x1 : Int32) (x2 : Int32) (hb2 : x2 = 0 ∨ x2 = 1) : ∃ (v1 : Int32) (M1 : sM) (v2 : Int32) (M2 : sM), pEx 300 95 [.ref 0, .int x1, .int x2] (sHp sLay M ++ J) (some (.int v1)) (sHp sLay M1 ++ J) ∧ pEx 300 227 [.ref 91, .int x1, .int x2] (sHp sLay M1 ++ J) (some (.int v2)) (sHp sLay M2 ++ J) ∧ uG M2 := by
  obtain ⟨z1, M1, z2, M2, e1, e2, e3⟩ := u_two ko_40 ko_230 ko_r630 (bs := [false, true]) (by decide +kernel) hM (as := [x1.toInt, x2.toInt]) ⟨⟨uarg_i _, fun h => nomatch h⟩, ⟨⟨uarg_i _, fun _ => ub01 hb2⟩, trivial⟩⟩ J
  simp only [List.map_cons, List.map_nil, i32_of] at e1 e2
  exact ⟨Int32.ofInt z1, M1, Int32.ofInt z2, M2, e1, e2, e3⟩
theorem uo_12 {M : sM} (hM : uG M) (J : pHp) (x1 : Int32) (x2 : Int32) : ∃ (v1 : Int32) (M1 : sM) (v2 : Int32) (M2 : sM), pEx 300 98 [.ref 0, .int x1, .int x2] (sHp sLay M ++ J) (some (.int v1)) (sHp sLay M1 ++ J) ∧ pEx 300 231 [.ref 91, .int x1, .int x2] (sHp sLay M1 ++ J) (some (.int v2)) (sHp sLay M2 ++ J) ∧ uG M2 := by
  obtain ⟨z1, M1, z2, M2, e1, e2, e3⟩ := u_two ko_41 ko_231 ko_r631 (bs := [false, false]) (by decide +kernel) hM (as := [x1.toInt, x2.toInt]) ⟨⟨uarg_i _, fun h => nomatch h⟩, ⟨⟨uarg_i _, fun h => nomatch h⟩, trivial⟩⟩ J
  simp only [List.map_cons, List.map_nil, i32_of] at e1 e2
  exact ⟨Int32.ofInt z1, M1, Int32.ofInt z2, M2, e1, e2, e3⟩
theorem uo_13 {M : sM} (hM : uG M) (J : pHp) (x1 : Int32) : ∃ (v1 : Int32) (M1 : sM) (v2 : Int32) (M2 : sM), pEx 300 99 [.ref 0, .int x1] (sHp sLay M ++ J) (some (.int v1)) (sHp sLay M1 ++ J) ∧ pEx 300 232 [.ref 91, .int x1] (sHp sLay M1 ++ J) (some (.int v2)) (sHp sLay M2 ++ J) ∧ uG M2 := by
  obtain ⟨z1, M1, z2, M2, e1, e2, e3⟩ := u_two ko_42 ko_42 ko_r632 (bs := [false]) (by decide +kernel) hM (as := [x1.toInt]) ⟨⟨uarg_i _, fun h => nomatch h⟩, trivial⟩ J
  simp only [List.map_cons, List.map_nil, i32_of] at e1 e2
  exact ⟨Int32.ofInt z1, M1, Int32.ofInt z2, M2, e1, e2, e3⟩
theorem uo_14 {M : sM} (hM : uG M) (J : pHp) (x1 : Int32) : ∃ (v1 : Int32) (M1 : sM) (v2 : Int32) (M2 : sM), pEx 300 100 [.ref 0, .int x1] (sHp sLay M ++ J) (some (.int v1)) (sHp sLay M1 ++ J) ∧ pEx 300 233 [.ref 91, .int x1] (sHp sLay M1 ++ J) (some (.int v2)) (sHp sLay M2 ++ J) ∧ uG M2 := by
  obtain ⟨z1, M1, z2, M2, e1, e2, e3⟩ := u_two ko_43 ko_43 ko_r633 (bs := [false]) (by decide +kernel) hM (as := [x1.toInt]) ⟨⟨uarg_i _, fun h => nomatch h⟩, trivial⟩ J
  simp only [List.map_cons, List.map_nil, i32_of] at e1 e2
  exact ⟨Int32.ofInt z1, M1, Int32.ofInt z2, M2, e1, e2, e3⟩
theorem uo_15 {M : sM} (hM : uG M) (J : pHp) (x1 : Int32) : ∃ (v1 : Int32) (M1 : sM) (v2 : Int32) (M2 : sM), pEx 300 101 [.ref 0, .int x1] (sHp sLay M ++ J) (some (.int v1)) (sHp sLay M1 ++ J) ∧ pEx 300 234 [.ref 91, .int x1] (sHp sLay M1 ++ J) (some (.int v2)) (sHp sLay M2 ++ J) ∧ uG M2 := by
  obtain ⟨z1, M1, z2, M2, e1, e2, e3⟩ := u_two ko_47 ko_234 ko_r638 (bs := [false]) (by decide +kernel) hM (as := [x1.toInt]) ⟨⟨uarg_i _, fun h => nomatch h⟩, trivial⟩ J
  simp only [List.map_cons, List.map_nil, i32_of] at e1 e2
  exact ⟨Int32.ofInt z1, M1, Int32.ofInt z2, M2, e1, e2, e3⟩
theorem uo_16 {M : sM} (hM : uG M) (J : pHp) (x1 : Int32) : ∃ (v1 : Int32) (M1 : sM) (v2 : Int32) (M2 : sM), pEx 300 105 [.ref 0, .int x1] (sHp sLay M ++ J) (some (.int v1)) (sHp sLay M1 ++ J) ∧ pEx 300 239 [.ref 91, .int x1] (sHp sLay M1 ++ J) (some (.int v2)) (sHp sLay M2 ++ J) ∧ uG M2 := by
  obtain ⟨z1, M1, z2, M2, e1, e2, e3⟩ := u_two ko_49 ko_49 ko_r639 (bs := [false]) (by decide +kernel) hM (as := [x1.toInt]) ⟨⟨uarg_i _, fun h => nomatch h⟩, trivial⟩ J
  simp only [List.map_cons, List.map_nil, i32_of] at e1 e2
  exact ⟨Int32.ofInt z1, M1, Int32.ofInt z2, M2, e1, e2, e3⟩
theorem uo_17 {M : sM} (hM : uG M) (J : pHp) (x1 : Int32) (x2 : Int32) : ∃ (v1 : Int32) (M1 : sM) (v2 : Int32) (M2 : sM), pEx 300 106 [.ref 0, .int x1, .int x2] (sHp sLay M ++ J) (some (.int v1)) (sHp sLay M1 ++ J) ∧ pEx 300 240 [.ref 91, .int x1, .int x2] (sHp sLay M1 ++ J) (some (.int v2)) (sHp sLay M2 ++ J) ∧ uG M2 := by
  obtain ⟨z1, M1, z2, M2, e1, e2, e3⟩ := u_two ko_51 ko_236 ko_r643 (bs := [false, false]) (by decide +kernel) hM (as := [x1.toInt, x2.toInt]) ⟨⟨uarg_i _, fun h => nomatch h⟩, ⟨⟨uarg_i _, fun h => nomatch h⟩, trivial⟩⟩ J
  simp only [List.map_cons, List.map_nil, i32_of] at e1 e2
  exact ⟨Int32.ofInt z1, M1, Int32.ofInt z2, M2, e1, e2, e3⟩
theorem uo_18 {M : sM} (hM : uG M) (J : pHp)  : ∃ (v1 : Int32) (M1 : sM) (v2 : Int32) (M2 : sM), pEx 300 108 [.ref 0] (sHp sLay M ++ J) (some (.int v1)) (sHp sLay M1 ++ J) ∧ pEx 300 244 [.ref 91] (sHp sLay M1 ++ J) (some (.int v2)) (sHp sLay M2 ++ J) ∧ uG M2 := by
  obtain ⟨z1, M1, z2, M2, e1, e2, e3⟩ := u_two ko_53 ko_238 ko_r645 (bs := []) (by decide +kernel) hM (as := []) trivial J
  simp only [List.map_cons, List.map_nil, i32_of] at e1 e2
  exact ⟨Int32.ofInt z1, M1, Int32.ofInt z2, M2, e1, e2, e3⟩
theorem uo_19 {M : sM} (hM : uG M) (J : pHp) (x1 : Int32) : ∃ (v1 : Int32) (M1 : sM) (v2 : Int32) (M2 : sM), pEx 300 110 [.ref 0, .int x1] (sHp sLay M ++ J) (some (.int v1)) (sHp sLay M1 ++ J) ∧ pEx 300 246 [.ref 91, .int x1] (sHp sLay M1 ++ J) (some (.int v2)) (sHp sLay M2 ++ J) ∧ uG M2 := by
  obtain ⟨z1, M1, z2, M2, e1, e2, e3⟩ := u_two ko_55 ko_239 ko_r646 (bs := [false]) (by decide +kernel) hM (as := [x1.toInt]) ⟨⟨uarg_i _, fun h => nomatch h⟩, trivial⟩ J
  simp only [List.map_cons, List.map_nil, i32_of] at e1 e2
  exact ⟨Int32.ofInt z1, M1, Int32.ofInt z2, M2, e1, e2, e3⟩
theorem uo_20 {M : sM} (hM : uG M) (J : pHp) (x1 : Int32) (x2 : Int32) : ∃ (v1 : Int32) (M1 : sM) (v2 : Int32) (M2 : sM), pEx 300 112 [.ref 0, .int x1, .int x2] (sHp sLay M ++ J) (some (.int v1)) (sHp sLay M1 ++ J) ∧ pEx 300 247 [.ref 91, .int x1, .int x2] (sHp sLay M1 ++ J) (some (.int v2)) (sHp sLay M2 ++ J) ∧ uG M2 := by
  obtain ⟨z1, M1, z2, M2, e1, e2, e3⟩ := u_two ko_69 ko_250 ko_r651 (bs := [false, false]) (by decide +kernel) hM (as := [x1.toInt, x2.toInt]) ⟨⟨uarg_i _, fun h => nomatch h⟩, ⟨⟨uarg_i _, fun h => nomatch h⟩, trivial⟩⟩ J
  simp only [List.map_cons, List.map_nil, i32_of] at e1 e2
  exact ⟨Int32.ofInt z1, M1, Int32.ofInt z2, M2, e1, e2, e3⟩
theorem uo_21 {M : sM} (hM : uG M) (J : pHp) (x1 : Int32) : ∃ (v1 : Int32) (M1 : sM) (v2 : Int32) (M2 : sM), pEx 300 125 [.ref 0, .int x1] (sHp sLay M ++ J) (some (.int v1)) (sHp sLay M1 ++ J) ∧ pEx 300 253 [.ref 91, .int x1] (sHp sLay M1 ++ J) (some (.int v2)) (sHp sLay M2 ++ J) ∧ uG M2 := by
  obtain ⟨z1, M1, z2, M2, e1, e2, e3⟩ := u_two ko_75 ko_253 ko_r658 (bs := [false]) (by decide +kernel) hM (as := [x1.toInt]) ⟨⟨uarg_i _, fun h => nomatch h⟩, trivial⟩ J
  simp only [List.map_cons, List.map_nil, i32_of] at e1 e2
  exact ⟨Int32.ofInt z1, M1, Int32.ofInt z2, M2, e1, e2, e3⟩
theorem uo_22 {M : sM} (hM : uG M) (J : pHp) (x1 : Int32) (x2 : Int32) : ∃ (v1 : Int32) (M1 : sM) (v2 : Int32) (M2 : sM), pEx 300 131 [.ref 0, .int x1, .int x2] (sHp sLay M ++ J) (some (.int v1)) (sHp sLay M1 ++ J) ∧ pEx 300 258 [.ref 91, .int x1, .int x2] (sHp sLay M1 ++ J) (some (.int v2)) (sHp sLay M2 ++ J) ∧ uG M2 := by
  obtain ⟨z1, M1, z2, M2, e1, e2, e3⟩ := u_two ko_76 ko_254 ko_r659 (bs := [false, false]) (by decide +kernel) hM (as := [x1.toInt, x2.toInt]) ⟨⟨uarg_i _, fun h => nomatch h⟩, ⟨⟨uarg_i _, fun h => nomatch h⟩, trivial⟩⟩ J
  simp only [List.map_cons, List.map_nil, i32_of] at e1 e2
  exact ⟨Int32.ofInt z1, M1, Int32.ofInt z2, M2, e1, e2, e3⟩
theorem uo_23 {M : sM} (hM : uG M) (J : pHp) (x1 : Int32) : ∃ (v1 : Int32) (M1 : sM) (v2 : Int32) (M2 : sM), pEx 300 132 [.ref 0, .int x1] (sHp sLay M ++ J) (some (.int v1)) (sHp sLay M1 ++ J) ∧ pEx 300 259 [.ref 91, .int x1] (sHp sLay M1 ++ J) (some (.int v2)) (sHp sLay M2 ++ J) ∧ uG M2 := by
  obtain ⟨z1, M1, z2, M2, e1, e2, e3⟩ := u_two ko_77 ko_255 ko_r661 (bs := [false]) (by decide +kernel) hM (as := [x1.toInt]) ⟨⟨uarg_i _, fun h => nomatch h⟩, trivial⟩ J
  simp only [List.map_cons, List.map_nil, i32_of] at e1 e2
  exact ⟨Int32.ofInt z1, M1, Int32.ofInt z2, M2, e1, e2, e3⟩
theorem uo_24 {M : sM} (hM : uG M) (J : pHp) (x1 : Int32) (x2 : Int32) (x3 : Int32) : ∃ (v1 : Int32) (M1 : sM) (v2 : Int32) (M2 : sM), pEx 300 133 [.ref 0, .int x1, .int x2, .int x3] (sHp sLay M ++ J) (some (.int v1)) (sHp sLay M1 ++ J) ∧ pEx 300 260 [.ref 91, .int x1, .int x2, .int x3] (sHp sLay M1 ++ J) (some (.int v2)) (sHp sLay M2 ++ J) ∧ uG M2 := by
  obtain ⟨z1, M1, z2, M2, e1, e2, e3⟩ := u_two ko_79 ko_257 ko_r664 (bs := [false, false, false]) (by decide +kernel) hM (as := [x1.toInt, x2.toInt, x3.toInt]) ⟨⟨uarg_i _, fun h => nomatch h⟩, ⟨⟨uarg_i _, fun h => nomatch h⟩, ⟨⟨uarg_i _, fun h => nomatch h⟩, trivial⟩⟩⟩ J
  simp only [List.map_cons, List.map_nil, i32_of] at e1 e2
  exact ⟨Int32.ofInt z1, M1, Int32.ofInt z2, M2, e1, e2, e3⟩
theorem up_80 {ρ : Nat → Int} {M M' : sM} {rv : Option sV} (h : qPost kc_80 ρ M rv M') : ∃ ρ' : Nat → Int, (∀ a, a < 6 → ρ' a = ρ a) ∧ rv = qRv 0 (ρ' 6) ∧ (M' 4 350 = ρ' 7 ∧ M' 4 380 = ρ' 8 ∧ M' 4 381 = ρ' 9 ∧ M' 4 382 = ρ' 10 ∧ M' 0 900 = ρ' 11) ∧ ((0 ≤ 1 * ρ' 0 + (1 * ρ' 6 + 0) ∧ 0 ≤ -1 * ρ' 0 + (-1 * ρ' 6 + 0) ∧ 0 ≤ 1 * ρ' 7 + 0 ∧ 0 ≤ -1 * ρ' 7 + 0 ∧ 0 ≤ -1 * ρ' 0 + (-1 * ρ' 1 + 0)) ∨ (0 ≤ 1 * ρ' 0 + (1 * ρ' 6 + 0) ∧ 0 ≤ -1 * ρ' 0 + (-1 * ρ' 6 + 0) ∧ 0 ≤ 1 * ρ' 7 + 0 ∧ 0 ≤ -1 * ρ' 7 + 0 ∧ 0 ≤ -24 * ρ' 0 + (1 * ρ' 1 + 0)) ∨ (0 ≤ 1 * ρ' 0 + (1 * ρ' 6 + 0) ∧ 0 ≤ -1 * ρ' 0 + (-1 * ρ' 6 + 0) ∧ 0 ≤ 1 * ρ' 7 + 0 ∧ 0 ≤ -1 * ρ' 7 + 0 ∧ 0 ≤ -1 * ρ' 0 + (-1 * ρ' 2 + 0)) ∨ (0 ≤ 1 * ρ' 0 + (1 * ρ' 6 + 0) ∧ 0 ≤ -1 * ρ' 0 + (-1 * ρ' 6 + 0) ∧ 0 ≤ 1 * ρ' 7 + 0 ∧ 0 ≤ -1 * ρ' 7 + 0 ∧ 0 ≤ -24 * ρ' 0 + (1 * ρ' 2 + 0)) ∨ (0 ≤ 1 * ρ' 0 + (1 * ρ' 6 + 0) ∧ 0 ≤ -1 * ρ' 0 + (-1 * ρ' 6 + 0) ∧ 0 ≤ 1 * ρ' 7 + 0 ∧ 0 ≤ -1 * ρ' 7 + 0 ∧ 0 ≤ 1 * ρ' 0 + (-1 * ρ' 3 + 0)) ∨ (0 ≤ 1 * ρ' 6 + (-1 * ρ' 10 + 0) ∧ 0 ≤ -1 * ρ' 6 + (1 * ρ' 10 + 0) ∧ 0 ≤ -27 * ρ' 0 + (1 * ρ' 7 + 0) ∧ 0 ≤ 27 * ρ' 0 + (-1 * ρ' 7 + 0) ∧ 0 ≤ 1 * ρ' 0 + (1 * ρ' 1 + (-1 * ρ' 2 + (-1 * ρ' 3 + (1 * ρ' 8 + 0)))) ∧ 0 ≤ -1 * ρ' 0 + (-1 * ρ' 1 + (1 * ρ' 2 + (1 * ρ' 3 + (-1 * ρ' 8 + 0)))) ∧ 0 ≤ 1 * ρ' 1 + 0 ∧ 0 ≤ 23 * ρ' 0 + (-1 * ρ' 1 + 0) ∧ 0 ≤ 1 * ρ' 2 + 0 ∧ 0 ≤ 23 * ρ' 0 + (-1 * ρ' 2 + 0) ∧ 0 ≤ -2 * ρ' 0 + (1 * ρ' 3 + 0) ∧ 0 ≤ 1 * ρ' 10 + 0 ∧ 0 ≤ 23 * ρ' 0 + (-1 * ρ' 10 + 0)) ∨ (0 ≤ 2 * ρ' 0 + (1 * ρ' 6 + 0) ∧ 0 ≤ -2 * ρ' 0 + (-1 * ρ' 6 + 0) ∧ 0 ≤ -27 * ρ' 0 + (1 * ρ' 7 + 0) ∧ 0 ≤ 27 * ρ' 0 + (-1 * ρ' 7 + 0) ∧ 0 ≤ 1 * ρ' 0 + (1 * ρ' 1 + (-1 * ρ' 2 + (-1 * ρ' 3 + (1 * ρ' 8 + 0)))) ∧ 0 ≤ -1 * ρ' 0 + (-1 * ρ' 1 + (1 * ρ' 2 + (1 * ρ' 3 + (-1 * ρ' 8 + 0)))) ∧ 0 ≤ 1 * ρ' 1 + 0 ∧ 0 ≤ 23 * ρ' 0 + (-1 * ρ' 1 + 0) ∧ 0 ≤ 1 * ρ' 2 + 0 ∧ 0 ≤ 23 * ρ' 0 + (-1 * ρ' 2 + 0) ∧ 0 ≤ -2 * ρ' 0 + (1 * ρ' 3 + 0) ∧ 0 ≤ 1 * ρ' 0 + (1 * ρ' 10 + 0) ∧ 0 ≤ -1 * ρ' 0 + (-1 * ρ' 10 + 0))) ∧ sI M' ∧ sF (cS kc_80) M M' := by
  obtain ⟨ρ', h1, h2, ⟨al, hal, hf⟩, h3, h4, h5⟩ := h
  refine ⟨ρ', h1, h2, ⟨h3 (4, 350, 7) (List.mem_of_getElem? (i := 0) rfl), h3 (4, 380, 8) (List.mem_of_getElem? (i := 1) rfl), h3 (4, 381, 9) (List.mem_of_getElem? (i := 2) rfl), h3 (4, 382, 10) (List.mem_of_getElem? (i := 3) rfl), h3 (0, 900, 11) (List.mem_of_getElem? (i := 4) rfl)⟩, ?_, h4, h5⟩
  have hal : al ∈ ([[[(1, 0), (1, 6)], [(-1, 0), (-1, 6)], [(1, 7)], [(-1, 7)], [(-1, 0), (-1, 1)]], [[(1, 0), (1, 6)], [(-1, 0), (-1, 6)], [(1, 7)], [(-1, 7)], [(-24, 0), (1, 1)]], [[(1, 0), (1, 6)], [(-1, 0), (-1, 6)], [(1, 7)], [(-1, 7)], [(-1, 0), (-1, 2)]], [[(1, 0), (1, 6)], [(-1, 0), (-1, 6)], [(1, 7)], [(-1, 7)], [(-24, 0), (1, 2)]], [[(1, 0), (1, 6)], [(-1, 0), (-1, 6)], [(1, 7)], [(-1, 7)], [(1, 0), (-1, 3)]], [[(1, 6), (-1, 10)], [(-1, 6), (1, 10)], [(-27, 0), (1, 7)], [(27, 0), (-1, 7)], [(1, 0), (1, 1), (-1, 2), (-1, 3), (1, 8)], [(-1, 0), (-1, 1), (1, 2), (1, 3), (-1, 8)], [(1, 1)], [(23, 0), (-1, 1)], [(1, 2)], [(23, 0), (-1, 2)], [(-2, 0), (1, 3)], [(1, 10)], [(23, 0), (-1, 10)]], [[(2, 0), (1, 6)], [(-2, 0), (-1, 6)], [(-27, 0), (1, 7)], [(27, 0), (-1, 7)], [(1, 0), (1, 1), (-1, 2), (-1, 3), (1, 8)], [(-1, 0), (-1, 1), (1, 2), (1, 3), (-1, 8)], [(1, 1)], [(23, 0), (-1, 1)], [(1, 2)], [(23, 0), (-1, 2)], [(-2, 0), (1, 3)], [(1, 0), (1, 10)], [(-1, 0), (-1, 10)]]] : List (List qF)) := hal
  simp only [List.mem_cons, List.not_mem_nil, or_false] at hal
  rcases hal with rfl | rfl | rfl | rfl | rfl | rfl | rfl
  · exact Or.inl ⟨hf [(1, 0), (1, 6)] (List.mem_of_getElem? (i := 0) rfl), hf [(-1, 0), (-1, 6)] (List.mem_of_getElem? (i := 1) rfl), hf [(1, 7)] (List.mem_of_getElem? (i := 2) rfl), hf [(-1, 7)] (List.mem_of_getElem? (i := 3) rfl), hf [(-1, 0), (-1, 1)] (List.mem_of_getElem? (i := 4) rfl)⟩
  · exact Or.inr (Or.inl ⟨hf [(1, 0), (1, 6)] (List.mem_of_getElem? (i := 0) rfl), hf [(-1, 0), (-1, 6)] (List.mem_of_getElem? (i := 1) rfl), hf [(1, 7)] (List.mem_of_getElem? (i := 2) rfl), hf [(-1, 7)] (List.mem_of_getElem? (i := 3) rfl), hf [(-24, 0), (1, 1)] (List.mem_of_getElem? (i := 4) rfl)⟩)
  · exact Or.inr (Or.inr (Or.inl ⟨hf [(1, 0), (1, 6)] (List.mem_of_getElem? (i := 0) rfl), hf [(-1, 0), (-1, 6)] (List.mem_of_getElem? (i := 1) rfl), hf [(1, 7)] (List.mem_of_getElem? (i := 2) rfl), hf [(-1, 7)] (List.mem_of_getElem? (i := 3) rfl), hf [(-1, 0), (-1, 2)] (List.mem_of_getElem? (i := 4) rfl)⟩))
  · exact Or.inr (Or.inr (Or.inr (Or.inl ⟨hf [(1, 0), (1, 6)] (List.mem_of_getElem? (i := 0) rfl), hf [(-1, 0), (-1, 6)] (List.mem_of_getElem? (i := 1) rfl), hf [(1, 7)] (List.mem_of_getElem? (i := 2) rfl), hf [(-1, 7)] (List.mem_of_getElem? (i := 3) rfl), hf [(-24, 0), (1, 2)] (List.mem_of_getElem? (i := 4) rfl)⟩)))
  · exact Or.inr (Or.inr (Or.inr (Or.inr (Or.inl ⟨hf [(1, 0), (1, 6)] (List.mem_of_getElem? (i := 0) rfl), hf [(-1, 0), (-1, 6)] (List.mem_of_getElem? (i := 1) rfl), hf [(1, 7)] (List.mem_of_getElem? (i := 2) rfl), hf [(-1, 7)] (List.mem_of_getElem? (i := 3) rfl), hf [(1, 0), (-1, 3)] (List.mem_of_getElem? (i := 4) rfl)⟩))))
  · exact Or.inr (Or.inr (Or.inr (Or.inr (Or.inr (Or.inl ⟨hf [(1, 6), (-1, 10)] (List.mem_of_getElem? (i := 0) rfl), hf [(-1, 6), (1, 10)] (List.mem_of_getElem? (i := 1) rfl), hf [(-27, 0), (1, 7)] (List.mem_of_getElem? (i := 2) rfl), hf [(27, 0), (-1, 7)] (List.mem_of_getElem? (i := 3) rfl), hf [(1, 0), (1, 1), (-1, 2), (-1, 3), (1, 8)] (List.mem_of_getElem? (i := 4) rfl), hf [(-1, 0), (-1, 1), (1, 2), (1, 3), (-1, 8)] (List.mem_of_getElem? (i := 5) rfl), hf [(1, 1)] (List.mem_of_getElem? (i := 6) rfl), hf [(23, 0), (-1, 1)] (List.mem_of_getElem? (i := 7) rfl), hf [(1, 2)] (List.mem_of_getElem? (i := 8) rfl), hf [(23, 0), (-1, 2)] (List.mem_of_getElem? (i := 9) rfl), hf [(-2, 0), (1, 3)] (List.mem_of_getElem? (i := 10) rfl), hf [(1, 10)] (List.mem_of_getElem? (i := 11) rfl), hf [(23, 0), (-1, 10)] (List.mem_of_getElem? (i := 12) rfl)⟩)))))
  · exact Or.inr (Or.inr (Or.inr (Or.inr (Or.inr (Or.inr (⟨hf [(2, 0), (1, 6)] (List.mem_of_getElem? (i := 0) rfl), hf [(-2, 0), (-1, 6)] (List.mem_of_getElem? (i := 1) rfl), hf [(-27, 0), (1, 7)] (List.mem_of_getElem? (i := 2) rfl), hf [(27, 0), (-1, 7)] (List.mem_of_getElem? (i := 3) rfl), hf [(1, 0), (1, 1), (-1, 2), (-1, 3), (1, 8)] (List.mem_of_getElem? (i := 4) rfl), hf [(-1, 0), (-1, 1), (1, 2), (1, 3), (-1, 8)] (List.mem_of_getElem? (i := 5) rfl), hf [(1, 1)] (List.mem_of_getElem? (i := 6) rfl), hf [(23, 0), (-1, 1)] (List.mem_of_getElem? (i := 7) rfl), hf [(1, 2)] (List.mem_of_getElem? (i := 8) rfl), hf [(23, 0), (-1, 2)] (List.mem_of_getElem? (i := 9) rfl), hf [(-2, 0), (1, 3)] (List.mem_of_getElem? (i := 10) rfl), hf [(1, 0), (1, 10)] (List.mem_of_getElem? (i := 11) rfl), hf [(-1, 0), (-1, 10)] (List.mem_of_getElem? (i := 12) rfl)⟩))))))
theorem up_258 {ρ : Nat → Int} {M M' : sM} {rv : Option sV} (h : qPost kc_258 ρ M rv M') : ∃ ρ' : Nat → Int, (∀ a, a < 6 → ρ' a = ρ a) ∧ rv = qRv 0 (ρ' 6) ∧ (M' 4 350 = ρ' 7 ∧ M' 4 380 = ρ' 8 ∧ M' 4 381 = ρ' 9 ∧ M' 4 382 = ρ' 10 ∧ M' 0 900 = ρ' 11) ∧ ((0 ≤ 1 * ρ' 0 + (1 * ρ' 6 + 0) ∧ 0 ≤ -1 * ρ' 0 + (-1 * ρ' 6 + 0) ∧ 0 ≤ 1 * ρ' 7 + 0 ∧ 0 ≤ -1 * ρ' 7 + 0 ∧ 0 ≤ -1 * ρ' 0 + (-1 * ρ' 1 + 0)) ∨ (0 ≤ 1 * ρ' 0 + (1 * ρ' 6 + 0) ∧ 0 ≤ -1 * ρ' 0 + (-1 * ρ' 6 + 0) ∧ 0 ≤ 1 * ρ' 7 + 0 ∧ 0 ≤ -1 * ρ' 7 + 0 ∧ 0 ≤ -24 * ρ' 0 + (1 * ρ' 1 + 0)) ∨ (0 ≤ 1 * ρ' 0 + (1 * ρ' 6 + 0) ∧ 0 ≤ -1 * ρ' 0 + (-1 * ρ' 6 + 0) ∧ 0 ≤ 1 * ρ' 7 + 0 ∧ 0 ≤ -1 * ρ' 7 + 0 ∧ 0 ≤ -1 * ρ' 0 + (-1 * ρ' 2 + 0)) ∨ (0 ≤ 1 * ρ' 0 + (1 * ρ' 6 + 0) ∧ 0 ≤ -1 * ρ' 0 + (-1 * ρ' 6 + 0) ∧ 0 ≤ 1 * ρ' 7 + 0 ∧ 0 ≤ -1 * ρ' 7 + 0 ∧ 0 ≤ -24 * ρ' 0 + (1 * ρ' 2 + 0)) ∨ (0 ≤ 1 * ρ' 0 + (1 * ρ' 6 + 0) ∧ 0 ≤ -1 * ρ' 0 + (-1 * ρ' 6 + 0) ∧ 0 ≤ 1 * ρ' 7 + 0 ∧ 0 ≤ -1 * ρ' 7 + 0 ∧ 0 ≤ 1 * ρ' 0 + (-1 * ρ' 3 + 0)) ∨ (0 ≤ 1 * ρ' 6 + (-1 * ρ' 10 + 0) ∧ 0 ≤ -1 * ρ' 6 + (1 * ρ' 10 + 0) ∧ 0 ≤ -27 * ρ' 0 + (1 * ρ' 7 + 0) ∧ 0 ≤ 27 * ρ' 0 + (-1 * ρ' 7 + 0) ∧ 0 ≤ 1 * ρ' 0 + (1 * ρ' 1 + (-1 * ρ' 2 + (-1 * ρ' 3 + (1 * ρ' 8 + 0)))) ∧ 0 ≤ -1 * ρ' 0 + (-1 * ρ' 1 + (1 * ρ' 2 + (1 * ρ' 3 + (-1 * ρ' 8 + 0)))) ∧ 0 ≤ 1 * ρ' 1 + 0 ∧ 0 ≤ 23 * ρ' 0 + (-1 * ρ' 1 + 0) ∧ 0 ≤ 1 * ρ' 2 + 0 ∧ 0 ≤ 23 * ρ' 0 + (-1 * ρ' 2 + 0) ∧ 0 ≤ -2 * ρ' 0 + (1 * ρ' 3 + 0) ∧ 0 ≤ 1 * ρ' 10 + 0 ∧ 0 ≤ 23 * ρ' 0 + (-1 * ρ' 10 + 0)) ∨ (0 ≤ 2 * ρ' 0 + (1 * ρ' 6 + 0) ∧ 0 ≤ -2 * ρ' 0 + (-1 * ρ' 6 + 0) ∧ 0 ≤ -27 * ρ' 0 + (1 * ρ' 7 + 0) ∧ 0 ≤ 27 * ρ' 0 + (-1 * ρ' 7 + 0) ∧ 0 ≤ 1 * ρ' 0 + (1 * ρ' 1 + (-1 * ρ' 2 + (-1 * ρ' 3 + (1 * ρ' 8 + 0)))) ∧ 0 ≤ -1 * ρ' 0 + (-1 * ρ' 1 + (1 * ρ' 2 + (1 * ρ' 3 + (-1 * ρ' 8 + 0)))) ∧ 0 ≤ 1 * ρ' 1 + 0 ∧ 0 ≤ 23 * ρ' 0 + (-1 * ρ' 1 + 0) ∧ 0 ≤ 1 * ρ' 2 + 0 ∧ 0 ≤ 23 * ρ' 0 + (-1 * ρ' 2 + 0) ∧ 0 ≤ -2 * ρ' 0 + (1 * ρ' 3 + 0) ∧ 0 ≤ 1 * ρ' 0 + (1 * ρ' 10 + 0) ∧ 0 ≤ -1 * ρ' 0 + (-1 * ρ' 10 + 0))) ∧ sI M' ∧ sF (cS kc_258) M M' := by
  obtain ⟨ρ', h1, h2, ⟨al, hal, hf⟩, h3, h4, h5⟩ := h
  refine ⟨ρ', h1, h2, ⟨h3 (4, 350, 7) (List.mem_of_getElem? (i := 0) rfl), h3 (4, 380, 8) (List.mem_of_getElem? (i := 1) rfl), h3 (4, 381, 9) (List.mem_of_getElem? (i := 2) rfl), h3 (4, 382, 10) (List.mem_of_getElem? (i := 3) rfl), h3 (0, 900, 11) (List.mem_of_getElem? (i := 4) rfl)⟩, ?_, h4, h5⟩
  have hal : al ∈ ([[[(1, 0), (1, 6)], [(-1, 0), (-1, 6)], [(1, 7)], [(-1, 7)], [(-1, 0), (-1, 1)]], [[(1, 0), (1, 6)], [(-1, 0), (-1, 6)], [(1, 7)], [(-1, 7)], [(-24, 0), (1, 1)]], [[(1, 0), (1, 6)], [(-1, 0), (-1, 6)], [(1, 7)], [(-1, 7)], [(-1, 0), (-1, 2)]], [[(1, 0), (1, 6)], [(-1, 0), (-1, 6)], [(1, 7)], [(-1, 7)], [(-24, 0), (1, 2)]], [[(1, 0), (1, 6)], [(-1, 0), (-1, 6)], [(1, 7)], [(-1, 7)], [(1, 0), (-1, 3)]], [[(1, 6), (-1, 10)], [(-1, 6), (1, 10)], [(-27, 0), (1, 7)], [(27, 0), (-1, 7)], [(1, 0), (1, 1), (-1, 2), (-1, 3), (1, 8)], [(-1, 0), (-1, 1), (1, 2), (1, 3), (-1, 8)], [(1, 1)], [(23, 0), (-1, 1)], [(1, 2)], [(23, 0), (-1, 2)], [(-2, 0), (1, 3)], [(1, 10)], [(23, 0), (-1, 10)]], [[(2, 0), (1, 6)], [(-2, 0), (-1, 6)], [(-27, 0), (1, 7)], [(27, 0), (-1, 7)], [(1, 0), (1, 1), (-1, 2), (-1, 3), (1, 8)], [(-1, 0), (-1, 1), (1, 2), (1, 3), (-1, 8)], [(1, 1)], [(23, 0), (-1, 1)], [(1, 2)], [(23, 0), (-1, 2)], [(-2, 0), (1, 3)], [(1, 0), (1, 10)], [(-1, 0), (-1, 10)]]] : List (List qF)) := hal
  simp only [List.mem_cons, List.not_mem_nil, or_false] at hal
  rcases hal with rfl | rfl | rfl | rfl | rfl | rfl | rfl
  · exact Or.inl ⟨hf [(1, 0), (1, 6)] (List.mem_of_getElem? (i := 0) rfl), hf [(-1, 0), (-1, 6)] (List.mem_of_getElem? (i := 1) rfl), hf [(1, 7)] (List.mem_of_getElem? (i := 2) rfl), hf [(-1, 7)] (List.mem_of_getElem? (i := 3) rfl), hf [(-1, 0), (-1, 1)] (List.mem_of_getElem? (i := 4) rfl)⟩
  · exact Or.inr (Or.inl ⟨hf [(1, 0), (1, 6)] (List.mem_of_getElem? (i := 0) rfl), hf [(-1, 0), (-1, 6)] (List.mem_of_getElem? (i := 1) rfl), hf [(1, 7)] (List.mem_of_getElem? (i := 2) rfl), hf [(-1, 7)] (List.mem_of_getElem? (i := 3) rfl), hf [(-24, 0), (1, 1)] (List.mem_of_getElem? (i := 4) rfl)⟩)
  · exact Or.inr (Or.inr (Or.inl ⟨hf [(1, 0), (1, 6)] (List.mem_of_getElem? (i := 0) rfl), hf [(-1, 0), (-1, 6)] (List.mem_of_getElem? (i := 1) rfl), hf [(1, 7)] (List.mem_of_getElem? (i := 2) rfl), hf [(-1, 7)] (List.mem_of_getElem? (i := 3) rfl), hf [(-1, 0), (-1, 2)] (List.mem_of_getElem? (i := 4) rfl)⟩))
  · exact Or.inr (Or.inr (Or.inr (Or.inl ⟨hf [(1, 0), (1, 6)] (List.mem_of_getElem? (i := 0) rfl), hf [(-1, 0), (-1, 6)] (List.mem_of_getElem? (i := 1) rfl), hf [(1, 7)] (List.mem_of_getElem? (i := 2) rfl), hf [(-1, 7)] (List.mem_of_getElem? (i := 3) rfl), hf [(-24, 0), (1, 2)] (List.mem_of_getElem? (i := 4) rfl)⟩)))
  · exact Or.inr (Or.inr (Or.inr (Or.inr (Or.inl ⟨hf [(1, 0), (1, 6)] (List.mem_of_getElem? (i := 0) rfl), hf [(-1, 0), (-1, 6)] (List.mem_of_getElem? (i := 1) rfl), hf [(1, 7)] (List.mem_of_getElem? (i := 2) rfl), hf [(-1, 7)] (List.mem_of_getElem? (i := 3) rfl), hf [(1, 0), (-1, 3)] (List.mem_of_getElem? (i := 4) rfl)⟩))))
  · exact Or.inr (Or.inr (Or.inr (Or.inr (Or.inr (Or.inl ⟨hf [(1, 6), (-1, 10)] (List.mem_of_getElem? (i := 0) rfl), hf [(-1, 6), (1, 10)] (List.mem_of_getElem? (i := 1) rfl), hf [(-27, 0), (1, 7)] (List.mem_of_getElem? (i := 2) rfl), hf [(27, 0), (-1, 7)] (List.mem_of_getElem? (i := 3) rfl), hf [(1, 0), (1, 1), (-1, 2), (-1, 3), (1, 8)] (List.mem_of_getElem? (i := 4) rfl), hf [(-1, 0), (-1, 1), (1, 2), (1, 3), (-1, 8)] (List.mem_of_getElem? (i := 5) rfl), hf [(1, 1)] (List.mem_of_getElem? (i := 6) rfl), hf [(23, 0), (-1, 1)] (List.mem_of_getElem? (i := 7) rfl), hf [(1, 2)] (List.mem_of_getElem? (i := 8) rfl), hf [(23, 0), (-1, 2)] (List.mem_of_getElem? (i := 9) rfl), hf [(-2, 0), (1, 3)] (List.mem_of_getElem? (i := 10) rfl), hf [(1, 10)] (List.mem_of_getElem? (i := 11) rfl), hf [(23, 0), (-1, 10)] (List.mem_of_getElem? (i := 12) rfl)⟩)))))
  · exact Or.inr (Or.inr (Or.inr (Or.inr (Or.inr (Or.inr (⟨hf [(2, 0), (1, 6)] (List.mem_of_getElem? (i := 0) rfl), hf [(-2, 0), (-1, 6)] (List.mem_of_getElem? (i := 1) rfl), hf [(-27, 0), (1, 7)] (List.mem_of_getElem? (i := 2) rfl), hf [(27, 0), (-1, 7)] (List.mem_of_getElem? (i := 3) rfl), hf [(1, 0), (1, 1), (-1, 2), (-1, 3), (1, 8)] (List.mem_of_getElem? (i := 4) rfl), hf [(-1, 0), (-1, 1), (1, 2), (1, 3), (-1, 8)] (List.mem_of_getElem? (i := 5) rfl), hf [(1, 1)] (List.mem_of_getElem? (i := 6) rfl), hf [(23, 0), (-1, 1)] (List.mem_of_getElem? (i := 7) rfl), hf [(1, 2)] (List.mem_of_getElem? (i := 8) rfl), hf [(23, 0), (-1, 2)] (List.mem_of_getElem? (i := 9) rfl), hf [(-2, 0), (1, 3)] (List.mem_of_getElem? (i := 10) rfl), hf [(1, 0), (1, 10)] (List.mem_of_getElem? (i := 11) rfl), hf [(-1, 0), (-1, 10)] (List.mem_of_getElem? (i := 12) rfl)⟩))))))
theorem up_r666 {ρ : Nat → Int} {M M' : sM} {rv : Option sV} (h : qPost kc_r666 ρ M rv M') : ∃ ρ' : Nat → Int, (∀ a, a < 4 → ρ' a = ρ a) ∧ rv = qRv 0 (ρ' 4) ∧ (True) ∧ ((0 ≤ 1 * ρ' 0 + (1 * ρ' 4 + 0) ∧ 0 ≤ -1 * ρ' 0 + (-1 * ρ' 4 + 0))) ∧ sI M' ∧ sF (cS kc_r666) M M' := by
  obtain ⟨ρ', h1, h2, ⟨al, hal, hf⟩, h3, h4, h5⟩ := h
  refine ⟨ρ', h1, h2, trivial, ?_, h4, h5⟩
  have hal : al ∈ ([[[(1, 0), (1, 4)], [(-1, 0), (-1, 4)]]] : List (List qF)) := hal
  simp only [List.mem_cons, List.not_mem_nil, or_false] at hal
  rcases hal with rfl
  · exact ⟨hf [(1, 0), (1, 4)] (List.mem_of_getElem? (i := 0) rfl), hf [(-1, 0), (-1, 4)] (List.mem_of_getElem? (i := 1) rfl)⟩
theorem up_r667 {ρ : Nat → Int} {M M' : sM} {rv : Option sV} (h : qPost kc_r667 ρ M rv M') : ∃ ρ' : Nat → Int, (∀ a, a < 4 → ρ' a = ρ a) ∧ rv = qRv 0 (ρ' 4) ∧ (True) ∧ ((0 ≤ 1 * ρ' 0 + (1 * ρ' 4 + 0) ∧ 0 ≤ -1 * ρ' 0 + (-1 * ρ' 4 + 0))) ∧ sI M' ∧ sF (cS kc_r667) M M' := by
  obtain ⟨ρ', h1, h2, ⟨al, hal, hf⟩, h3, h4, h5⟩ := h
  refine ⟨ρ', h1, h2, trivial, ?_, h4, h5⟩
  have hal : al ∈ ([[[(1, 0), (1, 4)], [(-1, 0), (-1, 4)]]] : List (List qF)) := hal
  simp only [List.mem_cons, List.not_mem_nil, or_false] at hal
  rcases hal with rfl
  · exact ⟨hf [(1, 0), (1, 4)] (List.mem_of_getElem? (i := 0) rfl), hf [(-1, 0), (-1, 4)] (List.mem_of_getElem? (i := 1) rfl)⟩
theorem up_r668 {ρ : Nat → Int} {M M' : sM} {rv : Option sV} (h : qPost kc_r668 ρ M rv M') : ∃ ρ' : Nat → Int, (∀ a, a < 4 → ρ' a = ρ a) ∧ rv = qRv 0 (ρ' 4) ∧ (True) ∧ ((0 ≤ 1 * ρ' 0 + (1 * ρ' 4 + 0) ∧ 0 ≤ -1 * ρ' 0 + (-1 * ρ' 4 + 0))) ∧ sI M' ∧ sF (cS kc_r668) M M' := by
  obtain ⟨ρ', h1, h2, ⟨al, hal, hf⟩, h3, h4, h5⟩ := h
  refine ⟨ρ', h1, h2, trivial, ?_, h4, h5⟩
  have hal : al ∈ ([[[(1, 0), (1, 4)], [(-1, 0), (-1, 4)]]] : List (List qF)) := hal
  simp only [List.mem_cons, List.not_mem_nil, or_false] at hal
  rcases hal with rfl
  · exact ⟨hf [(1, 0), (1, 4)] (List.mem_of_getElem? (i := 0) rfl), hf [(-1, 0), (-1, 4)] (List.mem_of_getElem? (i := 1) rfl)⟩
theorem up_r669 {ρ : Nat → Int} {M M' : sM} {rv : Option sV} (h : qPost kc_r669 ρ M rv M') : ∃ ρ' : Nat → Int, (∀ a, a < 4 → ρ' a = ρ a) ∧ rv = qRv 0 (ρ' 4) ∧ (True) ∧ ((0 ≤ 1 * ρ' 0 + (1 * ρ' 4 + 0) ∧ 0 ≤ -1 * ρ' 0 + (-1 * ρ' 4 + 0))) ∧ sI M' ∧ sF (cS kc_r669) M M' := by
  obtain ⟨ρ', h1, h2, ⟨al, hal, hf⟩, h3, h4, h5⟩ := h
  refine ⟨ρ', h1, h2, trivial, ?_, h4, h5⟩
  have hal : al ∈ ([[[(1, 0), (1, 4)], [(-1, 0), (-1, 4)]]] : List (List qF)) := hal
  simp only [List.mem_cons, List.not_mem_nil, or_false] at hal
  rcases hal with rfl
  · exact ⟨hf [(1, 0), (1, 4)] (List.mem_of_getElem? (i := 0) rfl), hf [(-1, 0), (-1, 4)] (List.mem_of_getElem? (i := 1) rfl)⟩
theorem up_r670 {ρ : Nat → Int} {M M' : sM} {rv : Option sV} (h : qPost kc_r670 ρ M rv M') : ∃ ρ' : Nat → Int, (∀ a, a < 4 → ρ' a = ρ a) ∧ rv = qRv 0 (ρ' 4) ∧ (True) ∧ ((0 ≤ 1 * ρ' 0 + (1 * ρ' 4 + 0) ∧ 0 ≤ -1 * ρ' 0 + (-1 * ρ' 4 + 0))) ∧ sI M' ∧ sF (cS kc_r670) M M' := by
  obtain ⟨ρ', h1, h2, ⟨al, hal, hf⟩, h3, h4, h5⟩ := h
  refine ⟨ρ', h1, h2, trivial, ?_, h4, h5⟩
  have hal : al ∈ ([[[(1, 0), (1, 4)], [(-1, 0), (-1, 4)]]] : List (List qF)) := hal
  simp only [List.mem_cons, List.not_mem_nil, or_false] at hal
  rcases hal with rfl
  · exact ⟨hf [(1, 0), (1, 4)] (List.mem_of_getElem? (i := 0) rfl), hf [(-1, 0), (-1, 4)] (List.mem_of_getElem? (i := 1) rfl)⟩
theorem up_r665 {ρ : Nat → Int} {M M' : sM} {rv : Option sV} (h : qPost kc_r665 ρ M rv M') : ∃ ρ' : Nat → Int, (∀ a, a < 6 → ρ' a = ρ a) ∧ rv = qRv 0 (ρ' 6) ∧ (M' 4 350 = 0 ∧ M' 4 381 = ρ' 8 ∧ M' 91 60 = ρ' 9) ∧ ((0 ≤ -1 * ρ' 4 + (1 * ρ' 6 + 0) ∧ 0 ≤ 1 * ρ' 4 + (-1 * ρ' 6 + 0) ∧ (0 : Int) ≤ 0 ∧ (0 : Int) ≤ 0 ∧ 0 ≤ 1 * ρ' 4 + 0) ∨ (0 ≤ 2 * ρ' 0 + (1 * ρ' 6 + 0) ∧ 0 ≤ -2 * ρ' 0 + (-1 * ρ' 6 + 0) ∧ 0 ≤ 1 * ρ' 0 + (1 * ρ' 4 + 0) ∧ 0 ≤ -1 * ρ' 0 + (-1 * ρ' 4 + 0) ∧ (0 : Int) ≤ 0 ∧ (0 : Int) ≤ 0)) ∧ sI M' ∧ sF (cS kc_r665) M M' := by
  obtain ⟨ρ', h1, h2, ⟨al, hal, hf⟩, h3, h4, h5⟩ := h
  refine ⟨ρ', h1, h2, ⟨h3 (4, 350, 100000) (List.mem_of_getElem? (i := 0) rfl), h3 (4, 381, 8) (List.mem_of_getElem? (i := 1) rfl), h3 (91, 60, 9) (List.mem_of_getElem? (i := 2) rfl)⟩, ?_, h4, h5⟩
  have hal : al ∈ ([[[(-1, 4), (1, 6)], [(1, 4), (-1, 6)], [], [], [(1, 4)]], [[(2, 0), (1, 6)], [(-2, 0), (-1, 6)], [(1, 0), (1, 4)], [(-1, 0), (-1, 4)], [], []]] : List (List qF)) := hal
  simp only [List.mem_cons, List.not_mem_nil, or_false] at hal
  rcases hal with rfl | rfl
  · exact Or.inl ⟨hf [(-1, 4), (1, 6)] (List.mem_of_getElem? (i := 0) rfl), hf [(1, 4), (-1, 6)] (List.mem_of_getElem? (i := 1) rfl), hf [] (List.mem_of_getElem? (i := 2) rfl), hf [] (List.mem_of_getElem? (i := 3) rfl), hf [(1, 4)] (List.mem_of_getElem? (i := 4) rfl)⟩
  · exact Or.inr (⟨hf [(2, 0), (1, 6)] (List.mem_of_getElem? (i := 0) rfl), hf [(-2, 0), (-1, 6)] (List.mem_of_getElem? (i := 1) rfl), hf [(1, 0), (1, 4)] (List.mem_of_getElem? (i := 2) rfl), hf [(-1, 0), (-1, 4)] (List.mem_of_getElem? (i := 3) rfl), hf [] (List.mem_of_getElem? (i := 4) rfl), hf [] (List.mem_of_getElem? (i := 5) rfl)⟩)
set_option maxHeartbeats 4000000 in
theorem uo_25 {M : sM} (hM : uG M) (J : pHp) (x1 : Int32) (x2 : Int32) : ∃ (v : Int32) (M1 M2 : sM), pEx 300 135 [.ref 0, .int x1, .int x2] (sHp sLay M ++ J) (some (.int v)) (sHp sLay M1 ++ J) ∧ pEx 300 263 [.ref 91, .int x1, .int x2] (sHp sLay M1 ++ J) (some (.int v)) (sHp sLay M2 ++ J) ∧ uG M2 := by
  obtain ⟨r, hr, hs, hT⟩ := hM
  rcases hr with rfl | rfl
  · have kM_0 : M 0 1 = M 91 2 := hT (0, 1, 91, 2) (List.mem_of_getElem? (i := 0) rfl)
    have kM_1 : M 4 261 = M 0 1 := hT (4, 261, 0, 1) (List.mem_of_getElem? (i := 1) rfl)
    have kM_2 : M 0 2 = M 91 33 := hT (0, 2, 91, 33) (List.mem_of_getElem? (i := 2) rfl)
    have kM_3 : M 0 3 = M 91 34 := hT (0, 3, 91, 34) (List.mem_of_getElem? (i := 3) rfl)
    have kM_4 : M 2 8 = M 93 0 := hT ((2 : Int).toNat, 8, 93, 0) (List.mem_of_getElem? (i := 4) rfl)
    have kM_5 : M 2 9 = M 93 1 := hT ((2 : Int).toNat, 9, 93, 1) (List.mem_of_getElem? (i := 5) rfl)
    have kM_6 : M 2 10 = M 93 2 := hT ((2 : Int).toNat, 10, 93, 2) (List.mem_of_getElem? (i := 6) rfl)
    have kM_7 : M 77 6 = M 91 61 := hT (77, 6, 91, 61) (List.mem_of_getElem? (i := 7) rfl)
    obtain ⟨rv1, N1, e1, p1, q1⟩ := u_runX ko_80 (ks := uKs 2) (ex := [[(1, 3), (-1, 4)], [(-1, 3), (1, 4)]]) (o := 0) (bs := [false, false]) (by decide +kernel) hs.1 hs.2 (as := [x1.toInt, x2.toInt]) ⟨⟨uarg_i _, fun h => nomatch h⟩, ⟨⟨uarg_i _, fun h => nomatch h⟩, trivial⟩⟩ (fun hm f hf => by
        obtain ⟨ρ, hρ⟩ : ∃ ρ, ρ = uRho [x1.toInt, x2.toInt] M (cM kc_80) := ⟨_, rfl⟩
        have o1 : ρ 0 = 1 := by rw [hρ]; rfl
        rw [← hρ] at hm ⊢
        have m3 : M 93 0 = 1 * ρ 3 + 0 := hm (93, 0, [(1, 3)]) (List.mem_of_getElem? (i := 3) rfl)
        have m4 : M 2 8 = 1 * ρ 4 + 0 := hm (2, 8, [(1, 4)]) (List.mem_of_getElem? (i := 4) rfl)
        have hf : f ∈ ([[(1, 3), (-1, 4)], [(-1, 3), (1, 4)]] : List qF) := hf
        simp only [List.mem_cons, List.not_mem_nil, or_false] at hf
        rcases hf with rfl | rfl
        · show 0 ≤ 1 * ρ 3 + (-1 * ρ 4 + 0)
          omega
        · show 0 ≤ -1 * ρ 3 + (1 * ρ 4 + 0)
          omega) J (N := 300) (by decide)
    obtain ⟨ρ1, u1, w1, t1, z1, i1, y1⟩ := up_80 p1
    have o1 : ρ1 0 = 1 := u1 0 (by decide)
    have a1_1 : ρ1 1 = x1.toInt := (u1 1 (by decide)).trans (urho_a (as := [x1.toInt, x2.toInt]) (j := 0) (show (0 : Nat) < 2 from by decide))
    have a1_2 : ρ1 2 = x2.toInt := (u1 2 (by decide)).trans (urho_a (as := [x1.toInt, x2.toInt]) (j := 1) (show (1 : Nat) < 2 from by decide))
    have m1_93_0 : M 93 0 = ρ1 3 := by
      have h := q1 (93, 0, [(1, 3)]) (List.mem_of_getElem? (i := 3) rfl)
      have h : M 93 0 = 1 * uRho [x1.toInt, x2.toInt] M (cM kc_80) 3 + 0 := h
      rw [u1 3 (by decide)]
      omega
    have m1_2_8 : M 2 8 = ρ1 4 := by
      have h := q1 (2, 8, [(1, 4)]) (List.mem_of_getElem? (i := 4) rfl)
      have h : M 2 8 = 1 * uRho [x1.toInt, x2.toInt] M (cM kc_80) 4 + 0 := h
      rw [u1 4 (by decide)]
      omega
    have m1_0_900 : M 0 900 = ρ1 5 := by
      have h := q1 (0, 900, [(1, 5)]) (List.mem_of_getElem? (i := 5) rfl)
      have h : M 0 900 = 1 * uRho [x1.toInt, x2.toInt] M (cM kc_80) 5 + 0 := h
      rw [u1 5 (by decide)]
      omega
    obtain ⟨t1_0, t1_1, t1_2, t1_3, t1_4⟩ := t1
    rw [o1] at z1
    have k1 : ∀ q ∈ uKq 2, N1 q.1 q.2.1 = q.2.2 := ukeepX_ok (ks := uKs 2) (c := kc_80) (by decide +kernel) hs.2 p1
    have b1_0_1 : N1 0 1 = M 0 1 := y1 0 1 (by decide +kernel)
    have b1_0_2 : N1 0 2 = M 0 2 := y1 0 2 (by decide +kernel)
    have b1_0_3 : N1 0 3 = M 0 3 := y1 0 3 (by decide +kernel)
    have b1_2_8 : N1 2 8 = M 2 8 := y1 2 8 (by decide +kernel)
    have b1_2_9 : N1 2 9 = M 2 9 := y1 2 9 (by decide +kernel)
    have b1_2_10 : N1 2 10 = M 2 10 := y1 2 10 (by decide +kernel)
    have b1_4_261 : N1 4 261 = M 4 261 := y1 4 261 (by decide +kernel)
    have b1_4_350 : N1 4 350 = ρ1 7 := t1_0
    have b1_4_380 : N1 4 380 = ρ1 8 := t1_1
    have b1_4_382 : N1 4 382 = ρ1 10 := t1_3
    have b1_77_6 : N1 77 6 = M 77 6 := y1 77 6 (by decide +kernel)
    have b1_91_2 : N1 91 2 = M 91 2 := y1 91 2 (by decide +kernel)
    have b1_91_33 : N1 91 33 = M 91 33 := y1 91 33 (by decide +kernel)
    have b1_91_34 : N1 91 34 = M 91 34 := y1 91 34 (by decide +kernel)
    have b1_91_61 : N1 91 61 = M 91 61 := y1 91 61 (by decide +kernel)
    have b1_93_0 : N1 93 0 = M 93 0 := y1 93 0 (by decide +kernel)
    have b1_93_1 : N1 93 1 = M 93 1 := y1 93 1 (by decide +kernel)
    have b1_93_2 : N1 93 2 = M 93 2 := y1 93 2 (by decide +kernel)
    rcases z1 with z1 | z1 | z1 | z1 | z1 | z1 | z1
    · have v1 : N1 4 350 = 0 := by omega
      obtain ⟨rv2, N2, e2, p2, q2⟩ := u_runX ko_r666 (ks := uKq 2 ++ [(4, 350, 0)]) (ex := [[(-1, 0), (-1, 1)]]) (o := 91) (bs := [false, false]) (by decide +kernel) i1 (fun q hq => by rcases List.mem_append.mp hq with hq | hq; exact k1 q hq; rw [List.mem_singleton] at hq; rw [hq]; exact v1) (as := [x1.toInt, x2.toInt]) ⟨⟨uarg_i _, fun h => nomatch h⟩, ⟨⟨uarg_i _, fun h => nomatch h⟩, trivial⟩⟩ (fun hm f hf => by
          obtain ⟨ρ, hρ⟩ : ∃ ρ, ρ = uRho [x1.toInt, x2.toInt] N1 (cM kc_r666) := ⟨_, rfl⟩
          have o1 : ρ 0 = 1 := by rw [hρ]; rfl
          have a1 : ρ 1 = x1.toInt := by rw [hρ]; exact urho_a (as := [x1.toInt, x2.toInt]) (j := 0) (show (0 : Nat) < 2 from by decide)
          rw [← hρ] at hm ⊢
          have hf : f ∈ ([[(-1, 0), (-1, 1)]] : List qF) := hf
          simp only [List.mem_cons, List.not_mem_nil, or_false] at hf
          rcases hf with rfl
          · show 0 ≤ -1 * ρ 0 + (-1 * ρ 1 + 0)
            omega) J (N := 300) (by decide)
      obtain ⟨ρ2, u2, w2, t2, z2, i2, y2⟩ := up_r666 p2
      have o2 : ρ2 0 = 1 := u2 0 (by decide)
      have a2_1 : ρ2 1 = x1.toInt := (u2 1 (by decide)).trans (urho_a (as := [x1.toInt, x2.toInt]) (j := 0) (show (0 : Nat) < 2 from by decide))
      have a2_2 : ρ2 2 = x2.toInt := (u2 2 (by decide)).trans (urho_a (as := [x1.toInt, x2.toInt]) (j := 1) (show (1 : Nat) < 2 from by decide))
      have m2_93_0 : N1 93 0 = ρ2 3 := by
        have h := q2 (93, 0, [(1, 3)]) (List.mem_of_getElem? (i := 1) rfl)
        have h : N1 93 0 = 1 * uRho [x1.toInt, x2.toInt] N1 (cM kc_r666) 3 + 0 := h
        rw [u2 3 (by decide)]
        omega
      rw [o2] at z2
      have s2 : uSt 2 N2 := ⟨i2, ukeepX_ok (ks := uKq 2 ++ [(4, 350, 0)]) (c := kc_r666) (by decide +kernel) (fun q hq => by rcases List.mem_append.mp hq with hq | hq; exact k1 q hq; rw [List.mem_singleton] at hq; rw [hq]; exact v1) p2⟩
      have b2_0_1 : N2 0 1 = N1 0 1 := y2 0 1 (by decide +kernel)
      have b2_0_2 : N2 0 2 = N1 0 2 := y2 0 2 (by decide +kernel)
      have b2_0_3 : N2 0 3 = N1 0 3 := y2 0 3 (by decide +kernel)
      have b2_2_8 : N2 2 8 = N1 2 8 := y2 2 8 (by decide +kernel)
      have b2_2_9 : N2 2 9 = N1 2 9 := y2 2 9 (by decide +kernel)
      have b2_2_10 : N2 2 10 = N1 2 10 := y2 2 10 (by decide +kernel)
      have b2_4_261 : N2 4 261 = N1 4 261 := y2 4 261 (by decide +kernel)
      have b2_77_6 : N2 77 6 = N1 77 6 := y2 77 6 (by decide +kernel)
      have b2_91_2 : N2 91 2 = N1 91 2 := y2 91 2 (by decide +kernel)
      have b2_91_33 : N2 91 33 = N1 91 33 := y2 91 33 (by decide +kernel)
      have b2_91_34 : N2 91 34 = N1 91 34 := y2 91 34 (by decide +kernel)
      have b2_91_61 : N2 91 61 = N1 91 61 := y2 91 61 (by decide +kernel)
      have b2_93_0 : N2 93 0 = N1 93 0 := y2 93 0 (by decide +kernel)
      have b2_93_1 : N2 93 1 = N1 93 1 := y2 93 1 (by decide +kernel)
      have b2_93_2 : N2 93 2 = N1 93 2 := y2 93 2 (by decide +kernel)
      have hv : ρ2 4 = ρ1 6 := by omega
      clear z1 z2
      rw [w1] at e1
      rw [w2, hv] at e2
      simp only [List.map_cons, List.map_nil, i32_of] at e1 e2
      exact ⟨Int32.ofInt (ρ1 6), N1, N2, e1, e2, 2, Or.inl rfl, s2, (fun q hq => by
        have hq : q ∈ ([(0, 1, 91, 2), (4, 261, 0, 1), (0, 2, 91, 33), (0, 3, 91, 34), (2, 8, 93, 0), (2, 9, 93, 1), (2, 10, 93, 2), (77, 6, 91, 61)] : List (Nat × Nat × Nat × Nat)) := hq
        simp only [List.mem_cons, List.not_mem_nil, or_false] at hq
        rcases hq with rfl | rfl | rfl | rfl | rfl | rfl | rfl | rfl
        · exact (show N2 0 1 = N2 91 2 by omega)
        · exact (show N2 4 261 = N2 0 1 by omega)
        · exact (show N2 0 2 = N2 91 33 by omega)
        · exact (show N2 0 3 = N2 91 34 by omega)
        · exact (show N2 2 8 = N2 93 0 by omega)
        · exact (show N2 2 9 = N2 93 1 by omega)
        · exact (show N2 2 10 = N2 93 2 by omega)
        · exact (show N2 77 6 = N2 91 61 by omega))⟩
    · have v1 : N1 4 350 = 0 := by omega
      obtain ⟨rv2, N2, e2, p2, q2⟩ := u_runX ko_r667 (ks := uKq 2 ++ [(4, 350, 0)]) (ex := [[(-24, 0), (1, 1)]]) (o := 91) (bs := [false, false]) (by decide +kernel) i1 (fun q hq => by rcases List.mem_append.mp hq with hq | hq; exact k1 q hq; rw [List.mem_singleton] at hq; rw [hq]; exact v1) (as := [x1.toInt, x2.toInt]) ⟨⟨uarg_i _, fun h => nomatch h⟩, ⟨⟨uarg_i _, fun h => nomatch h⟩, trivial⟩⟩ (fun hm f hf => by
          obtain ⟨ρ, hρ⟩ : ∃ ρ, ρ = uRho [x1.toInt, x2.toInt] N1 (cM kc_r667) := ⟨_, rfl⟩
          have o1 : ρ 0 = 1 := by rw [hρ]; rfl
          have a1 : ρ 1 = x1.toInt := by rw [hρ]; exact urho_a (as := [x1.toInt, x2.toInt]) (j := 0) (show (0 : Nat) < 2 from by decide)
          rw [← hρ] at hm ⊢
          have hf : f ∈ ([[(-24, 0), (1, 1)]] : List qF) := hf
          simp only [List.mem_cons, List.not_mem_nil, or_false] at hf
          rcases hf with rfl
          · show 0 ≤ -24 * ρ 0 + (1 * ρ 1 + 0)
            omega) J (N := 300) (by decide)
      obtain ⟨ρ2, u2, w2, t2, z2, i2, y2⟩ := up_r667 p2
      have o2 : ρ2 0 = 1 := u2 0 (by decide)
      have a2_1 : ρ2 1 = x1.toInt := (u2 1 (by decide)).trans (urho_a (as := [x1.toInt, x2.toInt]) (j := 0) (show (0 : Nat) < 2 from by decide))
      have a2_2 : ρ2 2 = x2.toInt := (u2 2 (by decide)).trans (urho_a (as := [x1.toInt, x2.toInt]) (j := 1) (show (1 : Nat) < 2 from by decide))
      have m2_93_0 : N1 93 0 = ρ2 3 := by
        have h := q2 (93, 0, [(1, 3)]) (List.mem_of_getElem? (i := 1) rfl)
        have h : N1 93 0 = 1 * uRho [x1.toInt, x2.toInt] N1 (cM kc_r667) 3 + 0 := h
        rw [u2 3 (by decide)]
        omega
      rw [o2] at z2
      have s2 : uSt 2 N2 := ⟨i2, ukeepX_ok (ks := uKq 2 ++ [(4, 350, 0)]) (c := kc_r667) (by decide +kernel) (fun q hq => by rcases List.mem_append.mp hq with hq | hq; exact k1 q hq; rw [List.mem_singleton] at hq; rw [hq]; exact v1) p2⟩
      have b2_0_1 : N2 0 1 = N1 0 1 := y2 0 1 (by decide +kernel)
      have b2_0_2 : N2 0 2 = N1 0 2 := y2 0 2 (by decide +kernel)
      have b2_0_3 : N2 0 3 = N1 0 3 := y2 0 3 (by decide +kernel)
      have b2_2_8 : N2 2 8 = N1 2 8 := y2 2 8 (by decide +kernel)
      have b2_2_9 : N2 2 9 = N1 2 9 := y2 2 9 (by decide +kernel)
      have b2_2_10 : N2 2 10 = N1 2 10 := y2 2 10 (by decide +kernel)
      have b2_4_261 : N2 4 261 = N1 4 261 := y2 4 261 (by decide +kernel)
      have b2_77_6 : N2 77 6 = N1 77 6 := y2 77 6 (by decide +kernel)
      have b2_91_2 : N2 91 2 = N1 91 2 := y2 91 2 (by decide +kernel)
      have b2_91_33 : N2 91 33 = N1 91 33 := y2 91 33 (by decide +kernel)
      have b2_91_34 : N2 91 34 = N1 91 34 := y2 91 34 (by decide +kernel)
      have b2_91_61 : N2 91 61 = N1 91 61 := y2 91 61 (by decide +kernel)
      have b2_93_0 : N2 93 0 = N1 93 0 := y2 93 0 (by decide +kernel)
      have b2_93_1 : N2 93 1 = N1 93 1 := y2 93 1 (by decide +kernel)
      have b2_93_2 : N2 93 2 = N1 93 2 := y2 93 2 (by decide +kernel)
      have hv : ρ2 4 = ρ1 6 := by omega
      clear z1 z2
      rw [w1] at e1
      rw [w2, hv] at e2
      simp only [List.map_cons, List.map_nil, i32_of] at e1 e2
      exact ⟨Int32.ofInt (ρ1 6), N1, N2, e1, e2, 2, Or.inl rfl, s2, (fun q hq => by
        have hq : q ∈ ([(0, 1, 91, 2), (4, 261, 0, 1), (0, 2, 91, 33), (0, 3, 91, 34), (2, 8, 93, 0), (2, 9, 93, 1), (2, 10, 93, 2), (77, 6, 91, 61)] : List (Nat × Nat × Nat × Nat)) := hq
        simp only [List.mem_cons, List.not_mem_nil, or_false] at hq
        rcases hq with rfl | rfl | rfl | rfl | rfl | rfl | rfl | rfl
        · exact (show N2 0 1 = N2 91 2 by omega)
        · exact (show N2 4 261 = N2 0 1 by omega)
        · exact (show N2 0 2 = N2 91 33 by omega)
        · exact (show N2 0 3 = N2 91 34 by omega)
        · exact (show N2 2 8 = N2 93 0 by omega)
        · exact (show N2 2 9 = N2 93 1 by omega)
        · exact (show N2 2 10 = N2 93 2 by omega)
        · exact (show N2 77 6 = N2 91 61 by omega))⟩
    · have v1 : N1 4 350 = 0 := by omega
      obtain ⟨rv2, N2, e2, p2, q2⟩ := u_runX ko_r668 (ks := uKq 2 ++ [(4, 350, 0)]) (ex := [[(-1, 0), (-1, 2)]]) (o := 91) (bs := [false, false]) (by decide +kernel) i1 (fun q hq => by rcases List.mem_append.mp hq with hq | hq; exact k1 q hq; rw [List.mem_singleton] at hq; rw [hq]; exact v1) (as := [x1.toInt, x2.toInt]) ⟨⟨uarg_i _, fun h => nomatch h⟩, ⟨⟨uarg_i _, fun h => nomatch h⟩, trivial⟩⟩ (fun hm f hf => by
          obtain ⟨ρ, hρ⟩ : ∃ ρ, ρ = uRho [x1.toInt, x2.toInt] N1 (cM kc_r668) := ⟨_, rfl⟩
          have o1 : ρ 0 = 1 := by rw [hρ]; rfl
          have a2 : ρ 2 = x2.toInt := by rw [hρ]; exact urho_a (as := [x1.toInt, x2.toInt]) (j := 1) (show (1 : Nat) < 2 from by decide)
          rw [← hρ] at hm ⊢
          have hf : f ∈ ([[(-1, 0), (-1, 2)]] : List qF) := hf
          simp only [List.mem_cons, List.not_mem_nil, or_false] at hf
          rcases hf with rfl
          · show 0 ≤ -1 * ρ 0 + (-1 * ρ 2 + 0)
            omega) J (N := 300) (by decide)
      obtain ⟨ρ2, u2, w2, t2, z2, i2, y2⟩ := up_r668 p2
      have o2 : ρ2 0 = 1 := u2 0 (by decide)
      have a2_1 : ρ2 1 = x1.toInt := (u2 1 (by decide)).trans (urho_a (as := [x1.toInt, x2.toInt]) (j := 0) (show (0 : Nat) < 2 from by decide))
      have a2_2 : ρ2 2 = x2.toInt := (u2 2 (by decide)).trans (urho_a (as := [x1.toInt, x2.toInt]) (j := 1) (show (1 : Nat) < 2 from by decide))
      have m2_93_0 : N1 93 0 = ρ2 3 := by
        have h := q2 (93, 0, [(1, 3)]) (List.mem_of_getElem? (i := 1) rfl)
        have h : N1 93 0 = 1 * uRho [x1.toInt, x2.toInt] N1 (cM kc_r668) 3 + 0 := h
        rw [u2 3 (by decide)]
        omega
      rw [o2] at z2
      have s2 : uSt 2 N2 := ⟨i2, ukeepX_ok (ks := uKq 2 ++ [(4, 350, 0)]) (c := kc_r668) (by decide +kernel) (fun q hq => by rcases List.mem_append.mp hq with hq | hq; exact k1 q hq; rw [List.mem_singleton] at hq; rw [hq]; exact v1) p2⟩
      have b2_0_1 : N2 0 1 = N1 0 1 := y2 0 1 (by decide +kernel)
      have b2_0_2 : N2 0 2 = N1 0 2 := y2 0 2 (by decide +kernel)
      have b2_0_3 : N2 0 3 = N1 0 3 := y2 0 3 (by decide +kernel)
      have b2_2_8 : N2 2 8 = N1 2 8 := y2 2 8 (by decide +kernel)
      have b2_2_9 : N2 2 9 = N1 2 9 := y2 2 9 (by decide +kernel)
      have b2_2_10 : N2 2 10 = N1 2 10 := y2 2 10 (by decide +kernel)
      have b2_4_261 : N2 4 261 = N1 4 261 := y2 4 261 (by decide +kernel)
      have b2_77_6 : N2 77 6 = N1 77 6 := y2 77 6 (by decide +kernel)
      have b2_91_2 : N2 91 2 = N1 91 2 := y2 91 2 (by decide +kernel)
      have b2_91_33 : N2 91 33 = N1 91 33 := y2 91 33 (by decide +kernel)
      have b2_91_34 : N2 91 34 = N1 91 34 := y2 91 34 (by decide +kernel)
      have b2_91_61 : N2 91 61 = N1 91 61 := y2 91 61 (by decide +kernel)
      have b2_93_0 : N2 93 0 = N1 93 0 := y2 93 0 (by decide +kernel)
      have b2_93_1 : N2 93 1 = N1 93 1 := y2 93 1 (by decide +kernel)
      have b2_93_2 : N2 93 2 = N1 93 2 := y2 93 2 (by decide +kernel)
      have hv : ρ2 4 = ρ1 6 := by omega
      clear z1 z2
      rw [w1] at e1
      rw [w2, hv] at e2
      simp only [List.map_cons, List.map_nil, i32_of] at e1 e2
      exact ⟨Int32.ofInt (ρ1 6), N1, N2, e1, e2, 2, Or.inl rfl, s2, (fun q hq => by
        have hq : q ∈ ([(0, 1, 91, 2), (4, 261, 0, 1), (0, 2, 91, 33), (0, 3, 91, 34), (2, 8, 93, 0), (2, 9, 93, 1), (2, 10, 93, 2), (77, 6, 91, 61)] : List (Nat × Nat × Nat × Nat)) := hq
        simp only [List.mem_cons, List.not_mem_nil, or_false] at hq
        rcases hq with rfl | rfl | rfl | rfl | rfl | rfl | rfl | rfl
        · exact (show N2 0 1 = N2 91 2 by omega)
        · exact (show N2 4 261 = N2 0 1 by omega)
        · exact (show N2 0 2 = N2 91 33 by omega)
        · exact (show N2 0 3 = N2 91 34 by omega)
        · exact (show N2 2 8 = N2 93 0 by omega)
        · exact (show N2 2 9 = N2 93 1 by omega)
        · exact (show N2 2 10 = N2 93 2 by omega)
        · exact (show N2 77 6 = N2 91 61 by omega))⟩
    · have v1 : N1 4 350 = 0 := by omega
      obtain ⟨rv2, N2, e2, p2, q2⟩ := u_runX ko_r669 (ks := uKq 2 ++ [(4, 350, 0)]) (ex := [[(-24, 0), (1, 2)]]) (o := 91) (bs := [false, false]) (by decide +kernel) i1 (fun q hq => by rcases List.mem_append.mp hq with hq | hq; exact k1 q hq; rw [List.mem_singleton] at hq; rw [hq]; exact v1) (as := [x1.toInt, x2.toInt]) ⟨⟨uarg_i _, fun h => nomatch h⟩, ⟨⟨uarg_i _, fun h => nomatch h⟩, trivial⟩⟩ (fun hm f hf => by
          obtain ⟨ρ, hρ⟩ : ∃ ρ, ρ = uRho [x1.toInt, x2.toInt] N1 (cM kc_r669) := ⟨_, rfl⟩
          have o1 : ρ 0 = 1 := by rw [hρ]; rfl
          have a2 : ρ 2 = x2.toInt := by rw [hρ]; exact urho_a (as := [x1.toInt, x2.toInt]) (j := 1) (show (1 : Nat) < 2 from by decide)
          rw [← hρ] at hm ⊢
          have hf : f ∈ ([[(-24, 0), (1, 2)]] : List qF) := hf
          simp only [List.mem_cons, List.not_mem_nil, or_false] at hf
          rcases hf with rfl
          · show 0 ≤ -24 * ρ 0 + (1 * ρ 2 + 0)
            omega) J (N := 300) (by decide)
      obtain ⟨ρ2, u2, w2, t2, z2, i2, y2⟩ := up_r669 p2
      have o2 : ρ2 0 = 1 := u2 0 (by decide)
      have a2_1 : ρ2 1 = x1.toInt := (u2 1 (by decide)).trans (urho_a (as := [x1.toInt, x2.toInt]) (j := 0) (show (0 : Nat) < 2 from by decide))
      have a2_2 : ρ2 2 = x2.toInt := (u2 2 (by decide)).trans (urho_a (as := [x1.toInt, x2.toInt]) (j := 1) (show (1 : Nat) < 2 from by decide))
      have m2_93_0 : N1 93 0 = ρ2 3 := by
        have h := q2 (93, 0, [(1, 3)]) (List.mem_of_getElem? (i := 1) rfl)
        have h : N1 93 0 = 1 * uRho [x1.toInt, x2.toInt] N1 (cM kc_r669) 3 + 0 := h
        rw [u2 3 (by decide)]
        omega
      rw [o2] at z2
      have s2 : uSt 2 N2 := ⟨i2, ukeepX_ok (ks := uKq 2 ++ [(4, 350, 0)]) (c := kc_r669) (by decide +kernel) (fun q hq => by rcases List.mem_append.mp hq with hq | hq; exact k1 q hq; rw [List.mem_singleton] at hq; rw [hq]; exact v1) p2⟩
      have b2_0_1 : N2 0 1 = N1 0 1 := y2 0 1 (by decide +kernel)
      have b2_0_2 : N2 0 2 = N1 0 2 := y2 0 2 (by decide +kernel)
      have b2_0_3 : N2 0 3 = N1 0 3 := y2 0 3 (by decide +kernel)
      have b2_2_8 : N2 2 8 = N1 2 8 := y2 2 8 (by decide +kernel)
      have b2_2_9 : N2 2 9 = N1 2 9 := y2 2 9 (by decide +kernel)
      have b2_2_10 : N2 2 10 = N1 2 10 := y2 2 10 (by decide +kernel)
      have b2_4_261 : N2 4 261 = N1 4 261 := y2 4 261 (by decide +kernel)
      have b2_77_6 : N2 77 6 = N1 77 6 := y2 77 6 (by decide +kernel)
      have b2_91_2 : N2 91 2 = N1 91 2 := y2 91 2 (by decide +kernel)
      have b2_91_33 : N2 91 33 = N1 91 33 := y2 91 33 (by decide +kernel)
      have b2_91_34 : N2 91 34 = N1 91 34 := y2 91 34 (by decide +kernel)
      have b2_91_61 : N2 91 61 = N1 91 61 := y2 91 61 (by decide +kernel)
      have b2_93_0 : N2 93 0 = N1 93 0 := y2 93 0 (by decide +kernel)
      have b2_93_1 : N2 93 1 = N1 93 1 := y2 93 1 (by decide +kernel)
      have b2_93_2 : N2 93 2 = N1 93 2 := y2 93 2 (by decide +kernel)
      have hv : ρ2 4 = ρ1 6 := by omega
      clear z1 z2
      rw [w1] at e1
      rw [w2, hv] at e2
      simp only [List.map_cons, List.map_nil, i32_of] at e1 e2
      exact ⟨Int32.ofInt (ρ1 6), N1, N2, e1, e2, 2, Or.inl rfl, s2, (fun q hq => by
        have hq : q ∈ ([(0, 1, 91, 2), (4, 261, 0, 1), (0, 2, 91, 33), (0, 3, 91, 34), (2, 8, 93, 0), (2, 9, 93, 1), (2, 10, 93, 2), (77, 6, 91, 61)] : List (Nat × Nat × Nat × Nat)) := hq
        simp only [List.mem_cons, List.not_mem_nil, or_false] at hq
        rcases hq with rfl | rfl | rfl | rfl | rfl | rfl | rfl | rfl
        · exact (show N2 0 1 = N2 91 2 by omega)
        · exact (show N2 4 261 = N2 0 1 by omega)
        · exact (show N2 0 2 = N2 91 33 by omega)
        · exact (show N2 0 3 = N2 91 34 by omega)
        · exact (show N2 2 8 = N2 93 0 by omega)
        · exact (show N2 2 9 = N2 93 1 by omega)
        · exact (show N2 2 10 = N2 93 2 by omega)
        · exact (show N2 77 6 = N2 91 61 by omega))⟩
    · have v1 : N1 4 350 = 0 := by omega
      obtain ⟨rv2, N2, e2, p2, q2⟩ := u_runX ko_r670 (ks := uKq 2 ++ [(4, 350, 0)]) (ex := [[(1, 0), (-1, 3)]]) (o := 91) (bs := [false, false]) (by decide +kernel) i1 (fun q hq => by rcases List.mem_append.mp hq with hq | hq; exact k1 q hq; rw [List.mem_singleton] at hq; rw [hq]; exact v1) (as := [x1.toInt, x2.toInt]) ⟨⟨uarg_i _, fun h => nomatch h⟩, ⟨⟨uarg_i _, fun h => nomatch h⟩, trivial⟩⟩ (fun hm f hf => by
          obtain ⟨ρ, hρ⟩ : ∃ ρ, ρ = uRho [x1.toInt, x2.toInt] N1 (cM kc_r670) := ⟨_, rfl⟩
          have o1 : ρ 0 = 1 := by rw [hρ]; rfl
          rw [← hρ] at hm ⊢
          have m1 : N1 93 0 = 1 * ρ 3 + 0 := hm (93, 0, [(1, 3)]) (List.mem_of_getElem? (i := 1) rfl)
          have hf : f ∈ ([[(1, 0), (-1, 3)]] : List qF) := hf
          simp only [List.mem_cons, List.not_mem_nil, or_false] at hf
          rcases hf with rfl
          · show 0 ≤ 1 * ρ 0 + (-1 * ρ 3 + 0)
            omega) J (N := 300) (by decide)
      obtain ⟨ρ2, u2, w2, t2, z2, i2, y2⟩ := up_r670 p2
      have o2 : ρ2 0 = 1 := u2 0 (by decide)
      have a2_1 : ρ2 1 = x1.toInt := (u2 1 (by decide)).trans (urho_a (as := [x1.toInt, x2.toInt]) (j := 0) (show (0 : Nat) < 2 from by decide))
      have a2_2 : ρ2 2 = x2.toInt := (u2 2 (by decide)).trans (urho_a (as := [x1.toInt, x2.toInt]) (j := 1) (show (1 : Nat) < 2 from by decide))
      have m2_93_0 : N1 93 0 = ρ2 3 := by
        have h := q2 (93, 0, [(1, 3)]) (List.mem_of_getElem? (i := 1) rfl)
        have h : N1 93 0 = 1 * uRho [x1.toInt, x2.toInt] N1 (cM kc_r670) 3 + 0 := h
        rw [u2 3 (by decide)]
        omega
      rw [o2] at z2
      have s2 : uSt 2 N2 := ⟨i2, ukeepX_ok (ks := uKq 2 ++ [(4, 350, 0)]) (c := kc_r670) (by decide +kernel) (fun q hq => by rcases List.mem_append.mp hq with hq | hq; exact k1 q hq; rw [List.mem_singleton] at hq; rw [hq]; exact v1) p2⟩
      have b2_0_1 : N2 0 1 = N1 0 1 := y2 0 1 (by decide +kernel)
      have b2_0_2 : N2 0 2 = N1 0 2 := y2 0 2 (by decide +kernel)
      have b2_0_3 : N2 0 3 = N1 0 3 := y2 0 3 (by decide +kernel)
      have b2_2_8 : N2 2 8 = N1 2 8 := y2 2 8 (by decide +kernel)
      have b2_2_9 : N2 2 9 = N1 2 9 := y2 2 9 (by decide +kernel)
      have b2_2_10 : N2 2 10 = N1 2 10 := y2 2 10 (by decide +kernel)
      have b2_4_261 : N2 4 261 = N1 4 261 := y2 4 261 (by decide +kernel)
      have b2_77_6 : N2 77 6 = N1 77 6 := y2 77 6 (by decide +kernel)
      have b2_91_2 : N2 91 2 = N1 91 2 := y2 91 2 (by decide +kernel)
      have b2_91_33 : N2 91 33 = N1 91 33 := y2 91 33 (by decide +kernel)
      have b2_91_34 : N2 91 34 = N1 91 34 := y2 91 34 (by decide +kernel)
      have b2_91_61 : N2 91 61 = N1 91 61 := y2 91 61 (by decide +kernel)
      have b2_93_0 : N2 93 0 = N1 93 0 := y2 93 0 (by decide +kernel)
      have b2_93_1 : N2 93 1 = N1 93 1 := y2 93 1 (by decide +kernel)
      have b2_93_2 : N2 93 2 = N1 93 2 := y2 93 2 (by decide +kernel)
      have hv : ρ2 4 = ρ1 6 := by omega
      clear z1 z2
      rw [w1] at e1
      rw [w2, hv] at e2
      simp only [List.map_cons, List.map_nil, i32_of] at e1 e2
      exact ⟨Int32.ofInt (ρ1 6), N1, N2, e1, e2, 2, Or.inl rfl, s2, (fun q hq => by
        have hq : q ∈ ([(0, 1, 91, 2), (4, 261, 0, 1), (0, 2, 91, 33), (0, 3, 91, 34), (2, 8, 93, 0), (2, 9, 93, 1), (2, 10, 93, 2), (77, 6, 91, 61)] : List (Nat × Nat × Nat × Nat)) := hq
        simp only [List.mem_cons, List.not_mem_nil, or_false] at hq
        rcases hq with rfl | rfl | rfl | rfl | rfl | rfl | rfl | rfl
        · exact (show N2 0 1 = N2 91 2 by omega)
        · exact (show N2 4 261 = N2 0 1 by omega)
        · exact (show N2 0 2 = N2 91 33 by omega)
        · exact (show N2 0 3 = N2 91 34 by omega)
        · exact (show N2 2 8 = N2 93 0 by omega)
        · exact (show N2 2 9 = N2 93 1 by omega)
        · exact (show N2 2 10 = N2 93 2 by omega)
        · exact (show N2 77 6 = N2 91 61 by omega))⟩
    · have v1 : N1 4 350 = 27 := by omega
      obtain ⟨rv2, N2, e2, p2, q2⟩ := u_runX ko_r665 (ks := uKq 2 ++ [(4, 350, 27)]) (ex := [[(1, 0), (1, 4)], [(23, 0), (-1, 4)], [(1, 0), (1, 1), (-1, 2), (1, 3), (-1, 5)], [(-1, 0), (-1, 1), (1, 2), (-1, 3), (1, 5)], [(1, 1)], [(23, 0), (-1, 1)], [(1, 2)], [(23, 0), (-1, 2)], [(-2, 0), (1, 5)]]) (o := 91) (bs := [false, false]) (by decide +kernel) i1 (fun q hq => by rcases List.mem_append.mp hq with hq | hq; exact k1 q hq; rw [List.mem_singleton] at hq; rw [hq]; exact v1) (as := [x1.toInt, x2.toInt]) ⟨⟨uarg_i _, fun h => nomatch h⟩, ⟨⟨uarg_i _, fun h => nomatch h⟩, trivial⟩⟩ (fun hm f hf => by
          obtain ⟨ρ, hρ⟩ : ∃ ρ, ρ = uRho [x1.toInt, x2.toInt] N1 (cM kc_r665) := ⟨_, rfl⟩
          have o1 : ρ 0 = 1 := by rw [hρ]; rfl
          have a1 : ρ 1 = x1.toInt := by rw [hρ]; exact urho_a (as := [x1.toInt, x2.toInt]) (j := 0) (show (0 : Nat) < 2 from by decide)
          have a2 : ρ 2 = x2.toInt := by rw [hρ]; exact urho_a (as := [x1.toInt, x2.toInt]) (j := 1) (show (1 : Nat) < 2 from by decide)
          rw [← hρ] at hm ⊢
          have m1 : N1 4 380 = 1 * ρ 3 + 0 := hm (4, 380, [(1, 3)]) (List.mem_of_getElem? (i := 1) rfl)
          have m2 : N1 4 382 = 1 * ρ 4 + 0 := hm (4, 382, [(1, 4)]) (List.mem_of_getElem? (i := 2) rfl)
          have m3 : N1 93 0 = 1 * ρ 5 + 0 := hm (93, 0, [(1, 5)]) (List.mem_of_getElem? (i := 3) rfl)
          have hf : f ∈ ([[(1, 0), (1, 4)], [(23, 0), (-1, 4)], [(1, 0), (1, 1), (-1, 2), (1, 3), (-1, 5)], [(-1, 0), (-1, 1), (1, 2), (-1, 3), (1, 5)], [(1, 1)], [(23, 0), (-1, 1)], [(1, 2)], [(23, 0), (-1, 2)], [(-2, 0), (1, 5)]] : List qF) := hf
          simp only [List.mem_cons, List.not_mem_nil, or_false] at hf
          rcases hf with rfl | rfl | rfl | rfl | rfl | rfl | rfl | rfl | rfl
          · show 0 ≤ 1 * ρ 0 + (1 * ρ 4 + 0)
            omega
          · show 0 ≤ 23 * ρ 0 + (-1 * ρ 4 + 0)
            omega
          · show 0 ≤ 1 * ρ 0 + (1 * ρ 1 + (-1 * ρ 2 + (1 * ρ 3 + (-1 * ρ 5 + 0))))
            omega
          · show 0 ≤ -1 * ρ 0 + (-1 * ρ 1 + (1 * ρ 2 + (-1 * ρ 3 + (1 * ρ 5 + 0))))
            omega
          · show 0 ≤ 1 * ρ 1 + 0
            omega
          · show 0 ≤ 23 * ρ 0 + (-1 * ρ 1 + 0)
            omega
          · show 0 ≤ 1 * ρ 2 + 0
            omega
          · show 0 ≤ 23 * ρ 0 + (-1 * ρ 2 + 0)
            omega
          · show 0 ≤ -2 * ρ 0 + (1 * ρ 5 + 0)
            omega) J (N := 300) (by decide)
      obtain ⟨ρ2, u2, w2, t2, z2, i2, y2⟩ := up_r665 p2
      have o2 : ρ2 0 = 1 := u2 0 (by decide)
      have a2_1 : ρ2 1 = x1.toInt := (u2 1 (by decide)).trans (urho_a (as := [x1.toInt, x2.toInt]) (j := 0) (show (0 : Nat) < 2 from by decide))
      have a2_2 : ρ2 2 = x2.toInt := (u2 2 (by decide)).trans (urho_a (as := [x1.toInt, x2.toInt]) (j := 1) (show (1 : Nat) < 2 from by decide))
      have m2_4_380 : N1 4 380 = ρ2 3 := by
        have h := q2 (4, 380, [(1, 3)]) (List.mem_of_getElem? (i := 1) rfl)
        have h : N1 4 380 = 1 * uRho [x1.toInt, x2.toInt] N1 (cM kc_r665) 3 + 0 := h
        rw [u2 3 (by decide)]
        omega
      have m2_4_382 : N1 4 382 = ρ2 4 := by
        have h := q2 (4, 382, [(1, 4)]) (List.mem_of_getElem? (i := 2) rfl)
        have h : N1 4 382 = 1 * uRho [x1.toInt, x2.toInt] N1 (cM kc_r665) 4 + 0 := h
        rw [u2 4 (by decide)]
        omega
      have m2_93_0 : N1 93 0 = ρ2 5 := by
        have h := q2 (93, 0, [(1, 5)]) (List.mem_of_getElem? (i := 3) rfl)
        have h : N1 93 0 = 1 * uRho [x1.toInt, x2.toInt] N1 (cM kc_r665) 5 + 0 := h
        rw [u2 5 (by decide)]
        omega
      obtain ⟨t2_0, t2_1, t2_2⟩ := t2
      rw [o2] at z2
      have s2 : uSt 2 N2 := ⟨i2, ukeepX_ok (ks := uKq 2 ++ [(4, 350, 27)]) (c := kc_r665) (by decide +kernel) (fun q hq => by rcases List.mem_append.mp hq with hq | hq; exact k1 q hq; rw [List.mem_singleton] at hq; rw [hq]; exact v1) p2⟩
      have b2_0_1 : N2 0 1 = N1 0 1 := y2 0 1 (by decide +kernel)
      have b2_0_2 : N2 0 2 = N1 0 2 := y2 0 2 (by decide +kernel)
      have b2_0_3 : N2 0 3 = N1 0 3 := y2 0 3 (by decide +kernel)
      have b2_2_8 : N2 2 8 = N1 2 8 := y2 2 8 (by decide +kernel)
      have b2_2_9 : N2 2 9 = N1 2 9 := y2 2 9 (by decide +kernel)
      have b2_2_10 : N2 2 10 = N1 2 10 := y2 2 10 (by decide +kernel)
      have b2_4_261 : N2 4 261 = N1 4 261 := y2 4 261 (by decide +kernel)
      have b2_77_6 : N2 77 6 = N1 77 6 := y2 77 6 (by decide +kernel)
      have b2_91_2 : N2 91 2 = N1 91 2 := y2 91 2 (by decide +kernel)
      have b2_91_33 : N2 91 33 = N1 91 33 := y2 91 33 (by decide +kernel)
      have b2_91_34 : N2 91 34 = N1 91 34 := y2 91 34 (by decide +kernel)
      have b2_91_61 : N2 91 61 = N1 91 61 := y2 91 61 (by decide +kernel)
      have b2_93_0 : N2 93 0 = N1 93 0 := y2 93 0 (by decide +kernel)
      have b2_93_1 : N2 93 1 = N1 93 1 := y2 93 1 (by decide +kernel)
      have b2_93_2 : N2 93 2 = N1 93 2 := y2 93 2 (by decide +kernel)
      have hv : ρ2 6 = ρ1 6 := by
        clear hT hs s2 k1 i1 i2 y1 y2 u1 u2 q1 q2 p1 p2
        rcases z2 with z2 | z2 <;> omega
      clear z1 z2
      rw [w1] at e1
      rw [w2, hv] at e2
      simp only [List.map_cons, List.map_nil, i32_of] at e1 e2
      exact ⟨Int32.ofInt (ρ1 6), N1, N2, e1, e2, 2, Or.inl rfl, s2, (fun q hq => by
        have hq : q ∈ ([(0, 1, 91, 2), (4, 261, 0, 1), (0, 2, 91, 33), (0, 3, 91, 34), (2, 8, 93, 0), (2, 9, 93, 1), (2, 10, 93, 2), (77, 6, 91, 61)] : List (Nat × Nat × Nat × Nat)) := hq
        simp only [List.mem_cons, List.not_mem_nil, or_false] at hq
        rcases hq with rfl | rfl | rfl | rfl | rfl | rfl | rfl | rfl
        · exact (show N2 0 1 = N2 91 2 by omega)
        · exact (show N2 4 261 = N2 0 1 by omega)
        · exact (show N2 0 2 = N2 91 33 by omega)
        · exact (show N2 0 3 = N2 91 34 by omega)
        · exact (show N2 2 8 = N2 93 0 by omega)
        · exact (show N2 2 9 = N2 93 1 by omega)
        · exact (show N2 2 10 = N2 93 2 by omega)
        · exact (show N2 77 6 = N2 91 61 by omega))⟩
    · have v1 : N1 4 350 = 27 := by omega
      obtain ⟨rv2, N2, e2, p2, q2⟩ := u_runX ko_r665 (ks := uKq 2 ++ [(4, 350, 27)]) (ex := [[(1, 0), (1, 4)], [(23, 0), (-1, 4)], [(1, 0), (1, 1), (-1, 2), (1, 3), (-1, 5)], [(-1, 0), (-1, 1), (1, 2), (-1, 3), (1, 5)], [(1, 1)], [(23, 0), (-1, 1)], [(1, 2)], [(23, 0), (-1, 2)], [(-2, 0), (1, 5)]]) (o := 91) (bs := [false, false]) (by decide +kernel) i1 (fun q hq => by rcases List.mem_append.mp hq with hq | hq; exact k1 q hq; rw [List.mem_singleton] at hq; rw [hq]; exact v1) (as := [x1.toInt, x2.toInt]) ⟨⟨uarg_i _, fun h => nomatch h⟩, ⟨⟨uarg_i _, fun h => nomatch h⟩, trivial⟩⟩ (fun hm f hf => by
          obtain ⟨ρ, hρ⟩ : ∃ ρ, ρ = uRho [x1.toInt, x2.toInt] N1 (cM kc_r665) := ⟨_, rfl⟩
          have o1 : ρ 0 = 1 := by rw [hρ]; rfl
          have a1 : ρ 1 = x1.toInt := by rw [hρ]; exact urho_a (as := [x1.toInt, x2.toInt]) (j := 0) (show (0 : Nat) < 2 from by decide)
          have a2 : ρ 2 = x2.toInt := by rw [hρ]; exact urho_a (as := [x1.toInt, x2.toInt]) (j := 1) (show (1 : Nat) < 2 from by decide)
          rw [← hρ] at hm ⊢
          have m1 : N1 4 380 = 1 * ρ 3 + 0 := hm (4, 380, [(1, 3)]) (List.mem_of_getElem? (i := 1) rfl)
          have m2 : N1 4 382 = 1 * ρ 4 + 0 := hm (4, 382, [(1, 4)]) (List.mem_of_getElem? (i := 2) rfl)
          have m3 : N1 93 0 = 1 * ρ 5 + 0 := hm (93, 0, [(1, 5)]) (List.mem_of_getElem? (i := 3) rfl)
          have hf : f ∈ ([[(1, 0), (1, 4)], [(23, 0), (-1, 4)], [(1, 0), (1, 1), (-1, 2), (1, 3), (-1, 5)], [(-1, 0), (-1, 1), (1, 2), (-1, 3), (1, 5)], [(1, 1)], [(23, 0), (-1, 1)], [(1, 2)], [(23, 0), (-1, 2)], [(-2, 0), (1, 5)]] : List qF) := hf
          simp only [List.mem_cons, List.not_mem_nil, or_false] at hf
          rcases hf with rfl | rfl | rfl | rfl | rfl | rfl | rfl | rfl | rfl
          · show 0 ≤ 1 * ρ 0 + (1 * ρ 4 + 0)
            omega
          · show 0 ≤ 23 * ρ 0 + (-1 * ρ 4 + 0)
            omega
          · show 0 ≤ 1 * ρ 0 + (1 * ρ 1 + (-1 * ρ 2 + (1 * ρ 3 + (-1 * ρ 5 + 0))))
            omega
          · show 0 ≤ -1 * ρ 0 + (-1 * ρ 1 + (1 * ρ 2 + (-1 * ρ 3 + (1 * ρ 5 + 0))))
            omega
          · show 0 ≤ 1 * ρ 1 + 0
            omega
          · show 0 ≤ 23 * ρ 0 + (-1 * ρ 1 + 0)
            omega
          · show 0 ≤ 1 * ρ 2 + 0
            omega
          · show 0 ≤ 23 * ρ 0 + (-1 * ρ 2 + 0)
            omega
          · show 0 ≤ -2 * ρ 0 + (1 * ρ 5 + 0)
            omega) J (N := 300) (by decide)
      obtain ⟨ρ2, u2, w2, t2, z2, i2, y2⟩ := up_r665 p2
      have o2 : ρ2 0 = 1 := u2 0 (by decide)
      have a2_1 : ρ2 1 = x1.toInt := (u2 1 (by decide)).trans (urho_a (as := [x1.toInt, x2.toInt]) (j := 0) (show (0 : Nat) < 2 from by decide))
      have a2_2 : ρ2 2 = x2.toInt := (u2 2 (by decide)).trans (urho_a (as := [x1.toInt, x2.toInt]) (j := 1) (show (1 : Nat) < 2 from by decide))
      have m2_4_380 : N1 4 380 = ρ2 3 := by
        have h := q2 (4, 380, [(1, 3)]) (List.mem_of_getElem? (i := 1) rfl)
        have h : N1 4 380 = 1 * uRho [x1.toInt, x2.toInt] N1 (cM kc_r665) 3 + 0 := h
        rw [u2 3 (by decide)]
        omega
      have m2_4_382 : N1 4 382 = ρ2 4 := by
        have h := q2 (4, 382, [(1, 4)]) (List.mem_of_getElem? (i := 2) rfl)
        have h : N1 4 382 = 1 * uRho [x1.toInt, x2.toInt] N1 (cM kc_r665) 4 + 0 := h
        rw [u2 4 (by decide)]
        omega
      have m2_93_0 : N1 93 0 = ρ2 5 := by
        have h := q2 (93, 0, [(1, 5)]) (List.mem_of_getElem? (i := 3) rfl)
        have h : N1 93 0 = 1 * uRho [x1.toInt, x2.toInt] N1 (cM kc_r665) 5 + 0 := h
        rw [u2 5 (by decide)]
        omega
      obtain ⟨t2_0, t2_1, t2_2⟩ := t2
      rw [o2] at z2
      have s2 : uSt 2 N2 := ⟨i2, ukeepX_ok (ks := uKq 2 ++ [(4, 350, 27)]) (c := kc_r665) (by decide +kernel) (fun q hq => by rcases List.mem_append.mp hq with hq | hq; exact k1 q hq; rw [List.mem_singleton] at hq; rw [hq]; exact v1) p2⟩
      have b2_0_1 : N2 0 1 = N1 0 1 := y2 0 1 (by decide +kernel)
      have b2_0_2 : N2 0 2 = N1 0 2 := y2 0 2 (by decide +kernel)
      have b2_0_3 : N2 0 3 = N1 0 3 := y2 0 3 (by decide +kernel)
      have b2_2_8 : N2 2 8 = N1 2 8 := y2 2 8 (by decide +kernel)
      have b2_2_9 : N2 2 9 = N1 2 9 := y2 2 9 (by decide +kernel)
      have b2_2_10 : N2 2 10 = N1 2 10 := y2 2 10 (by decide +kernel)
      have b2_4_261 : N2 4 261 = N1 4 261 := y2 4 261 (by decide +kernel)
      have b2_77_6 : N2 77 6 = N1 77 6 := y2 77 6 (by decide +kernel)
      have b2_91_2 : N2 91 2 = N1 91 2 := y2 91 2 (by decide +kernel)
      have b2_91_33 : N2 91 33 = N1 91 33 := y2 91 33 (by decide +kernel)
      have b2_91_34 : N2 91 34 = N1 91 34 := y2 91 34 (by decide +kernel)
      have b2_91_61 : N2 91 61 = N1 91 61 := y2 91 61 (by decide +kernel)
      have b2_93_0 : N2 93 0 = N1 93 0 := y2 93 0 (by decide +kernel)
      have b2_93_1 : N2 93 1 = N1 93 1 := y2 93 1 (by decide +kernel)
      have b2_93_2 : N2 93 2 = N1 93 2 := y2 93 2 (by decide +kernel)
      have hv : ρ2 6 = ρ1 6 := by
        clear hT hs s2 k1 i1 i2 y1 y2 u1 u2 q1 q2 p1 p2
        rcases z2 with z2 | z2 <;> omega
      clear z1 z2
      rw [w1] at e1
      rw [w2, hv] at e2
      simp only [List.map_cons, List.map_nil, i32_of] at e1 e2
      exact ⟨Int32.ofInt (ρ1 6), N1, N2, e1, e2, 2, Or.inl rfl, s2, (fun q hq => by
        have hq : q ∈ ([(0, 1, 91, 2), (4, 261, 0, 1), (0, 2, 91, 33), (0, 3, 91, 34), (2, 8, 93, 0), (2, 9, 93, 1), (2, 10, 93, 2), (77, 6, 91, 61)] : List (Nat × Nat × Nat × Nat)) := hq
        simp only [List.mem_cons, List.not_mem_nil, or_false] at hq
        rcases hq with rfl | rfl | rfl | rfl | rfl | rfl | rfl | rfl
        · exact (show N2 0 1 = N2 91 2 by omega)
        · exact (show N2 4 261 = N2 0 1 by omega)
        · exact (show N2 0 2 = N2 91 33 by omega)
        · exact (show N2 0 3 = N2 91 34 by omega)
        · exact (show N2 2 8 = N2 93 0 by omega)
        · exact (show N2 2 9 = N2 93 1 by omega)
        · exact (show N2 2 10 = N2 93 2 by omega)
        · exact (show N2 77 6 = N2 91 61 by omega))⟩
  · have kM_0 : M 0 1 = M 91 2 := hT (0, 1, 91, 2) (List.mem_of_getElem? (i := 0) rfl)
    have kM_1 : M 4 261 = M 0 1 := hT (4, 261, 0, 1) (List.mem_of_getElem? (i := 1) rfl)
    have kM_2 : M 0 2 = M 91 33 := hT (0, 2, 91, 33) (List.mem_of_getElem? (i := 2) rfl)
    have kM_3 : M 0 3 = M 91 34 := hT (0, 3, 91, 34) (List.mem_of_getElem? (i := 3) rfl)
    have kM_4 : M 28 8 = M 93 0 := hT ((28 : Int).toNat, 8, 93, 0) (List.mem_of_getElem? (i := 4) rfl)
    have kM_5 : M 28 9 = M 93 1 := hT ((28 : Int).toNat, 9, 93, 1) (List.mem_of_getElem? (i := 5) rfl)
    have kM_6 : M 28 10 = M 93 2 := hT ((28 : Int).toNat, 10, 93, 2) (List.mem_of_getElem? (i := 6) rfl)
    have kM_7 : M 77 6 = M 91 61 := hT (77, 6, 91, 61) (List.mem_of_getElem? (i := 7) rfl)
    obtain ⟨rv1, N1, e1, p1, q1⟩ := u_runX ko_258 (ks := uKs 28) (ex := [[(1, 3), (-1, 4)], [(-1, 3), (1, 4)]]) (o := 0) (bs := [false, false]) (by decide +kernel) hs.1 hs.2 (as := [x1.toInt, x2.toInt]) ⟨⟨uarg_i _, fun h => nomatch h⟩, ⟨⟨uarg_i _, fun h => nomatch h⟩, trivial⟩⟩ (fun hm f hf => by
        obtain ⟨ρ, hρ⟩ : ∃ ρ, ρ = uRho [x1.toInt, x2.toInt] M (cM kc_258) := ⟨_, rfl⟩
        have o1 : ρ 0 = 1 := by rw [hρ]; rfl
        rw [← hρ] at hm ⊢
        have m3 : M 93 0 = 1 * ρ 3 + 0 := hm (93, 0, [(1, 3)]) (List.mem_of_getElem? (i := 3) rfl)
        have m4 : M 28 8 = 1 * ρ 4 + 0 := hm (28, 8, [(1, 4)]) (List.mem_of_getElem? (i := 4) rfl)
        have hf : f ∈ ([[(1, 3), (-1, 4)], [(-1, 3), (1, 4)]] : List qF) := hf
        simp only [List.mem_cons, List.not_mem_nil, or_false] at hf
        rcases hf with rfl | rfl
        · show 0 ≤ 1 * ρ 3 + (-1 * ρ 4 + 0)
          omega
        · show 0 ≤ -1 * ρ 3 + (1 * ρ 4 + 0)
          omega) J (N := 300) (by decide)
    obtain ⟨ρ1, u1, w1, t1, z1, i1, y1⟩ := up_258 p1
    have o1 : ρ1 0 = 1 := u1 0 (by decide)
    have a1_1 : ρ1 1 = x1.toInt := (u1 1 (by decide)).trans (urho_a (as := [x1.toInt, x2.toInt]) (j := 0) (show (0 : Nat) < 2 from by decide))
    have a1_2 : ρ1 2 = x2.toInt := (u1 2 (by decide)).trans (urho_a (as := [x1.toInt, x2.toInt]) (j := 1) (show (1 : Nat) < 2 from by decide))
    have m1_93_0 : M 93 0 = ρ1 3 := by
      have h := q1 (93, 0, [(1, 3)]) (List.mem_of_getElem? (i := 3) rfl)
      have h : M 93 0 = 1 * uRho [x1.toInt, x2.toInt] M (cM kc_258) 3 + 0 := h
      rw [u1 3 (by decide)]
      omega
    have m1_28_8 : M 28 8 = ρ1 4 := by
      have h := q1 (28, 8, [(1, 4)]) (List.mem_of_getElem? (i := 4) rfl)
      have h : M 28 8 = 1 * uRho [x1.toInt, x2.toInt] M (cM kc_258) 4 + 0 := h
      rw [u1 4 (by decide)]
      omega
    have m1_0_900 : M 0 900 = ρ1 5 := by
      have h := q1 (0, 900, [(1, 5)]) (List.mem_of_getElem? (i := 5) rfl)
      have h : M 0 900 = 1 * uRho [x1.toInt, x2.toInt] M (cM kc_258) 5 + 0 := h
      rw [u1 5 (by decide)]
      omega
    obtain ⟨t1_0, t1_1, t1_2, t1_3, t1_4⟩ := t1
    rw [o1] at z1
    have k1 : ∀ q ∈ uKq 28, N1 q.1 q.2.1 = q.2.2 := ukeepX_ok (ks := uKs 28) (c := kc_258) (by decide +kernel) hs.2 p1
    have b1_0_1 : N1 0 1 = M 0 1 := y1 0 1 (by decide +kernel)
    have b1_0_2 : N1 0 2 = M 0 2 := y1 0 2 (by decide +kernel)
    have b1_0_3 : N1 0 3 = M 0 3 := y1 0 3 (by decide +kernel)
    have b1_4_261 : N1 4 261 = M 4 261 := y1 4 261 (by decide +kernel)
    have b1_4_350 : N1 4 350 = ρ1 7 := t1_0
    have b1_4_380 : N1 4 380 = ρ1 8 := t1_1
    have b1_4_382 : N1 4 382 = ρ1 10 := t1_3
    have b1_28_8 : N1 28 8 = M 28 8 := y1 28 8 (by decide +kernel)
    have b1_28_9 : N1 28 9 = M 28 9 := y1 28 9 (by decide +kernel)
    have b1_28_10 : N1 28 10 = M 28 10 := y1 28 10 (by decide +kernel)
    have b1_77_6 : N1 77 6 = M 77 6 := y1 77 6 (by decide +kernel)
    have b1_91_2 : N1 91 2 = M 91 2 := y1 91 2 (by decide +kernel)
    have b1_91_33 : N1 91 33 = M 91 33 := y1 91 33 (by decide +kernel)
    have b1_91_34 : N1 91 34 = M 91 34 := y1 91 34 (by decide +kernel)
    have b1_91_61 : N1 91 61 = M 91 61 := y1 91 61 (by decide +kernel)
    have b1_93_0 : N1 93 0 = M 93 0 := y1 93 0 (by decide +kernel)
    have b1_93_1 : N1 93 1 = M 93 1 := y1 93 1 (by decide +kernel)
    have b1_93_2 : N1 93 2 = M 93 2 := y1 93 2 (by decide +kernel)
    rcases z1 with z1 | z1 | z1 | z1 | z1 | z1 | z1
    · have v1 : N1 4 350 = 0 := by omega
      obtain ⟨rv2, N2, e2, p2, q2⟩ := u_runX ko_r666 (ks := uKq 28 ++ [(4, 350, 0)]) (ex := [[(-1, 0), (-1, 1)]]) (o := 91) (bs := [false, false]) (by decide +kernel) i1 (fun q hq => by rcases List.mem_append.mp hq with hq | hq; exact k1 q hq; rw [List.mem_singleton] at hq; rw [hq]; exact v1) (as := [x1.toInt, x2.toInt]) ⟨⟨uarg_i _, fun h => nomatch h⟩, ⟨⟨uarg_i _, fun h => nomatch h⟩, trivial⟩⟩ (fun hm f hf => by
          obtain ⟨ρ, hρ⟩ : ∃ ρ, ρ = uRho [x1.toInt, x2.toInt] N1 (cM kc_r666) := ⟨_, rfl⟩
          have o1 : ρ 0 = 1 := by rw [hρ]; rfl
          have a1 : ρ 1 = x1.toInt := by rw [hρ]; exact urho_a (as := [x1.toInt, x2.toInt]) (j := 0) (show (0 : Nat) < 2 from by decide)
          rw [← hρ] at hm ⊢
          have hf : f ∈ ([[(-1, 0), (-1, 1)]] : List qF) := hf
          simp only [List.mem_cons, List.not_mem_nil, or_false] at hf
          rcases hf with rfl
          · show 0 ≤ -1 * ρ 0 + (-1 * ρ 1 + 0)
            omega) J (N := 300) (by decide)
      obtain ⟨ρ2, u2, w2, t2, z2, i2, y2⟩ := up_r666 p2
      have o2 : ρ2 0 = 1 := u2 0 (by decide)
      have a2_1 : ρ2 1 = x1.toInt := (u2 1 (by decide)).trans (urho_a (as := [x1.toInt, x2.toInt]) (j := 0) (show (0 : Nat) < 2 from by decide))
      have a2_2 : ρ2 2 = x2.toInt := (u2 2 (by decide)).trans (urho_a (as := [x1.toInt, x2.toInt]) (j := 1) (show (1 : Nat) < 2 from by decide))
      have m2_93_0 : N1 93 0 = ρ2 3 := by
        have h := q2 (93, 0, [(1, 3)]) (List.mem_of_getElem? (i := 1) rfl)
        have h : N1 93 0 = 1 * uRho [x1.toInt, x2.toInt] N1 (cM kc_r666) 3 + 0 := h
        rw [u2 3 (by decide)]
        omega
      rw [o2] at z2
      have s2 : uSt 28 N2 := ⟨i2, ukeepX_ok (ks := uKq 28 ++ [(4, 350, 0)]) (c := kc_r666) (by decide +kernel) (fun q hq => by rcases List.mem_append.mp hq with hq | hq; exact k1 q hq; rw [List.mem_singleton] at hq; rw [hq]; exact v1) p2⟩
      have b2_0_1 : N2 0 1 = N1 0 1 := y2 0 1 (by decide +kernel)
      have b2_0_2 : N2 0 2 = N1 0 2 := y2 0 2 (by decide +kernel)
      have b2_0_3 : N2 0 3 = N1 0 3 := y2 0 3 (by decide +kernel)
      have b2_4_261 : N2 4 261 = N1 4 261 := y2 4 261 (by decide +kernel)
      have b2_28_8 : N2 28 8 = N1 28 8 := y2 28 8 (by decide +kernel)
      have b2_28_9 : N2 28 9 = N1 28 9 := y2 28 9 (by decide +kernel)
      have b2_28_10 : N2 28 10 = N1 28 10 := y2 28 10 (by decide +kernel)
      have b2_77_6 : N2 77 6 = N1 77 6 := y2 77 6 (by decide +kernel)
      have b2_91_2 : N2 91 2 = N1 91 2 := y2 91 2 (by decide +kernel)
      have b2_91_33 : N2 91 33 = N1 91 33 := y2 91 33 (by decide +kernel)
      have b2_91_34 : N2 91 34 = N1 91 34 := y2 91 34 (by decide +kernel)
      have b2_91_61 : N2 91 61 = N1 91 61 := y2 91 61 (by decide +kernel)
      have b2_93_0 : N2 93 0 = N1 93 0 := y2 93 0 (by decide +kernel)
      have b2_93_1 : N2 93 1 = N1 93 1 := y2 93 1 (by decide +kernel)
      have b2_93_2 : N2 93 2 = N1 93 2 := y2 93 2 (by decide +kernel)
      have hv : ρ2 4 = ρ1 6 := by omega
      clear z1 z2
      rw [w1] at e1
      rw [w2, hv] at e2
      simp only [List.map_cons, List.map_nil, i32_of] at e1 e2
      exact ⟨Int32.ofInt (ρ1 6), N1, N2, e1, e2, 28, Or.inr rfl, s2, (fun q hq => by
        have hq : q ∈ ([(0, 1, 91, 2), (4, 261, 0, 1), (0, 2, 91, 33), (0, 3, 91, 34), (28, 8, 93, 0), (28, 9, 93, 1), (28, 10, 93, 2), (77, 6, 91, 61)] : List (Nat × Nat × Nat × Nat)) := hq
        simp only [List.mem_cons, List.not_mem_nil, or_false] at hq
        rcases hq with rfl | rfl | rfl | rfl | rfl | rfl | rfl | rfl
        · exact (show N2 0 1 = N2 91 2 by omega)
        · exact (show N2 4 261 = N2 0 1 by omega)
        · exact (show N2 0 2 = N2 91 33 by omega)
        · exact (show N2 0 3 = N2 91 34 by omega)
        · exact (show N2 28 8 = N2 93 0 by omega)
        · exact (show N2 28 9 = N2 93 1 by omega)
        · exact (show N2 28 10 = N2 93 2 by omega)
        · exact (show N2 77 6 = N2 91 61 by omega))⟩
    · have v1 : N1 4 350 = 0 := by omega
      obtain ⟨rv2, N2, e2, p2, q2⟩ := u_runX ko_r667 (ks := uKq 28 ++ [(4, 350, 0)]) (ex := [[(-24, 0), (1, 1)]]) (o := 91) (bs := [false, false]) (by decide +kernel) i1 (fun q hq => by rcases List.mem_append.mp hq with hq | hq; exact k1 q hq; rw [List.mem_singleton] at hq; rw [hq]; exact v1) (as := [x1.toInt, x2.toInt]) ⟨⟨uarg_i _, fun h => nomatch h⟩, ⟨⟨uarg_i _, fun h => nomatch h⟩, trivial⟩⟩ (fun hm f hf => by
          obtain ⟨ρ, hρ⟩ : ∃ ρ, ρ = uRho [x1.toInt, x2.toInt] N1 (cM kc_r667) := ⟨_, rfl⟩
          have o1 : ρ 0 = 1 := by rw [hρ]; rfl
          have a1 : ρ 1 = x1.toInt := by rw [hρ]; exact urho_a (as := [x1.toInt, x2.toInt]) (j := 0) (show (0 : Nat) < 2 from by decide)
          rw [← hρ] at hm ⊢
          have hf : f ∈ ([[(-24, 0), (1, 1)]] : List qF) := hf
          simp only [List.mem_cons, List.not_mem_nil, or_false] at hf
          rcases hf with rfl
          · show 0 ≤ -24 * ρ 0 + (1 * ρ 1 + 0)
            omega) J (N := 300) (by decide)
      obtain ⟨ρ2, u2, w2, t2, z2, i2, y2⟩ := up_r667 p2
      have o2 : ρ2 0 = 1 := u2 0 (by decide)
      have a2_1 : ρ2 1 = x1.toInt := (u2 1 (by decide)).trans (urho_a (as := [x1.toInt, x2.toInt]) (j := 0) (show (0 : Nat) < 2 from by decide))
      have a2_2 : ρ2 2 = x2.toInt := (u2 2 (by decide)).trans (urho_a (as := [x1.toInt, x2.toInt]) (j := 1) (show (1 : Nat) < 2 from by decide))
      have m2_93_0 : N1 93 0 = ρ2 3 := by
        have h := q2 (93, 0, [(1, 3)]) (List.mem_of_getElem? (i := 1) rfl)
        have h : N1 93 0 = 1 * uRho [x1.toInt, x2.toInt] N1 (cM kc_r667) 3 + 0 := h
        rw [u2 3 (by decide)]
        omega
      rw [o2] at z2
      have s2 : uSt 28 N2 := ⟨i2, ukeepX_ok (ks := uKq 28 ++ [(4, 350, 0)]) (c := kc_r667) (by decide +kernel) (fun q hq => by rcases List.mem_append.mp hq with hq | hq; exact k1 q hq; rw [List.mem_singleton] at hq; rw [hq]; exact v1) p2⟩
      have b2_0_1 : N2 0 1 = N1 0 1 := y2 0 1 (by decide +kernel)
      have b2_0_2 : N2 0 2 = N1 0 2 := y2 0 2 (by decide +kernel)
      have b2_0_3 : N2 0 3 = N1 0 3 := y2 0 3 (by decide +kernel)
      have b2_4_261 : N2 4 261 = N1 4 261 := y2 4 261 (by decide +kernel)
      have b2_28_8 : N2 28 8 = N1 28 8 := y2 28 8 (by decide +kernel)
      have b2_28_9 : N2 28 9 = N1 28 9 := y2 28 9 (by decide +kernel)
      have b2_28_10 : N2 28 10 = N1 28 10 := y2 28 10 (by decide +kernel)
      have b2_77_6 : N2 77 6 = N1 77 6 := y2 77 6 (by decide +kernel)
      have b2_91_2 : N2 91 2 = N1 91 2 := y2 91 2 (by decide +kernel)
      have b2_91_33 : N2 91 33 = N1 91 33 := y2 91 33 (by decide +kernel)
      have b2_91_34 : N2 91 34 = N1 91 34 := y2 91 34 (by decide +kernel)
      have b2_91_61 : N2 91 61 = N1 91 61 := y2 91 61 (by decide +kernel)
      have b2_93_0 : N2 93 0 = N1 93 0 := y2 93 0 (by decide +kernel)
      have b2_93_1 : N2 93 1 = N1 93 1 := y2 93 1 (by decide +kernel)
      have b2_93_2 : N2 93 2 = N1 93 2 := y2 93 2 (by decide +kernel)
      have hv : ρ2 4 = ρ1 6 := by omega
      clear z1 z2
      rw [w1] at e1
      rw [w2, hv] at e2
      simp only [List.map_cons, List.map_nil, i32_of] at e1 e2
      exact ⟨Int32.ofInt (ρ1 6), N1, N2, e1, e2, 28, Or.inr rfl, s2, (fun q hq => by
        have hq : q ∈ ([(0, 1, 91, 2), (4, 261, 0, 1), (0, 2, 91, 33), (0, 3, 91, 34), (28, 8, 93, 0), (28, 9, 93, 1), (28, 10, 93, 2), (77, 6, 91, 61)] : List (Nat × Nat × Nat × Nat)) := hq
        simp only [List.mem_cons, List.not_mem_nil, or_false] at hq
        rcases hq with rfl | rfl | rfl | rfl | rfl | rfl | rfl | rfl
        · exact (show N2 0 1 = N2 91 2 by omega)
        · exact (show N2 4 261 = N2 0 1 by omega)
        · exact (show N2 0 2 = N2 91 33 by omega)
        · exact (show N2 0 3 = N2 91 34 by omega)
        · exact (show N2 28 8 = N2 93 0 by omega)
        · exact (show N2 28 9 = N2 93 1 by omega)
        · exact (show N2 28 10 = N2 93 2 by omega)
        · exact (show N2 77 6 = N2 91 61 by omega))⟩
    · have v1 : N1 4 350 = 0 := by omega
      obtain ⟨rv2, N2, e2, p2, q2⟩ := u_runX ko_r668 (ks := uKq 28 ++ [(4, 350, 0)]) (ex := [[(-1, 0), (-1, 2)]]) (o := 91) (bs := [false, false]) (by decide +kernel) i1 (fun q hq => by rcases List.mem_append.mp hq with hq | hq; exact k1 q hq; rw [List.mem_singleton] at hq; rw [hq]; exact v1) (as := [x1.toInt, x2.toInt]) ⟨⟨uarg_i _, fun h => nomatch h⟩, ⟨⟨uarg_i _, fun h => nomatch h⟩, trivial⟩⟩ (fun hm f hf => by
          obtain ⟨ρ, hρ⟩ : ∃ ρ, ρ = uRho [x1.toInt, x2.toInt] N1 (cM kc_r668) := ⟨_, rfl⟩
          have o1 : ρ 0 = 1 := by rw [hρ]; rfl
          have a2 : ρ 2 = x2.toInt := by rw [hρ]; exact urho_a (as := [x1.toInt, x2.toInt]) (j := 1) (show (1 : Nat) < 2 from by decide)
          rw [← hρ] at hm ⊢
          have hf : f ∈ ([[(-1, 0), (-1, 2)]] : List qF) := hf
          simp only [List.mem_cons, List.not_mem_nil, or_false] at hf
          rcases hf with rfl
          · show 0 ≤ -1 * ρ 0 + (-1 * ρ 2 + 0)
            omega) J (N := 300) (by decide)
      obtain ⟨ρ2, u2, w2, t2, z2, i2, y2⟩ := up_r668 p2
      have o2 : ρ2 0 = 1 := u2 0 (by decide)
      have a2_1 : ρ2 1 = x1.toInt := (u2 1 (by decide)).trans (urho_a (as := [x1.toInt, x2.toInt]) (j := 0) (show (0 : Nat) < 2 from by decide))
      have a2_2 : ρ2 2 = x2.toInt := (u2 2 (by decide)).trans (urho_a (as := [x1.toInt, x2.toInt]) (j := 1) (show (1 : Nat) < 2 from by decide))
      have m2_93_0 : N1 93 0 = ρ2 3 := by
        have h := q2 (93, 0, [(1, 3)]) (List.mem_of_getElem? (i := 1) rfl)
        have h : N1 93 0 = 1 * uRho [x1.toInt, x2.toInt] N1 (cM kc_r668) 3 + 0 := h
        rw [u2 3 (by decide)]
        omega
      rw [o2] at z2
      have s2 : uSt 28 N2 := ⟨i2, ukeepX_ok (ks := uKq 28 ++ [(4, 350, 0)]) (c := kc_r668) (by decide +kernel) (fun q hq => by rcases List.mem_append.mp hq with hq | hq; exact k1 q hq; rw [List.mem_singleton] at hq; rw [hq]; exact v1) p2⟩
      have b2_0_1 : N2 0 1 = N1 0 1 := y2 0 1 (by decide +kernel)
      have b2_0_2 : N2 0 2 = N1 0 2 := y2 0 2 (by decide +kernel)
      have b2_0_3 : N2 0 3 = N1 0 3 := y2 0 3 (by decide +kernel)
      have b2_4_261 : N2 4 261 = N1 4 261 := y2 4 261 (by decide +kernel)
      have b2_28_8 : N2 28 8 = N1 28 8 := y2 28 8 (by decide +kernel)
      have b2_28_9 : N2 28 9 = N1 28 9 := y2 28 9 (by decide +kernel)
      have b2_28_10 : N2 28 10 = N1 28 10 := y2 28 10 (by decide +kernel)
      have b2_77_6 : N2 77 6 = N1 77 6 := y2 77 6 (by decide +kernel)
      have b2_91_2 : N2 91 2 = N1 91 2 := y2 91 2 (by decide +kernel)
      have b2_91_33 : N2 91 33 = N1 91 33 := y2 91 33 (by decide +kernel)
      have b2_91_34 : N2 91 34 = N1 91 34 := y2 91 34 (by decide +kernel)
      have b2_91_61 : N2 91 61 = N1 91 61 := y2 91 61 (by decide +kernel)
      have b2_93_0 : N2 93 0 = N1 93 0 := y2 93 0 (by decide +kernel)
      have b2_93_1 : N2 93 1 = N1 93 1 := y2 93 1 (by decide +kernel)
      have b2_93_2 : N2 93 2 = N1 93 2 := y2 93 2 (by decide +kernel)
      have hv : ρ2 4 = ρ1 6 := by omega
      clear z1 z2
      rw [w1] at e1
      rw [w2, hv] at e2
      simp only [List.map_cons, List.map_nil, i32_of] at e1 e2
      exact ⟨Int32.ofInt (ρ1 6), N1, N2, e1, e2, 28, Or.inr rfl, s2, (fun q hq => by
        have hq : q ∈ ([(0, 1, 91, 2), (4, 261, 0, 1), (0, 2, 91, 33), (0, 3, 91, 34), (28, 8, 93, 0), (28, 9, 93, 1), (28, 10, 93, 2), (77, 6, 91, 61)] : List (Nat × Nat × Nat × Nat)) := hq
        simp only [List.mem_cons, List.not_mem_nil, or_false] at hq
        rcases hq with rfl | rfl | rfl | rfl | rfl | rfl | rfl | rfl
        · exact (show N2 0 1 = N2 91 2 by omega)
        · exact (show N2 4 261 = N2 0 1 by omega)
        · exact (show N2 0 2 = N2 91 33 by omega)
        · exact (show N2 0 3 = N2 91 34 by omega)
        · exact (show N2 28 8 = N2 93 0 by omega)
        · exact (show N2 28 9 = N2 93 1 by omega)
        · exact (show N2 28 10 = N2 93 2 by omega)
        · exact (show N2 77 6 = N2 91 61 by omega))⟩
    · have v1 : N1 4 350 = 0 := by omega
      obtain ⟨rv2, N2, e2, p2, q2⟩ := u_runX ko_r669 (ks := uKq 28 ++ [(4, 350, 0)]) (ex := [[(-24, 0), (1, 2)]]) (o := 91) (bs := [false, false]) (by decide +kernel) i1 (fun q hq => by rcases List.mem_append.mp hq with hq | hq; exact k1 q hq; rw [List.mem_singleton] at hq; rw [hq]; exact v1) (as := [x1.toInt, x2.toInt]) ⟨⟨uarg_i _, fun h => nomatch h⟩, ⟨⟨uarg_i _, fun h => nomatch h⟩, trivial⟩⟩ (fun hm f hf => by
          obtain ⟨ρ, hρ⟩ : ∃ ρ, ρ = uRho [x1.toInt, x2.toInt] N1 (cM kc_r669) := ⟨_, rfl⟩
          have o1 : ρ 0 = 1 := by rw [hρ]; rfl
          have a2 : ρ 2 = x2.toInt := by rw [hρ]; exact urho_a (as := [x1.toInt, x2.toInt]) (j := 1) (show (1 : Nat) < 2 from by decide)
          rw [← hρ] at hm ⊢
          have hf : f ∈ ([[(-24, 0), (1, 2)]] : List qF) := hf
          simp only [List.mem_cons, List.not_mem_nil, or_false] at hf
          rcases hf with rfl
          · show 0 ≤ -24 * ρ 0 + (1 * ρ 2 + 0)
            omega) J (N := 300) (by decide)
      obtain ⟨ρ2, u2, w2, t2, z2, i2, y2⟩ := up_r669 p2
      have o2 : ρ2 0 = 1 := u2 0 (by decide)
      have a2_1 : ρ2 1 = x1.toInt := (u2 1 (by decide)).trans (urho_a (as := [x1.toInt, x2.toInt]) (j := 0) (show (0 : Nat) < 2 from by decide))
      have a2_2 : ρ2 2 = x2.toInt := (u2 2 (by decide)).trans (urho_a (as := [x1.toInt, x2.toInt]) (j := 1) (show (1 : Nat) < 2 from by decide))
      have m2_93_0 : N1 93 0 = ρ2 3 := by
        have h := q2 (93, 0, [(1, 3)]) (List.mem_of_getElem? (i := 1) rfl)
        have h : N1 93 0 = 1 * uRho [x1.toInt, x2.toInt] N1 (cM kc_r669) 3 + 0 := h
        rw [u2 3 (by decide)]
        omega
      rw [o2] at z2
      have s2 : uSt 28 N2 := ⟨i2, ukeepX_ok (ks := uKq 28 ++ [(4, 350, 0)]) (c := kc_r669) (by decide +kernel) (fun q hq => by rcases List.mem_append.mp hq with hq | hq; exact k1 q hq; rw [List.mem_singleton] at hq; rw [hq]; exact v1) p2⟩
      have b2_0_1 : N2 0 1 = N1 0 1 := y2 0 1 (by decide +kernel)
      have b2_0_2 : N2 0 2 = N1 0 2 := y2 0 2 (by decide +kernel)
      have b2_0_3 : N2 0 3 = N1 0 3 := y2 0 3 (by decide +kernel)
      have b2_4_261 : N2 4 261 = N1 4 261 := y2 4 261 (by decide +kernel)
      have b2_28_8 : N2 28 8 = N1 28 8 := y2 28 8 (by decide +kernel)
      have b2_28_9 : N2 28 9 = N1 28 9 := y2 28 9 (by decide +kernel)
      have b2_28_10 : N2 28 10 = N1 28 10 := y2 28 10 (by decide +kernel)
      have b2_77_6 : N2 77 6 = N1 77 6 := y2 77 6 (by decide +kernel)
      have b2_91_2 : N2 91 2 = N1 91 2 := y2 91 2 (by decide +kernel)
      have b2_91_33 : N2 91 33 = N1 91 33 := y2 91 33 (by decide +kernel)
      have b2_91_34 : N2 91 34 = N1 91 34 := y2 91 34 (by decide +kernel)
      have b2_91_61 : N2 91 61 = N1 91 61 := y2 91 61 (by decide +kernel)
      have b2_93_0 : N2 93 0 = N1 93 0 := y2 93 0 (by decide +kernel)
      have b2_93_1 : N2 93 1 = N1 93 1 := y2 93 1 (by decide +kernel)
      have b2_93_2 : N2 93 2 = N1 93 2 := y2 93 2 (by decide +kernel)
      have hv : ρ2 4 = ρ1 6 := by omega
      clear z1 z2
      rw [w1] at e1
      rw [w2, hv] at e2
      simp only [List.map_cons, List.map_nil, i32_of] at e1 e2
      exact ⟨Int32.ofInt (ρ1 6), N1, N2, e1, e2, 28, Or.inr rfl, s2, (fun q hq => by
        have hq : q ∈ ([(0, 1, 91, 2), (4, 261, 0, 1), (0, 2, 91, 33), (0, 3, 91, 34), (28, 8, 93, 0), (28, 9, 93, 1), (28, 10, 93, 2), (77, 6, 91, 61)] : List (Nat × Nat × Nat × Nat)) := hq
        simp only [List.mem_cons, List.not_mem_nil, or_false] at hq
        rcases hq with rfl | rfl | rfl | rfl | rfl | rfl | rfl | rfl
        · exact (show N2 0 1 = N2 91 2 by omega)
        · exact (show N2 4 261 = N2 0 1 by omega)
        · exact (show N2 0 2 = N2 91 33 by omega)
        · exact (show N2 0 3 = N2 91 34 by omega)
        · exact (show N2 28 8 = N2 93 0 by omega)
        · exact (show N2 28 9 = N2 93 1 by omega)
        · exact (show N2 28 10 = N2 93 2 by omega)
        · exact (show N2 77 6 = N2 91 61 by omega))⟩
    · have v1 : N1 4 350 = 0 := by omega
      obtain ⟨rv2, N2, e2, p2, q2⟩ := u_runX ko_r670 (ks := uKq 28 ++ [(4, 350, 0)]) (ex := [[(1, 0), (-1, 3)]]) (o := 91) (bs := [false, false]) (by decide +kernel) i1 (fun q hq => by rcases List.mem_append.mp hq with hq | hq; exact k1 q hq; rw [List.mem_singleton] at hq; rw [hq]; exact v1) (as := [x1.toInt, x2.toInt]) ⟨⟨uarg_i _, fun h => nomatch h⟩, ⟨⟨uarg_i _, fun h => nomatch h⟩, trivial⟩⟩ (fun hm f hf => by
          obtain ⟨ρ, hρ⟩ : ∃ ρ, ρ = uRho [x1.toInt, x2.toInt] N1 (cM kc_r670) := ⟨_, rfl⟩
          have o1 : ρ 0 = 1 := by rw [hρ]; rfl
          rw [← hρ] at hm ⊢
          have m1 : N1 93 0 = 1 * ρ 3 + 0 := hm (93, 0, [(1, 3)]) (List.mem_of_getElem? (i := 1) rfl)
          have hf : f ∈ ([[(1, 0), (-1, 3)]] : List qF) := hf
          simp only [List.mem_cons, List.not_mem_nil, or_false] at hf
          rcases hf with rfl
          · show 0 ≤ 1 * ρ 0 + (-1 * ρ 3 + 0)
            omega) J (N := 300) (by decide)
      obtain ⟨ρ2, u2, w2, t2, z2, i2, y2⟩ := up_r670 p2
      have o2 : ρ2 0 = 1 := u2 0 (by decide)
      have a2_1 : ρ2 1 = x1.toInt := (u2 1 (by decide)).trans (urho_a (as := [x1.toInt, x2.toInt]) (j := 0) (show (0 : Nat) < 2 from by decide))
      have a2_2 : ρ2 2 = x2.toInt := (u2 2 (by decide)).trans (urho_a (as := [x1.toInt, x2.toInt]) (j := 1) (show (1 : Nat) < 2 from by decide))
      have m2_93_0 : N1 93 0 = ρ2 3 := by
        have h := q2 (93, 0, [(1, 3)]) (List.mem_of_getElem? (i := 1) rfl)
        have h : N1 93 0 = 1 * uRho [x1.toInt, x2.toInt] N1 (cM kc_r670) 3 + 0 := h
        rw [u2 3 (by decide)]
        omega
      rw [o2] at z2
      have s2 : uSt 28 N2 := ⟨i2, ukeepX_ok (ks := uKq 28 ++ [(4, 350, 0)]) (c := kc_r670) (by decide +kernel) (fun q hq => by rcases List.mem_append.mp hq with hq | hq; exact k1 q hq; rw [List.mem_singleton] at hq; rw [hq]; exact v1) p2⟩
      have b2_0_1 : N2 0 1 = N1 0 1 := y2 0 1 (by decide +kernel)
      have b2_0_2 : N2 0 2 = N1 0 2 := y2 0 2 (by decide +kernel)
      have b2_0_3 : N2 0 3 = N1 0 3 := y2 0 3 (by decide +kernel)
      have b2_4_261 : N2 4 261 = N1 4 261 := y2 4 261 (by decide +kernel)
      have b2_28_8 : N2 28 8 = N1 28 8 := y2 28 8 (by decide +kernel)
      have b2_28_9 : N2 28 9 = N1 28 9 := y2 28 9 (by decide +kernel)
      have b2_28_10 : N2 28 10 = N1 28 10 := y2 28 10 (by decide +kernel)
      have b2_77_6 : N2 77 6 = N1 77 6 := y2 77 6 (by decide +kernel)
      have b2_91_2 : N2 91 2 = N1 91 2 := y2 91 2 (by decide +kernel)
      have b2_91_33 : N2 91 33 = N1 91 33 := y2 91 33 (by decide +kernel)
      have b2_91_34 : N2 91 34 = N1 91 34 := y2 91 34 (by decide +kernel)
      have b2_91_61 : N2 91 61 = N1 91 61 := y2 91 61 (by decide +kernel)
      have b2_93_0 : N2 93 0 = N1 93 0 := y2 93 0 (by decide +kernel)
      have b2_93_1 : N2 93 1 = N1 93 1 := y2 93 1 (by decide +kernel)
      have b2_93_2 : N2 93 2 = N1 93 2 := y2 93 2 (by decide +kernel)
      have hv : ρ2 4 = ρ1 6 := by omega
      clear z1 z2
      rw [w1] at e1
      rw [w2, hv] at e2
      simp only [List.map_cons, List.map_nil, i32_of] at e1 e2
      exact ⟨Int32.ofInt (ρ1 6), N1, N2, e1, e2, 28, Or.inr rfl, s2, (fun q hq => by
        have hq : q ∈ ([(0, 1, 91, 2), (4, 261, 0, 1), (0, 2, 91, 33), (0, 3, 91, 34), (28, 8, 93, 0), (28, 9, 93, 1), (28, 10, 93, 2), (77, 6, 91, 61)] : List (Nat × Nat × Nat × Nat)) := hq
        simp only [List.mem_cons, List.not_mem_nil, or_false] at hq
        rcases hq with rfl | rfl | rfl | rfl | rfl | rfl | rfl | rfl
        · exact (show N2 0 1 = N2 91 2 by omega)
        · exact (show N2 4 261 = N2 0 1 by omega)
        · exact (show N2 0 2 = N2 91 33 by omega)
        · exact (show N2 0 3 = N2 91 34 by omega)
        · exact (show N2 28 8 = N2 93 0 by omega)
        · exact (show N2 28 9 = N2 93 1 by omega)
        · exact (show N2 28 10 = N2 93 2 by omega)
        · exact (show N2 77 6 = N2 91 61 by omega))⟩
    · have v1 : N1 4 350 = 27 := by omega
      obtain ⟨rv2, N2, e2, p2, q2⟩ := u_runX ko_r665 (ks := uKq 28 ++ [(4, 350, 27)]) (ex := [[(1, 0), (1, 4)], [(23, 0), (-1, 4)], [(1, 0), (1, 1), (-1, 2), (1, 3), (-1, 5)], [(-1, 0), (-1, 1), (1, 2), (-1, 3), (1, 5)], [(1, 1)], [(23, 0), (-1, 1)], [(1, 2)], [(23, 0), (-1, 2)], [(-2, 0), (1, 5)]]) (o := 91) (bs := [false, false]) (by decide +kernel) i1 (fun q hq => by rcases List.mem_append.mp hq with hq | hq; exact k1 q hq; rw [List.mem_singleton] at hq; rw [hq]; exact v1) (as := [x1.toInt, x2.toInt]) ⟨⟨uarg_i _, fun h => nomatch h⟩, ⟨⟨uarg_i _, fun h => nomatch h⟩, trivial⟩⟩ (fun hm f hf => by
          obtain ⟨ρ, hρ⟩ : ∃ ρ, ρ = uRho [x1.toInt, x2.toInt] N1 (cM kc_r665) := ⟨_, rfl⟩
          have o1 : ρ 0 = 1 := by rw [hρ]; rfl
          have a1 : ρ 1 = x1.toInt := by rw [hρ]; exact urho_a (as := [x1.toInt, x2.toInt]) (j := 0) (show (0 : Nat) < 2 from by decide)
          have a2 : ρ 2 = x2.toInt := by rw [hρ]; exact urho_a (as := [x1.toInt, x2.toInt]) (j := 1) (show (1 : Nat) < 2 from by decide)
          rw [← hρ] at hm ⊢
          have m1 : N1 4 380 = 1 * ρ 3 + 0 := hm (4, 380, [(1, 3)]) (List.mem_of_getElem? (i := 1) rfl)
          have m2 : N1 4 382 = 1 * ρ 4 + 0 := hm (4, 382, [(1, 4)]) (List.mem_of_getElem? (i := 2) rfl)
          have m3 : N1 93 0 = 1 * ρ 5 + 0 := hm (93, 0, [(1, 5)]) (List.mem_of_getElem? (i := 3) rfl)
          have hf : f ∈ ([[(1, 0), (1, 4)], [(23, 0), (-1, 4)], [(1, 0), (1, 1), (-1, 2), (1, 3), (-1, 5)], [(-1, 0), (-1, 1), (1, 2), (-1, 3), (1, 5)], [(1, 1)], [(23, 0), (-1, 1)], [(1, 2)], [(23, 0), (-1, 2)], [(-2, 0), (1, 5)]] : List qF) := hf
          simp only [List.mem_cons, List.not_mem_nil, or_false] at hf
          rcases hf with rfl | rfl | rfl | rfl | rfl | rfl | rfl | rfl | rfl
          · show 0 ≤ 1 * ρ 0 + (1 * ρ 4 + 0)
            omega
          · show 0 ≤ 23 * ρ 0 + (-1 * ρ 4 + 0)
            omega
          · show 0 ≤ 1 * ρ 0 + (1 * ρ 1 + (-1 * ρ 2 + (1 * ρ 3 + (-1 * ρ 5 + 0))))
            omega
          · show 0 ≤ -1 * ρ 0 + (-1 * ρ 1 + (1 * ρ 2 + (-1 * ρ 3 + (1 * ρ 5 + 0))))
            omega
          · show 0 ≤ 1 * ρ 1 + 0
            omega
          · show 0 ≤ 23 * ρ 0 + (-1 * ρ 1 + 0)
            omega
          · show 0 ≤ 1 * ρ 2 + 0
            omega
          · show 0 ≤ 23 * ρ 0 + (-1 * ρ 2 + 0)
            omega
          · show 0 ≤ -2 * ρ 0 + (1 * ρ 5 + 0)
            omega) J (N := 300) (by decide)
      obtain ⟨ρ2, u2, w2, t2, z2, i2, y2⟩ := up_r665 p2
      have o2 : ρ2 0 = 1 := u2 0 (by decide)
      have a2_1 : ρ2 1 = x1.toInt := (u2 1 (by decide)).trans (urho_a (as := [x1.toInt, x2.toInt]) (j := 0) (show (0 : Nat) < 2 from by decide))
      have a2_2 : ρ2 2 = x2.toInt := (u2 2 (by decide)).trans (urho_a (as := [x1.toInt, x2.toInt]) (j := 1) (show (1 : Nat) < 2 from by decide))
      have m2_4_380 : N1 4 380 = ρ2 3 := by
        have h := q2 (4, 380, [(1, 3)]) (List.mem_of_getElem? (i := 1) rfl)
        have h : N1 4 380 = 1 * uRho [x1.toInt, x2.toInt] N1 (cM kc_r665) 3 + 0 := h
        rw [u2 3 (by decide)]
        omega
      have m2_4_382 : N1 4 382 = ρ2 4 := by
        have h := q2 (4, 382, [(1, 4)]) (List.mem_of_getElem? (i := 2) rfl)
        have h : N1 4 382 = 1 * uRho [x1.toInt, x2.toInt] N1 (cM kc_r665) 4 + 0 := h
        rw [u2 4 (by decide)]
        omega
      have m2_93_0 : N1 93 0 = ρ2 5 := by
        have h := q2 (93, 0, [(1, 5)]) (List.mem_of_getElem? (i := 3) rfl)
        have h : N1 93 0 = 1 * uRho [x1.toInt, x2.toInt] N1 (cM kc_r665) 5 + 0 := h
        rw [u2 5 (by decide)]
        omega
      obtain ⟨t2_0, t2_1, t2_2⟩ := t2
      rw [o2] at z2
      have s2 : uSt 28 N2 := ⟨i2, ukeepX_ok (ks := uKq 28 ++ [(4, 350, 27)]) (c := kc_r665) (by decide +kernel) (fun q hq => by rcases List.mem_append.mp hq with hq | hq; exact k1 q hq; rw [List.mem_singleton] at hq; rw [hq]; exact v1) p2⟩
      have b2_0_1 : N2 0 1 = N1 0 1 := y2 0 1 (by decide +kernel)
      have b2_0_2 : N2 0 2 = N1 0 2 := y2 0 2 (by decide +kernel)
      have b2_0_3 : N2 0 3 = N1 0 3 := y2 0 3 (by decide +kernel)
      have b2_4_261 : N2 4 261 = N1 4 261 := y2 4 261 (by decide +kernel)
      have b2_28_8 : N2 28 8 = N1 28 8 := y2 28 8 (by decide +kernel)
      have b2_28_9 : N2 28 9 = N1 28 9 := y2 28 9 (by decide +kernel)
      have b2_28_10 : N2 28 10 = N1 28 10 := y2 28 10 (by decide +kernel)
      have b2_77_6 : N2 77 6 = N1 77 6 := y2 77 6 (by decide +kernel)
      have b2_91_2 : N2 91 2 = N1 91 2 := y2 91 2 (by decide +kernel)
      have b2_91_33 : N2 91 33 = N1 91 33 := y2 91 33 (by decide +kernel)
      have b2_91_34 : N2 91 34 = N1 91 34 := y2 91 34 (by decide +kernel)
      have b2_91_61 : N2 91 61 = N1 91 61 := y2 91 61 (by decide +kernel)
      have b2_93_0 : N2 93 0 = N1 93 0 := y2 93 0 (by decide +kernel)
      have b2_93_1 : N2 93 1 = N1 93 1 := y2 93 1 (by decide +kernel)
      have b2_93_2 : N2 93 2 = N1 93 2 := y2 93 2 (by decide +kernel)
      have hv : ρ2 6 = ρ1 6 := by
        clear hT hs s2 k1 i1 i2 y1 y2 u1 u2 q1 q2 p1 p2
        rcases z2 with z2 | z2 <;> omega
      clear z1 z2
      rw [w1] at e1
      rw [w2, hv] at e2
      simp only [List.map_cons, List.map_nil, i32_of] at e1 e2
      exact ⟨Int32.ofInt (ρ1 6), N1, N2, e1, e2, 28, Or.inr rfl, s2, (fun q hq => by
        have hq : q ∈ ([(0, 1, 91, 2), (4, 261, 0, 1), (0, 2, 91, 33), (0, 3, 91, 34), (28, 8, 93, 0), (28, 9, 93, 1), (28, 10, 93, 2), (77, 6, 91, 61)] : List (Nat × Nat × Nat × Nat)) := hq
        simp only [List.mem_cons, List.not_mem_nil, or_false] at hq
        rcases hq with rfl | rfl | rfl | rfl | rfl | rfl | rfl | rfl
        · exact (show N2 0 1 = N2 91 2 by omega)
        · exact (show N2 4 261 = N2 0 1 by omega)
        · exact (show N2 0 2 = N2 91 33 by omega)
        · exact (show N2 0 3 = N2 91 34 by omega)
        · exact (show N2 28 8 = N2 93 0 by omega)
        · exact (show N2 28 9 = N2 93 1 by omega)
        · exact (show N2 28 10 = N2 93 2 by omega)
        · exact (show N2 77 6 = N2 91 61 by omega))⟩
    · have v1 : N1 4 350 = 27 := by omega
      obtain ⟨rv2, N2, e2, p2, q2⟩ := u_runX ko_r665 (ks := uKq 28 ++ [(4, 350, 27)]) (ex := [[(1, 0), (1, 4)], [(23, 0), (-1, 4)], [(1, 0), (1, 1), (-1, 2), (1, 3), (-1, 5)], [(-1, 0), (-1, 1), (1, 2), (-1, 3), (1, 5)], [(1, 1)], [(23, 0), (-1, 1)], [(1, 2)], [(23, 0), (-1, 2)], [(-2, 0), (1, 5)]]) (o := 91) (bs := [false, false]) (by decide +kernel) i1 (fun q hq => by rcases List.mem_append.mp hq with hq | hq; exact k1 q hq; rw [List.mem_singleton] at hq; rw [hq]; exact v1) (as := [x1.toInt, x2.toInt]) ⟨⟨uarg_i _, fun h => nomatch h⟩, ⟨⟨uarg_i _, fun h => nomatch h⟩, trivial⟩⟩ (fun hm f hf => by
          obtain ⟨ρ, hρ⟩ : ∃ ρ, ρ = uRho [x1.toInt, x2.toInt] N1 (cM kc_r665) := ⟨_, rfl⟩
          have o1 : ρ 0 = 1 := by rw [hρ]; rfl
          have a1 : ρ 1 = x1.toInt := by rw [hρ]; exact urho_a (as := [x1.toInt, x2.toInt]) (j := 0) (show (0 : Nat) < 2 from by decide)
          have a2 : ρ 2 = x2.toInt := by rw [hρ]; exact urho_a (as := [x1.toInt, x2.toInt]) (j := 1) (show (1 : Nat) < 2 from by decide)
          rw [← hρ] at hm ⊢
          have m1 : N1 4 380 = 1 * ρ 3 + 0 := hm (4, 380, [(1, 3)]) (List.mem_of_getElem? (i := 1) rfl)
          have m2 : N1 4 382 = 1 * ρ 4 + 0 := hm (4, 382, [(1, 4)]) (List.mem_of_getElem? (i := 2) rfl)
          have m3 : N1 93 0 = 1 * ρ 5 + 0 := hm (93, 0, [(1, 5)]) (List.mem_of_getElem? (i := 3) rfl)
          have hf : f ∈ ([[(1, 0), (1, 4)], [(23, 0), (-1, 4)], [(1, 0), (1, 1), (-1, 2), (1, 3), (-1, 5)], [(-1, 0), (-1, 1), (1, 2), (-1, 3), (1, 5)], [(1, 1)], [(23, 0), (-1, 1)], [(1, 2)], [(23, 0), (-1, 2)], [(-2, 0), (1, 5)]] : List qF) := hf
          simp only [List.mem_cons, List.not_mem_nil, or_false] at hf
          rcases hf with rfl | rfl | rfl | rfl | rfl | rfl | rfl | rfl | rfl
          · show 0 ≤ 1 * ρ 0 + (1 * ρ 4 + 0)
            omega
          · show 0 ≤ 23 * ρ 0 + (-1 * ρ 4 + 0)
            omega
          · show 0 ≤ 1 * ρ 0 + (1 * ρ 1 + (-1 * ρ 2 + (1 * ρ 3 + (-1 * ρ 5 + 0))))
            omega
          · show 0 ≤ -1 * ρ 0 + (-1 * ρ 1 + (1 * ρ 2 + (-1 * ρ 3 + (1 * ρ 5 + 0))))
            omega
          · show 0 ≤ 1 * ρ 1 + 0
            omega
          · show 0 ≤ 23 * ρ 0 + (-1 * ρ 1 + 0)
            omega
          · show 0 ≤ 1 * ρ 2 + 0
            omega
          · show 0 ≤ 23 * ρ 0 + (-1 * ρ 2 + 0)
            omega
          · show 0 ≤ -2 * ρ 0 + (1 * ρ 5 + 0)
            omega) J (N := 300) (by decide)
      obtain ⟨ρ2, u2, w2, t2, z2, i2, y2⟩ := up_r665 p2
      have o2 : ρ2 0 = 1 := u2 0 (by decide)
      have a2_1 : ρ2 1 = x1.toInt := (u2 1 (by decide)).trans (urho_a (as := [x1.toInt, x2.toInt]) (j := 0) (show (0 : Nat) < 2 from by decide))
      have a2_2 : ρ2 2 = x2.toInt := (u2 2 (by decide)).trans (urho_a (as := [x1.toInt, x2.toInt]) (j := 1) (show (1 : Nat) < 2 from by decide))
      have m2_4_380 : N1 4 380 = ρ2 3 := by
        have h := q2 (4, 380, [(1, 3)]) (List.mem_of_getElem? (i := 1) rfl)
        have h : N1 4 380 = 1 * uRho [x1.toInt, x2.toInt] N1 (cM kc_r665) 3 + 0 := h
        rw [u2 3 (by decide)]
        omega
      have m2_4_382 : N1 4 382 = ρ2 4 := by
        have h := q2 (4, 382, [(1, 4)]) (List.mem_of_getElem? (i := 2) rfl)
        have h : N1 4 382 = 1 * uRho [x1.toInt, x2.toInt] N1 (cM kc_r665) 4 + 0 := h
        rw [u2 4 (by decide)]
        omega
      have m2_93_0 : N1 93 0 = ρ2 5 := by
        have h := q2 (93, 0, [(1, 5)]) (List.mem_of_getElem? (i := 3) rfl)
        have h : N1 93 0 = 1 * uRho [x1.toInt, x2.toInt] N1 (cM kc_r665) 5 + 0 := h
        rw [u2 5 (by decide)]
        omega
      obtain ⟨t2_0, t2_1, t2_2⟩ := t2
      rw [o2] at z2
      have s2 : uSt 28 N2 := ⟨i2, ukeepX_ok (ks := uKq 28 ++ [(4, 350, 27)]) (c := kc_r665) (by decide +kernel) (fun q hq => by rcases List.mem_append.mp hq with hq | hq; exact k1 q hq; rw [List.mem_singleton] at hq; rw [hq]; exact v1) p2⟩
      have b2_0_1 : N2 0 1 = N1 0 1 := y2 0 1 (by decide +kernel)
      have b2_0_2 : N2 0 2 = N1 0 2 := y2 0 2 (by decide +kernel)
      have b2_0_3 : N2 0 3 = N1 0 3 := y2 0 3 (by decide +kernel)
      have b2_4_261 : N2 4 261 = N1 4 261 := y2 4 261 (by decide +kernel)
      have b2_28_8 : N2 28 8 = N1 28 8 := y2 28 8 (by decide +kernel)
      have b2_28_9 : N2 28 9 = N1 28 9 := y2 28 9 (by decide +kernel)
      have b2_28_10 : N2 28 10 = N1 28 10 := y2 28 10 (by decide +kernel)
      have b2_77_6 : N2 77 6 = N1 77 6 := y2 77 6 (by decide +kernel)
      have b2_91_2 : N2 91 2 = N1 91 2 := y2 91 2 (by decide +kernel)
      have b2_91_33 : N2 91 33 = N1 91 33 := y2 91 33 (by decide +kernel)
      have b2_91_34 : N2 91 34 = N1 91 34 := y2 91 34 (by decide +kernel)
      have b2_91_61 : N2 91 61 = N1 91 61 := y2 91 61 (by decide +kernel)
      have b2_93_0 : N2 93 0 = N1 93 0 := y2 93 0 (by decide +kernel)
      have b2_93_1 : N2 93 1 = N1 93 1 := y2 93 1 (by decide +kernel)
      have b2_93_2 : N2 93 2 = N1 93 2 := y2 93 2 (by decide +kernel)
      have hv : ρ2 6 = ρ1 6 := by
        clear hT hs s2 k1 i1 i2 y1 y2 u1 u2 q1 q2 p1 p2
        rcases z2 with z2 | z2 <;> omega
      clear z1 z2
      rw [w1] at e1
      rw [w2, hv] at e2
      simp only [List.map_cons, List.map_nil, i32_of] at e1 e2
      exact ⟨Int32.ofInt (ρ1 6), N1, N2, e1, e2, 28, Or.inr rfl, s2, (fun q hq => by
        have hq : q ∈ ([(0, 1, 91, 2), (4, 261, 0, 1), (0, 2, 91, 33), (0, 3, 91, 34), (28, 8, 93, 0), (28, 9, 93, 1), (28, 10, 93, 2), (77, 6, 91, 61)] : List (Nat × Nat × Nat × Nat)) := hq
        simp only [List.mem_cons, List.not_mem_nil, or_false] at hq
        rcases hq with rfl | rfl | rfl | rfl | rfl | rfl | rfl | rfl
        · exact (show N2 0 1 = N2 91 2 by omega)
        · exact (show N2 4 261 = N2 0 1 by omega)
        · exact (show N2 0 2 = N2 91 33 by omega)
        · exact (show N2 0 3 = N2 91 34 by omega)
        · exact (show N2 28 8 = N2 93 0 by omega)
        · exact (show N2 28 9 = N2 93 1 by omega)
        · exact (show N2 28 10 = N2 93 2 by omega)
        · exact (show N2 77 6 = N2 91 61 by omega))⟩
theorem up_86 {ρ : Nat → Int} {M M' : sM} {rv : Option sV} (h : qPost kc_86 ρ M rv M') : ∃ ρ' : Nat → Int, (∀ a, a < 7 → ρ' a = ρ a) ∧ rv = qRv 0 (ρ' 7) ∧ (M' 4 350 = ρ' 8 ∧ M' 4 390 = ρ' 9 ∧ M' 4 391 = ρ' 10 ∧ M' 4 392 = ρ' 11 ∧ M' 4 393 = ρ' 12 ∧ M' 4 394 = ρ' 13 ∧ M' 4 395 = ρ' 14 ∧ M' 4 396 = ρ' 15 ∧ M' 4 397 = ρ' 16 ∧ M' 4 398 = ρ' 17) ∧ ((0 ≤ 1 * ρ' 0 + (1 * ρ' 7 + 0) ∧ 0 ≤ -1 * ρ' 0 + (-1 * ρ' 7 + 0) ∧ 0 ≤ 1 * ρ' 8 + 0 ∧ 0 ≤ -1 * ρ' 8 + 0 ∧ 0 ≤ -1 * ρ' 0 + (-1 * ρ' 1 + 0)) ∨ (0 ≤ 1 * ρ' 0 + (1 * ρ' 7 + 0) ∧ 0 ≤ -1 * ρ' 0 + (-1 * ρ' 7 + 0) ∧ 0 ≤ 1 * ρ' 8 + 0 ∧ 0 ≤ -1 * ρ' 8 + 0 ∧ 0 ≤ 1 * ρ' 1 + (-1 * ρ' 4 + 0)) ∨ (0 ≤ 1 * ρ' 0 + (1 * ρ' 7 + 0) ∧ 0 ≤ -1 * ρ' 0 + (-1 * ρ' 7 + 0) ∧ 0 ≤ 1 * ρ' 8 + 0 ∧ 0 ≤ -1 * ρ' 8 + 0 ∧ 0 ≤ -1 * ρ' 0 + (-1 * ρ' 2 + 0)) ∨ (0 ≤ 1 * ρ' 0 + (1 * ρ' 7 + 0) ∧ 0 ≤ -1 * ρ' 0 + (-1 * ρ' 7 + 0) ∧ 0 ≤ 1 * ρ' 8 + 0 ∧ 0 ≤ -1 * ρ' 8 + 0 ∧ 0 ≤ 1 * ρ' 2 + (-1 * ρ' 3 + 0)) ∨ (0 ≤ -28 * ρ' 0 + (1 * ρ' 8 + 0) ∧ 0 ≤ 28 * ρ' 0 + (-1 * ρ' 8 + 0) ∧ 0 ≤ -1 * ρ' 1 + (1 * ρ' 9 + 0) ∧ 0 ≤ 1 * ρ' 1 + (-1 * ρ' 9 + 0) ∧ 0 ≤ -1 * ρ' 2 + (1 * ρ' 12 + 0) ∧ 0 ≤ 1 * ρ' 2 + (-1 * ρ' 12 + 0) ∧ 0 ≤ 1 * ρ' 0 + (-1 * ρ' 3 + (1 * ρ' 15 + 0)) ∧ 0 ≤ -1 * ρ' 0 + (1 * ρ' 3 + (-1 * ρ' 15 + 0)) ∧ 0 ≤ 1 * ρ' 1 + 0 ∧ 0 ≤ -1 * ρ' 0 + (-1 * ρ' 1 + (1 * ρ' 4 + 0)) ∧ 0 ≤ 1 * ρ' 2 + 0 ∧ 0 ≤ -1 * ρ' 0 + (-1 * ρ' 2 + (1 * ρ' 3 + 0)) ∧ 0 ≤ 1 * ρ' 7 + (-1 * ρ' 10 + 0) ∧ 0 ≤ -1 * ρ' 7 + (1 * ρ' 10 + 0) ∧ 0 ≤ -1 * ρ' 14 + (1 * ρ' 16 + 0) ∧ 0 ≤ 1 * ρ' 14 + (-1 * ρ' 16 + 0)) ∨ (0 ≤ -28 * ρ' 0 + (1 * ρ' 8 + 0) ∧ 0 ≤ 28 * ρ' 0 + (-1 * ρ' 8 + 0) ∧ 0 ≤ -1 * ρ' 1 + (1 * ρ' 9 + 0) ∧ 0 ≤ 1 * ρ' 1 + (-1 * ρ' 9 + 0) ∧ 0 ≤ -1 * ρ' 2 + (1 * ρ' 12 + 0) ∧ 0 ≤ 1 * ρ' 2 + (-1 * ρ' 12 + 0) ∧ 0 ≤ 1 * ρ' 0 + (-1 * ρ' 3 + (1 * ρ' 15 + 0)) ∧ 0 ≤ -1 * ρ' 0 + (1 * ρ' 3 + (-1 * ρ' 15 + 0)) ∧ 0 ≤ 1 * ρ' 1 + 0 ∧ 0 ≤ -1 * ρ' 0 + (-1 * ρ' 1 + (1 * ρ' 4 + 0)) ∧ 0 ≤ 1 * ρ' 2 + 0 ∧ 0 ≤ -1 * ρ' 0 + (-1 * ρ' 2 + (1 * ρ' 3 + 0)) ∧ 0 ≤ 1 * ρ' 7 + (-1 * ρ' 10 + (-1 * ρ' 17 + 0)) ∧ 0 ≤ -1 * ρ' 7 + (1 * ρ' 10 + (1 * ρ' 17 + 0)) ∧ 0 ≤ -1 * ρ' 0 + (-1 * ρ' 14 + (1 * ρ' 16 + 0))) ∨ (0 ≤ -28 * ρ' 0 + (1 * ρ' 8 + 0) ∧ 0 ≤ 28 * ρ' 0 + (-1 * ρ' 8 + 0) ∧ 0 ≤ -1 * ρ' 1 + (1 * ρ' 9 + 0) ∧ 0 ≤ 1 * ρ' 1 + (-1 * ρ' 9 + 0) ∧ 0 ≤ -1 * ρ' 2 + (1 * ρ' 12 + 0) ∧ 0 ≤ 1 * ρ' 2 + (-1 * ρ' 12 + 0) ∧ 0 ≤ 1 * ρ' 0 + (-1 * ρ' 3 + (1 * ρ' 15 + 0)) ∧ 0 ≤ -1 * ρ' 0 + (1 * ρ' 3 + (-1 * ρ' 15 + 0)) ∧ 0 ≤ 1 * ρ' 1 + 0 ∧ 0 ≤ -1 * ρ' 0 + (-1 * ρ' 1 + (1 * ρ' 4 + 0)) ∧ 0 ≤ 1 * ρ' 2 + 0 ∧ 0 ≤ -1 * ρ' 0 + (-1 * ρ' 2 + (1 * ρ' 3 + 0)) ∧ 0 ≤ 1 * ρ' 7 + (-1 * ρ' 10 + (-1 * ρ' 17 + 0)) ∧ 0 ≤ -1 * ρ' 7 + (1 * ρ' 10 + (1 * ρ' 17 + 0)) ∧ 0 ≤ -1 * ρ' 0 + (1 * ρ' 14 + (-1 * ρ' 16 + 0)))) ∧ sI M' ∧ sF (cS kc_86) M M' := by
  obtain ⟨ρ', h1, h2, ⟨al, hal, hf⟩, h3, h4, h5⟩ := h
  refine ⟨ρ', h1, h2, ⟨h3 (4, 350, 8) (List.mem_of_getElem? (i := 0) rfl), h3 (4, 390, 9) (List.mem_of_getElem? (i := 1) rfl), h3 (4, 391, 10) (List.mem_of_getElem? (i := 2) rfl), h3 (4, 392, 11) (List.mem_of_getElem? (i := 3) rfl), h3 (4, 393, 12) (List.mem_of_getElem? (i := 4) rfl), h3 (4, 394, 13) (List.mem_of_getElem? (i := 5) rfl), h3 (4, 395, 14) (List.mem_of_getElem? (i := 6) rfl), h3 (4, 396, 15) (List.mem_of_getElem? (i := 7) rfl), h3 (4, 397, 16) (List.mem_of_getElem? (i := 8) rfl), h3 (4, 398, 17) (List.mem_of_getElem? (i := 9) rfl)⟩, ?_, h4, h5⟩
  have hal : al ∈ ([[[(1, 0), (1, 7)], [(-1, 0), (-1, 7)], [(1, 8)], [(-1, 8)], [(-1, 0), (-1, 1)]], [[(1, 0), (1, 7)], [(-1, 0), (-1, 7)], [(1, 8)], [(-1, 8)], [(1, 1), (-1, 4)]], [[(1, 0), (1, 7)], [(-1, 0), (-1, 7)], [(1, 8)], [(-1, 8)], [(-1, 0), (-1, 2)]], [[(1, 0), (1, 7)], [(-1, 0), (-1, 7)], [(1, 8)], [(-1, 8)], [(1, 2), (-1, 3)]], [[(-28, 0), (1, 8)], [(28, 0), (-1, 8)], [(-1, 1), (1, 9)], [(1, 1), (-1, 9)], [(-1, 2), (1, 12)], [(1, 2), (-1, 12)], [(1, 0), (-1, 3), (1, 15)], [(-1, 0), (1, 3), (-1, 15)], [(1, 1)], [(-1, 0), (-1, 1), (1, 4)], [(1, 2)], [(-1, 0), (-1, 2), (1, 3)], [(1, 7), (-1, 10)], [(-1, 7), (1, 10)], [(-1, 14), (1, 16)], [(1, 14), (-1, 16)]], [[(-28, 0), (1, 8)], [(28, 0), (-1, 8)], [(-1, 1), (1, 9)], [(1, 1), (-1, 9)], [(-1, 2), (1, 12)], [(1, 2), (-1, 12)], [(1, 0), (-1, 3), (1, 15)], [(-1, 0), (1, 3), (-1, 15)], [(1, 1)], [(-1, 0), (-1, 1), (1, 4)], [(1, 2)], [(-1, 0), (-1, 2), (1, 3)], [(1, 7), (-1, 10), (-1, 17)], [(-1, 7), (1, 10), (1, 17)], [(-1, 0), (-1, 14), (1, 16)]], [[(-28, 0), (1, 8)], [(28, 0), (-1, 8)], [(-1, 1), (1, 9)], [(1, 1), (-1, 9)], [(-1, 2), (1, 12)], [(1, 2), (-1, 12)], [(1, 0), (-1, 3), (1, 15)], [(-1, 0), (1, 3), (-1, 15)], [(1, 1)], [(-1, 0), (-1, 1), (1, 4)], [(1, 2)], [(-1, 0), (-1, 2), (1, 3)], [(1, 7), (-1, 10), (-1, 17)], [(-1, 7), (1, 10), (1, 17)], [(-1, 0), (1, 14), (-1, 16)]]] : List (List qF)) := hal
  simp only [List.mem_cons, List.not_mem_nil, or_false] at hal
  rcases hal with rfl | rfl | rfl | rfl | rfl | rfl | rfl
  · exact Or.inl ⟨hf [(1, 0), (1, 7)] (List.mem_of_getElem? (i := 0) rfl), hf [(-1, 0), (-1, 7)] (List.mem_of_getElem? (i := 1) rfl), hf [(1, 8)] (List.mem_of_getElem? (i := 2) rfl), hf [(-1, 8)] (List.mem_of_getElem? (i := 3) rfl), hf [(-1, 0), (-1, 1)] (List.mem_of_getElem? (i := 4) rfl)⟩
  · exact Or.inr (Or.inl ⟨hf [(1, 0), (1, 7)] (List.mem_of_getElem? (i := 0) rfl), hf [(-1, 0), (-1, 7)] (List.mem_of_getElem? (i := 1) rfl), hf [(1, 8)] (List.mem_of_getElem? (i := 2) rfl), hf [(-1, 8)] (List.mem_of_getElem? (i := 3) rfl), hf [(1, 1), (-1, 4)] (List.mem_of_getElem? (i := 4) rfl)⟩)
  · exact Or.inr (Or.inr (Or.inl ⟨hf [(1, 0), (1, 7)] (List.mem_of_getElem? (i := 0) rfl), hf [(-1, 0), (-1, 7)] (List.mem_of_getElem? (i := 1) rfl), hf [(1, 8)] (List.mem_of_getElem? (i := 2) rfl), hf [(-1, 8)] (List.mem_of_getElem? (i := 3) rfl), hf [(-1, 0), (-1, 2)] (List.mem_of_getElem? (i := 4) rfl)⟩))
  · exact Or.inr (Or.inr (Or.inr (Or.inl ⟨hf [(1, 0), (1, 7)] (List.mem_of_getElem? (i := 0) rfl), hf [(-1, 0), (-1, 7)] (List.mem_of_getElem? (i := 1) rfl), hf [(1, 8)] (List.mem_of_getElem? (i := 2) rfl), hf [(-1, 8)] (List.mem_of_getElem? (i := 3) rfl), hf [(1, 2), (-1, 3)] (List.mem_of_getElem? (i := 4) rfl)⟩)))
  · exact Or.inr (Or.inr (Or.inr (Or.inr (Or.inl ⟨hf [(-28, 0), (1, 8)] (List.mem_of_getElem? (i := 0) rfl), hf [(28, 0), (-1, 8)] (List.mem_of_getElem? (i := 1) rfl), hf [(-1, 1), (1, 9)] (List.mem_of_getElem? (i := 2) rfl), hf [(1, 1), (-1, 9)] (List.mem_of_getElem? (i := 3) rfl), hf [(-1, 2), (1, 12)] (List.mem_of_getElem? (i := 4) rfl), hf [(1, 2), (-1, 12)] (List.mem_of_getElem? (i := 5) rfl), hf [(1, 0), (-1, 3), (1, 15)] (List.mem_of_getElem? (i := 6) rfl), hf [(-1, 0), (1, 3), (-1, 15)] (List.mem_of_getElem? (i := 7) rfl), hf [(1, 1)] (List.mem_of_getElem? (i := 8) rfl), hf [(-1, 0), (-1, 1), (1, 4)] (List.mem_of_getElem? (i := 9) rfl), hf [(1, 2)] (List.mem_of_getElem? (i := 10) rfl), hf [(-1, 0), (-1, 2), (1, 3)] (List.mem_of_getElem? (i := 11) rfl), hf [(1, 7), (-1, 10)] (List.mem_of_getElem? (i := 12) rfl), hf [(-1, 7), (1, 10)] (List.mem_of_getElem? (i := 13) rfl), hf [(-1, 14), (1, 16)] (List.mem_of_getElem? (i := 14) rfl), hf [(1, 14), (-1, 16)] (List.mem_of_getElem? (i := 15) rfl)⟩))))
  · exact Or.inr (Or.inr (Or.inr (Or.inr (Or.inr (Or.inl ⟨hf [(-28, 0), (1, 8)] (List.mem_of_getElem? (i := 0) rfl), hf [(28, 0), (-1, 8)] (List.mem_of_getElem? (i := 1) rfl), hf [(-1, 1), (1, 9)] (List.mem_of_getElem? (i := 2) rfl), hf [(1, 1), (-1, 9)] (List.mem_of_getElem? (i := 3) rfl), hf [(-1, 2), (1, 12)] (List.mem_of_getElem? (i := 4) rfl), hf [(1, 2), (-1, 12)] (List.mem_of_getElem? (i := 5) rfl), hf [(1, 0), (-1, 3), (1, 15)] (List.mem_of_getElem? (i := 6) rfl), hf [(-1, 0), (1, 3), (-1, 15)] (List.mem_of_getElem? (i := 7) rfl), hf [(1, 1)] (List.mem_of_getElem? (i := 8) rfl), hf [(-1, 0), (-1, 1), (1, 4)] (List.mem_of_getElem? (i := 9) rfl), hf [(1, 2)] (List.mem_of_getElem? (i := 10) rfl), hf [(-1, 0), (-1, 2), (1, 3)] (List.mem_of_getElem? (i := 11) rfl), hf [(1, 7), (-1, 10), (-1, 17)] (List.mem_of_getElem? (i := 12) rfl), hf [(-1, 7), (1, 10), (1, 17)] (List.mem_of_getElem? (i := 13) rfl), hf [(-1, 0), (-1, 14), (1, 16)] (List.mem_of_getElem? (i := 14) rfl)⟩)))))
  · exact Or.inr (Or.inr (Or.inr (Or.inr (Or.inr (Or.inr (⟨hf [(-28, 0), (1, 8)] (List.mem_of_getElem? (i := 0) rfl), hf [(28, 0), (-1, 8)] (List.mem_of_getElem? (i := 1) rfl), hf [(-1, 1), (1, 9)] (List.mem_of_getElem? (i := 2) rfl), hf [(1, 1), (-1, 9)] (List.mem_of_getElem? (i := 3) rfl), hf [(-1, 2), (1, 12)] (List.mem_of_getElem? (i := 4) rfl), hf [(1, 2), (-1, 12)] (List.mem_of_getElem? (i := 5) rfl), hf [(1, 0), (-1, 3), (1, 15)] (List.mem_of_getElem? (i := 6) rfl), hf [(-1, 0), (1, 3), (-1, 15)] (List.mem_of_getElem? (i := 7) rfl), hf [(1, 1)] (List.mem_of_getElem? (i := 8) rfl), hf [(-1, 0), (-1, 1), (1, 4)] (List.mem_of_getElem? (i := 9) rfl), hf [(1, 2)] (List.mem_of_getElem? (i := 10) rfl), hf [(-1, 0), (-1, 2), (1, 3)] (List.mem_of_getElem? (i := 11) rfl), hf [(1, 7), (-1, 10), (-1, 17)] (List.mem_of_getElem? (i := 12) rfl), hf [(-1, 7), (1, 10), (1, 17)] (List.mem_of_getElem? (i := 13) rfl), hf [(-1, 0), (1, 14), (-1, 16)] (List.mem_of_getElem? (i := 14) rfl)⟩))))))
theorem up_264 {ρ : Nat → Int} {M M' : sM} {rv : Option sV} (h : qPost kc_264 ρ M rv M') : ∃ ρ' : Nat → Int, (∀ a, a < 7 → ρ' a = ρ a) ∧ rv = qRv 0 (ρ' 7) ∧ (M' 4 350 = ρ' 8 ∧ M' 4 390 = ρ' 9 ∧ M' 4 391 = ρ' 10 ∧ M' 4 392 = ρ' 11 ∧ M' 4 393 = ρ' 12 ∧ M' 4 394 = ρ' 13 ∧ M' 4 395 = ρ' 14 ∧ M' 4 396 = ρ' 15 ∧ M' 4 397 = ρ' 16 ∧ M' 4 398 = ρ' 17) ∧ ((0 ≤ 1 * ρ' 0 + (1 * ρ' 7 + 0) ∧ 0 ≤ -1 * ρ' 0 + (-1 * ρ' 7 + 0) ∧ 0 ≤ 1 * ρ' 8 + 0 ∧ 0 ≤ -1 * ρ' 8 + 0 ∧ 0 ≤ -1 * ρ' 0 + (-1 * ρ' 1 + 0)) ∨ (0 ≤ 1 * ρ' 0 + (1 * ρ' 7 + 0) ∧ 0 ≤ -1 * ρ' 0 + (-1 * ρ' 7 + 0) ∧ 0 ≤ 1 * ρ' 8 + 0 ∧ 0 ≤ -1 * ρ' 8 + 0 ∧ 0 ≤ 1 * ρ' 1 + (-1 * ρ' 4 + 0)) ∨ (0 ≤ 1 * ρ' 0 + (1 * ρ' 7 + 0) ∧ 0 ≤ -1 * ρ' 0 + (-1 * ρ' 7 + 0) ∧ 0 ≤ 1 * ρ' 8 + 0 ∧ 0 ≤ -1 * ρ' 8 + 0 ∧ 0 ≤ -1 * ρ' 0 + (-1 * ρ' 2 + 0)) ∨ (0 ≤ 1 * ρ' 0 + (1 * ρ' 7 + 0) ∧ 0 ≤ -1 * ρ' 0 + (-1 * ρ' 7 + 0) ∧ 0 ≤ 1 * ρ' 8 + 0 ∧ 0 ≤ -1 * ρ' 8 + 0 ∧ 0 ≤ 1 * ρ' 2 + (-1 * ρ' 3 + 0)) ∨ (0 ≤ -28 * ρ' 0 + (1 * ρ' 8 + 0) ∧ 0 ≤ 28 * ρ' 0 + (-1 * ρ' 8 + 0) ∧ 0 ≤ -1 * ρ' 1 + (1 * ρ' 9 + 0) ∧ 0 ≤ 1 * ρ' 1 + (-1 * ρ' 9 + 0) ∧ 0 ≤ -1 * ρ' 2 + (1 * ρ' 12 + 0) ∧ 0 ≤ 1 * ρ' 2 + (-1 * ρ' 12 + 0) ∧ 0 ≤ 1 * ρ' 0 + (-1 * ρ' 3 + (1 * ρ' 15 + 0)) ∧ 0 ≤ -1 * ρ' 0 + (1 * ρ' 3 + (-1 * ρ' 15 + 0)) ∧ 0 ≤ 1 * ρ' 1 + 0 ∧ 0 ≤ -1 * ρ' 0 + (-1 * ρ' 1 + (1 * ρ' 4 + 0)) ∧ 0 ≤ 1 * ρ' 2 + 0 ∧ 0 ≤ -1 * ρ' 0 + (-1 * ρ' 2 + (1 * ρ' 3 + 0)) ∧ 0 ≤ 1 * ρ' 7 + (-1 * ρ' 10 + 0) ∧ 0 ≤ -1 * ρ' 7 + (1 * ρ' 10 + 0) ∧ 0 ≤ -1 * ρ' 14 + (1 * ρ' 16 + 0) ∧ 0 ≤ 1 * ρ' 14 + (-1 * ρ' 16 + 0)) ∨ (0 ≤ -28 * ρ' 0 + (1 * ρ' 8 + 0) ∧ 0 ≤ 28 * ρ' 0 + (-1 * ρ' 8 + 0) ∧ 0 ≤ -1 * ρ' 1 + (1 * ρ' 9 + 0) ∧ 0 ≤ 1 * ρ' 1 + (-1 * ρ' 9 + 0) ∧ 0 ≤ -1 * ρ' 2 + (1 * ρ' 12 + 0) ∧ 0 ≤ 1 * ρ' 2 + (-1 * ρ' 12 + 0) ∧ 0 ≤ 1 * ρ' 0 + (-1 * ρ' 3 + (1 * ρ' 15 + 0)) ∧ 0 ≤ -1 * ρ' 0 + (1 * ρ' 3 + (-1 * ρ' 15 + 0)) ∧ 0 ≤ 1 * ρ' 1 + 0 ∧ 0 ≤ -1 * ρ' 0 + (-1 * ρ' 1 + (1 * ρ' 4 + 0)) ∧ 0 ≤ 1 * ρ' 2 + 0 ∧ 0 ≤ -1 * ρ' 0 + (-1 * ρ' 2 + (1 * ρ' 3 + 0)) ∧ 0 ≤ 1 * ρ' 7 + (-1 * ρ' 10 + (-1 * ρ' 17 + 0)) ∧ 0 ≤ -1 * ρ' 7 + (1 * ρ' 10 + (1 * ρ' 17 + 0)) ∧ 0 ≤ -1 * ρ' 0 + (-1 * ρ' 14 + (1 * ρ' 16 + 0))) ∨ (0 ≤ -28 * ρ' 0 + (1 * ρ' 8 + 0) ∧ 0 ≤ 28 * ρ' 0 + (-1 * ρ' 8 + 0) ∧ 0 ≤ -1 * ρ' 1 + (1 * ρ' 9 + 0) ∧ 0 ≤ 1 * ρ' 1 + (-1 * ρ' 9 + 0) ∧ 0 ≤ -1 * ρ' 2 + (1 * ρ' 12 + 0) ∧ 0 ≤ 1 * ρ' 2 + (-1 * ρ' 12 + 0) ∧ 0 ≤ 1 * ρ' 0 + (-1 * ρ' 3 + (1 * ρ' 15 + 0)) ∧ 0 ≤ -1 * ρ' 0 + (1 * ρ' 3 + (-1 * ρ' 15 + 0)) ∧ 0 ≤ 1 * ρ' 1 + 0 ∧ 0 ≤ -1 * ρ' 0 + (-1 * ρ' 1 + (1 * ρ' 4 + 0)) ∧ 0 ≤ 1 * ρ' 2 + 0 ∧ 0 ≤ -1 * ρ' 0 + (-1 * ρ' 2 + (1 * ρ' 3 + 0)) ∧ 0 ≤ 1 * ρ' 7 + (-1 * ρ' 10 + (-1 * ρ' 17 + 0)) ∧ 0 ≤ -1 * ρ' 7 + (1 * ρ' 10 + (1 * ρ' 17 + 0)) ∧ 0 ≤ -1 * ρ' 0 + (1 * ρ' 14 + (-1 * ρ' 16 + 0)))) ∧ sI M' ∧ sF (cS kc_264) M M' := by
  obtain ⟨ρ', h1, h2, ⟨al, hal, hf⟩, h3, h4, h5⟩ := h
  refine ⟨ρ', h1, h2, ⟨h3 (4, 350, 8) (List.mem_of_getElem? (i := 0) rfl), h3 (4, 390, 9) (List.mem_of_getElem? (i := 1) rfl), h3 (4, 391, 10) (List.mem_of_getElem? (i := 2) rfl), h3 (4, 392, 11) (List.mem_of_getElem? (i := 3) rfl), h3 (4, 393, 12) (List.mem_of_getElem? (i := 4) rfl), h3 (4, 394, 13) (List.mem_of_getElem? (i := 5) rfl), h3 (4, 395, 14) (List.mem_of_getElem? (i := 6) rfl), h3 (4, 396, 15) (List.mem_of_getElem? (i := 7) rfl), h3 (4, 397, 16) (List.mem_of_getElem? (i := 8) rfl), h3 (4, 398, 17) (List.mem_of_getElem? (i := 9) rfl)⟩, ?_, h4, h5⟩
  have hal : al ∈ ([[[(1, 0), (1, 7)], [(-1, 0), (-1, 7)], [(1, 8)], [(-1, 8)], [(-1, 0), (-1, 1)]], [[(1, 0), (1, 7)], [(-1, 0), (-1, 7)], [(1, 8)], [(-1, 8)], [(1, 1), (-1, 4)]], [[(1, 0), (1, 7)], [(-1, 0), (-1, 7)], [(1, 8)], [(-1, 8)], [(-1, 0), (-1, 2)]], [[(1, 0), (1, 7)], [(-1, 0), (-1, 7)], [(1, 8)], [(-1, 8)], [(1, 2), (-1, 3)]], [[(-28, 0), (1, 8)], [(28, 0), (-1, 8)], [(-1, 1), (1, 9)], [(1, 1), (-1, 9)], [(-1, 2), (1, 12)], [(1, 2), (-1, 12)], [(1, 0), (-1, 3), (1, 15)], [(-1, 0), (1, 3), (-1, 15)], [(1, 1)], [(-1, 0), (-1, 1), (1, 4)], [(1, 2)], [(-1, 0), (-1, 2), (1, 3)], [(1, 7), (-1, 10)], [(-1, 7), (1, 10)], [(-1, 14), (1, 16)], [(1, 14), (-1, 16)]], [[(-28, 0), (1, 8)], [(28, 0), (-1, 8)], [(-1, 1), (1, 9)], [(1, 1), (-1, 9)], [(-1, 2), (1, 12)], [(1, 2), (-1, 12)], [(1, 0), (-1, 3), (1, 15)], [(-1, 0), (1, 3), (-1, 15)], [(1, 1)], [(-1, 0), (-1, 1), (1, 4)], [(1, 2)], [(-1, 0), (-1, 2), (1, 3)], [(1, 7), (-1, 10), (-1, 17)], [(-1, 7), (1, 10), (1, 17)], [(-1, 0), (-1, 14), (1, 16)]], [[(-28, 0), (1, 8)], [(28, 0), (-1, 8)], [(-1, 1), (1, 9)], [(1, 1), (-1, 9)], [(-1, 2), (1, 12)], [(1, 2), (-1, 12)], [(1, 0), (-1, 3), (1, 15)], [(-1, 0), (1, 3), (-1, 15)], [(1, 1)], [(-1, 0), (-1, 1), (1, 4)], [(1, 2)], [(-1, 0), (-1, 2), (1, 3)], [(1, 7), (-1, 10), (-1, 17)], [(-1, 7), (1, 10), (1, 17)], [(-1, 0), (1, 14), (-1, 16)]]] : List (List qF)) := hal
  simp only [List.mem_cons, List.not_mem_nil, or_false] at hal
  rcases hal with rfl | rfl | rfl | rfl | rfl | rfl | rfl
  · exact Or.inl ⟨hf [(1, 0), (1, 7)] (List.mem_of_getElem? (i := 0) rfl), hf [(-1, 0), (-1, 7)] (List.mem_of_getElem? (i := 1) rfl), hf [(1, 8)] (List.mem_of_getElem? (i := 2) rfl), hf [(-1, 8)] (List.mem_of_getElem? (i := 3) rfl), hf [(-1, 0), (-1, 1)] (List.mem_of_getElem? (i := 4) rfl)⟩
  · exact Or.inr (Or.inl ⟨hf [(1, 0), (1, 7)] (List.mem_of_getElem? (i := 0) rfl), hf [(-1, 0), (-1, 7)] (List.mem_of_getElem? (i := 1) rfl), hf [(1, 8)] (List.mem_of_getElem? (i := 2) rfl), hf [(-1, 8)] (List.mem_of_getElem? (i := 3) rfl), hf [(1, 1), (-1, 4)] (List.mem_of_getElem? (i := 4) rfl)⟩)
  · exact Or.inr (Or.inr (Or.inl ⟨hf [(1, 0), (1, 7)] (List.mem_of_getElem? (i := 0) rfl), hf [(-1, 0), (-1, 7)] (List.mem_of_getElem? (i := 1) rfl), hf [(1, 8)] (List.mem_of_getElem? (i := 2) rfl), hf [(-1, 8)] (List.mem_of_getElem? (i := 3) rfl), hf [(-1, 0), (-1, 2)] (List.mem_of_getElem? (i := 4) rfl)⟩))
  · exact Or.inr (Or.inr (Or.inr (Or.inl ⟨hf [(1, 0), (1, 7)] (List.mem_of_getElem? (i := 0) rfl), hf [(-1, 0), (-1, 7)] (List.mem_of_getElem? (i := 1) rfl), hf [(1, 8)] (List.mem_of_getElem? (i := 2) rfl), hf [(-1, 8)] (List.mem_of_getElem? (i := 3) rfl), hf [(1, 2), (-1, 3)] (List.mem_of_getElem? (i := 4) rfl)⟩)))
  · exact Or.inr (Or.inr (Or.inr (Or.inr (Or.inl ⟨hf [(-28, 0), (1, 8)] (List.mem_of_getElem? (i := 0) rfl), hf [(28, 0), (-1, 8)] (List.mem_of_getElem? (i := 1) rfl), hf [(-1, 1), (1, 9)] (List.mem_of_getElem? (i := 2) rfl), hf [(1, 1), (-1, 9)] (List.mem_of_getElem? (i := 3) rfl), hf [(-1, 2), (1, 12)] (List.mem_of_getElem? (i := 4) rfl), hf [(1, 2), (-1, 12)] (List.mem_of_getElem? (i := 5) rfl), hf [(1, 0), (-1, 3), (1, 15)] (List.mem_of_getElem? (i := 6) rfl), hf [(-1, 0), (1, 3), (-1, 15)] (List.mem_of_getElem? (i := 7) rfl), hf [(1, 1)] (List.mem_of_getElem? (i := 8) rfl), hf [(-1, 0), (-1, 1), (1, 4)] (List.mem_of_getElem? (i := 9) rfl), hf [(1, 2)] (List.mem_of_getElem? (i := 10) rfl), hf [(-1, 0), (-1, 2), (1, 3)] (List.mem_of_getElem? (i := 11) rfl), hf [(1, 7), (-1, 10)] (List.mem_of_getElem? (i := 12) rfl), hf [(-1, 7), (1, 10)] (List.mem_of_getElem? (i := 13) rfl), hf [(-1, 14), (1, 16)] (List.mem_of_getElem? (i := 14) rfl), hf [(1, 14), (-1, 16)] (List.mem_of_getElem? (i := 15) rfl)⟩))))
  · exact Or.inr (Or.inr (Or.inr (Or.inr (Or.inr (Or.inl ⟨hf [(-28, 0), (1, 8)] (List.mem_of_getElem? (i := 0) rfl), hf [(28, 0), (-1, 8)] (List.mem_of_getElem? (i := 1) rfl), hf [(-1, 1), (1, 9)] (List.mem_of_getElem? (i := 2) rfl), hf [(1, 1), (-1, 9)] (List.mem_of_getElem? (i := 3) rfl), hf [(-1, 2), (1, 12)] (List.mem_of_getElem? (i := 4) rfl), hf [(1, 2), (-1, 12)] (List.mem_of_getElem? (i := 5) rfl), hf [(1, 0), (-1, 3), (1, 15)] (List.mem_of_getElem? (i := 6) rfl), hf [(-1, 0), (1, 3), (-1, 15)] (List.mem_of_getElem? (i := 7) rfl), hf [(1, 1)] (List.mem_of_getElem? (i := 8) rfl), hf [(-1, 0), (-1, 1), (1, 4)] (List.mem_of_getElem? (i := 9) rfl), hf [(1, 2)] (List.mem_of_getElem? (i := 10) rfl), hf [(-1, 0), (-1, 2), (1, 3)] (List.mem_of_getElem? (i := 11) rfl), hf [(1, 7), (-1, 10), (-1, 17)] (List.mem_of_getElem? (i := 12) rfl), hf [(-1, 7), (1, 10), (1, 17)] (List.mem_of_getElem? (i := 13) rfl), hf [(-1, 0), (-1, 14), (1, 16)] (List.mem_of_getElem? (i := 14) rfl)⟩)))))
  · exact Or.inr (Or.inr (Or.inr (Or.inr (Or.inr (Or.inr (⟨hf [(-28, 0), (1, 8)] (List.mem_of_getElem? (i := 0) rfl), hf [(28, 0), (-1, 8)] (List.mem_of_getElem? (i := 1) rfl), hf [(-1, 1), (1, 9)] (List.mem_of_getElem? (i := 2) rfl), hf [(1, 1), (-1, 9)] (List.mem_of_getElem? (i := 3) rfl), hf [(-1, 2), (1, 12)] (List.mem_of_getElem? (i := 4) rfl), hf [(1, 2), (-1, 12)] (List.mem_of_getElem? (i := 5) rfl), hf [(1, 0), (-1, 3), (1, 15)] (List.mem_of_getElem? (i := 6) rfl), hf [(-1, 0), (1, 3), (-1, 15)] (List.mem_of_getElem? (i := 7) rfl), hf [(1, 1)] (List.mem_of_getElem? (i := 8) rfl), hf [(-1, 0), (-1, 1), (1, 4)] (List.mem_of_getElem? (i := 9) rfl), hf [(1, 2)] (List.mem_of_getElem? (i := 10) rfl), hf [(-1, 0), (-1, 2), (1, 3)] (List.mem_of_getElem? (i := 11) rfl), hf [(1, 7), (-1, 10), (-1, 17)] (List.mem_of_getElem? (i := 12) rfl), hf [(-1, 7), (1, 10), (1, 17)] (List.mem_of_getElem? (i := 13) rfl), hf [(-1, 0), (1, 14), (-1, 16)] (List.mem_of_getElem? (i := 14) rfl)⟩))))))
theorem up_r672 {ρ : Nat → Int} {M M' : sM} {rv : Option sV} (h : qPost kc_r672 ρ M rv M') : ∃ ρ' : Nat → Int, (∀ a, a < 5 → ρ' a = ρ a) ∧ rv = qRv 0 (ρ' 5) ∧ (True) ∧ ((0 ≤ 1 * ρ' 0 + (1 * ρ' 5 + 0) ∧ 0 ≤ -1 * ρ' 0 + (-1 * ρ' 5 + 0))) ∧ sI M' ∧ sF (cS kc_r672) M M' := by
  obtain ⟨ρ', h1, h2, ⟨al, hal, hf⟩, h3, h4, h5⟩ := h
  refine ⟨ρ', h1, h2, trivial, ?_, h4, h5⟩
  have hal : al ∈ ([[[(1, 0), (1, 5)], [(-1, 0), (-1, 5)]]] : List (List qF)) := hal
  simp only [List.mem_cons, List.not_mem_nil, or_false] at hal
  rcases hal with rfl
  · exact ⟨hf [(1, 0), (1, 5)] (List.mem_of_getElem? (i := 0) rfl), hf [(-1, 0), (-1, 5)] (List.mem_of_getElem? (i := 1) rfl)⟩
theorem up_r673 {ρ : Nat → Int} {M M' : sM} {rv : Option sV} (h : qPost kc_r673 ρ M rv M') : ∃ ρ' : Nat → Int, (∀ a, a < 5 → ρ' a = ρ a) ∧ rv = qRv 0 (ρ' 5) ∧ (True) ∧ ((0 ≤ 1 * ρ' 0 + (1 * ρ' 5 + 0) ∧ 0 ≤ -1 * ρ' 0 + (-1 * ρ' 5 + 0))) ∧ sI M' ∧ sF (cS kc_r673) M M' := by
  obtain ⟨ρ', h1, h2, ⟨al, hal, hf⟩, h3, h4, h5⟩ := h
  refine ⟨ρ', h1, h2, trivial, ?_, h4, h5⟩
  have hal : al ∈ ([[[(1, 0), (1, 5)], [(-1, 0), (-1, 5)]]] : List (List qF)) := hal
  simp only [List.mem_cons, List.not_mem_nil, or_false] at hal
  rcases hal with rfl
  · exact ⟨hf [(1, 0), (1, 5)] (List.mem_of_getElem? (i := 0) rfl), hf [(-1, 0), (-1, 5)] (List.mem_of_getElem? (i := 1) rfl)⟩
theorem up_r674 {ρ : Nat → Int} {M M' : sM} {rv : Option sV} (h : qPost kc_r674 ρ M rv M') : ∃ ρ' : Nat → Int, (∀ a, a < 5 → ρ' a = ρ a) ∧ rv = qRv 0 (ρ' 5) ∧ (True) ∧ ((0 ≤ 1 * ρ' 0 + (1 * ρ' 5 + 0) ∧ 0 ≤ -1 * ρ' 0 + (-1 * ρ' 5 + 0))) ∧ sI M' ∧ sF (cS kc_r674) M M' := by
  obtain ⟨ρ', h1, h2, ⟨al, hal, hf⟩, h3, h4, h5⟩ := h
  refine ⟨ρ', h1, h2, trivial, ?_, h4, h5⟩
  have hal : al ∈ ([[[(1, 0), (1, 5)], [(-1, 0), (-1, 5)]]] : List (List qF)) := hal
  simp only [List.mem_cons, List.not_mem_nil, or_false] at hal
  rcases hal with rfl
  · exact ⟨hf [(1, 0), (1, 5)] (List.mem_of_getElem? (i := 0) rfl), hf [(-1, 0), (-1, 5)] (List.mem_of_getElem? (i := 1) rfl)⟩
theorem up_r675 {ρ : Nat → Int} {M M' : sM} {rv : Option sV} (h : qPost kc_r675 ρ M rv M') : ∃ ρ' : Nat → Int, (∀ a, a < 5 → ρ' a = ρ a) ∧ rv = qRv 0 (ρ' 5) ∧ (True) ∧ ((0 ≤ 1 * ρ' 0 + (1 * ρ' 5 + 0) ∧ 0 ≤ -1 * ρ' 0 + (-1 * ρ' 5 + 0))) ∧ sI M' ∧ sF (cS kc_r675) M M' := by
  obtain ⟨ρ', h1, h2, ⟨al, hal, hf⟩, h3, h4, h5⟩ := h
  refine ⟨ρ', h1, h2, trivial, ?_, h4, h5⟩
  have hal : al ∈ ([[[(1, 0), (1, 5)], [(-1, 0), (-1, 5)]]] : List (List qF)) := hal
  simp only [List.mem_cons, List.not_mem_nil, or_false] at hal
  rcases hal with rfl
  · exact ⟨hf [(1, 0), (1, 5)] (List.mem_of_getElem? (i := 0) rfl), hf [(-1, 0), (-1, 5)] (List.mem_of_getElem? (i := 1) rfl)⟩
theorem up_r671 {ρ : Nat → Int} {M M' : sM} {rv : Option sV} (h : qPost kc_r671 ρ M rv M') : ∃ ρ' : Nat → Int, (∀ a, a < 14 → ρ' a = ρ a) ∧ rv = qRv 0 (ρ' 14) ∧ (M' 4 350 = 0) ∧ ((0 ≤ -1 * ρ' 4 + (1 * ρ' 14 + 0) ∧ 0 ≤ 1 * ρ' 4 + (-1 * ρ' 14 + 0) ∧ 0 ≤ -1 * ρ' 8 + (1 * ρ' 10 + 0) ∧ 0 ≤ 1 * ρ' 8 + (-1 * ρ' 10 + 0) ∧ (0 : Int) ≤ 0 ∧ (0 : Int) ≤ 0) ∨ (0 ≤ -1 * ρ' 4 + (-1 * ρ' 11 + (1 * ρ' 14 + 0)) ∧ 0 ≤ 1 * ρ' 4 + (1 * ρ' 11 + (-1 * ρ' 14 + 0)) ∧ 0 ≤ -1 * ρ' 0 + (-1 * ρ' 8 + (1 * ρ' 10 + 0)) ∧ (0 : Int) ≤ 0 ∧ (0 : Int) ≤ 0) ∨ (0 ≤ -1 * ρ' 4 + (-1 * ρ' 11 + (1 * ρ' 14 + 0)) ∧ 0 ≤ 1 * ρ' 4 + (1 * ρ' 11 + (-1 * ρ' 14 + 0)) ∧ 0 ≤ -1 * ρ' 0 + (1 * ρ' 8 + (-1 * ρ' 10 + 0)) ∧ (0 : Int) ≤ 0 ∧ (0 : Int) ≤ 0)) ∧ sI M' ∧ sF (cS kc_r671) M M' := by
  obtain ⟨ρ', h1, h2, ⟨al, hal, hf⟩, h3, h4, h5⟩ := h
  refine ⟨ρ', h1, h2, h3 (4, 350, 100000) (List.mem_of_getElem? (i := 0) rfl), ?_, h4, h5⟩
  have hal : al ∈ ([[[(-1, 4), (1, 14)], [(1, 4), (-1, 14)], [(-1, 8), (1, 10)], [(1, 8), (-1, 10)], [], []], [[(-1, 4), (-1, 11), (1, 14)], [(1, 4), (1, 11), (-1, 14)], [(-1, 0), (-1, 8), (1, 10)], [], []], [[(-1, 4), (-1, 11), (1, 14)], [(1, 4), (1, 11), (-1, 14)], [(-1, 0), (1, 8), (-1, 10)], [], []]] : List (List qF)) := hal
  simp only [List.mem_cons, List.not_mem_nil, or_false] at hal
  rcases hal with rfl | rfl | rfl
  · exact Or.inl ⟨hf [(-1, 4), (1, 14)] (List.mem_of_getElem? (i := 0) rfl), hf [(1, 4), (-1, 14)] (List.mem_of_getElem? (i := 1) rfl), hf [(-1, 8), (1, 10)] (List.mem_of_getElem? (i := 2) rfl), hf [(1, 8), (-1, 10)] (List.mem_of_getElem? (i := 3) rfl), hf [] (List.mem_of_getElem? (i := 4) rfl), hf [] (List.mem_of_getElem? (i := 5) rfl)⟩
  · exact Or.inr (Or.inl ⟨hf [(-1, 4), (-1, 11), (1, 14)] (List.mem_of_getElem? (i := 0) rfl), hf [(1, 4), (1, 11), (-1, 14)] (List.mem_of_getElem? (i := 1) rfl), hf [(-1, 0), (-1, 8), (1, 10)] (List.mem_of_getElem? (i := 2) rfl), hf [] (List.mem_of_getElem? (i := 3) rfl), hf [] (List.mem_of_getElem? (i := 4) rfl)⟩)
  · exact Or.inr (Or.inr (⟨hf [(-1, 4), (-1, 11), (1, 14)] (List.mem_of_getElem? (i := 0) rfl), hf [(1, 4), (1, 11), (-1, 14)] (List.mem_of_getElem? (i := 1) rfl), hf [(-1, 0), (1, 8), (-1, 10)] (List.mem_of_getElem? (i := 2) rfl), hf [] (List.mem_of_getElem? (i := 3) rfl), hf [] (List.mem_of_getElem? (i := 4) rfl)⟩))
set_option maxHeartbeats 4000000 in
theorem uo_26 {M : sM} (hM : uG M) (J : pHp) (x1 : Int32) (x2 : Int32) : ∃ (v : Int32) (M1 M2 : sM), pEx 300 136 [.ref 0, .int x1, .int x2] (sHp sLay M ++ J) (some (.int v)) (sHp sLay M1 ++ J) ∧ pEx 300 264 [.ref 91, .int x1, .int x2] (sHp sLay M1 ++ J) (some (.int v)) (sHp sLay M2 ++ J) ∧ uG M2 := by
  obtain ⟨r, hr, hs, hT⟩ := hM
  rcases hr with rfl | rfl
  · have kM_0 : M 0 1 = M 91 2 := hT (0, 1, 91, 2) (List.mem_of_getElem? (i := 0) rfl)
    have kM_1 : M 4 261 = M 0 1 := hT (4, 261, 0, 1) (List.mem_of_getElem? (i := 1) rfl)
    have kM_2 : M 0 2 = M 91 33 := hT (0, 2, 91, 33) (List.mem_of_getElem? (i := 2) rfl)
    have kM_3 : M 0 3 = M 91 34 := hT (0, 3, 91, 34) (List.mem_of_getElem? (i := 3) rfl)
    have kM_4 : M 2 8 = M 93 0 := hT ((2 : Int).toNat, 8, 93, 0) (List.mem_of_getElem? (i := 4) rfl)
    have kM_5 : M 2 9 = M 93 1 := hT ((2 : Int).toNat, 9, 93, 1) (List.mem_of_getElem? (i := 5) rfl)
    have kM_6 : M 2 10 = M 93 2 := hT ((2 : Int).toNat, 10, 93, 2) (List.mem_of_getElem? (i := 6) rfl)
    have kM_7 : M 77 6 = M 91 61 := hT (77, 6, 91, 61) (List.mem_of_getElem? (i := 7) rfl)
    obtain ⟨rv1, N1, e1, p1, q1⟩ := u_runX ko_86 (ks := uKs 2) (ex := [[(1, 3), (-1, 5)], [(-1, 3), (1, 5)], [(1, 4), (-1, 6)], [(-1, 4), (1, 6)]]) (o := 0) (bs := [false, false]) (by decide +kernel) hs.1 hs.2 (as := [x1.toInt, x2.toInt]) ⟨⟨uarg_i _, fun h => nomatch h⟩, ⟨⟨uarg_i _, fun h => nomatch h⟩, trivial⟩⟩ (fun hm f hf => by
        obtain ⟨ρ, hρ⟩ : ∃ ρ, ρ = uRho [x1.toInt, x2.toInt] M (cM kc_86) := ⟨_, rfl⟩
        have o1 : ρ 0 = 1 := by rw [hρ]; rfl
        rw [← hρ] at hm ⊢
        have m3 : M 93 0 = 1 * ρ 3 + 0 := hm (93, 0, [(1, 3)]) (List.mem_of_getElem? (i := 3) rfl)
        have m4 : M 93 1 = 1 * ρ 4 + 0 := hm (93, 1, [(1, 4)]) (List.mem_of_getElem? (i := 4) rfl)
        have m5 : M 2 8 = 1 * ρ 5 + 0 := hm (2, 8, [(1, 5)]) (List.mem_of_getElem? (i := 5) rfl)
        have m6 : M 2 9 = 1 * ρ 6 + 0 := hm (2, 9, [(1, 6)]) (List.mem_of_getElem? (i := 6) rfl)
        have hf : f ∈ ([[(1, 3), (-1, 5)], [(-1, 3), (1, 5)], [(1, 4), (-1, 6)], [(-1, 4), (1, 6)]] : List qF) := hf
        simp only [List.mem_cons, List.not_mem_nil, or_false] at hf
        rcases hf with rfl | rfl | rfl | rfl
        · show 0 ≤ 1 * ρ 3 + (-1 * ρ 5 + 0)
          omega
        · show 0 ≤ -1 * ρ 3 + (1 * ρ 5 + 0)
          omega
        · show 0 ≤ 1 * ρ 4 + (-1 * ρ 6 + 0)
          omega
        · show 0 ≤ -1 * ρ 4 + (1 * ρ 6 + 0)
          omega) J (N := 300) (by decide)
    obtain ⟨ρ1, u1, w1, t1, z1, i1, y1⟩ := up_86 p1
    have o1 : ρ1 0 = 1 := u1 0 (by decide)
    have a1_1 : ρ1 1 = x1.toInt := (u1 1 (by decide)).trans (urho_a (as := [x1.toInt, x2.toInt]) (j := 0) (show (0 : Nat) < 2 from by decide))
    have a1_2 : ρ1 2 = x2.toInt := (u1 2 (by decide)).trans (urho_a (as := [x1.toInt, x2.toInt]) (j := 1) (show (1 : Nat) < 2 from by decide))
    have m1_93_0 : M 93 0 = ρ1 3 := by
      have h := q1 (93, 0, [(1, 3)]) (List.mem_of_getElem? (i := 3) rfl)
      have h : M 93 0 = 1 * uRho [x1.toInt, x2.toInt] M (cM kc_86) 3 + 0 := h
      rw [u1 3 (by decide)]
      omega
    have m1_93_1 : M 93 1 = ρ1 4 := by
      have h := q1 (93, 1, [(1, 4)]) (List.mem_of_getElem? (i := 4) rfl)
      have h : M 93 1 = 1 * uRho [x1.toInt, x2.toInt] M (cM kc_86) 4 + 0 := h
      rw [u1 4 (by decide)]
      omega
    have m1_2_8 : M 2 8 = ρ1 5 := by
      have h := q1 (2, 8, [(1, 5)]) (List.mem_of_getElem? (i := 5) rfl)
      have h : M 2 8 = 1 * uRho [x1.toInt, x2.toInt] M (cM kc_86) 5 + 0 := h
      rw [u1 5 (by decide)]
      omega
    have m1_2_9 : M 2 9 = ρ1 6 := by
      have h := q1 (2, 9, [(1, 6)]) (List.mem_of_getElem? (i := 6) rfl)
      have h : M 2 9 = 1 * uRho [x1.toInt, x2.toInt] M (cM kc_86) 6 + 0 := h
      rw [u1 6 (by decide)]
      omega
    obtain ⟨t1_0, t1_1, t1_2, t1_3, t1_4, t1_5, t1_6, t1_7, t1_8, t1_9⟩ := t1
    rw [o1] at z1
    have k1 : ∀ q ∈ uKq 2, N1 q.1 q.2.1 = q.2.2 := ukeepX_ok (ks := uKs 2) (c := kc_86) (by decide +kernel) hs.2 p1
    have b1_0_1 : N1 0 1 = M 0 1 := y1 0 1 (by decide +kernel)
    have b1_0_2 : N1 0 2 = M 0 2 := y1 0 2 (by decide +kernel)
    have b1_0_3 : N1 0 3 = M 0 3 := y1 0 3 (by decide +kernel)
    have b1_2_8 : N1 2 8 = M 2 8 := y1 2 8 (by decide +kernel)
    have b1_2_9 : N1 2 9 = M 2 9 := y1 2 9 (by decide +kernel)
    have b1_2_10 : N1 2 10 = M 2 10 := y1 2 10 (by decide +kernel)
    have b1_4_261 : N1 4 261 = M 4 261 := y1 4 261 (by decide +kernel)
    have b1_4_350 : N1 4 350 = ρ1 8 := t1_0
    have b1_4_390 : N1 4 390 = ρ1 9 := t1_1
    have b1_4_391 : N1 4 391 = ρ1 10 := t1_2
    have b1_4_392 : N1 4 392 = ρ1 11 := t1_3
    have b1_4_393 : N1 4 393 = ρ1 12 := t1_4
    have b1_4_394 : N1 4 394 = ρ1 13 := t1_5
    have b1_4_395 : N1 4 395 = ρ1 14 := t1_6
    have b1_4_396 : N1 4 396 = ρ1 15 := t1_7
    have b1_4_397 : N1 4 397 = ρ1 16 := t1_8
    have b1_4_398 : N1 4 398 = ρ1 17 := t1_9
    have b1_77_6 : N1 77 6 = M 77 6 := y1 77 6 (by decide +kernel)
    have b1_91_2 : N1 91 2 = M 91 2 := y1 91 2 (by decide +kernel)
    have b1_91_33 : N1 91 33 = M 91 33 := y1 91 33 (by decide +kernel)
    have b1_91_34 : N1 91 34 = M 91 34 := y1 91 34 (by decide +kernel)
    have b1_91_61 : N1 91 61 = M 91 61 := y1 91 61 (by decide +kernel)
    have b1_93_0 : N1 93 0 = M 93 0 := y1 93 0 (by decide +kernel)
    have b1_93_1 : N1 93 1 = M 93 1 := y1 93 1 (by decide +kernel)
    have b1_93_2 : N1 93 2 = M 93 2 := y1 93 2 (by decide +kernel)
    rcases z1 with z1 | z1 | z1 | z1 | z1 | z1 | z1
    · have v1 : N1 4 350 = 0 := by omega
      obtain ⟨rv2, N2, e2, p2, q2⟩ := u_runX ko_r672 (ks := uKq 2 ++ [(4, 350, 0)]) (ex := [[(-1, 0), (-1, 1)]]) (o := 91) (bs := [false, false]) (by decide +kernel) i1 (fun q hq => by rcases List.mem_append.mp hq with hq | hq; exact k1 q hq; rw [List.mem_singleton] at hq; rw [hq]; exact v1) (as := [x1.toInt, x2.toInt]) ⟨⟨uarg_i _, fun h => nomatch h⟩, ⟨⟨uarg_i _, fun h => nomatch h⟩, trivial⟩⟩ (fun hm f hf => by
          obtain ⟨ρ, hρ⟩ : ∃ ρ, ρ = uRho [x1.toInt, x2.toInt] N1 (cM kc_r672) := ⟨_, rfl⟩
          have o1 : ρ 0 = 1 := by rw [hρ]; rfl
          have a1 : ρ 1 = x1.toInt := by rw [hρ]; exact urho_a (as := [x1.toInt, x2.toInt]) (j := 0) (show (0 : Nat) < 2 from by decide)
          rw [← hρ] at hm ⊢
          have hf : f ∈ ([[(-1, 0), (-1, 1)]] : List qF) := hf
          simp only [List.mem_cons, List.not_mem_nil, or_false] at hf
          rcases hf with rfl
          · show 0 ≤ -1 * ρ 0 + (-1 * ρ 1 + 0)
            omega) J (N := 300) (by decide)
      obtain ⟨ρ2, u2, w2, t2, z2, i2, y2⟩ := up_r672 p2
      have o2 : ρ2 0 = 1 := u2 0 (by decide)
      have a2_1 : ρ2 1 = x1.toInt := (u2 1 (by decide)).trans (urho_a (as := [x1.toInt, x2.toInt]) (j := 0) (show (0 : Nat) < 2 from by decide))
      have a2_2 : ρ2 2 = x2.toInt := (u2 2 (by decide)).trans (urho_a (as := [x1.toInt, x2.toInt]) (j := 1) (show (1 : Nat) < 2 from by decide))
      have m2_93_0 : N1 93 0 = ρ2 3 := by
        have h := q2 (93, 0, [(1, 3)]) (List.mem_of_getElem? (i := 1) rfl)
        have h : N1 93 0 = 1 * uRho [x1.toInt, x2.toInt] N1 (cM kc_r672) 3 + 0 := h
        rw [u2 3 (by decide)]
        omega
      have m2_93_1 : N1 93 1 = ρ2 4 := by
        have h := q2 (93, 1, [(1, 4)]) (List.mem_of_getElem? (i := 2) rfl)
        have h : N1 93 1 = 1 * uRho [x1.toInt, x2.toInt] N1 (cM kc_r672) 4 + 0 := h
        rw [u2 4 (by decide)]
        omega
      rw [o2] at z2
      have s2 : uSt 2 N2 := ⟨i2, ukeepX_ok (ks := uKq 2 ++ [(4, 350, 0)]) (c := kc_r672) (by decide +kernel) (fun q hq => by rcases List.mem_append.mp hq with hq | hq; exact k1 q hq; rw [List.mem_singleton] at hq; rw [hq]; exact v1) p2⟩
      have b2_0_1 : N2 0 1 = N1 0 1 := y2 0 1 (by decide +kernel)
      have b2_0_2 : N2 0 2 = N1 0 2 := y2 0 2 (by decide +kernel)
      have b2_0_3 : N2 0 3 = N1 0 3 := y2 0 3 (by decide +kernel)
      have b2_2_8 : N2 2 8 = N1 2 8 := y2 2 8 (by decide +kernel)
      have b2_2_9 : N2 2 9 = N1 2 9 := y2 2 9 (by decide +kernel)
      have b2_2_10 : N2 2 10 = N1 2 10 := y2 2 10 (by decide +kernel)
      have b2_4_261 : N2 4 261 = N1 4 261 := y2 4 261 (by decide +kernel)
      have b2_77_6 : N2 77 6 = N1 77 6 := y2 77 6 (by decide +kernel)
      have b2_91_2 : N2 91 2 = N1 91 2 := y2 91 2 (by decide +kernel)
      have b2_91_33 : N2 91 33 = N1 91 33 := y2 91 33 (by decide +kernel)
      have b2_91_34 : N2 91 34 = N1 91 34 := y2 91 34 (by decide +kernel)
      have b2_91_61 : N2 91 61 = N1 91 61 := y2 91 61 (by decide +kernel)
      have b2_93_0 : N2 93 0 = N1 93 0 := y2 93 0 (by decide +kernel)
      have b2_93_1 : N2 93 1 = N1 93 1 := y2 93 1 (by decide +kernel)
      have b2_93_2 : N2 93 2 = N1 93 2 := y2 93 2 (by decide +kernel)
      have hv : ρ2 5 = ρ1 7 := by omega
      clear z1 z2
      rw [w1] at e1
      rw [w2, hv] at e2
      simp only [List.map_cons, List.map_nil, i32_of] at e1 e2
      exact ⟨Int32.ofInt (ρ1 7), N1, N2, e1, e2, 2, Or.inl rfl, s2, (fun q hq => by
        have hq : q ∈ ([(0, 1, 91, 2), (4, 261, 0, 1), (0, 2, 91, 33), (0, 3, 91, 34), (2, 8, 93, 0), (2, 9, 93, 1), (2, 10, 93, 2), (77, 6, 91, 61)] : List (Nat × Nat × Nat × Nat)) := hq
        simp only [List.mem_cons, List.not_mem_nil, or_false] at hq
        rcases hq with rfl | rfl | rfl | rfl | rfl | rfl | rfl | rfl
        · exact (show N2 0 1 = N2 91 2 by omega)
        · exact (show N2 4 261 = N2 0 1 by omega)
        · exact (show N2 0 2 = N2 91 33 by omega)
        · exact (show N2 0 3 = N2 91 34 by omega)
        · exact (show N2 2 8 = N2 93 0 by omega)
        · exact (show N2 2 9 = N2 93 1 by omega)
        · exact (show N2 2 10 = N2 93 2 by omega)
        · exact (show N2 77 6 = N2 91 61 by omega))⟩
    · have v1 : N1 4 350 = 0 := by omega
      obtain ⟨rv2, N2, e2, p2, q2⟩ := u_runX ko_r673 (ks := uKq 2 ++ [(4, 350, 0)]) (ex := [[(1, 1), (-1, 4)]]) (o := 91) (bs := [false, false]) (by decide +kernel) i1 (fun q hq => by rcases List.mem_append.mp hq with hq | hq; exact k1 q hq; rw [List.mem_singleton] at hq; rw [hq]; exact v1) (as := [x1.toInt, x2.toInt]) ⟨⟨uarg_i _, fun h => nomatch h⟩, ⟨⟨uarg_i _, fun h => nomatch h⟩, trivial⟩⟩ (fun hm f hf => by
          obtain ⟨ρ, hρ⟩ : ∃ ρ, ρ = uRho [x1.toInt, x2.toInt] N1 (cM kc_r673) := ⟨_, rfl⟩
          have o1 : ρ 0 = 1 := by rw [hρ]; rfl
          have a1 : ρ 1 = x1.toInt := by rw [hρ]; exact urho_a (as := [x1.toInt, x2.toInt]) (j := 0) (show (0 : Nat) < 2 from by decide)
          rw [← hρ] at hm ⊢
          have m2 : N1 93 1 = 1 * ρ 4 + 0 := hm (93, 1, [(1, 4)]) (List.mem_of_getElem? (i := 2) rfl)
          have hf : f ∈ ([[(1, 1), (-1, 4)]] : List qF) := hf
          simp only [List.mem_cons, List.not_mem_nil, or_false] at hf
          rcases hf with rfl
          · show 0 ≤ 1 * ρ 1 + (-1 * ρ 4 + 0)
            omega) J (N := 300) (by decide)
      obtain ⟨ρ2, u2, w2, t2, z2, i2, y2⟩ := up_r673 p2
      have o2 : ρ2 0 = 1 := u2 0 (by decide)
      have a2_1 : ρ2 1 = x1.toInt := (u2 1 (by decide)).trans (urho_a (as := [x1.toInt, x2.toInt]) (j := 0) (show (0 : Nat) < 2 from by decide))
      have a2_2 : ρ2 2 = x2.toInt := (u2 2 (by decide)).trans (urho_a (as := [x1.toInt, x2.toInt]) (j := 1) (show (1 : Nat) < 2 from by decide))
      have m2_93_0 : N1 93 0 = ρ2 3 := by
        have h := q2 (93, 0, [(1, 3)]) (List.mem_of_getElem? (i := 1) rfl)
        have h : N1 93 0 = 1 * uRho [x1.toInt, x2.toInt] N1 (cM kc_r673) 3 + 0 := h
        rw [u2 3 (by decide)]
        omega
      have m2_93_1 : N1 93 1 = ρ2 4 := by
        have h := q2 (93, 1, [(1, 4)]) (List.mem_of_getElem? (i := 2) rfl)
        have h : N1 93 1 = 1 * uRho [x1.toInt, x2.toInt] N1 (cM kc_r673) 4 + 0 := h
        rw [u2 4 (by decide)]
        omega
      rw [o2] at z2
      have s2 : uSt 2 N2 := ⟨i2, ukeepX_ok (ks := uKq 2 ++ [(4, 350, 0)]) (c := kc_r673) (by decide +kernel) (fun q hq => by rcases List.mem_append.mp hq with hq | hq; exact k1 q hq; rw [List.mem_singleton] at hq; rw [hq]; exact v1) p2⟩
      have b2_0_1 : N2 0 1 = N1 0 1 := y2 0 1 (by decide +kernel)
      have b2_0_2 : N2 0 2 = N1 0 2 := y2 0 2 (by decide +kernel)
      have b2_0_3 : N2 0 3 = N1 0 3 := y2 0 3 (by decide +kernel)
      have b2_2_8 : N2 2 8 = N1 2 8 := y2 2 8 (by decide +kernel)
      have b2_2_9 : N2 2 9 = N1 2 9 := y2 2 9 (by decide +kernel)
      have b2_2_10 : N2 2 10 = N1 2 10 := y2 2 10 (by decide +kernel)
      have b2_4_261 : N2 4 261 = N1 4 261 := y2 4 261 (by decide +kernel)
      have b2_77_6 : N2 77 6 = N1 77 6 := y2 77 6 (by decide +kernel)
      have b2_91_2 : N2 91 2 = N1 91 2 := y2 91 2 (by decide +kernel)
      have b2_91_33 : N2 91 33 = N1 91 33 := y2 91 33 (by decide +kernel)
      have b2_91_34 : N2 91 34 = N1 91 34 := y2 91 34 (by decide +kernel)
      have b2_91_61 : N2 91 61 = N1 91 61 := y2 91 61 (by decide +kernel)
      have b2_93_0 : N2 93 0 = N1 93 0 := y2 93 0 (by decide +kernel)
      have b2_93_1 : N2 93 1 = N1 93 1 := y2 93 1 (by decide +kernel)
      have b2_93_2 : N2 93 2 = N1 93 2 := y2 93 2 (by decide +kernel)
      have hv : ρ2 5 = ρ1 7 := by omega
      clear z1 z2
      rw [w1] at e1
      rw [w2, hv] at e2
      simp only [List.map_cons, List.map_nil, i32_of] at e1 e2
      exact ⟨Int32.ofInt (ρ1 7), N1, N2, e1, e2, 2, Or.inl rfl, s2, (fun q hq => by
        have hq : q ∈ ([(0, 1, 91, 2), (4, 261, 0, 1), (0, 2, 91, 33), (0, 3, 91, 34), (2, 8, 93, 0), (2, 9, 93, 1), (2, 10, 93, 2), (77, 6, 91, 61)] : List (Nat × Nat × Nat × Nat)) := hq
        simp only [List.mem_cons, List.not_mem_nil, or_false] at hq
        rcases hq with rfl | rfl | rfl | rfl | rfl | rfl | rfl | rfl
        · exact (show N2 0 1 = N2 91 2 by omega)
        · exact (show N2 4 261 = N2 0 1 by omega)
        · exact (show N2 0 2 = N2 91 33 by omega)
        · exact (show N2 0 3 = N2 91 34 by omega)
        · exact (show N2 2 8 = N2 93 0 by omega)
        · exact (show N2 2 9 = N2 93 1 by omega)
        · exact (show N2 2 10 = N2 93 2 by omega)
        · exact (show N2 77 6 = N2 91 61 by omega))⟩
    · have v1 : N1 4 350 = 0 := by omega
      obtain ⟨rv2, N2, e2, p2, q2⟩ := u_runX ko_r674 (ks := uKq 2 ++ [(4, 350, 0)]) (ex := [[(-1, 0), (-1, 2)]]) (o := 91) (bs := [false, false]) (by decide +kernel) i1 (fun q hq => by rcases List.mem_append.mp hq with hq | hq; exact k1 q hq; rw [List.mem_singleton] at hq; rw [hq]; exact v1) (as := [x1.toInt, x2.toInt]) ⟨⟨uarg_i _, fun h => nomatch h⟩, ⟨⟨uarg_i _, fun h => nomatch h⟩, trivial⟩⟩ (fun hm f hf => by
          obtain ⟨ρ, hρ⟩ : ∃ ρ, ρ = uRho [x1.toInt, x2.toInt] N1 (cM kc_r674) := ⟨_, rfl⟩
          have o1 : ρ 0 = 1 := by rw [hρ]; rfl
          have a2 : ρ 2 = x2.toInt := by rw [hρ]; exact urho_a (as := [x1.toInt, x2.toInt]) (j := 1) (show (1 : Nat) < 2 from by decide)
          rw [← hρ] at hm ⊢
          have hf : f ∈ ([[(-1, 0), (-1, 2)]] : List qF) := hf
          simp only [List.mem_cons, List.not_mem_nil, or_false] at hf
          rcases hf with rfl
          · show 0 ≤ -1 * ρ 0 + (-1 * ρ 2 + 0)
            omega) J (N := 300) (by decide)
      obtain ⟨ρ2, u2, w2, t2, z2, i2, y2⟩ := up_r674 p2
      have o2 : ρ2 0 = 1 := u2 0 (by decide)
      have a2_1 : ρ2 1 = x1.toInt := (u2 1 (by decide)).trans (urho_a (as := [x1.toInt, x2.toInt]) (j := 0) (show (0 : Nat) < 2 from by decide))
      have a2_2 : ρ2 2 = x2.toInt := (u2 2 (by decide)).trans (urho_a (as := [x1.toInt, x2.toInt]) (j := 1) (show (1 : Nat) < 2 from by decide))
      have m2_93_0 : N1 93 0 = ρ2 3 := by
        have h := q2 (93, 0, [(1, 3)]) (List.mem_of_getElem? (i := 1) rfl)
        have h : N1 93 0 = 1 * uRho [x1.toInt, x2.toInt] N1 (cM kc_r674) 3 + 0 := h
        rw [u2 3 (by decide)]
        omega
      have m2_93_1 : N1 93 1 = ρ2 4 := by
        have h := q2 (93, 1, [(1, 4)]) (List.mem_of_getElem? (i := 2) rfl)
        have h : N1 93 1 = 1 * uRho [x1.toInt, x2.toInt] N1 (cM kc_r674) 4 + 0 := h
        rw [u2 4 (by decide)]
        omega
      rw [o2] at z2
      have s2 : uSt 2 N2 := ⟨i2, ukeepX_ok (ks := uKq 2 ++ [(4, 350, 0)]) (c := kc_r674) (by decide +kernel) (fun q hq => by rcases List.mem_append.mp hq with hq | hq; exact k1 q hq; rw [List.mem_singleton] at hq; rw [hq]; exact v1) p2⟩
      have b2_0_1 : N2 0 1 = N1 0 1 := y2 0 1 (by decide +kernel)
      have b2_0_2 : N2 0 2 = N1 0 2 := y2 0 2 (by decide +kernel)
      have b2_0_3 : N2 0 3 = N1 0 3 := y2 0 3 (by decide +kernel)
      have b2_2_8 : N2 2 8 = N1 2 8 := y2 2 8 (by decide +kernel)
      have b2_2_9 : N2 2 9 = N1 2 9 := y2 2 9 (by decide +kernel)
      have b2_2_10 : N2 2 10 = N1 2 10 := y2 2 10 (by decide +kernel)
      have b2_4_261 : N2 4 261 = N1 4 261 := y2 4 261 (by decide +kernel)
      have b2_77_6 : N2 77 6 = N1 77 6 := y2 77 6 (by decide +kernel)
      have b2_91_2 : N2 91 2 = N1 91 2 := y2 91 2 (by decide +kernel)
      have b2_91_33 : N2 91 33 = N1 91 33 := y2 91 33 (by decide +kernel)
      have b2_91_34 : N2 91 34 = N1 91 34 := y2 91 34 (by decide +kernel)
      have b2_91_61 : N2 91 61 = N1 91 61 := y2 91 61 (by decide +kernel)
      have b2_93_0 : N2 93 0 = N1 93 0 := y2 93 0 (by decide +kernel)
      have b2_93_1 : N2 93 1 = N1 93 1 := y2 93 1 (by decide +kernel)
      have b2_93_2 : N2 93 2 = N1 93 2 := y2 93 2 (by decide +kernel)
      have hv : ρ2 5 = ρ1 7 := by omega
      clear z1 z2
      rw [w1] at e1
      rw [w2, hv] at e2
      simp only [List.map_cons, List.map_nil, i32_of] at e1 e2
      exact ⟨Int32.ofInt (ρ1 7), N1, N2, e1, e2, 2, Or.inl rfl, s2, (fun q hq => by
        have hq : q ∈ ([(0, 1, 91, 2), (4, 261, 0, 1), (0, 2, 91, 33), (0, 3, 91, 34), (2, 8, 93, 0), (2, 9, 93, 1), (2, 10, 93, 2), (77, 6, 91, 61)] : List (Nat × Nat × Nat × Nat)) := hq
        simp only [List.mem_cons, List.not_mem_nil, or_false] at hq
        rcases hq with rfl | rfl | rfl | rfl | rfl | rfl | rfl | rfl
        · exact (show N2 0 1 = N2 91 2 by omega)
        · exact (show N2 4 261 = N2 0 1 by omega)
        · exact (show N2 0 2 = N2 91 33 by omega)
        · exact (show N2 0 3 = N2 91 34 by omega)
        · exact (show N2 2 8 = N2 93 0 by omega)
        · exact (show N2 2 9 = N2 93 1 by omega)
        · exact (show N2 2 10 = N2 93 2 by omega)
        · exact (show N2 77 6 = N2 91 61 by omega))⟩
    · have v1 : N1 4 350 = 0 := by omega
      obtain ⟨rv2, N2, e2, p2, q2⟩ := u_runX ko_r675 (ks := uKq 2 ++ [(4, 350, 0)]) (ex := [[(1, 2), (-1, 3)]]) (o := 91) (bs := [false, false]) (by decide +kernel) i1 (fun q hq => by rcases List.mem_append.mp hq with hq | hq; exact k1 q hq; rw [List.mem_singleton] at hq; rw [hq]; exact v1) (as := [x1.toInt, x2.toInt]) ⟨⟨uarg_i _, fun h => nomatch h⟩, ⟨⟨uarg_i _, fun h => nomatch h⟩, trivial⟩⟩ (fun hm f hf => by
          obtain ⟨ρ, hρ⟩ : ∃ ρ, ρ = uRho [x1.toInt, x2.toInt] N1 (cM kc_r675) := ⟨_, rfl⟩
          have o1 : ρ 0 = 1 := by rw [hρ]; rfl
          have a2 : ρ 2 = x2.toInt := by rw [hρ]; exact urho_a (as := [x1.toInt, x2.toInt]) (j := 1) (show (1 : Nat) < 2 from by decide)
          rw [← hρ] at hm ⊢
          have m1 : N1 93 0 = 1 * ρ 3 + 0 := hm (93, 0, [(1, 3)]) (List.mem_of_getElem? (i := 1) rfl)
          have hf : f ∈ ([[(1, 2), (-1, 3)]] : List qF) := hf
          simp only [List.mem_cons, List.not_mem_nil, or_false] at hf
          rcases hf with rfl
          · show 0 ≤ 1 * ρ 2 + (-1 * ρ 3 + 0)
            omega) J (N := 300) (by decide)
      obtain ⟨ρ2, u2, w2, t2, z2, i2, y2⟩ := up_r675 p2
      have o2 : ρ2 0 = 1 := u2 0 (by decide)
      have a2_1 : ρ2 1 = x1.toInt := (u2 1 (by decide)).trans (urho_a (as := [x1.toInt, x2.toInt]) (j := 0) (show (0 : Nat) < 2 from by decide))
      have a2_2 : ρ2 2 = x2.toInt := (u2 2 (by decide)).trans (urho_a (as := [x1.toInt, x2.toInt]) (j := 1) (show (1 : Nat) < 2 from by decide))
      have m2_93_0 : N1 93 0 = ρ2 3 := by
        have h := q2 (93, 0, [(1, 3)]) (List.mem_of_getElem? (i := 1) rfl)
        have h : N1 93 0 = 1 * uRho [x1.toInt, x2.toInt] N1 (cM kc_r675) 3 + 0 := h
        rw [u2 3 (by decide)]
        omega
      have m2_93_1 : N1 93 1 = ρ2 4 := by
        have h := q2 (93, 1, [(1, 4)]) (List.mem_of_getElem? (i := 2) rfl)
        have h : N1 93 1 = 1 * uRho [x1.toInt, x2.toInt] N1 (cM kc_r675) 4 + 0 := h
        rw [u2 4 (by decide)]
        omega
      rw [o2] at z2
      have s2 : uSt 2 N2 := ⟨i2, ukeepX_ok (ks := uKq 2 ++ [(4, 350, 0)]) (c := kc_r675) (by decide +kernel) (fun q hq => by rcases List.mem_append.mp hq with hq | hq; exact k1 q hq; rw [List.mem_singleton] at hq; rw [hq]; exact v1) p2⟩
      have b2_0_1 : N2 0 1 = N1 0 1 := y2 0 1 (by decide +kernel)
      have b2_0_2 : N2 0 2 = N1 0 2 := y2 0 2 (by decide +kernel)
      have b2_0_3 : N2 0 3 = N1 0 3 := y2 0 3 (by decide +kernel)
      have b2_2_8 : N2 2 8 = N1 2 8 := y2 2 8 (by decide +kernel)
      have b2_2_9 : N2 2 9 = N1 2 9 := y2 2 9 (by decide +kernel)
      have b2_2_10 : N2 2 10 = N1 2 10 := y2 2 10 (by decide +kernel)
      have b2_4_261 : N2 4 261 = N1 4 261 := y2 4 261 (by decide +kernel)
      have b2_77_6 : N2 77 6 = N1 77 6 := y2 77 6 (by decide +kernel)
      have b2_91_2 : N2 91 2 = N1 91 2 := y2 91 2 (by decide +kernel)
      have b2_91_33 : N2 91 33 = N1 91 33 := y2 91 33 (by decide +kernel)
      have b2_91_34 : N2 91 34 = N1 91 34 := y2 91 34 (by decide +kernel)
      have b2_91_61 : N2 91 61 = N1 91 61 := y2 91 61 (by decide +kernel)
      have b2_93_0 : N2 93 0 = N1 93 0 := y2 93 0 (by decide +kernel)
      have b2_93_1 : N2 93 1 = N1 93 1 := y2 93 1 (by decide +kernel)
      have b2_93_2 : N2 93 2 = N1 93 2 := y2 93 2 (by decide +kernel)
      have hv : ρ2 5 = ρ1 7 := by omega
      clear z1 z2
      rw [w1] at e1
      rw [w2, hv] at e2
      simp only [List.map_cons, List.map_nil, i32_of] at e1 e2
      exact ⟨Int32.ofInt (ρ1 7), N1, N2, e1, e2, 2, Or.inl rfl, s2, (fun q hq => by
        have hq : q ∈ ([(0, 1, 91, 2), (4, 261, 0, 1), (0, 2, 91, 33), (0, 3, 91, 34), (2, 8, 93, 0), (2, 9, 93, 1), (2, 10, 93, 2), (77, 6, 91, 61)] : List (Nat × Nat × Nat × Nat)) := hq
        simp only [List.mem_cons, List.not_mem_nil, or_false] at hq
        rcases hq with rfl | rfl | rfl | rfl | rfl | rfl | rfl | rfl
        · exact (show N2 0 1 = N2 91 2 by omega)
        · exact (show N2 4 261 = N2 0 1 by omega)
        · exact (show N2 0 2 = N2 91 33 by omega)
        · exact (show N2 0 3 = N2 91 34 by omega)
        · exact (show N2 2 8 = N2 93 0 by omega)
        · exact (show N2 2 9 = N2 93 1 by omega)
        · exact (show N2 2 10 = N2 93 2 by omega)
        · exact (show N2 77 6 = N2 91 61 by omega))⟩
    · have v1 : N1 4 350 = 28 := by omega
      obtain ⟨rv2, N2, e2, p2, q2⟩ := u_runX ko_r671 (ks := uKq 2 ++ [(4, 350, 28)]) (ex := [[(-1, 1), (1, 3)], [(1, 1), (-1, 3)], [(-1, 2), (1, 6)], [(1, 2), (-1, 6)], [(1, 0), (1, 9), (-1, 12)], [(-1, 0), (-1, 9), (1, 12)], [(1, 1)], [(-1, 0), (-1, 1), (1, 13)], [(1, 2)], [(-1, 0), (-1, 2), (1, 12)]]) (o := 91) (bs := [false, false]) (by decide +kernel) i1 (fun q hq => by rcases List.mem_append.mp hq with hq | hq; exact k1 q hq; rw [List.mem_singleton] at hq; rw [hq]; exact v1) (as := [x1.toInt, x2.toInt]) ⟨⟨uarg_i _, fun h => nomatch h⟩, ⟨⟨uarg_i _, fun h => nomatch h⟩, trivial⟩⟩ (fun hm f hf => by
          obtain ⟨ρ, hρ⟩ : ∃ ρ, ρ = uRho [x1.toInt, x2.toInt] N1 (cM kc_r671) := ⟨_, rfl⟩
          have o1 : ρ 0 = 1 := by rw [hρ]; rfl
          have a1 : ρ 1 = x1.toInt := by rw [hρ]; exact urho_a (as := [x1.toInt, x2.toInt]) (j := 0) (show (0 : Nat) < 2 from by decide)
          have a2 : ρ 2 = x2.toInt := by rw [hρ]; exact urho_a (as := [x1.toInt, x2.toInt]) (j := 1) (show (1 : Nat) < 2 from by decide)
          rw [← hρ] at hm ⊢
          have m1 : N1 4 390 = 1 * ρ 3 + 0 := hm (4, 390, [(1, 3)]) (List.mem_of_getElem? (i := 1) rfl)
          have m4 : N1 4 393 = 1 * ρ 6 + 0 := hm (4, 393, [(1, 6)]) (List.mem_of_getElem? (i := 4) rfl)
          have m7 : N1 4 396 = 1 * ρ 9 + 0 := hm (4, 396, [(1, 9)]) (List.mem_of_getElem? (i := 7) rfl)
          have m10 : N1 93 0 = 1 * ρ 12 + 0 := hm (93, 0, [(1, 12)]) (List.mem_of_getElem? (i := 10) rfl)
          have m11 : N1 93 1 = 1 * ρ 13 + 0 := hm (93, 1, [(1, 13)]) (List.mem_of_getElem? (i := 11) rfl)
          have hf : f ∈ ([[(-1, 1), (1, 3)], [(1, 1), (-1, 3)], [(-1, 2), (1, 6)], [(1, 2), (-1, 6)], [(1, 0), (1, 9), (-1, 12)], [(-1, 0), (-1, 9), (1, 12)], [(1, 1)], [(-1, 0), (-1, 1), (1, 13)], [(1, 2)], [(-1, 0), (-1, 2), (1, 12)]] : List qF) := hf
          simp only [List.mem_cons, List.not_mem_nil, or_false] at hf
          rcases hf with rfl | rfl | rfl | rfl | rfl | rfl | rfl | rfl | rfl | rfl
          · show 0 ≤ -1 * ρ 1 + (1 * ρ 3 + 0)
            omega
          · show 0 ≤ 1 * ρ 1 + (-1 * ρ 3 + 0)
            omega
          · show 0 ≤ -1 * ρ 2 + (1 * ρ 6 + 0)
            omega
          · show 0 ≤ 1 * ρ 2 + (-1 * ρ 6 + 0)
            omega
          · show 0 ≤ 1 * ρ 0 + (1 * ρ 9 + (-1 * ρ 12 + 0))
            omega
          · show 0 ≤ -1 * ρ 0 + (-1 * ρ 9 + (1 * ρ 12 + 0))
            omega
          · show 0 ≤ 1 * ρ 1 + 0
            omega
          · show 0 ≤ -1 * ρ 0 + (-1 * ρ 1 + (1 * ρ 13 + 0))
            omega
          · show 0 ≤ 1 * ρ 2 + 0
            omega
          · show 0 ≤ -1 * ρ 0 + (-1 * ρ 2 + (1 * ρ 12 + 0))
            omega) J (N := 300) (by decide)
      obtain ⟨ρ2, u2, w2, t2, z2, i2, y2⟩ := up_r671 p2
      have o2 : ρ2 0 = 1 := u2 0 (by decide)
      have a2_1 : ρ2 1 = x1.toInt := (u2 1 (by decide)).trans (urho_a (as := [x1.toInt, x2.toInt]) (j := 0) (show (0 : Nat) < 2 from by decide))
      have a2_2 : ρ2 2 = x2.toInt := (u2 2 (by decide)).trans (urho_a (as := [x1.toInt, x2.toInt]) (j := 1) (show (1 : Nat) < 2 from by decide))
      have m2_4_390 : N1 4 390 = ρ2 3 := by
        have h := q2 (4, 390, [(1, 3)]) (List.mem_of_getElem? (i := 1) rfl)
        have h : N1 4 390 = 1 * uRho [x1.toInt, x2.toInt] N1 (cM kc_r671) 3 + 0 := h
        rw [u2 3 (by decide)]
        omega
      have m2_4_391 : N1 4 391 = ρ2 4 := by
        have h := q2 (4, 391, [(1, 4)]) (List.mem_of_getElem? (i := 2) rfl)
        have h : N1 4 391 = 1 * uRho [x1.toInt, x2.toInt] N1 (cM kc_r671) 4 + 0 := h
        rw [u2 4 (by decide)]
        omega
      have m2_4_392 : N1 4 392 = ρ2 5 := by
        have h := q2 (4, 392, [(1, 5)]) (List.mem_of_getElem? (i := 3) rfl)
        have h : N1 4 392 = 1 * uRho [x1.toInt, x2.toInt] N1 (cM kc_r671) 5 + 0 := h
        rw [u2 5 (by decide)]
        omega
      have m2_4_393 : N1 4 393 = ρ2 6 := by
        have h := q2 (4, 393, [(1, 6)]) (List.mem_of_getElem? (i := 4) rfl)
        have h : N1 4 393 = 1 * uRho [x1.toInt, x2.toInt] N1 (cM kc_r671) 6 + 0 := h
        rw [u2 6 (by decide)]
        omega
      have m2_4_394 : N1 4 394 = ρ2 7 := by
        have h := q2 (4, 394, [(1, 7)]) (List.mem_of_getElem? (i := 5) rfl)
        have h : N1 4 394 = 1 * uRho [x1.toInt, x2.toInt] N1 (cM kc_r671) 7 + 0 := h
        rw [u2 7 (by decide)]
        omega
      have m2_4_395 : N1 4 395 = ρ2 8 := by
        have h := q2 (4, 395, [(1, 8)]) (List.mem_of_getElem? (i := 6) rfl)
        have h : N1 4 395 = 1 * uRho [x1.toInt, x2.toInt] N1 (cM kc_r671) 8 + 0 := h
        rw [u2 8 (by decide)]
        omega
      have m2_4_396 : N1 4 396 = ρ2 9 := by
        have h := q2 (4, 396, [(1, 9)]) (List.mem_of_getElem? (i := 7) rfl)
        have h : N1 4 396 = 1 * uRho [x1.toInt, x2.toInt] N1 (cM kc_r671) 9 + 0 := h
        rw [u2 9 (by decide)]
        omega
      have m2_4_397 : N1 4 397 = ρ2 10 := by
        have h := q2 (4, 397, [(1, 10)]) (List.mem_of_getElem? (i := 8) rfl)
        have h : N1 4 397 = 1 * uRho [x1.toInt, x2.toInt] N1 (cM kc_r671) 10 + 0 := h
        rw [u2 10 (by decide)]
        omega
      have m2_4_398 : N1 4 398 = ρ2 11 := by
        have h := q2 (4, 398, [(1, 11)]) (List.mem_of_getElem? (i := 9) rfl)
        have h : N1 4 398 = 1 * uRho [x1.toInt, x2.toInt] N1 (cM kc_r671) 11 + 0 := h
        rw [u2 11 (by decide)]
        omega
      have m2_93_0 : N1 93 0 = ρ2 12 := by
        have h := q2 (93, 0, [(1, 12)]) (List.mem_of_getElem? (i := 10) rfl)
        have h : N1 93 0 = 1 * uRho [x1.toInt, x2.toInt] N1 (cM kc_r671) 12 + 0 := h
        rw [u2 12 (by decide)]
        omega
      have m2_93_1 : N1 93 1 = ρ2 13 := by
        have h := q2 (93, 1, [(1, 13)]) (List.mem_of_getElem? (i := 11) rfl)
        have h : N1 93 1 = 1 * uRho [x1.toInt, x2.toInt] N1 (cM kc_r671) 13 + 0 := h
        rw [u2 13 (by decide)]
        omega
      have t2_0 := t2
      rw [o2] at z2
      have s2 : uSt 2 N2 := ⟨i2, ukeepX_ok (ks := uKq 2 ++ [(4, 350, 28)]) (c := kc_r671) (by decide +kernel) (fun q hq => by rcases List.mem_append.mp hq with hq | hq; exact k1 q hq; rw [List.mem_singleton] at hq; rw [hq]; exact v1) p2⟩
      have b2_0_1 : N2 0 1 = N1 0 1 := y2 0 1 (by decide +kernel)
      have b2_0_2 : N2 0 2 = N1 0 2 := y2 0 2 (by decide +kernel)
      have b2_0_3 : N2 0 3 = N1 0 3 := y2 0 3 (by decide +kernel)
      have b2_2_8 : N2 2 8 = N1 2 8 := y2 2 8 (by decide +kernel)
      have b2_2_9 : N2 2 9 = N1 2 9 := y2 2 9 (by decide +kernel)
      have b2_2_10 : N2 2 10 = N1 2 10 := y2 2 10 (by decide +kernel)
      have b2_4_261 : N2 4 261 = N1 4 261 := y2 4 261 (by decide +kernel)
      have b2_77_6 : N2 77 6 = N1 77 6 := y2 77 6 (by decide +kernel)
      have b2_91_2 : N2 91 2 = N1 91 2 := y2 91 2 (by decide +kernel)
      have b2_91_33 : N2 91 33 = N1 91 33 := y2 91 33 (by decide +kernel)
      have b2_91_34 : N2 91 34 = N1 91 34 := y2 91 34 (by decide +kernel)
      have b2_91_61 : N2 91 61 = N1 91 61 := y2 91 61 (by decide +kernel)
      have b2_93_0 : N2 93 0 = N1 93 0 := y2 93 0 (by decide +kernel)
      have b2_93_1 : N2 93 1 = N1 93 1 := y2 93 1 (by decide +kernel)
      have b2_93_2 : N2 93 2 = N1 93 2 := y2 93 2 (by decide +kernel)
      have hv : ρ2 14 = ρ1 7 := by
        clear hT hs s2 k1 i1 i2 y1 y2 u1 u2 q1 q2 p1 p2
        rcases z2 with z2 | z2 | z2 <;> omega
      clear z1 z2
      rw [w1] at e1
      rw [w2, hv] at e2
      simp only [List.map_cons, List.map_nil, i32_of] at e1 e2
      exact ⟨Int32.ofInt (ρ1 7), N1, N2, e1, e2, 2, Or.inl rfl, s2, (fun q hq => by
        have hq : q ∈ ([(0, 1, 91, 2), (4, 261, 0, 1), (0, 2, 91, 33), (0, 3, 91, 34), (2, 8, 93, 0), (2, 9, 93, 1), (2, 10, 93, 2), (77, 6, 91, 61)] : List (Nat × Nat × Nat × Nat)) := hq
        simp only [List.mem_cons, List.not_mem_nil, or_false] at hq
        rcases hq with rfl | rfl | rfl | rfl | rfl | rfl | rfl | rfl
        · exact (show N2 0 1 = N2 91 2 by omega)
        · exact (show N2 4 261 = N2 0 1 by omega)
        · exact (show N2 0 2 = N2 91 33 by omega)
        · exact (show N2 0 3 = N2 91 34 by omega)
        · exact (show N2 2 8 = N2 93 0 by omega)
        · exact (show N2 2 9 = N2 93 1 by omega)
        · exact (show N2 2 10 = N2 93 2 by omega)
        · exact (show N2 77 6 = N2 91 61 by omega))⟩
    · have v1 : N1 4 350 = 28 := by omega
      obtain ⟨rv2, N2, e2, p2, q2⟩ := u_runX ko_r671 (ks := uKq 2 ++ [(4, 350, 28)]) (ex := [[(-1, 1), (1, 3)], [(1, 1), (-1, 3)], [(-1, 2), (1, 6)], [(1, 2), (-1, 6)], [(1, 0), (1, 9), (-1, 12)], [(-1, 0), (-1, 9), (1, 12)], [(1, 1)], [(-1, 0), (-1, 1), (1, 13)], [(1, 2)], [(-1, 0), (-1, 2), (1, 12)]]) (o := 91) (bs := [false, false]) (by decide +kernel) i1 (fun q hq => by rcases List.mem_append.mp hq with hq | hq; exact k1 q hq; rw [List.mem_singleton] at hq; rw [hq]; exact v1) (as := [x1.toInt, x2.toInt]) ⟨⟨uarg_i _, fun h => nomatch h⟩, ⟨⟨uarg_i _, fun h => nomatch h⟩, trivial⟩⟩ (fun hm f hf => by
          obtain ⟨ρ, hρ⟩ : ∃ ρ, ρ = uRho [x1.toInt, x2.toInt] N1 (cM kc_r671) := ⟨_, rfl⟩
          have o1 : ρ 0 = 1 := by rw [hρ]; rfl
          have a1 : ρ 1 = x1.toInt := by rw [hρ]; exact urho_a (as := [x1.toInt, x2.toInt]) (j := 0) (show (0 : Nat) < 2 from by decide)
          have a2 : ρ 2 = x2.toInt := by rw [hρ]; exact urho_a (as := [x1.toInt, x2.toInt]) (j := 1) (show (1 : Nat) < 2 from by decide)
          rw [← hρ] at hm ⊢
          have m1 : N1 4 390 = 1 * ρ 3 + 0 := hm (4, 390, [(1, 3)]) (List.mem_of_getElem? (i := 1) rfl)
          have m4 : N1 4 393 = 1 * ρ 6 + 0 := hm (4, 393, [(1, 6)]) (List.mem_of_getElem? (i := 4) rfl)
          have m7 : N1 4 396 = 1 * ρ 9 + 0 := hm (4, 396, [(1, 9)]) (List.mem_of_getElem? (i := 7) rfl)
          have m10 : N1 93 0 = 1 * ρ 12 + 0 := hm (93, 0, [(1, 12)]) (List.mem_of_getElem? (i := 10) rfl)
          have m11 : N1 93 1 = 1 * ρ 13 + 0 := hm (93, 1, [(1, 13)]) (List.mem_of_getElem? (i := 11) rfl)
          have hf : f ∈ ([[(-1, 1), (1, 3)], [(1, 1), (-1, 3)], [(-1, 2), (1, 6)], [(1, 2), (-1, 6)], [(1, 0), (1, 9), (-1, 12)], [(-1, 0), (-1, 9), (1, 12)], [(1, 1)], [(-1, 0), (-1, 1), (1, 13)], [(1, 2)], [(-1, 0), (-1, 2), (1, 12)]] : List qF) := hf
          simp only [List.mem_cons, List.not_mem_nil, or_false] at hf
          rcases hf with rfl | rfl | rfl | rfl | rfl | rfl | rfl | rfl | rfl | rfl
          · show 0 ≤ -1 * ρ 1 + (1 * ρ 3 + 0)
            omega
          · show 0 ≤ 1 * ρ 1 + (-1 * ρ 3 + 0)
            omega
          · show 0 ≤ -1 * ρ 2 + (1 * ρ 6 + 0)
            omega
          · show 0 ≤ 1 * ρ 2 + (-1 * ρ 6 + 0)
            omega
          · show 0 ≤ 1 * ρ 0 + (1 * ρ 9 + (-1 * ρ 12 + 0))
            omega
          · show 0 ≤ -1 * ρ 0 + (-1 * ρ 9 + (1 * ρ 12 + 0))
            omega
          · show 0 ≤ 1 * ρ 1 + 0
            omega
          · show 0 ≤ -1 * ρ 0 + (-1 * ρ 1 + (1 * ρ 13 + 0))
            omega
          · show 0 ≤ 1 * ρ 2 + 0
            omega
          · show 0 ≤ -1 * ρ 0 + (-1 * ρ 2 + (1 * ρ 12 + 0))
            omega) J (N := 300) (by decide)
      obtain ⟨ρ2, u2, w2, t2, z2, i2, y2⟩ := up_r671 p2
      have o2 : ρ2 0 = 1 := u2 0 (by decide)
      have a2_1 : ρ2 1 = x1.toInt := (u2 1 (by decide)).trans (urho_a (as := [x1.toInt, x2.toInt]) (j := 0) (show (0 : Nat) < 2 from by decide))
      have a2_2 : ρ2 2 = x2.toInt := (u2 2 (by decide)).trans (urho_a (as := [x1.toInt, x2.toInt]) (j := 1) (show (1 : Nat) < 2 from by decide))
      have m2_4_390 : N1 4 390 = ρ2 3 := by
        have h := q2 (4, 390, [(1, 3)]) (List.mem_of_getElem? (i := 1) rfl)
        have h : N1 4 390 = 1 * uRho [x1.toInt, x2.toInt] N1 (cM kc_r671) 3 + 0 := h
        rw [u2 3 (by decide)]
        omega
      have m2_4_391 : N1 4 391 = ρ2 4 := by
        have h := q2 (4, 391, [(1, 4)]) (List.mem_of_getElem? (i := 2) rfl)
        have h : N1 4 391 = 1 * uRho [x1.toInt, x2.toInt] N1 (cM kc_r671) 4 + 0 := h
        rw [u2 4 (by decide)]
        omega
      have m2_4_392 : N1 4 392 = ρ2 5 := by
        have h := q2 (4, 392, [(1, 5)]) (List.mem_of_getElem? (i := 3) rfl)
        have h : N1 4 392 = 1 * uRho [x1.toInt, x2.toInt] N1 (cM kc_r671) 5 + 0 := h
        rw [u2 5 (by decide)]
        omega
      have m2_4_393 : N1 4 393 = ρ2 6 := by
        have h := q2 (4, 393, [(1, 6)]) (List.mem_of_getElem? (i := 4) rfl)
        have h : N1 4 393 = 1 * uRho [x1.toInt, x2.toInt] N1 (cM kc_r671) 6 + 0 := h
        rw [u2 6 (by decide)]
        omega
      have m2_4_394 : N1 4 394 = ρ2 7 := by
        have h := q2 (4, 394, [(1, 7)]) (List.mem_of_getElem? (i := 5) rfl)
        have h : N1 4 394 = 1 * uRho [x1.toInt, x2.toInt] N1 (cM kc_r671) 7 + 0 := h
        rw [u2 7 (by decide)]
        omega
      have m2_4_395 : N1 4 395 = ρ2 8 := by
        have h := q2 (4, 395, [(1, 8)]) (List.mem_of_getElem? (i := 6) rfl)
        have h : N1 4 395 = 1 * uRho [x1.toInt, x2.toInt] N1 (cM kc_r671) 8 + 0 := h
        rw [u2 8 (by decide)]
        omega
      have m2_4_396 : N1 4 396 = ρ2 9 := by
        have h := q2 (4, 396, [(1, 9)]) (List.mem_of_getElem? (i := 7) rfl)
        have h : N1 4 396 = 1 * uRho [x1.toInt, x2.toInt] N1 (cM kc_r671) 9 + 0 := h
        rw [u2 9 (by decide)]
        omega
      have m2_4_397 : N1 4 397 = ρ2 10 := by
        have h := q2 (4, 397, [(1, 10)]) (List.mem_of_getElem? (i := 8) rfl)
        have h : N1 4 397 = 1 * uRho [x1.toInt, x2.toInt] N1 (cM kc_r671) 10 + 0 := h
        rw [u2 10 (by decide)]
        omega
      have m2_4_398 : N1 4 398 = ρ2 11 := by
        have h := q2 (4, 398, [(1, 11)]) (List.mem_of_getElem? (i := 9) rfl)
        have h : N1 4 398 = 1 * uRho [x1.toInt, x2.toInt] N1 (cM kc_r671) 11 + 0 := h
        rw [u2 11 (by decide)]
        omega
      have m2_93_0 : N1 93 0 = ρ2 12 := by
        have h := q2 (93, 0, [(1, 12)]) (List.mem_of_getElem? (i := 10) rfl)
        have h : N1 93 0 = 1 * uRho [x1.toInt, x2.toInt] N1 (cM kc_r671) 12 + 0 := h
        rw [u2 12 (by decide)]
        omega
      have m2_93_1 : N1 93 1 = ρ2 13 := by
        have h := q2 (93, 1, [(1, 13)]) (List.mem_of_getElem? (i := 11) rfl)
        have h : N1 93 1 = 1 * uRho [x1.toInt, x2.toInt] N1 (cM kc_r671) 13 + 0 := h
        rw [u2 13 (by decide)]
        omega
      have t2_0 := t2
      rw [o2] at z2
      have s2 : uSt 2 N2 := ⟨i2, ukeepX_ok (ks := uKq 2 ++ [(4, 350, 28)]) (c := kc_r671) (by decide +kernel) (fun q hq => by rcases List.mem_append.mp hq with hq | hq; exact k1 q hq; rw [List.mem_singleton] at hq; rw [hq]; exact v1) p2⟩
      have b2_0_1 : N2 0 1 = N1 0 1 := y2 0 1 (by decide +kernel)
      have b2_0_2 : N2 0 2 = N1 0 2 := y2 0 2 (by decide +kernel)
      have b2_0_3 : N2 0 3 = N1 0 3 := y2 0 3 (by decide +kernel)
      have b2_2_8 : N2 2 8 = N1 2 8 := y2 2 8 (by decide +kernel)
      have b2_2_9 : N2 2 9 = N1 2 9 := y2 2 9 (by decide +kernel)
      have b2_2_10 : N2 2 10 = N1 2 10 := y2 2 10 (by decide +kernel)
      have b2_4_261 : N2 4 261 = N1 4 261 := y2 4 261 (by decide +kernel)
      have b2_77_6 : N2 77 6 = N1 77 6 := y2 77 6 (by decide +kernel)
      have b2_91_2 : N2 91 2 = N1 91 2 := y2 91 2 (by decide +kernel)
      have b2_91_33 : N2 91 33 = N1 91 33 := y2 91 33 (by decide +kernel)
      have b2_91_34 : N2 91 34 = N1 91 34 := y2 91 34 (by decide +kernel)
      have b2_91_61 : N2 91 61 = N1 91 61 := y2 91 61 (by decide +kernel)
      have b2_93_0 : N2 93 0 = N1 93 0 := y2 93 0 (by decide +kernel)
      have b2_93_1 : N2 93 1 = N1 93 1 := y2 93 1 (by decide +kernel)
      have b2_93_2 : N2 93 2 = N1 93 2 := y2 93 2 (by decide +kernel)
      have hv : ρ2 14 = ρ1 7 := by
        clear hT hs s2 k1 i1 i2 y1 y2 u1 u2 q1 q2 p1 p2
        rcases z2 with z2 | z2 | z2 <;> omega
      clear z1 z2
      rw [w1] at e1
      rw [w2, hv] at e2
      simp only [List.map_cons, List.map_nil, i32_of] at e1 e2
      exact ⟨Int32.ofInt (ρ1 7), N1, N2, e1, e2, 2, Or.inl rfl, s2, (fun q hq => by
        have hq : q ∈ ([(0, 1, 91, 2), (4, 261, 0, 1), (0, 2, 91, 33), (0, 3, 91, 34), (2, 8, 93, 0), (2, 9, 93, 1), (2, 10, 93, 2), (77, 6, 91, 61)] : List (Nat × Nat × Nat × Nat)) := hq
        simp only [List.mem_cons, List.not_mem_nil, or_false] at hq
        rcases hq with rfl | rfl | rfl | rfl | rfl | rfl | rfl | rfl
        · exact (show N2 0 1 = N2 91 2 by omega)
        · exact (show N2 4 261 = N2 0 1 by omega)
        · exact (show N2 0 2 = N2 91 33 by omega)
        · exact (show N2 0 3 = N2 91 34 by omega)
        · exact (show N2 2 8 = N2 93 0 by omega)
        · exact (show N2 2 9 = N2 93 1 by omega)
        · exact (show N2 2 10 = N2 93 2 by omega)
        · exact (show N2 77 6 = N2 91 61 by omega))⟩
    · have v1 : N1 4 350 = 28 := by omega
      obtain ⟨rv2, N2, e2, p2, q2⟩ := u_runX ko_r671 (ks := uKq 2 ++ [(4, 350, 28)]) (ex := [[(-1, 1), (1, 3)], [(1, 1), (-1, 3)], [(-1, 2), (1, 6)], [(1, 2), (-1, 6)], [(1, 0), (1, 9), (-1, 12)], [(-1, 0), (-1, 9), (1, 12)], [(1, 1)], [(-1, 0), (-1, 1), (1, 13)], [(1, 2)], [(-1, 0), (-1, 2), (1, 12)]]) (o := 91) (bs := [false, false]) (by decide +kernel) i1 (fun q hq => by rcases List.mem_append.mp hq with hq | hq; exact k1 q hq; rw [List.mem_singleton] at hq; rw [hq]; exact v1) (as := [x1.toInt, x2.toInt]) ⟨⟨uarg_i _, fun h => nomatch h⟩, ⟨⟨uarg_i _, fun h => nomatch h⟩, trivial⟩⟩ (fun hm f hf => by
          obtain ⟨ρ, hρ⟩ : ∃ ρ, ρ = uRho [x1.toInt, x2.toInt] N1 (cM kc_r671) := ⟨_, rfl⟩
          have o1 : ρ 0 = 1 := by rw [hρ]; rfl
          have a1 : ρ 1 = x1.toInt := by rw [hρ]; exact urho_a (as := [x1.toInt, x2.toInt]) (j := 0) (show (0 : Nat) < 2 from by decide)
          have a2 : ρ 2 = x2.toInt := by rw [hρ]; exact urho_a (as := [x1.toInt, x2.toInt]) (j := 1) (show (1 : Nat) < 2 from by decide)
          rw [← hρ] at hm ⊢
          have m1 : N1 4 390 = 1 * ρ 3 + 0 := hm (4, 390, [(1, 3)]) (List.mem_of_getElem? (i := 1) rfl)
          have m4 : N1 4 393 = 1 * ρ 6 + 0 := hm (4, 393, [(1, 6)]) (List.mem_of_getElem? (i := 4) rfl)
          have m7 : N1 4 396 = 1 * ρ 9 + 0 := hm (4, 396, [(1, 9)]) (List.mem_of_getElem? (i := 7) rfl)
          have m10 : N1 93 0 = 1 * ρ 12 + 0 := hm (93, 0, [(1, 12)]) (List.mem_of_getElem? (i := 10) rfl)
          have m11 : N1 93 1 = 1 * ρ 13 + 0 := hm (93, 1, [(1, 13)]) (List.mem_of_getElem? (i := 11) rfl)
          have hf : f ∈ ([[(-1, 1), (1, 3)], [(1, 1), (-1, 3)], [(-1, 2), (1, 6)], [(1, 2), (-1, 6)], [(1, 0), (1, 9), (-1, 12)], [(-1, 0), (-1, 9), (1, 12)], [(1, 1)], [(-1, 0), (-1, 1), (1, 13)], [(1, 2)], [(-1, 0), (-1, 2), (1, 12)]] : List qF) := hf
          simp only [List.mem_cons, List.not_mem_nil, or_false] at hf
          rcases hf with rfl | rfl | rfl | rfl | rfl | rfl | rfl | rfl | rfl | rfl
          · show 0 ≤ -1 * ρ 1 + (1 * ρ 3 + 0)
            omega
          · show 0 ≤ 1 * ρ 1 + (-1 * ρ 3 + 0)
            omega
          · show 0 ≤ -1 * ρ 2 + (1 * ρ 6 + 0)
            omega
          · show 0 ≤ 1 * ρ 2 + (-1 * ρ 6 + 0)
            omega
          · show 0 ≤ 1 * ρ 0 + (1 * ρ 9 + (-1 * ρ 12 + 0))
            omega
          · show 0 ≤ -1 * ρ 0 + (-1 * ρ 9 + (1 * ρ 12 + 0))
            omega
          · show 0 ≤ 1 * ρ 1 + 0
            omega
          · show 0 ≤ -1 * ρ 0 + (-1 * ρ 1 + (1 * ρ 13 + 0))
            omega
          · show 0 ≤ 1 * ρ 2 + 0
            omega
          · show 0 ≤ -1 * ρ 0 + (-1 * ρ 2 + (1 * ρ 12 + 0))
            omega) J (N := 300) (by decide)
      obtain ⟨ρ2, u2, w2, t2, z2, i2, y2⟩ := up_r671 p2
      have o2 : ρ2 0 = 1 := u2 0 (by decide)
      have a2_1 : ρ2 1 = x1.toInt := (u2 1 (by decide)).trans (urho_a (as := [x1.toInt, x2.toInt]) (j := 0) (show (0 : Nat) < 2 from by decide))
      have a2_2 : ρ2 2 = x2.toInt := (u2 2 (by decide)).trans (urho_a (as := [x1.toInt, x2.toInt]) (j := 1) (show (1 : Nat) < 2 from by decide))
      have m2_4_390 : N1 4 390 = ρ2 3 := by
        have h := q2 (4, 390, [(1, 3)]) (List.mem_of_getElem? (i := 1) rfl)
        have h : N1 4 390 = 1 * uRho [x1.toInt, x2.toInt] N1 (cM kc_r671) 3 + 0 := h
        rw [u2 3 (by decide)]
        omega
      have m2_4_391 : N1 4 391 = ρ2 4 := by
        have h := q2 (4, 391, [(1, 4)]) (List.mem_of_getElem? (i := 2) rfl)
        have h : N1 4 391 = 1 * uRho [x1.toInt, x2.toInt] N1 (cM kc_r671) 4 + 0 := h
        rw [u2 4 (by decide)]
        omega
      have m2_4_392 : N1 4 392 = ρ2 5 := by
        have h := q2 (4, 392, [(1, 5)]) (List.mem_of_getElem? (i := 3) rfl)
        have h : N1 4 392 = 1 * uRho [x1.toInt, x2.toInt] N1 (cM kc_r671) 5 + 0 := h
        rw [u2 5 (by decide)]
        omega
      have m2_4_393 : N1 4 393 = ρ2 6 := by
        have h := q2 (4, 393, [(1, 6)]) (List.mem_of_getElem? (i := 4) rfl)
        have h : N1 4 393 = 1 * uRho [x1.toInt, x2.toInt] N1 (cM kc_r671) 6 + 0 := h
        rw [u2 6 (by decide)]
        omega
      have m2_4_394 : N1 4 394 = ρ2 7 := by
        have h := q2 (4, 394, [(1, 7)]) (List.mem_of_getElem? (i := 5) rfl)
        have h : N1 4 394 = 1 * uRho [x1.toInt, x2.toInt] N1 (cM kc_r671) 7 + 0 := h
        rw [u2 7 (by decide)]
        omega
      have m2_4_395 : N1 4 395 = ρ2 8 := by
        have h := q2 (4, 395, [(1, 8)]) (List.mem_of_getElem? (i := 6) rfl)
        have h : N1 4 395 = 1 * uRho [x1.toInt, x2.toInt] N1 (cM kc_r671) 8 + 0 := h
        rw [u2 8 (by decide)]
        omega
      have m2_4_396 : N1 4 396 = ρ2 9 := by
        have h := q2 (4, 396, [(1, 9)]) (List.mem_of_getElem? (i := 7) rfl)
        have h : N1 4 396 = 1 * uRho [x1.toInt, x2.toInt] N1 (cM kc_r671) 9 + 0 := h
        rw [u2 9 (by decide)]
        omega
      have m2_4_397 : N1 4 397 = ρ2 10 := by
        have h := q2 (4, 397, [(1, 10)]) (List.mem_of_getElem? (i := 8) rfl)
        have h : N1 4 397 = 1 * uRho [x1.toInt, x2.toInt] N1 (cM kc_r671) 10 + 0 := h
        rw [u2 10 (by decide)]
        omega
      have m2_4_398 : N1 4 398 = ρ2 11 := by
        have h := q2 (4, 398, [(1, 11)]) (List.mem_of_getElem? (i := 9) rfl)
        have h : N1 4 398 = 1 * uRho [x1.toInt, x2.toInt] N1 (cM kc_r671) 11 + 0 := h
        rw [u2 11 (by decide)]
        omega
      have m2_93_0 : N1 93 0 = ρ2 12 := by
        have h := q2 (93, 0, [(1, 12)]) (List.mem_of_getElem? (i := 10) rfl)
        have h : N1 93 0 = 1 * uRho [x1.toInt, x2.toInt] N1 (cM kc_r671) 12 + 0 := h
        rw [u2 12 (by decide)]
        omega
      have m2_93_1 : N1 93 1 = ρ2 13 := by
        have h := q2 (93, 1, [(1, 13)]) (List.mem_of_getElem? (i := 11) rfl)
        have h : N1 93 1 = 1 * uRho [x1.toInt, x2.toInt] N1 (cM kc_r671) 13 + 0 := h
        rw [u2 13 (by decide)]
        omega
      have t2_0 := t2
      rw [o2] at z2
      have s2 : uSt 2 N2 := ⟨i2, ukeepX_ok (ks := uKq 2 ++ [(4, 350, 28)]) (c := kc_r671) (by decide +kernel) (fun q hq => by rcases List.mem_append.mp hq with hq | hq; exact k1 q hq; rw [List.mem_singleton] at hq; rw [hq]; exact v1) p2⟩
      have b2_0_1 : N2 0 1 = N1 0 1 := y2 0 1 (by decide +kernel)
      have b2_0_2 : N2 0 2 = N1 0 2 := y2 0 2 (by decide +kernel)
      have b2_0_3 : N2 0 3 = N1 0 3 := y2 0 3 (by decide +kernel)
      have b2_2_8 : N2 2 8 = N1 2 8 := y2 2 8 (by decide +kernel)
      have b2_2_9 : N2 2 9 = N1 2 9 := y2 2 9 (by decide +kernel)
      have b2_2_10 : N2 2 10 = N1 2 10 := y2 2 10 (by decide +kernel)
      have b2_4_261 : N2 4 261 = N1 4 261 := y2 4 261 (by decide +kernel)
      have b2_77_6 : N2 77 6 = N1 77 6 := y2 77 6 (by decide +kernel)
      have b2_91_2 : N2 91 2 = N1 91 2 := y2 91 2 (by decide +kernel)
      have b2_91_33 : N2 91 33 = N1 91 33 := y2 91 33 (by decide +kernel)
      have b2_91_34 : N2 91 34 = N1 91 34 := y2 91 34 (by decide +kernel)
      have b2_91_61 : N2 91 61 = N1 91 61 := y2 91 61 (by decide +kernel)
      have b2_93_0 : N2 93 0 = N1 93 0 := y2 93 0 (by decide +kernel)
      have b2_93_1 : N2 93 1 = N1 93 1 := y2 93 1 (by decide +kernel)
      have b2_93_2 : N2 93 2 = N1 93 2 := y2 93 2 (by decide +kernel)
      have hv : ρ2 14 = ρ1 7 := by
        clear hT hs s2 k1 i1 i2 y1 y2 u1 u2 q1 q2 p1 p2
        rcases z2 with z2 | z2 | z2 <;> omega
      clear z1 z2
      rw [w1] at e1
      rw [w2, hv] at e2
      simp only [List.map_cons, List.map_nil, i32_of] at e1 e2
      exact ⟨Int32.ofInt (ρ1 7), N1, N2, e1, e2, 2, Or.inl rfl, s2, (fun q hq => by
        have hq : q ∈ ([(0, 1, 91, 2), (4, 261, 0, 1), (0, 2, 91, 33), (0, 3, 91, 34), (2, 8, 93, 0), (2, 9, 93, 1), (2, 10, 93, 2), (77, 6, 91, 61)] : List (Nat × Nat × Nat × Nat)) := hq
        simp only [List.mem_cons, List.not_mem_nil, or_false] at hq
        rcases hq with rfl | rfl | rfl | rfl | rfl | rfl | rfl | rfl
        · exact (show N2 0 1 = N2 91 2 by omega)
        · exact (show N2 4 261 = N2 0 1 by omega)
        · exact (show N2 0 2 = N2 91 33 by omega)
        · exact (show N2 0 3 = N2 91 34 by omega)
        · exact (show N2 2 8 = N2 93 0 by omega)
        · exact (show N2 2 9 = N2 93 1 by omega)
        · exact (show N2 2 10 = N2 93 2 by omega)
        · exact (show N2 77 6 = N2 91 61 by omega))⟩
  · have kM_0 : M 0 1 = M 91 2 := hT (0, 1, 91, 2) (List.mem_of_getElem? (i := 0) rfl)
    have kM_1 : M 4 261 = M 0 1 := hT (4, 261, 0, 1) (List.mem_of_getElem? (i := 1) rfl)
    have kM_2 : M 0 2 = M 91 33 := hT (0, 2, 91, 33) (List.mem_of_getElem? (i := 2) rfl)
    have kM_3 : M 0 3 = M 91 34 := hT (0, 3, 91, 34) (List.mem_of_getElem? (i := 3) rfl)
    have kM_4 : M 28 8 = M 93 0 := hT ((28 : Int).toNat, 8, 93, 0) (List.mem_of_getElem? (i := 4) rfl)
    have kM_5 : M 28 9 = M 93 1 := hT ((28 : Int).toNat, 9, 93, 1) (List.mem_of_getElem? (i := 5) rfl)
    have kM_6 : M 28 10 = M 93 2 := hT ((28 : Int).toNat, 10, 93, 2) (List.mem_of_getElem? (i := 6) rfl)
    have kM_7 : M 77 6 = M 91 61 := hT (77, 6, 91, 61) (List.mem_of_getElem? (i := 7) rfl)
    obtain ⟨rv1, N1, e1, p1, q1⟩ := u_runX ko_264 (ks := uKs 28) (ex := [[(1, 3), (-1, 5)], [(-1, 3), (1, 5)], [(1, 4), (-1, 6)], [(-1, 4), (1, 6)]]) (o := 0) (bs := [false, false]) (by decide +kernel) hs.1 hs.2 (as := [x1.toInt, x2.toInt]) ⟨⟨uarg_i _, fun h => nomatch h⟩, ⟨⟨uarg_i _, fun h => nomatch h⟩, trivial⟩⟩ (fun hm f hf => by
        obtain ⟨ρ, hρ⟩ : ∃ ρ, ρ = uRho [x1.toInt, x2.toInt] M (cM kc_264) := ⟨_, rfl⟩
        have o1 : ρ 0 = 1 := by rw [hρ]; rfl
        rw [← hρ] at hm ⊢
        have m3 : M 93 0 = 1 * ρ 3 + 0 := hm (93, 0, [(1, 3)]) (List.mem_of_getElem? (i := 3) rfl)
        have m4 : M 93 1 = 1 * ρ 4 + 0 := hm (93, 1, [(1, 4)]) (List.mem_of_getElem? (i := 4) rfl)
        have m5 : M 28 8 = 1 * ρ 5 + 0 := hm (28, 8, [(1, 5)]) (List.mem_of_getElem? (i := 5) rfl)
        have m6 : M 28 9 = 1 * ρ 6 + 0 := hm (28, 9, [(1, 6)]) (List.mem_of_getElem? (i := 6) rfl)
        have hf : f ∈ ([[(1, 3), (-1, 5)], [(-1, 3), (1, 5)], [(1, 4), (-1, 6)], [(-1, 4), (1, 6)]] : List qF) := hf
        simp only [List.mem_cons, List.not_mem_nil, or_false] at hf
        rcases hf with rfl | rfl | rfl | rfl
        · show 0 ≤ 1 * ρ 3 + (-1 * ρ 5 + 0)
          omega
        · show 0 ≤ -1 * ρ 3 + (1 * ρ 5 + 0)
          omega
        · show 0 ≤ 1 * ρ 4 + (-1 * ρ 6 + 0)
          omega
        · show 0 ≤ -1 * ρ 4 + (1 * ρ 6 + 0)
          omega) J (N := 300) (by decide)
    obtain ⟨ρ1, u1, w1, t1, z1, i1, y1⟩ := up_264 p1
    have o1 : ρ1 0 = 1 := u1 0 (by decide)
    have a1_1 : ρ1 1 = x1.toInt := (u1 1 (by decide)).trans (urho_a (as := [x1.toInt, x2.toInt]) (j := 0) (show (0 : Nat) < 2 from by decide))
    have a1_2 : ρ1 2 = x2.toInt := (u1 2 (by decide)).trans (urho_a (as := [x1.toInt, x2.toInt]) (j := 1) (show (1 : Nat) < 2 from by decide))
    have m1_93_0 : M 93 0 = ρ1 3 := by
      have h := q1 (93, 0, [(1, 3)]) (List.mem_of_getElem? (i := 3) rfl)
      have h : M 93 0 = 1 * uRho [x1.toInt, x2.toInt] M (cM kc_264) 3 + 0 := h
      rw [u1 3 (by decide)]
      omega
    have m1_93_1 : M 93 1 = ρ1 4 := by
      have h := q1 (93, 1, [(1, 4)]) (List.mem_of_getElem? (i := 4) rfl)
      have h : M 93 1 = 1 * uRho [x1.toInt, x2.toInt] M (cM kc_264) 4 + 0 := h
      rw [u1 4 (by decide)]
      omega
    have m1_28_8 : M 28 8 = ρ1 5 := by
      have h := q1 (28, 8, [(1, 5)]) (List.mem_of_getElem? (i := 5) rfl)
      have h : M 28 8 = 1 * uRho [x1.toInt, x2.toInt] M (cM kc_264) 5 + 0 := h
      rw [u1 5 (by decide)]
      omega
    have m1_28_9 : M 28 9 = ρ1 6 := by
      have h := q1 (28, 9, [(1, 6)]) (List.mem_of_getElem? (i := 6) rfl)
      have h : M 28 9 = 1 * uRho [x1.toInt, x2.toInt] M (cM kc_264) 6 + 0 := h
      rw [u1 6 (by decide)]
      omega
    obtain ⟨t1_0, t1_1, t1_2, t1_3, t1_4, t1_5, t1_6, t1_7, t1_8, t1_9⟩ := t1
    rw [o1] at z1
    have k1 : ∀ q ∈ uKq 28, N1 q.1 q.2.1 = q.2.2 := ukeepX_ok (ks := uKs 28) (c := kc_264) (by decide +kernel) hs.2 p1
    have b1_0_1 : N1 0 1 = M 0 1 := y1 0 1 (by decide +kernel)
    have b1_0_2 : N1 0 2 = M 0 2 := y1 0 2 (by decide +kernel)
    have b1_0_3 : N1 0 3 = M 0 3 := y1 0 3 (by decide +kernel)
    have b1_4_261 : N1 4 261 = M 4 261 := y1 4 261 (by decide +kernel)
    have b1_4_350 : N1 4 350 = ρ1 8 := t1_0
    have b1_4_390 : N1 4 390 = ρ1 9 := t1_1
    have b1_4_391 : N1 4 391 = ρ1 10 := t1_2
    have b1_4_392 : N1 4 392 = ρ1 11 := t1_3
    have b1_4_393 : N1 4 393 = ρ1 12 := t1_4
    have b1_4_394 : N1 4 394 = ρ1 13 := t1_5
    have b1_4_395 : N1 4 395 = ρ1 14 := t1_6
    have b1_4_396 : N1 4 396 = ρ1 15 := t1_7
    have b1_4_397 : N1 4 397 = ρ1 16 := t1_8
    have b1_4_398 : N1 4 398 = ρ1 17 := t1_9
    have b1_28_8 : N1 28 8 = M 28 8 := y1 28 8 (by decide +kernel)
    have b1_28_9 : N1 28 9 = M 28 9 := y1 28 9 (by decide +kernel)
    have b1_28_10 : N1 28 10 = M 28 10 := y1 28 10 (by decide +kernel)
    have b1_77_6 : N1 77 6 = M 77 6 := y1 77 6 (by decide +kernel)
    have b1_91_2 : N1 91 2 = M 91 2 := y1 91 2 (by decide +kernel)
    have b1_91_33 : N1 91 33 = M 91 33 := y1 91 33 (by decide +kernel)
    have b1_91_34 : N1 91 34 = M 91 34 := y1 91 34 (by decide +kernel)
    have b1_91_61 : N1 91 61 = M 91 61 := y1 91 61 (by decide +kernel)
    have b1_93_0 : N1 93 0 = M 93 0 := y1 93 0 (by decide +kernel)
    have b1_93_1 : N1 93 1 = M 93 1 := y1 93 1 (by decide +kernel)
    have b1_93_2 : N1 93 2 = M 93 2 := y1 93 2 (by decide +kernel)
    rcases z1 with z1 | z1 | z1 | z1 | z1 | z1 | z1
    · have v1 : N1 4 350 = 0 := by omega
      obtain ⟨rv2, N2, e2, p2, q2⟩ := u_runX ko_r672 (ks := uKq 28 ++ [(4, 350, 0)]) (ex := [[(-1, 0), (-1, 1)]]) (o := 91) (bs := [false, false]) (by decide +kernel) i1 (fun q hq => by rcases List.mem_append.mp hq with hq | hq; exact k1 q hq; rw [List.mem_singleton] at hq; rw [hq]; exact v1) (as := [x1.toInt, x2.toInt]) ⟨⟨uarg_i _, fun h => nomatch h⟩, ⟨⟨uarg_i _, fun h => nomatch h⟩, trivial⟩⟩ (fun hm f hf => by
          obtain ⟨ρ, hρ⟩ : ∃ ρ, ρ = uRho [x1.toInt, x2.toInt] N1 (cM kc_r672) := ⟨_, rfl⟩
          have o1 : ρ 0 = 1 := by rw [hρ]; rfl
          have a1 : ρ 1 = x1.toInt := by rw [hρ]; exact urho_a (as := [x1.toInt, x2.toInt]) (j := 0) (show (0 : Nat) < 2 from by decide)
          rw [← hρ] at hm ⊢
          have hf : f ∈ ([[(-1, 0), (-1, 1)]] : List qF) := hf
          simp only [List.mem_cons, List.not_mem_nil, or_false] at hf
          rcases hf with rfl
          · show 0 ≤ -1 * ρ 0 + (-1 * ρ 1 + 0)
            omega) J (N := 300) (by decide)
      obtain ⟨ρ2, u2, w2, t2, z2, i2, y2⟩ := up_r672 p2
      have o2 : ρ2 0 = 1 := u2 0 (by decide)
      have a2_1 : ρ2 1 = x1.toInt := (u2 1 (by decide)).trans (urho_a (as := [x1.toInt, x2.toInt]) (j := 0) (show (0 : Nat) < 2 from by decide))
      have a2_2 : ρ2 2 = x2.toInt := (u2 2 (by decide)).trans (urho_a (as := [x1.toInt, x2.toInt]) (j := 1) (show (1 : Nat) < 2 from by decide))
      have m2_93_0 : N1 93 0 = ρ2 3 := by
        have h := q2 (93, 0, [(1, 3)]) (List.mem_of_getElem? (i := 1) rfl)
        have h : N1 93 0 = 1 * uRho [x1.toInt, x2.toInt] N1 (cM kc_r672) 3 + 0 := h
        rw [u2 3 (by decide)]
        omega
      have m2_93_1 : N1 93 1 = ρ2 4 := by
        have h := q2 (93, 1, [(1, 4)]) (List.mem_of_getElem? (i := 2) rfl)
        have h : N1 93 1 = 1 * uRho [x1.toInt, x2.toInt] N1 (cM kc_r672) 4 + 0 := h
        rw [u2 4 (by decide)]
        omega
      rw [o2] at z2
      have s2 : uSt 28 N2 := ⟨i2, ukeepX_ok (ks := uKq 28 ++ [(4, 350, 0)]) (c := kc_r672) (by decide +kernel) (fun q hq => by rcases List.mem_append.mp hq with hq | hq; exact k1 q hq; rw [List.mem_singleton] at hq; rw [hq]; exact v1) p2⟩
      have b2_0_1 : N2 0 1 = N1 0 1 := y2 0 1 (by decide +kernel)
      have b2_0_2 : N2 0 2 = N1 0 2 := y2 0 2 (by decide +kernel)
      have b2_0_3 : N2 0 3 = N1 0 3 := y2 0 3 (by decide +kernel)
      have b2_4_261 : N2 4 261 = N1 4 261 := y2 4 261 (by decide +kernel)
      have b2_28_8 : N2 28 8 = N1 28 8 := y2 28 8 (by decide +kernel)
      have b2_28_9 : N2 28 9 = N1 28 9 := y2 28 9 (by decide +kernel)
      have b2_28_10 : N2 28 10 = N1 28 10 := y2 28 10 (by decide +kernel)
      have b2_77_6 : N2 77 6 = N1 77 6 := y2 77 6 (by decide +kernel)
      have b2_91_2 : N2 91 2 = N1 91 2 := y2 91 2 (by decide +kernel)
      have b2_91_33 : N2 91 33 = N1 91 33 := y2 91 33 (by decide +kernel)
      have b2_91_34 : N2 91 34 = N1 91 34 := y2 91 34 (by decide +kernel)
      have b2_91_61 : N2 91 61 = N1 91 61 := y2 91 61 (by decide +kernel)
      have b2_93_0 : N2 93 0 = N1 93 0 := y2 93 0 (by decide +kernel)
      have b2_93_1 : N2 93 1 = N1 93 1 := y2 93 1 (by decide +kernel)
      have b2_93_2 : N2 93 2 = N1 93 2 := y2 93 2 (by decide +kernel)
      have hv : ρ2 5 = ρ1 7 := by omega
      clear z1 z2
      rw [w1] at e1
      rw [w2, hv] at e2
      simp only [List.map_cons, List.map_nil, i32_of] at e1 e2
      exact ⟨Int32.ofInt (ρ1 7), N1, N2, e1, e2, 28, Or.inr rfl, s2, (fun q hq => by
        have hq : q ∈ ([(0, 1, 91, 2), (4, 261, 0, 1), (0, 2, 91, 33), (0, 3, 91, 34), (28, 8, 93, 0), (28, 9, 93, 1), (28, 10, 93, 2), (77, 6, 91, 61)] : List (Nat × Nat × Nat × Nat)) := hq
        simp only [List.mem_cons, List.not_mem_nil, or_false] at hq
        rcases hq with rfl | rfl | rfl | rfl | rfl | rfl | rfl | rfl
        · exact (show N2 0 1 = N2 91 2 by omega)
        · exact (show N2 4 261 = N2 0 1 by omega)
        · exact (show N2 0 2 = N2 91 33 by omega)
        · exact (show N2 0 3 = N2 91 34 by omega)
        · exact (show N2 28 8 = N2 93 0 by omega)
        · exact (show N2 28 9 = N2 93 1 by omega)
        · exact (show N2 28 10 = N2 93 2 by omega)
        · exact (show N2 77 6 = N2 91 61 by omega))⟩
    · have v1 : N1 4 350 = 0 := by omega
      obtain ⟨rv2, N2, e2, p2, q2⟩ := u_runX ko_r673 (ks := uKq 28 ++ [(4, 350, 0)]) (ex := [[(1, 1), (-1, 4)]]) (o := 91) (bs := [false, false]) (by decide +kernel) i1 (fun q hq => by rcases List.mem_append.mp hq with hq | hq; exact k1 q hq; rw [List.mem_singleton] at hq; rw [hq]; exact v1) (as := [x1.toInt, x2.toInt]) ⟨⟨uarg_i _, fun h => nomatch h⟩, ⟨⟨uarg_i _, fun h => nomatch h⟩, trivial⟩⟩ (fun hm f hf => by
          obtain ⟨ρ, hρ⟩ : ∃ ρ, ρ = uRho [x1.toInt, x2.toInt] N1 (cM kc_r673) := ⟨_, rfl⟩
          have o1 : ρ 0 = 1 := by rw [hρ]; rfl
          have a1 : ρ 1 = x1.toInt := by rw [hρ]; exact urho_a (as := [x1.toInt, x2.toInt]) (j := 0) (show (0 : Nat) < 2 from by decide)
          rw [← hρ] at hm ⊢
          have m2 : N1 93 1 = 1 * ρ 4 + 0 := hm (93, 1, [(1, 4)]) (List.mem_of_getElem? (i := 2) rfl)
          have hf : f ∈ ([[(1, 1), (-1, 4)]] : List qF) := hf
          simp only [List.mem_cons, List.not_mem_nil, or_false] at hf
          rcases hf with rfl
          · show 0 ≤ 1 * ρ 1 + (-1 * ρ 4 + 0)
            omega) J (N := 300) (by decide)
      obtain ⟨ρ2, u2, w2, t2, z2, i2, y2⟩ := up_r673 p2
      have o2 : ρ2 0 = 1 := u2 0 (by decide)
      have a2_1 : ρ2 1 = x1.toInt := (u2 1 (by decide)).trans (urho_a (as := [x1.toInt, x2.toInt]) (j := 0) (show (0 : Nat) < 2 from by decide))
      have a2_2 : ρ2 2 = x2.toInt := (u2 2 (by decide)).trans (urho_a (as := [x1.toInt, x2.toInt]) (j := 1) (show (1 : Nat) < 2 from by decide))
      have m2_93_0 : N1 93 0 = ρ2 3 := by
        have h := q2 (93, 0, [(1, 3)]) (List.mem_of_getElem? (i := 1) rfl)
        have h : N1 93 0 = 1 * uRho [x1.toInt, x2.toInt] N1 (cM kc_r673) 3 + 0 := h
        rw [u2 3 (by decide)]
        omega
      have m2_93_1 : N1 93 1 = ρ2 4 := by
        have h := q2 (93, 1, [(1, 4)]) (List.mem_of_getElem? (i := 2) rfl)
        have h : N1 93 1 = 1 * uRho [x1.toInt, x2.toInt] N1 (cM kc_r673) 4 + 0 := h
        rw [u2 4 (by decide)]
        omega
      rw [o2] at z2
      have s2 : uSt 28 N2 := ⟨i2, ukeepX_ok (ks := uKq 28 ++ [(4, 350, 0)]) (c := kc_r673) (by decide +kernel) (fun q hq => by rcases List.mem_append.mp hq with hq | hq; exact k1 q hq; rw [List.mem_singleton] at hq; rw [hq]; exact v1) p2⟩
      have b2_0_1 : N2 0 1 = N1 0 1 := y2 0 1 (by decide +kernel)
      have b2_0_2 : N2 0 2 = N1 0 2 := y2 0 2 (by decide +kernel)
      have b2_0_3 : N2 0 3 = N1 0 3 := y2 0 3 (by decide +kernel)
      have b2_4_261 : N2 4 261 = N1 4 261 := y2 4 261 (by decide +kernel)
      have b2_28_8 : N2 28 8 = N1 28 8 := y2 28 8 (by decide +kernel)
      have b2_28_9 : N2 28 9 = N1 28 9 := y2 28 9 (by decide +kernel)
      have b2_28_10 : N2 28 10 = N1 28 10 := y2 28 10 (by decide +kernel)
      have b2_77_6 : N2 77 6 = N1 77 6 := y2 77 6 (by decide +kernel)
      have b2_91_2 : N2 91 2 = N1 91 2 := y2 91 2 (by decide +kernel)
      have b2_91_33 : N2 91 33 = N1 91 33 := y2 91 33 (by decide +kernel)
      have b2_91_34 : N2 91 34 = N1 91 34 := y2 91 34 (by decide +kernel)
      have b2_91_61 : N2 91 61 = N1 91 61 := y2 91 61 (by decide +kernel)
      have b2_93_0 : N2 93 0 = N1 93 0 := y2 93 0 (by decide +kernel)
      have b2_93_1 : N2 93 1 = N1 93 1 := y2 93 1 (by decide +kernel)
      have b2_93_2 : N2 93 2 = N1 93 2 := y2 93 2 (by decide +kernel)
      have hv : ρ2 5 = ρ1 7 := by omega
      clear z1 z2
      rw [w1] at e1
      rw [w2, hv] at e2
      simp only [List.map_cons, List.map_nil, i32_of] at e1 e2
      exact ⟨Int32.ofInt (ρ1 7), N1, N2, e1, e2, 28, Or.inr rfl, s2, (fun q hq => by
        have hq : q ∈ ([(0, 1, 91, 2), (4, 261, 0, 1), (0, 2, 91, 33), (0, 3, 91, 34), (28, 8, 93, 0), (28, 9, 93, 1), (28, 10, 93, 2), (77, 6, 91, 61)] : List (Nat × Nat × Nat × Nat)) := hq
        simp only [List.mem_cons, List.not_mem_nil, or_false] at hq
        rcases hq with rfl | rfl | rfl | rfl | rfl | rfl | rfl | rfl
        · exact (show N2 0 1 = N2 91 2 by omega)
        · exact (show N2 4 261 = N2 0 1 by omega)
        · exact (show N2 0 2 = N2 91 33 by omega)
        · exact (show N2 0 3 = N2 91 34 by omega)
        · exact (show N2 28 8 = N2 93 0 by omega)
        · exact (show N2 28 9 = N2 93 1 by omega)
        · exact (show N2 28 10 = N2 93 2 by omega)
        · exact (show N2 77 6 = N2 91 61 by omega))⟩
    · have v1 : N1 4 350 = 0 := by omega
      obtain ⟨rv2, N2, e2, p2, q2⟩ := u_runX ko_r674 (ks := uKq 28 ++ [(4, 350, 0)]) (ex := [[(-1, 0), (-1, 2)]]) (o := 91) (bs := [false, false]) (by decide +kernel) i1 (fun q hq => by rcases List.mem_append.mp hq with hq | hq; exact k1 q hq; rw [List.mem_singleton] at hq; rw [hq]; exact v1) (as := [x1.toInt, x2.toInt]) ⟨⟨uarg_i _, fun h => nomatch h⟩, ⟨⟨uarg_i _, fun h => nomatch h⟩, trivial⟩⟩ (fun hm f hf => by
          obtain ⟨ρ, hρ⟩ : ∃ ρ, ρ = uRho [x1.toInt, x2.toInt] N1 (cM kc_r674) := ⟨_, rfl⟩
          have o1 : ρ 0 = 1 := by rw [hρ]; rfl
          have a2 : ρ 2 = x2.toInt := by rw [hρ]; exact urho_a (as := [x1.toInt, x2.toInt]) (j := 1) (show (1 : Nat) < 2 from by decide)
          rw [← hρ] at hm ⊢
          have hf : f ∈ ([[(-1, 0), (-1, 2)]] : List qF) := hf
          simp only [List.mem_cons, List.not_mem_nil, or_false] at hf
          rcases hf with rfl
          · show 0 ≤ -1 * ρ 0 + (-1 * ρ 2 + 0)
            omega) J (N := 300) (by decide)
      obtain ⟨ρ2, u2, w2, t2, z2, i2, y2⟩ := up_r674 p2
      have o2 : ρ2 0 = 1 := u2 0 (by decide)
      have a2_1 : ρ2 1 = x1.toInt := (u2 1 (by decide)).trans (urho_a (as := [x1.toInt, x2.toInt]) (j := 0) (show (0 : Nat) < 2 from by decide))
      have a2_2 : ρ2 2 = x2.toInt := (u2 2 (by decide)).trans (urho_a (as := [x1.toInt, x2.toInt]) (j := 1) (show (1 : Nat) < 2 from by decide))
      have m2_93_0 : N1 93 0 = ρ2 3 := by
        have h := q2 (93, 0, [(1, 3)]) (List.mem_of_getElem? (i := 1) rfl)
        have h : N1 93 0 = 1 * uRho [x1.toInt, x2.toInt] N1 (cM kc_r674) 3 + 0 := h
        rw [u2 3 (by decide)]
        omega
      have m2_93_1 : N1 93 1 = ρ2 4 := by
        have h := q2 (93, 1, [(1, 4)]) (List.mem_of_getElem? (i := 2) rfl)
        have h : N1 93 1 = 1 * uRho [x1.toInt, x2.toInt] N1 (cM kc_r674) 4 + 0 := h
        rw [u2 4 (by decide)]
        omega
      rw [o2] at z2
      have s2 : uSt 28 N2 := ⟨i2, ukeepX_ok (ks := uKq 28 ++ [(4, 350, 0)]) (c := kc_r674) (by decide +kernel) (fun q hq => by rcases List.mem_append.mp hq with hq | hq; exact k1 q hq; rw [List.mem_singleton] at hq; rw [hq]; exact v1) p2⟩
      have b2_0_1 : N2 0 1 = N1 0 1 := y2 0 1 (by decide +kernel)
      have b2_0_2 : N2 0 2 = N1 0 2 := y2 0 2 (by decide +kernel)
      have b2_0_3 : N2 0 3 = N1 0 3 := y2 0 3 (by decide +kernel)
      have b2_4_261 : N2 4 261 = N1 4 261 := y2 4 261 (by decide +kernel)
      have b2_28_8 : N2 28 8 = N1 28 8 := y2 28 8 (by decide +kernel)
      have b2_28_9 : N2 28 9 = N1 28 9 := y2 28 9 (by decide +kernel)
      have b2_28_10 : N2 28 10 = N1 28 10 := y2 28 10 (by decide +kernel)
      have b2_77_6 : N2 77 6 = N1 77 6 := y2 77 6 (by decide +kernel)
      have b2_91_2 : N2 91 2 = N1 91 2 := y2 91 2 (by decide +kernel)
      have b2_91_33 : N2 91 33 = N1 91 33 := y2 91 33 (by decide +kernel)
      have b2_91_34 : N2 91 34 = N1 91 34 := y2 91 34 (by decide +kernel)
      have b2_91_61 : N2 91 61 = N1 91 61 := y2 91 61 (by decide +kernel)
      have b2_93_0 : N2 93 0 = N1 93 0 := y2 93 0 (by decide +kernel)
      have b2_93_1 : N2 93 1 = N1 93 1 := y2 93 1 (by decide +kernel)
      have b2_93_2 : N2 93 2 = N1 93 2 := y2 93 2 (by decide +kernel)
      have hv : ρ2 5 = ρ1 7 := by omega
      clear z1 z2
      rw [w1] at e1
      rw [w2, hv] at e2
      simp only [List.map_cons, List.map_nil, i32_of] at e1 e2
      exact ⟨Int32.ofInt (ρ1 7), N1, N2, e1, e2, 28, Or.inr rfl, s2, (fun q hq => by
        have hq : q ∈ ([(0, 1, 91, 2), (4, 261, 0, 1), (0, 2, 91, 33), (0, 3, 91, 34), (28, 8, 93, 0), (28, 9, 93, 1), (28, 10, 93, 2), (77, 6, 91, 61)] : List (Nat × Nat × Nat × Nat)) := hq
        simp only [List.mem_cons, List.not_mem_nil, or_false] at hq
        rcases hq with rfl | rfl | rfl | rfl | rfl | rfl | rfl | rfl
        · exact (show N2 0 1 = N2 91 2 by omega)
        · exact (show N2 4 261 = N2 0 1 by omega)
        · exact (show N2 0 2 = N2 91 33 by omega)
        · exact (show N2 0 3 = N2 91 34 by omega)
        · exact (show N2 28 8 = N2 93 0 by omega)
        · exact (show N2 28 9 = N2 93 1 by omega)
        · exact (show N2 28 10 = N2 93 2 by omega)
        · exact (show N2 77 6 = N2 91 61 by omega))⟩
    · have v1 : N1 4 350 = 0 := by omega
      obtain ⟨rv2, N2, e2, p2, q2⟩ := u_runX ko_r675 (ks := uKq 28 ++ [(4, 350, 0)]) (ex := [[(1, 2), (-1, 3)]]) (o := 91) (bs := [false, false]) (by decide +kernel) i1 (fun q hq => by rcases List.mem_append.mp hq with hq | hq; exact k1 q hq; rw [List.mem_singleton] at hq; rw [hq]; exact v1) (as := [x1.toInt, x2.toInt]) ⟨⟨uarg_i _, fun h => nomatch h⟩, ⟨⟨uarg_i _, fun h => nomatch h⟩, trivial⟩⟩ (fun hm f hf => by
          obtain ⟨ρ, hρ⟩ : ∃ ρ, ρ = uRho [x1.toInt, x2.toInt] N1 (cM kc_r675) := ⟨_, rfl⟩
          have o1 : ρ 0 = 1 := by rw [hρ]; rfl
          have a2 : ρ 2 = x2.toInt := by rw [hρ]; exact urho_a (as := [x1.toInt, x2.toInt]) (j := 1) (show (1 : Nat) < 2 from by decide)
          rw [← hρ] at hm ⊢
          have m1 : N1 93 0 = 1 * ρ 3 + 0 := hm (93, 0, [(1, 3)]) (List.mem_of_getElem? (i := 1) rfl)
          have hf : f ∈ ([[(1, 2), (-1, 3)]] : List qF) := hf
          simp only [List.mem_cons, List.not_mem_nil, or_false] at hf
          rcases hf with rfl
          · show 0 ≤ 1 * ρ 2 + (-1 * ρ 3 + 0)
            omega) J (N := 300) (by decide)
      obtain ⟨ρ2, u2, w2, t2, z2, i2, y2⟩ := up_r675 p2
      have o2 : ρ2 0 = 1 := u2 0 (by decide)
      have a2_1 : ρ2 1 = x1.toInt := (u2 1 (by decide)).trans (urho_a (as := [x1.toInt, x2.toInt]) (j := 0) (show (0 : Nat) < 2 from by decide))
      have a2_2 : ρ2 2 = x2.toInt := (u2 2 (by decide)).trans (urho_a (as := [x1.toInt, x2.toInt]) (j := 1) (show (1 : Nat) < 2 from by decide))
      have m2_93_0 : N1 93 0 = ρ2 3 := by
        have h := q2 (93, 0, [(1, 3)]) (List.mem_of_getElem? (i := 1) rfl)
        have h : N1 93 0 = 1 * uRho [x1.toInt, x2.toInt] N1 (cM kc_r675) 3 + 0 := h
        rw [u2 3 (by decide)]
        omega
      have m2_93_1 : N1 93 1 = ρ2 4 := by
        have h := q2 (93, 1, [(1, 4)]) (List.mem_of_getElem? (i := 2) rfl)
        have h : N1 93 1 = 1 * uRho [x1.toInt, x2.toInt] N1 (cM kc_r675) 4 + 0 := h
        rw [u2 4 (by decide)]
        omega
      rw [o2] at z2
      have s2 : uSt 28 N2 := ⟨i2, ukeepX_ok (ks := uKq 28 ++ [(4, 350, 0)]) (c := kc_r675) (by decide +kernel) (fun q hq => by rcases List.mem_append.mp hq with hq | hq; exact k1 q hq; rw [List.mem_singleton] at hq; rw [hq]; exact v1) p2⟩
      have b2_0_1 : N2 0 1 = N1 0 1 := y2 0 1 (by decide +kernel)
      have b2_0_2 : N2 0 2 = N1 0 2 := y2 0 2 (by decide +kernel)
      have b2_0_3 : N2 0 3 = N1 0 3 := y2 0 3 (by decide +kernel)
      have b2_4_261 : N2 4 261 = N1 4 261 := y2 4 261 (by decide +kernel)
      have b2_28_8 : N2 28 8 = N1 28 8 := y2 28 8 (by decide +kernel)
      have b2_28_9 : N2 28 9 = N1 28 9 := y2 28 9 (by decide +kernel)
      have b2_28_10 : N2 28 10 = N1 28 10 := y2 28 10 (by decide +kernel)
      have b2_77_6 : N2 77 6 = N1 77 6 := y2 77 6 (by decide +kernel)
      have b2_91_2 : N2 91 2 = N1 91 2 := y2 91 2 (by decide +kernel)
      have b2_91_33 : N2 91 33 = N1 91 33 := y2 91 33 (by decide +kernel)
      have b2_91_34 : N2 91 34 = N1 91 34 := y2 91 34 (by decide +kernel)
      have b2_91_61 : N2 91 61 = N1 91 61 := y2 91 61 (by decide +kernel)
      have b2_93_0 : N2 93 0 = N1 93 0 := y2 93 0 (by decide +kernel)
      have b2_93_1 : N2 93 1 = N1 93 1 := y2 93 1 (by decide +kernel)
      have b2_93_2 : N2 93 2 = N1 93 2 := y2 93 2 (by decide +kernel)
      have hv : ρ2 5 = ρ1 7 := by omega
      clear z1 z2
      rw [w1] at e1
      rw [w2, hv] at e2
      simp only [List.map_cons, List.map_nil, i32_of] at e1 e2
      exact ⟨Int32.ofInt (ρ1 7), N1, N2, e1, e2, 28, Or.inr rfl, s2, (fun q hq => by
        have hq : q ∈ ([(0, 1, 91, 2), (4, 261, 0, 1), (0, 2, 91, 33), (0, 3, 91, 34), (28, 8, 93, 0), (28, 9, 93, 1), (28, 10, 93, 2), (77, 6, 91, 61)] : List (Nat × Nat × Nat × Nat)) := hq
        simp only [List.mem_cons, List.not_mem_nil, or_false] at hq
        rcases hq with rfl | rfl | rfl | rfl | rfl | rfl | rfl | rfl
        · exact (show N2 0 1 = N2 91 2 by omega)
        · exact (show N2 4 261 = N2 0 1 by omega)
        · exact (show N2 0 2 = N2 91 33 by omega)
        · exact (show N2 0 3 = N2 91 34 by omega)
        · exact (show N2 28 8 = N2 93 0 by omega)
        · exact (show N2 28 9 = N2 93 1 by omega)
        · exact (show N2 28 10 = N2 93 2 by omega)
        · exact (show N2 77 6 = N2 91 61 by omega))⟩
    · have v1 : N1 4 350 = 28 := by omega
      obtain ⟨rv2, N2, e2, p2, q2⟩ := u_runX ko_r671 (ks := uKq 28 ++ [(4, 350, 28)]) (ex := [[(-1, 1), (1, 3)], [(1, 1), (-1, 3)], [(-1, 2), (1, 6)], [(1, 2), (-1, 6)], [(1, 0), (1, 9), (-1, 12)], [(-1, 0), (-1, 9), (1, 12)], [(1, 1)], [(-1, 0), (-1, 1), (1, 13)], [(1, 2)], [(-1, 0), (-1, 2), (1, 12)]]) (o := 91) (bs := [false, false]) (by decide +kernel) i1 (fun q hq => by rcases List.mem_append.mp hq with hq | hq; exact k1 q hq; rw [List.mem_singleton] at hq; rw [hq]; exact v1) (as := [x1.toInt, x2.toInt]) ⟨⟨uarg_i _, fun h => nomatch h⟩, ⟨⟨uarg_i _, fun h => nomatch h⟩, trivial⟩⟩ (fun hm f hf => by
          obtain ⟨ρ, hρ⟩ : ∃ ρ, ρ = uRho [x1.toInt, x2.toInt] N1 (cM kc_r671) := ⟨_, rfl⟩
          have o1 : ρ 0 = 1 := by rw [hρ]; rfl
          have a1 : ρ 1 = x1.toInt := by rw [hρ]; exact urho_a (as := [x1.toInt, x2.toInt]) (j := 0) (show (0 : Nat) < 2 from by decide)
          have a2 : ρ 2 = x2.toInt := by rw [hρ]; exact urho_a (as := [x1.toInt, x2.toInt]) (j := 1) (show (1 : Nat) < 2 from by decide)
          rw [← hρ] at hm ⊢
          have m1 : N1 4 390 = 1 * ρ 3 + 0 := hm (4, 390, [(1, 3)]) (List.mem_of_getElem? (i := 1) rfl)
          have m4 : N1 4 393 = 1 * ρ 6 + 0 := hm (4, 393, [(1, 6)]) (List.mem_of_getElem? (i := 4) rfl)
          have m7 : N1 4 396 = 1 * ρ 9 + 0 := hm (4, 396, [(1, 9)]) (List.mem_of_getElem? (i := 7) rfl)
          have m10 : N1 93 0 = 1 * ρ 12 + 0 := hm (93, 0, [(1, 12)]) (List.mem_of_getElem? (i := 10) rfl)
          have m11 : N1 93 1 = 1 * ρ 13 + 0 := hm (93, 1, [(1, 13)]) (List.mem_of_getElem? (i := 11) rfl)
          have hf : f ∈ ([[(-1, 1), (1, 3)], [(1, 1), (-1, 3)], [(-1, 2), (1, 6)], [(1, 2), (-1, 6)], [(1, 0), (1, 9), (-1, 12)], [(-1, 0), (-1, 9), (1, 12)], [(1, 1)], [(-1, 0), (-1, 1), (1, 13)], [(1, 2)], [(-1, 0), (-1, 2), (1, 12)]] : List qF) := hf
          simp only [List.mem_cons, List.not_mem_nil, or_false] at hf
          rcases hf with rfl | rfl | rfl | rfl | rfl | rfl | rfl | rfl | rfl | rfl
          · show 0 ≤ -1 * ρ 1 + (1 * ρ 3 + 0)
            omega
          · show 0 ≤ 1 * ρ 1 + (-1 * ρ 3 + 0)
            omega
          · show 0 ≤ -1 * ρ 2 + (1 * ρ 6 + 0)
            omega
          · show 0 ≤ 1 * ρ 2 + (-1 * ρ 6 + 0)
            omega
          · show 0 ≤ 1 * ρ 0 + (1 * ρ 9 + (-1 * ρ 12 + 0))
            omega
          · show 0 ≤ -1 * ρ 0 + (-1 * ρ 9 + (1 * ρ 12 + 0))
            omega
          · show 0 ≤ 1 * ρ 1 + 0
            omega
          · show 0 ≤ -1 * ρ 0 + (-1 * ρ 1 + (1 * ρ 13 + 0))
            omega
          · show 0 ≤ 1 * ρ 2 + 0
            omega
          · show 0 ≤ -1 * ρ 0 + (-1 * ρ 2 + (1 * ρ 12 + 0))
            omega) J (N := 300) (by decide)
      obtain ⟨ρ2, u2, w2, t2, z2, i2, y2⟩ := up_r671 p2
      have o2 : ρ2 0 = 1 := u2 0 (by decide)
      have a2_1 : ρ2 1 = x1.toInt := (u2 1 (by decide)).trans (urho_a (as := [x1.toInt, x2.toInt]) (j := 0) (show (0 : Nat) < 2 from by decide))
      have a2_2 : ρ2 2 = x2.toInt := (u2 2 (by decide)).trans (urho_a (as := [x1.toInt, x2.toInt]) (j := 1) (show (1 : Nat) < 2 from by decide))
      have m2_4_390 : N1 4 390 = ρ2 3 := by
        have h := q2 (4, 390, [(1, 3)]) (List.mem_of_getElem? (i := 1) rfl)
        have h : N1 4 390 = 1 * uRho [x1.toInt, x2.toInt] N1 (cM kc_r671) 3 + 0 := h
        rw [u2 3 (by decide)]
        omega
      have m2_4_391 : N1 4 391 = ρ2 4 := by
        have h := q2 (4, 391, [(1, 4)]) (List.mem_of_getElem? (i := 2) rfl)
        have h : N1 4 391 = 1 * uRho [x1.toInt, x2.toInt] N1 (cM kc_r671) 4 + 0 := h
        rw [u2 4 (by decide)]
        omega
      have m2_4_392 : N1 4 392 = ρ2 5 := by
        have h := q2 (4, 392, [(1, 5)]) (List.mem_of_getElem? (i := 3) rfl)
        have h : N1 4 392 = 1 * uRho [x1.toInt, x2.toInt] N1 (cM kc_r671) 5 + 0 := h
        rw [u2 5 (by decide)]
        omega
      have m2_4_393 : N1 4 393 = ρ2 6 := by
        have h := q2 (4, 393, [(1, 6)]) (List.mem_of_getElem? (i := 4) rfl)
        have h : N1 4 393 = 1 * uRho [x1.toInt, x2.toInt] N1 (cM kc_r671) 6 + 0 := h
        rw [u2 6 (by decide)]
        omega
      have m2_4_394 : N1 4 394 = ρ2 7 := by
        have h := q2 (4, 394, [(1, 7)]) (List.mem_of_getElem? (i := 5) rfl)
        have h : N1 4 394 = 1 * uRho [x1.toInt, x2.toInt] N1 (cM kc_r671) 7 + 0 := h
        rw [u2 7 (by decide)]
        omega
      have m2_4_395 : N1 4 395 = ρ2 8 := by
        have h := q2 (4, 395, [(1, 8)]) (List.mem_of_getElem? (i := 6) rfl)
        have h : N1 4 395 = 1 * uRho [x1.toInt, x2.toInt] N1 (cM kc_r671) 8 + 0 := h
        rw [u2 8 (by decide)]
        omega
      have m2_4_396 : N1 4 396 = ρ2 9 := by
        have h := q2 (4, 396, [(1, 9)]) (List.mem_of_getElem? (i := 7) rfl)
        have h : N1 4 396 = 1 * uRho [x1.toInt, x2.toInt] N1 (cM kc_r671) 9 + 0 := h
        rw [u2 9 (by decide)]
        omega
      have m2_4_397 : N1 4 397 = ρ2 10 := by
        have h := q2 (4, 397, [(1, 10)]) (List.mem_of_getElem? (i := 8) rfl)
        have h : N1 4 397 = 1 * uRho [x1.toInt, x2.toInt] N1 (cM kc_r671) 10 + 0 := h
        rw [u2 10 (by decide)]
        omega
      have m2_4_398 : N1 4 398 = ρ2 11 := by
        have h := q2 (4, 398, [(1, 11)]) (List.mem_of_getElem? (i := 9) rfl)
        have h : N1 4 398 = 1 * uRho [x1.toInt, x2.toInt] N1 (cM kc_r671) 11 + 0 := h
        rw [u2 11 (by decide)]
        omega
      have m2_93_0 : N1 93 0 = ρ2 12 := by
        have h := q2 (93, 0, [(1, 12)]) (List.mem_of_getElem? (i := 10) rfl)
        have h : N1 93 0 = 1 * uRho [x1.toInt, x2.toInt] N1 (cM kc_r671) 12 + 0 := h
        rw [u2 12 (by decide)]
        omega
      have m2_93_1 : N1 93 1 = ρ2 13 := by
        have h := q2 (93, 1, [(1, 13)]) (List.mem_of_getElem? (i := 11) rfl)
        have h : N1 93 1 = 1 * uRho [x1.toInt, x2.toInt] N1 (cM kc_r671) 13 + 0 := h
        rw [u2 13 (by decide)]
        omega
      have t2_0 := t2
      rw [o2] at z2
      have s2 : uSt 28 N2 := ⟨i2, ukeepX_ok (ks := uKq 28 ++ [(4, 350, 28)]) (c := kc_r671) (by decide +kernel) (fun q hq => by rcases List.mem_append.mp hq with hq | hq; exact k1 q hq; rw [List.mem_singleton] at hq; rw [hq]; exact v1) p2⟩
      have b2_0_1 : N2 0 1 = N1 0 1 := y2 0 1 (by decide +kernel)
      have b2_0_2 : N2 0 2 = N1 0 2 := y2 0 2 (by decide +kernel)
      have b2_0_3 : N2 0 3 = N1 0 3 := y2 0 3 (by decide +kernel)
      have b2_4_261 : N2 4 261 = N1 4 261 := y2 4 261 (by decide +kernel)
      have b2_28_8 : N2 28 8 = N1 28 8 := y2 28 8 (by decide +kernel)
      have b2_28_9 : N2 28 9 = N1 28 9 := y2 28 9 (by decide +kernel)
      have b2_28_10 : N2 28 10 = N1 28 10 := y2 28 10 (by decide +kernel)
      have b2_77_6 : N2 77 6 = N1 77 6 := y2 77 6 (by decide +kernel)
      have b2_91_2 : N2 91 2 = N1 91 2 := y2 91 2 (by decide +kernel)
      have b2_91_33 : N2 91 33 = N1 91 33 := y2 91 33 (by decide +kernel)
      have b2_91_34 : N2 91 34 = N1 91 34 := y2 91 34 (by decide +kernel)
      have b2_91_61 : N2 91 61 = N1 91 61 := y2 91 61 (by decide +kernel)
      have b2_93_0 : N2 93 0 = N1 93 0 := y2 93 0 (by decide +kernel)
      have b2_93_1 : N2 93 1 = N1 93 1 := y2 93 1 (by decide +kernel)
      have b2_93_2 : N2 93 2 = N1 93 2 := y2 93 2 (by decide +kernel)
      have hv : ρ2 14 = ρ1 7 := by
        clear hT hs s2 k1 i1 i2 y1 y2 u1 u2 q1 q2 p1 p2
        rcases z2 with z2 | z2 | z2 <;> omega
      clear z1 z2
      rw [w1] at e1
      rw [w2, hv] at e2
      simp only [List.map_cons, List.map_nil, i32_of] at e1 e2
      exact ⟨Int32.ofInt (ρ1 7), N1, N2, e1, e2, 28, Or.inr rfl, s2, (fun q hq => by
        have hq : q ∈ ([(0, 1, 91, 2), (4, 261, 0, 1), (0, 2, 91, 33), (0, 3, 91, 34), (28, 8, 93, 0), (28, 9, 93, 1), (28, 10, 93, 2), (77, 6, 91, 61)] : List (Nat × Nat × Nat × Nat)) := hq
        simp only [List.mem_cons, List.not_mem_nil, or_false] at hq
        rcases hq with rfl | rfl | rfl | rfl | rfl | rfl | rfl | rfl
        · exact (show N2 0 1 = N2 91 2 by omega)
        · exact (show N2 4 261 = N2 0 1 by omega)
        · exact (show N2 0 2 = N2 91 33 by omega)
        · exact (show N2 0 3 = N2 91 34 by omega)
        · exact (show N2 28 8 = N2 93 0 by omega)
        · exact (show N2 28 9 = N2 93 1 by omega)
        · exact (show N2 28 10 = N2 93 2 by omega)
        · exact (show N2 77 6 = N2 91 61 by omega))⟩
    · have v1 : N1 4 350 = 28 := by omega
      obtain ⟨rv2, N2, e2, p2, q2⟩ := u_runX ko_r671 (ks := uKq 28 ++ [(4, 350, 28)]) (ex := [[(-1, 1), (1, 3)], [(1, 1), (-1, 3)], [(-1, 2), (1, 6)], [(1, 2), (-1, 6)], [(1, 0), (1, 9), (-1, 12)], [(-1, 0), (-1, 9), (1, 12)], [(1, 1)], [(-1, 0), (-1, 1), (1, 13)], [(1, 2)], [(-1, 0), (-1, 2), (1, 12)]]) (o := 91) (bs := [false, false]) (by decide +kernel) i1 (fun q hq => by rcases List.mem_append.mp hq with hq | hq; exact k1 q hq; rw [List.mem_singleton] at hq; rw [hq]; exact v1) (as := [x1.toInt, x2.toInt]) ⟨⟨uarg_i _, fun h => nomatch h⟩, ⟨⟨uarg_i _, fun h => nomatch h⟩, trivial⟩⟩ (fun hm f hf => by
          obtain ⟨ρ, hρ⟩ : ∃ ρ, ρ = uRho [x1.toInt, x2.toInt] N1 (cM kc_r671) := ⟨_, rfl⟩
          have o1 : ρ 0 = 1 := by rw [hρ]; rfl
          have a1 : ρ 1 = x1.toInt := by rw [hρ]; exact urho_a (as := [x1.toInt, x2.toInt]) (j := 0) (show (0 : Nat) < 2 from by decide)
          have a2 : ρ 2 = x2.toInt := by rw [hρ]; exact urho_a (as := [x1.toInt, x2.toInt]) (j := 1) (show (1 : Nat) < 2 from by decide)
          rw [← hρ] at hm ⊢
          have m1 : N1 4 390 = 1 * ρ 3 + 0 := hm (4, 390, [(1, 3)]) (List.mem_of_getElem? (i := 1) rfl)
          have m4 : N1 4 393 = 1 * ρ 6 + 0 := hm (4, 393, [(1, 6)]) (List.mem_of_getElem? (i := 4) rfl)
          have m7 : N1 4 396 = 1 * ρ 9 + 0 := hm (4, 396, [(1, 9)]) (List.mem_of_getElem? (i := 7) rfl)
          have m10 : N1 93 0 = 1 * ρ 12 + 0 := hm (93, 0, [(1, 12)]) (List.mem_of_getElem? (i := 10) rfl)
          have m11 : N1 93 1 = 1 * ρ 13 + 0 := hm (93, 1, [(1, 13)]) (List.mem_of_getElem? (i := 11) rfl)
          have hf : f ∈ ([[(-1, 1), (1, 3)], [(1, 1), (-1, 3)], [(-1, 2), (1, 6)], [(1, 2), (-1, 6)], [(1, 0), (1, 9), (-1, 12)], [(-1, 0), (-1, 9), (1, 12)], [(1, 1)], [(-1, 0), (-1, 1), (1, 13)], [(1, 2)], [(-1, 0), (-1, 2), (1, 12)]] : List qF) := hf
          simp only [List.mem_cons, List.not_mem_nil, or_false] at hf
          rcases hf with rfl | rfl | rfl | rfl | rfl | rfl | rfl | rfl | rfl | rfl
          · show 0 ≤ -1 * ρ 1 + (1 * ρ 3 + 0)
            omega
          · show 0 ≤ 1 * ρ 1 + (-1 * ρ 3 + 0)
            omega
          · show 0 ≤ -1 * ρ 2 + (1 * ρ 6 + 0)
            omega
          · show 0 ≤ 1 * ρ 2 + (-1 * ρ 6 + 0)
            omega
          · show 0 ≤ 1 * ρ 0 + (1 * ρ 9 + (-1 * ρ 12 + 0))
            omega
          · show 0 ≤ -1 * ρ 0 + (-1 * ρ 9 + (1 * ρ 12 + 0))
            omega
          · show 0 ≤ 1 * ρ 1 + 0
            omega
          · show 0 ≤ -1 * ρ 0 + (-1 * ρ 1 + (1 * ρ 13 + 0))
            omega
          · show 0 ≤ 1 * ρ 2 + 0
            omega
          · show 0 ≤ -1 * ρ 0 + (-1 * ρ 2 + (1 * ρ 12 + 0))
            omega) J (N := 300) (by decide)
      obtain ⟨ρ2, u2, w2, t2, z2, i2, y2⟩ := up_r671 p2
      have o2 : ρ2 0 = 1 := u2 0 (by decide)
      have a2_1 : ρ2 1 = x1.toInt := (u2 1 (by decide)).trans (urho_a (as := [x1.toInt, x2.toInt]) (j := 0) (show (0 : Nat) < 2 from by decide))
      have a2_2 : ρ2 2 = x2.toInt := (u2 2 (by decide)).trans (urho_a (as := [x1.toInt, x2.toInt]) (j := 1) (show (1 : Nat) < 2 from by decide))
      have m2_4_390 : N1 4 390 = ρ2 3 := by
        have h := q2 (4, 390, [(1, 3)]) (List.mem_of_getElem? (i := 1) rfl)
        have h : N1 4 390 = 1 * uRho [x1.toInt, x2.toInt] N1 (cM kc_r671) 3 + 0 := h
        rw [u2 3 (by decide)]
        omega
      have m2_4_391 : N1 4 391 = ρ2 4 := by
        have h := q2 (4, 391, [(1, 4)]) (List.mem_of_getElem? (i := 2) rfl)
        have h : N1 4 391 = 1 * uRho [x1.toInt, x2.toInt] N1 (cM kc_r671) 4 + 0 := h
        rw [u2 4 (by decide)]
        omega
      have m2_4_392 : N1 4 392 = ρ2 5 := by
        have h := q2 (4, 392, [(1, 5)]) (List.mem_of_getElem? (i := 3) rfl)
        have h : N1 4 392 = 1 * uRho [x1.toInt, x2.toInt] N1 (cM kc_r671) 5 + 0 := h
        rw [u2 5 (by decide)]
        omega
      have m2_4_393 : N1 4 393 = ρ2 6 := by
        have h := q2 (4, 393, [(1, 6)]) (List.mem_of_getElem? (i := 4) rfl)
        have h : N1 4 393 = 1 * uRho [x1.toInt, x2.toInt] N1 (cM kc_r671) 6 + 0 := h
        rw [u2 6 (by decide)]
        omega
      have m2_4_394 : N1 4 394 = ρ2 7 := by
        have h := q2 (4, 394, [(1, 7)]) (List.mem_of_getElem? (i := 5) rfl)
        have h : N1 4 394 = 1 * uRho [x1.toInt, x2.toInt] N1 (cM kc_r671) 7 + 0 := h
        rw [u2 7 (by decide)]
        omega
      have m2_4_395 : N1 4 395 = ρ2 8 := by
        have h := q2 (4, 395, [(1, 8)]) (List.mem_of_getElem? (i := 6) rfl)
        have h : N1 4 395 = 1 * uRho [x1.toInt, x2.toInt] N1 (cM kc_r671) 8 + 0 := h
        rw [u2 8 (by decide)]
        omega
      have m2_4_396 : N1 4 396 = ρ2 9 := by
        have h := q2 (4, 396, [(1, 9)]) (List.mem_of_getElem? (i := 7) rfl)
        have h : N1 4 396 = 1 * uRho [x1.toInt, x2.toInt] N1 (cM kc_r671) 9 + 0 := h
        rw [u2 9 (by decide)]
        omega
      have m2_4_397 : N1 4 397 = ρ2 10 := by
        have h := q2 (4, 397, [(1, 10)]) (List.mem_of_getElem? (i := 8) rfl)
        have h : N1 4 397 = 1 * uRho [x1.toInt, x2.toInt] N1 (cM kc_r671) 10 + 0 := h
        rw [u2 10 (by decide)]
        omega
      have m2_4_398 : N1 4 398 = ρ2 11 := by
        have h := q2 (4, 398, [(1, 11)]) (List.mem_of_getElem? (i := 9) rfl)
        have h : N1 4 398 = 1 * uRho [x1.toInt, x2.toInt] N1 (cM kc_r671) 11 + 0 := h
        rw [u2 11 (by decide)]
        omega
      have m2_93_0 : N1 93 0 = ρ2 12 := by
        have h := q2 (93, 0, [(1, 12)]) (List.mem_of_getElem? (i := 10) rfl)
        have h : N1 93 0 = 1 * uRho [x1.toInt, x2.toInt] N1 (cM kc_r671) 12 + 0 := h
        rw [u2 12 (by decide)]
        omega
      have m2_93_1 : N1 93 1 = ρ2 13 := by
        have h := q2 (93, 1, [(1, 13)]) (List.mem_of_getElem? (i := 11) rfl)
        have h : N1 93 1 = 1 * uRho [x1.toInt, x2.toInt] N1 (cM kc_r671) 13 + 0 := h
        rw [u2 13 (by decide)]
        omega
      have t2_0 := t2
      rw [o2] at z2
      have s2 : uSt 28 N2 := ⟨i2, ukeepX_ok (ks := uKq 28 ++ [(4, 350, 28)]) (c := kc_r671) (by decide +kernel) (fun q hq => by rcases List.mem_append.mp hq with hq | hq; exact k1 q hq; rw [List.mem_singleton] at hq; rw [hq]; exact v1) p2⟩
      have b2_0_1 : N2 0 1 = N1 0 1 := y2 0 1 (by decide +kernel)
      have b2_0_2 : N2 0 2 = N1 0 2 := y2 0 2 (by decide +kernel)
      have b2_0_3 : N2 0 3 = N1 0 3 := y2 0 3 (by decide +kernel)
      have b2_4_261 : N2 4 261 = N1 4 261 := y2 4 261 (by decide +kernel)
      have b2_28_8 : N2 28 8 = N1 28 8 := y2 28 8 (by decide +kernel)
      have b2_28_9 : N2 28 9 = N1 28 9 := y2 28 9 (by decide +kernel)
      have b2_28_10 : N2 28 10 = N1 28 10 := y2 28 10 (by decide +kernel)
      have b2_77_6 : N2 77 6 = N1 77 6 := y2 77 6 (by decide +kernel)
      have b2_91_2 : N2 91 2 = N1 91 2 := y2 91 2 (by decide +kernel)
      have b2_91_33 : N2 91 33 = N1 91 33 := y2 91 33 (by decide +kernel)
      have b2_91_34 : N2 91 34 = N1 91 34 := y2 91 34 (by decide +kernel)
      have b2_91_61 : N2 91 61 = N1 91 61 := y2 91 61 (by decide +kernel)
      have b2_93_0 : N2 93 0 = N1 93 0 := y2 93 0 (by decide +kernel)
      have b2_93_1 : N2 93 1 = N1 93 1 := y2 93 1 (by decide +kernel)
      have b2_93_2 : N2 93 2 = N1 93 2 := y2 93 2 (by decide +kernel)
      have hv : ρ2 14 = ρ1 7 := by
        clear hT hs s2 k1 i1 i2 y1 y2 u1 u2 q1 q2 p1 p2
        rcases z2 with z2 | z2 | z2 <;> omega
      clear z1 z2
      rw [w1] at e1
      rw [w2, hv] at e2
      simp only [List.map_cons, List.map_nil, i32_of] at e1 e2
      exact ⟨Int32.ofInt (ρ1 7), N1, N2, e1, e2, 28, Or.inr rfl, s2, (fun q hq => by
        have hq : q ∈ ([(0, 1, 91, 2), (4, 261, 0, 1), (0, 2, 91, 33), (0, 3, 91, 34), (28, 8, 93, 0), (28, 9, 93, 1), (28, 10, 93, 2), (77, 6, 91, 61)] : List (Nat × Nat × Nat × Nat)) := hq
        simp only [List.mem_cons, List.not_mem_nil, or_false] at hq
        rcases hq with rfl | rfl | rfl | rfl | rfl | rfl | rfl | rfl
        · exact (show N2 0 1 = N2 91 2 by omega)
        · exact (show N2 4 261 = N2 0 1 by omega)
        · exact (show N2 0 2 = N2 91 33 by omega)
        · exact (show N2 0 3 = N2 91 34 by omega)
        · exact (show N2 28 8 = N2 93 0 by omega)
        · exact (show N2 28 9 = N2 93 1 by omega)
        · exact (show N2 28 10 = N2 93 2 by omega)
        · exact (show N2 77 6 = N2 91 61 by omega))⟩
    · have v1 : N1 4 350 = 28 := by omega
      obtain ⟨rv2, N2, e2, p2, q2⟩ := u_runX ko_r671 (ks := uKq 28 ++ [(4, 350, 28)]) (ex := [[(-1, 1), (1, 3)], [(1, 1), (-1, 3)], [(-1, 2), (1, 6)], [(1, 2), (-1, 6)], [(1, 0), (1, 9), (-1, 12)], [(-1, 0), (-1, 9), (1, 12)], [(1, 1)], [(-1, 0), (-1, 1), (1, 13)], [(1, 2)], [(-1, 0), (-1, 2), (1, 12)]]) (o := 91) (bs := [false, false]) (by decide +kernel) i1 (fun q hq => by rcases List.mem_append.mp hq with hq | hq; exact k1 q hq; rw [List.mem_singleton] at hq; rw [hq]; exact v1) (as := [x1.toInt, x2.toInt]) ⟨⟨uarg_i _, fun h => nomatch h⟩, ⟨⟨uarg_i _, fun h => nomatch h⟩, trivial⟩⟩ (fun hm f hf => by
          obtain ⟨ρ, hρ⟩ : ∃ ρ, ρ = uRho [x1.toInt, x2.toInt] N1 (cM kc_r671) := ⟨_, rfl⟩
          have o1 : ρ 0 = 1 := by rw [hρ]; rfl
          have a1 : ρ 1 = x1.toInt := by rw [hρ]; exact urho_a (as := [x1.toInt, x2.toInt]) (j := 0) (show (0 : Nat) < 2 from by decide)
          have a2 : ρ 2 = x2.toInt := by rw [hρ]; exact urho_a (as := [x1.toInt, x2.toInt]) (j := 1) (show (1 : Nat) < 2 from by decide)
          rw [← hρ] at hm ⊢
          have m1 : N1 4 390 = 1 * ρ 3 + 0 := hm (4, 390, [(1, 3)]) (List.mem_of_getElem? (i := 1) rfl)
          have m4 : N1 4 393 = 1 * ρ 6 + 0 := hm (4, 393, [(1, 6)]) (List.mem_of_getElem? (i := 4) rfl)
          have m7 : N1 4 396 = 1 * ρ 9 + 0 := hm (4, 396, [(1, 9)]) (List.mem_of_getElem? (i := 7) rfl)
          have m10 : N1 93 0 = 1 * ρ 12 + 0 := hm (93, 0, [(1, 12)]) (List.mem_of_getElem? (i := 10) rfl)
          have m11 : N1 93 1 = 1 * ρ 13 + 0 := hm (93, 1, [(1, 13)]) (List.mem_of_getElem? (i := 11) rfl)
          have hf : f ∈ ([[(-1, 1), (1, 3)], [(1, 1), (-1, 3)], [(-1, 2), (1, 6)], [(1, 2), (-1, 6)], [(1, 0), (1, 9), (-1, 12)], [(-1, 0), (-1, 9), (1, 12)], [(1, 1)], [(-1, 0), (-1, 1), (1, 13)], [(1, 2)], [(-1, 0), (-1, 2), (1, 12)]] : List qF) := hf
          simp only [List.mem_cons, List.not_mem_nil, or_false] at hf
          rcases hf with rfl | rfl | rfl | rfl | rfl | rfl | rfl | rfl | rfl | rfl
          · show 0 ≤ -1 * ρ 1 + (1 * ρ 3 + 0)
            omega
          · show 0 ≤ 1 * ρ 1 + (-1 * ρ 3 + 0)
            omega
          · show 0 ≤ -1 * ρ 2 + (1 * ρ 6 + 0)
            omega
          · show 0 ≤ 1 * ρ 2 + (-1 * ρ 6 + 0)
            omega
          · show 0 ≤ 1 * ρ 0 + (1 * ρ 9 + (-1 * ρ 12 + 0))
            omega
          · show 0 ≤ -1 * ρ 0 + (-1 * ρ 9 + (1 * ρ 12 + 0))
            omega
          · show 0 ≤ 1 * ρ 1 + 0
            omega
          · show 0 ≤ -1 * ρ 0 + (-1 * ρ 1 + (1 * ρ 13 + 0))
            omega
          · show 0 ≤ 1 * ρ 2 + 0
            omega
          · show 0 ≤ -1 * ρ 0 + (-1 * ρ 2 + (1 * ρ 12 + 0))
            omega) J (N := 300) (by decide)
      obtain ⟨ρ2, u2, w2, t2, z2, i2, y2⟩ := up_r671 p2
      have o2 : ρ2 0 = 1 := u2 0 (by decide)
      have a2_1 : ρ2 1 = x1.toInt := (u2 1 (by decide)).trans (urho_a (as := [x1.toInt, x2.toInt]) (j := 0) (show (0 : Nat) < 2 from by decide))
      have a2_2 : ρ2 2 = x2.toInt := (u2 2 (by decide)).trans (urho_a (as := [x1.toInt, x2.toInt]) (j := 1) (show (1 : Nat) < 2 from by decide))
      have m2_4_390 : N1 4 390 = ρ2 3 := by
        have h := q2 (4, 390, [(1, 3)]) (List.mem_of_getElem? (i := 1) rfl)
        have h : N1 4 390 = 1 * uRho [x1.toInt, x2.toInt] N1 (cM kc_r671) 3 + 0 := h
        rw [u2 3 (by decide)]
        omega
      have m2_4_391 : N1 4 391 = ρ2 4 := by
        have h := q2 (4, 391, [(1, 4)]) (List.mem_of_getElem? (i := 2) rfl)
        have h : N1 4 391 = 1 * uRho [x1.toInt, x2.toInt] N1 (cM kc_r671) 4 + 0 := h
        rw [u2 4 (by decide)]
        omega
      have m2_4_392 : N1 4 392 = ρ2 5 := by
        have h := q2 (4, 392, [(1, 5)]) (List.mem_of_getElem? (i := 3) rfl)
        have h : N1 4 392 = 1 * uRho [x1.toInt, x2.toInt] N1 (cM kc_r671) 5 + 0 := h
        rw [u2 5 (by decide)]
        omega
      have m2_4_393 : N1 4 393 = ρ2 6 := by
        have h := q2 (4, 393, [(1, 6)]) (List.mem_of_getElem? (i := 4) rfl)
        have h : N1 4 393 = 1 * uRho [x1.toInt, x2.toInt] N1 (cM kc_r671) 6 + 0 := h
        rw [u2 6 (by decide)]
        omega
      have m2_4_394 : N1 4 394 = ρ2 7 := by
        have h := q2 (4, 394, [(1, 7)]) (List.mem_of_getElem? (i := 5) rfl)
        have h : N1 4 394 = 1 * uRho [x1.toInt, x2.toInt] N1 (cM kc_r671) 7 + 0 := h
        rw [u2 7 (by decide)]
        omega
      have m2_4_395 : N1 4 395 = ρ2 8 := by
        have h := q2 (4, 395, [(1, 8)]) (List.mem_of_getElem? (i := 6) rfl)
        have h : N1 4 395 = 1 * uRho [x1.toInt, x2.toInt] N1 (cM kc_r671) 8 + 0 := h
        rw [u2 8 (by decide)]
        omega
      have m2_4_396 : N1 4 396 = ρ2 9 := by
        have h := q2 (4, 396, [(1, 9)]) (List.mem_of_getElem? (i := 7) rfl)
        have h : N1 4 396 = 1 * uRho [x1.toInt, x2.toInt] N1 (cM kc_r671) 9 + 0 := h
        rw [u2 9 (by decide)]
        omega
      have m2_4_397 : N1 4 397 = ρ2 10 := by
        have h := q2 (4, 397, [(1, 10)]) (List.mem_of_getElem? (i := 8) rfl)
        have h : N1 4 397 = 1 * uRho [x1.toInt, x2.toInt] N1 (cM kc_r671) 10 + 0 := h
        rw [u2 10 (by decide)]
        omega
      have m2_4_398 : N1 4 398 = ρ2 11 := by
        have h := q2 (4, 398, [(1, 11)]) (List.mem_of_getElem? (i := 9) rfl)
        have h : N1 4 398 = 1 * uRho [x1.toInt, x2.toInt] N1 (cM kc_r671) 11 + 0 := h
        rw [u2 11 (by decide)]
        omega
      have m2_93_0 : N1 93 0 = ρ2 12 := by
        have h := q2 (93, 0, [(1, 12)]) (List.mem_of_getElem? (i := 10) rfl)
        have h : N1 93 0 = 1 * uRho [x1.toInt, x2.toInt] N1 (cM kc_r671) 12 + 0 := h
        rw [u2 12 (by decide)]
        omega
      have m2_93_1 : N1 93 1 = ρ2 13 := by
        have h := q2 (93, 1, [(1, 13)]) (List.mem_of_getElem? (i := 11) rfl)
        have h : N1 93 1 = 1 * uRho [x1.toInt, x2.toInt] N1 (cM kc_r671) 13 + 0 := h
        rw [u2 13 (by decide)]
        omega
      have t2_0 := t2
      rw [o2] at z2
      have s2 : uSt 28 N2 := ⟨i2, ukeepX_ok (ks := uKq 28 ++ [(4, 350, 28)]) (c := kc_r671) (by decide +kernel) (fun q hq => by rcases List.mem_append.mp hq with hq | hq; exact k1 q hq; rw [List.mem_singleton] at hq; rw [hq]; exact v1) p2⟩
      have b2_0_1 : N2 0 1 = N1 0 1 := y2 0 1 (by decide +kernel)
      have b2_0_2 : N2 0 2 = N1 0 2 := y2 0 2 (by decide +kernel)
      have b2_0_3 : N2 0 3 = N1 0 3 := y2 0 3 (by decide +kernel)
      have b2_4_261 : N2 4 261 = N1 4 261 := y2 4 261 (by decide +kernel)
      have b2_28_8 : N2 28 8 = N1 28 8 := y2 28 8 (by decide +kernel)
      have b2_28_9 : N2 28 9 = N1 28 9 := y2 28 9 (by decide +kernel)
      have b2_28_10 : N2 28 10 = N1 28 10 := y2 28 10 (by decide +kernel)
      have b2_77_6 : N2 77 6 = N1 77 6 := y2 77 6 (by decide +kernel)
      have b2_91_2 : N2 91 2 = N1 91 2 := y2 91 2 (by decide +kernel)
      have b2_91_33 : N2 91 33 = N1 91 33 := y2 91 33 (by decide +kernel)
      have b2_91_34 : N2 91 34 = N1 91 34 := y2 91 34 (by decide +kernel)
      have b2_91_61 : N2 91 61 = N1 91 61 := y2 91 61 (by decide +kernel)
      have b2_93_0 : N2 93 0 = N1 93 0 := y2 93 0 (by decide +kernel)
      have b2_93_1 : N2 93 1 = N1 93 1 := y2 93 1 (by decide +kernel)
      have b2_93_2 : N2 93 2 = N1 93 2 := y2 93 2 (by decide +kernel)
      have hv : ρ2 14 = ρ1 7 := by
        clear hT hs s2 k1 i1 i2 y1 y2 u1 u2 q1 q2 p1 p2
        rcases z2 with z2 | z2 | z2 <;> omega
      clear z1 z2
      rw [w1] at e1
      rw [w2, hv] at e2
      simp only [List.map_cons, List.map_nil, i32_of] at e1 e2
      exact ⟨Int32.ofInt (ρ1 7), N1, N2, e1, e2, 28, Or.inr rfl, s2, (fun q hq => by
        have hq : q ∈ ([(0, 1, 91, 2), (4, 261, 0, 1), (0, 2, 91, 33), (0, 3, 91, 34), (28, 8, 93, 0), (28, 9, 93, 1), (28, 10, 93, 2), (77, 6, 91, 61)] : List (Nat × Nat × Nat × Nat)) := hq
        simp only [List.mem_cons, List.not_mem_nil, or_false] at hq
        rcases hq with rfl | rfl | rfl | rfl | rfl | rfl | rfl | rfl
        · exact (show N2 0 1 = N2 91 2 by omega)
        · exact (show N2 4 261 = N2 0 1 by omega)
        · exact (show N2 0 2 = N2 91 33 by omega)
        · exact (show N2 0 3 = N2 91 34 by omega)
        · exact (show N2 28 8 = N2 93 0 by omega)
        · exact (show N2 28 9 = N2 93 1 by omega)
        · exact (show N2 28 10 = N2 93 2 by omega)
        · exact (show N2 77 6 = N2 91 61 by omega))⟩
theorem uo_27 {M : sM} (hM : uG M) (J : pHp) (x1 : Int32) : ∃ (v1 : Int32) (M1 : sM) (v2 : Int32) (M2 : sM), pEx 300 137 [.ref 0, .int x1] (sHp sLay M ++ J) (some (.int v1)) (sHp sLay M1 ++ J) ∧ pEx 300 252 [.ref 91, .int x1] (sHp sLay M1 ++ J) (some (.int v2)) (sHp sLay M2 ++ J) ∧ uG M2 := by
  obtain ⟨z1, M1, z2, M2, e1, e2, e3⟩ := u_two ko_89 ko_267 ko_r676 (bs := [false]) (by decide +kernel) hM (as := [x1.toInt]) ⟨⟨uarg_i _, fun h => nomatch h⟩, trivial⟩ J
  simp only [List.map_cons, List.map_nil, i32_of] at e1 e2
  exact ⟨Int32.ofInt z1, M1, Int32.ofInt z2, M2, e1, e2, e3⟩
theorem up_91 {ρ : Nat → Int} {M M' : sM} {rv : Option sV} (h : qPost kc_91 ρ M rv M') : ∃ ρ' : Nat → Int, (∀ a, a < 4 → ρ' a = ρ a) ∧ rv = qRv 0 (ρ' 4) ∧ (M' 4 350 = ρ' 5 ∧ M' 4 360 = ρ' 6 ∧ M' 4 361 = ρ' 7 ∧ M' 4 362 = ρ' 8 ∧ M' 4 363 = ρ' 9 ∧ M' 4 364 = ρ' 10 ∧ M' 4 365 = ρ' 11 ∧ M' 4 366 = ρ' 12 ∧ M' 4 367 = ρ' 13 ∧ M' 4 369 = ρ' 14 ∧ M' 4 370 = ρ' 15 ∧ M' 4 371 = ρ' 16 ∧ M' 4 372 = ρ' 17) ∧ ((0 ≤ 2147483648 * ρ' 0 + (1 * ρ' 4 + 0) ∧ 0 ≤ -2147483648 * ρ' 0 + (-1 * ρ' 4 + 0) ∧ 0 ≤ 1 * ρ' 5 + 0 ∧ 0 ≤ -1 * ρ' 5 + 0 ∧ 0 ≤ -1 * ρ' 0 + (-1 * ρ' 1 + 0)) ∨ (0 ≤ 2147483648 * ρ' 0 + (1 * ρ' 4 + 0) ∧ 0 ≤ -2147483648 * ρ' 0 + (-1 * ρ' 4 + 0) ∧ 0 ≤ 1 * ρ' 5 + 0 ∧ 0 ≤ -1 * ρ' 5 + 0 ∧ 0 ≤ 1 * ρ' 1 + (-1 * ρ' 2 + 0)) ∨ (0 ≤ -10 * ρ' 1 + (1 * ρ' 4 + (-1 * ρ' 12 + 0)) ∧ 0 ≤ 10 * ρ' 1 + (-1 * ρ' 4 + (1 * ρ' 12 + 0)) ∧ 0 ≤ -30 * ρ' 0 + (1 * ρ' 5 + 0) ∧ 0 ≤ 30 * ρ' 0 + (-1 * ρ' 5 + 0) ∧ 0 ≤ -1 * ρ' 1 + (1 * ρ' 17 + 0) ∧ 0 ≤ 1 * ρ' 1 + (-1 * ρ' 17 + 0) ∧ 0 ≤ 1 * ρ' 1 + 0 ∧ 0 ≤ -1 * ρ' 0 + (-1 * ρ' 1 + (1 * ρ' 2 + 0)) ∧ 0 ≤ -1 * ρ' 11 + (7 * ρ' 13 + 0) ∧ 0 ≤ 6 * ρ' 0 + (1 * ρ' 11 + (-7 * ρ' 13 + 0)) ∧ 0 ≤ 1 * ρ' 11 + 0 ∧ 0 ≤ 99 * ρ' 0 + (-1 * ρ' 11 + 0) ∧ 0 ≤ 1 * ρ' 13 + 0)) ∧ sI M' ∧ sF (cS kc_91) M M' := by
  obtain ⟨ρ', h1, h2, ⟨al, hal, hf⟩, h3, h4, h5⟩ := h
  refine ⟨ρ', h1, h2, ⟨h3 (4, 350, 5) (List.mem_of_getElem? (i := 0) rfl), h3 (4, 360, 6) (List.mem_of_getElem? (i := 1) rfl), h3 (4, 361, 7) (List.mem_of_getElem? (i := 2) rfl), h3 (4, 362, 8) (List.mem_of_getElem? (i := 3) rfl), h3 (4, 363, 9) (List.mem_of_getElem? (i := 4) rfl), h3 (4, 364, 10) (List.mem_of_getElem? (i := 5) rfl), h3 (4, 365, 11) (List.mem_of_getElem? (i := 6) rfl), h3 (4, 366, 12) (List.mem_of_getElem? (i := 7) rfl), h3 (4, 367, 13) (List.mem_of_getElem? (i := 8) rfl), h3 (4, 369, 14) (List.mem_of_getElem? (i := 9) rfl), h3 (4, 370, 15) (List.mem_of_getElem? (i := 10) rfl), h3 (4, 371, 16) (List.mem_of_getElem? (i := 11) rfl), h3 (4, 372, 17) (List.mem_of_getElem? (i := 12) rfl)⟩, ?_, h4, h5⟩
  have hal : al ∈ ([[[(2147483648, 0), (1, 4)], [(-2147483648, 0), (-1, 4)], [(1, 5)], [(-1, 5)], [(-1, 0), (-1, 1)]], [[(2147483648, 0), (1, 4)], [(-2147483648, 0), (-1, 4)], [(1, 5)], [(-1, 5)], [(1, 1), (-1, 2)]], [[(-10, 1), (1, 4), (-1, 12)], [(10, 1), (-1, 4), (1, 12)], [(-30, 0), (1, 5)], [(30, 0), (-1, 5)], [(-1, 1), (1, 17)], [(1, 1), (-1, 17)], [(1, 1)], [(-1, 0), (-1, 1), (1, 2)], [(-1, 11), (7, 13)], [(6, 0), (1, 11), (-7, 13)], [(1, 11)], [(99, 0), (-1, 11)], [(1, 13)]]] : List (List qF)) := hal
  simp only [List.mem_cons, List.not_mem_nil, or_false] at hal
  rcases hal with rfl | rfl | rfl
  · exact Or.inl ⟨hf [(2147483648, 0), (1, 4)] (List.mem_of_getElem? (i := 0) rfl), hf [(-2147483648, 0), (-1, 4)] (List.mem_of_getElem? (i := 1) rfl), hf [(1, 5)] (List.mem_of_getElem? (i := 2) rfl), hf [(-1, 5)] (List.mem_of_getElem? (i := 3) rfl), hf [(-1, 0), (-1, 1)] (List.mem_of_getElem? (i := 4) rfl)⟩
  · exact Or.inr (Or.inl ⟨hf [(2147483648, 0), (1, 4)] (List.mem_of_getElem? (i := 0) rfl), hf [(-2147483648, 0), (-1, 4)] (List.mem_of_getElem? (i := 1) rfl), hf [(1, 5)] (List.mem_of_getElem? (i := 2) rfl), hf [(-1, 5)] (List.mem_of_getElem? (i := 3) rfl), hf [(1, 1), (-1, 2)] (List.mem_of_getElem? (i := 4) rfl)⟩)
  · exact Or.inr (Or.inr (⟨hf [(-10, 1), (1, 4), (-1, 12)] (List.mem_of_getElem? (i := 0) rfl), hf [(10, 1), (-1, 4), (1, 12)] (List.mem_of_getElem? (i := 1) rfl), hf [(-30, 0), (1, 5)] (List.mem_of_getElem? (i := 2) rfl), hf [(30, 0), (-1, 5)] (List.mem_of_getElem? (i := 3) rfl), hf [(-1, 1), (1, 17)] (List.mem_of_getElem? (i := 4) rfl), hf [(1, 1), (-1, 17)] (List.mem_of_getElem? (i := 5) rfl), hf [(1, 1)] (List.mem_of_getElem? (i := 6) rfl), hf [(-1, 0), (-1, 1), (1, 2)] (List.mem_of_getElem? (i := 7) rfl), hf [(-1, 11), (7, 13)] (List.mem_of_getElem? (i := 8) rfl), hf [(6, 0), (1, 11), (-7, 13)] (List.mem_of_getElem? (i := 9) rfl), hf [(1, 11)] (List.mem_of_getElem? (i := 10) rfl), hf [(99, 0), (-1, 11)] (List.mem_of_getElem? (i := 11) rfl), hf [(1, 13)] (List.mem_of_getElem? (i := 12) rfl)⟩))
theorem up_269 {ρ : Nat → Int} {M M' : sM} {rv : Option sV} (h : qPost kc_269 ρ M rv M') : ∃ ρ' : Nat → Int, (∀ a, a < 4 → ρ' a = ρ a) ∧ rv = qRv 0 (ρ' 4) ∧ (M' 4 350 = ρ' 5 ∧ M' 4 360 = ρ' 6 ∧ M' 4 361 = ρ' 7 ∧ M' 4 362 = ρ' 8 ∧ M' 4 363 = ρ' 9 ∧ M' 4 364 = ρ' 10 ∧ M' 4 365 = ρ' 11 ∧ M' 4 366 = ρ' 12 ∧ M' 4 367 = ρ' 13 ∧ M' 4 369 = ρ' 14 ∧ M' 4 370 = ρ' 15 ∧ M' 4 371 = ρ' 16 ∧ M' 4 372 = ρ' 17) ∧ ((0 ≤ 2147483648 * ρ' 0 + (1 * ρ' 4 + 0) ∧ 0 ≤ -2147483648 * ρ' 0 + (-1 * ρ' 4 + 0) ∧ 0 ≤ 1 * ρ' 5 + 0 ∧ 0 ≤ -1 * ρ' 5 + 0 ∧ 0 ≤ -1 * ρ' 0 + (-1 * ρ' 1 + 0)) ∨ (0 ≤ 2147483648 * ρ' 0 + (1 * ρ' 4 + 0) ∧ 0 ≤ -2147483648 * ρ' 0 + (-1 * ρ' 4 + 0) ∧ 0 ≤ 1 * ρ' 5 + 0 ∧ 0 ≤ -1 * ρ' 5 + 0 ∧ 0 ≤ 1 * ρ' 1 + (-1 * ρ' 2 + 0)) ∨ (0 ≤ -10 * ρ' 1 + (1 * ρ' 4 + (-1 * ρ' 12 + 0)) ∧ 0 ≤ 10 * ρ' 1 + (-1 * ρ' 4 + (1 * ρ' 12 + 0)) ∧ 0 ≤ -30 * ρ' 0 + (1 * ρ' 5 + 0) ∧ 0 ≤ 30 * ρ' 0 + (-1 * ρ' 5 + 0) ∧ 0 ≤ -1 * ρ' 1 + (1 * ρ' 17 + 0) ∧ 0 ≤ 1 * ρ' 1 + (-1 * ρ' 17 + 0) ∧ 0 ≤ 1 * ρ' 1 + 0 ∧ 0 ≤ -1 * ρ' 0 + (-1 * ρ' 1 + (1 * ρ' 2 + 0)) ∧ 0 ≤ -1 * ρ' 11 + (7 * ρ' 13 + 0) ∧ 0 ≤ 6 * ρ' 0 + (1 * ρ' 11 + (-7 * ρ' 13 + 0)) ∧ 0 ≤ 1 * ρ' 11 + 0 ∧ 0 ≤ 99 * ρ' 0 + (-1 * ρ' 11 + 0) ∧ 0 ≤ 1 * ρ' 13 + 0)) ∧ sI M' ∧ sF (cS kc_269) M M' := by
  obtain ⟨ρ', h1, h2, ⟨al, hal, hf⟩, h3, h4, h5⟩ := h
  refine ⟨ρ', h1, h2, ⟨h3 (4, 350, 5) (List.mem_of_getElem? (i := 0) rfl), h3 (4, 360, 6) (List.mem_of_getElem? (i := 1) rfl), h3 (4, 361, 7) (List.mem_of_getElem? (i := 2) rfl), h3 (4, 362, 8) (List.mem_of_getElem? (i := 3) rfl), h3 (4, 363, 9) (List.mem_of_getElem? (i := 4) rfl), h3 (4, 364, 10) (List.mem_of_getElem? (i := 5) rfl), h3 (4, 365, 11) (List.mem_of_getElem? (i := 6) rfl), h3 (4, 366, 12) (List.mem_of_getElem? (i := 7) rfl), h3 (4, 367, 13) (List.mem_of_getElem? (i := 8) rfl), h3 (4, 369, 14) (List.mem_of_getElem? (i := 9) rfl), h3 (4, 370, 15) (List.mem_of_getElem? (i := 10) rfl), h3 (4, 371, 16) (List.mem_of_getElem? (i := 11) rfl), h3 (4, 372, 17) (List.mem_of_getElem? (i := 12) rfl)⟩, ?_, h4, h5⟩
  have hal : al ∈ ([[[(2147483648, 0), (1, 4)], [(-2147483648, 0), (-1, 4)], [(1, 5)], [(-1, 5)], [(-1, 0), (-1, 1)]], [[(2147483648, 0), (1, 4)], [(-2147483648, 0), (-1, 4)], [(1, 5)], [(-1, 5)], [(1, 1), (-1, 2)]], [[(-10, 1), (1, 4), (-1, 12)], [(10, 1), (-1, 4), (1, 12)], [(-30, 0), (1, 5)], [(30, 0), (-1, 5)], [(-1, 1), (1, 17)], [(1, 1), (-1, 17)], [(1, 1)], [(-1, 0), (-1, 1), (1, 2)], [(-1, 11), (7, 13)], [(6, 0), (1, 11), (-7, 13)], [(1, 11)], [(99, 0), (-1, 11)], [(1, 13)]]] : List (List qF)) := hal
  simp only [List.mem_cons, List.not_mem_nil, or_false] at hal
  rcases hal with rfl | rfl | rfl
  · exact Or.inl ⟨hf [(2147483648, 0), (1, 4)] (List.mem_of_getElem? (i := 0) rfl), hf [(-2147483648, 0), (-1, 4)] (List.mem_of_getElem? (i := 1) rfl), hf [(1, 5)] (List.mem_of_getElem? (i := 2) rfl), hf [(-1, 5)] (List.mem_of_getElem? (i := 3) rfl), hf [(-1, 0), (-1, 1)] (List.mem_of_getElem? (i := 4) rfl)⟩
  · exact Or.inr (Or.inl ⟨hf [(2147483648, 0), (1, 4)] (List.mem_of_getElem? (i := 0) rfl), hf [(-2147483648, 0), (-1, 4)] (List.mem_of_getElem? (i := 1) rfl), hf [(1, 5)] (List.mem_of_getElem? (i := 2) rfl), hf [(-1, 5)] (List.mem_of_getElem? (i := 3) rfl), hf [(1, 1), (-1, 2)] (List.mem_of_getElem? (i := 4) rfl)⟩)
  · exact Or.inr (Or.inr (⟨hf [(-10, 1), (1, 4), (-1, 12)] (List.mem_of_getElem? (i := 0) rfl), hf [(10, 1), (-1, 4), (1, 12)] (List.mem_of_getElem? (i := 1) rfl), hf [(-30, 0), (1, 5)] (List.mem_of_getElem? (i := 2) rfl), hf [(30, 0), (-1, 5)] (List.mem_of_getElem? (i := 3) rfl), hf [(-1, 1), (1, 17)] (List.mem_of_getElem? (i := 4) rfl), hf [(1, 1), (-1, 17)] (List.mem_of_getElem? (i := 5) rfl), hf [(1, 1)] (List.mem_of_getElem? (i := 6) rfl), hf [(-1, 0), (-1, 1), (1, 2)] (List.mem_of_getElem? (i := 7) rfl), hf [(-1, 11), (7, 13)] (List.mem_of_getElem? (i := 8) rfl), hf [(6, 0), (1, 11), (-7, 13)] (List.mem_of_getElem? (i := 9) rfl), hf [(1, 11)] (List.mem_of_getElem? (i := 10) rfl), hf [(99, 0), (-1, 11)] (List.mem_of_getElem? (i := 11) rfl), hf [(1, 13)] (List.mem_of_getElem? (i := 12) rfl)⟩))
theorem up_r678 {ρ : Nat → Int} {M M' : sM} {rv : Option sV} (h : qPost kc_r678 ρ M rv M') : ∃ ρ' : Nat → Int, (∀ a, a < 3 → ρ' a = ρ a) ∧ rv = qRv 0 (ρ' 3) ∧ (True) ∧ ((0 ≤ 2147483648 * ρ' 0 + (1 * ρ' 3 + 0) ∧ 0 ≤ -2147483648 * ρ' 0 + (-1 * ρ' 3 + 0))) ∧ sI M' ∧ sF (cS kc_r678) M M' := by
  obtain ⟨ρ', h1, h2, ⟨al, hal, hf⟩, h3, h4, h5⟩ := h
  refine ⟨ρ', h1, h2, trivial, ?_, h4, h5⟩
  have hal : al ∈ ([[[(2147483648, 0), (1, 3)], [(-2147483648, 0), (-1, 3)]]] : List (List qF)) := hal
  simp only [List.mem_cons, List.not_mem_nil, or_false] at hal
  rcases hal with rfl
  · exact ⟨hf [(2147483648, 0), (1, 3)] (List.mem_of_getElem? (i := 0) rfl), hf [(-2147483648, 0), (-1, 3)] (List.mem_of_getElem? (i := 1) rfl)⟩
theorem up_r679 {ρ : Nat → Int} {M M' : sM} {rv : Option sV} (h : qPost kc_r679 ρ M rv M') : ∃ ρ' : Nat → Int, (∀ a, a < 3 → ρ' a = ρ a) ∧ rv = qRv 0 (ρ' 3) ∧ (True) ∧ ((0 ≤ 2147483648 * ρ' 0 + (1 * ρ' 3 + 0) ∧ 0 ≤ -2147483648 * ρ' 0 + (-1 * ρ' 3 + 0))) ∧ sI M' ∧ sF (cS kc_r679) M M' := by
  obtain ⟨ρ', h1, h2, ⟨al, hal, hf⟩, h3, h4, h5⟩ := h
  refine ⟨ρ', h1, h2, trivial, ?_, h4, h5⟩
  have hal : al ∈ ([[[(2147483648, 0), (1, 3)], [(-2147483648, 0), (-1, 3)]]] : List (List qF)) := hal
  simp only [List.mem_cons, List.not_mem_nil, or_false] at hal
  rcases hal with rfl
  · exact ⟨hf [(2147483648, 0), (1, 3)] (List.mem_of_getElem? (i := 0) rfl), hf [(-2147483648, 0), (-1, 3)] (List.mem_of_getElem? (i := 1) rfl)⟩
theorem up_r677 {ρ : Nat → Int} {M M' : sM} {rv : Option sV} (h : qPost kc_r677 ρ M rv M') : ∃ ρ' : Nat → Int, (∀ a, a < 7 → ρ' a = ρ a) ∧ rv = qRv 0 (ρ' 7) ∧ (M' 4 350 = 0 ∧ M' 4 360 = ρ' 9 ∧ M' 4 361 = ρ' 10 ∧ M' 4 362 = ρ' 11 ∧ M' 4 363 = ρ' 12 ∧ M' 4 364 = ρ' 13 ∧ M' 4 369 = ρ' 14 ∧ M' 4 370 = ρ' 15 ∧ M' 4 371 = ρ' 16) ∧ ((0 ≤ -10 * ρ' 1 + (-1 * ρ' 5 + (1 * ρ' 7 + 0)) ∧ 0 ≤ 10 * ρ' 1 + (1 * ρ' 5 + (-1 * ρ' 7 + 0)) ∧ (0 : Int) ≤ 0 ∧ (0 : Int) ≤ 0)) ∧ sI M' ∧ sF (cS kc_r677) M M' := by
  obtain ⟨ρ', h1, h2, ⟨al, hal, hf⟩, h3, h4, h5⟩ := h
  refine ⟨ρ', h1, h2, ⟨h3 (4, 350, 100000) (List.mem_of_getElem? (i := 0) rfl), h3 (4, 360, 9) (List.mem_of_getElem? (i := 1) rfl), h3 (4, 361, 10) (List.mem_of_getElem? (i := 2) rfl), h3 (4, 362, 11) (List.mem_of_getElem? (i := 3) rfl), h3 (4, 363, 12) (List.mem_of_getElem? (i := 4) rfl), h3 (4, 364, 13) (List.mem_of_getElem? (i := 5) rfl), h3 (4, 369, 14) (List.mem_of_getElem? (i := 6) rfl), h3 (4, 370, 15) (List.mem_of_getElem? (i := 7) rfl), h3 (4, 371, 16) (List.mem_of_getElem? (i := 8) rfl)⟩, ?_, h4, h5⟩
  have hal : al ∈ ([[[(-10, 1), (-1, 5), (1, 7)], [(10, 1), (1, 5), (-1, 7)], [], []]] : List (List qF)) := hal
  simp only [List.mem_cons, List.not_mem_nil, or_false] at hal
  rcases hal with rfl
  · exact ⟨hf [(-10, 1), (-1, 5), (1, 7)] (List.mem_of_getElem? (i := 0) rfl), hf [(10, 1), (1, 5), (-1, 7)] (List.mem_of_getElem? (i := 1) rfl), hf [] (List.mem_of_getElem? (i := 2) rfl), hf [] (List.mem_of_getElem? (i := 3) rfl)⟩
set_option maxHeartbeats 4000000 in
theorem uo_28 {M : sM} (hM : uG M) (J : pHp) (x1 : Int32) : ∃ (v : Int32) (M1 M2 : sM), pEx 300 140 [.ref 0, .int x1] (sHp sLay M ++ J) (some (.int v)) (sHp sLay M1 ++ J) ∧ pEx 300 265 [.ref 91, .int x1] (sHp sLay M1 ++ J) (some (.int v)) (sHp sLay M2 ++ J) ∧ uG M2 := by
  obtain ⟨r, hr, hs, hT⟩ := hM
  rcases hr with rfl | rfl
  · have kM_0 : M 0 1 = M 91 2 := hT (0, 1, 91, 2) (List.mem_of_getElem? (i := 0) rfl)
    have kM_1 : M 4 261 = M 0 1 := hT (4, 261, 0, 1) (List.mem_of_getElem? (i := 1) rfl)
    have kM_2 : M 0 2 = M 91 33 := hT (0, 2, 91, 33) (List.mem_of_getElem? (i := 2) rfl)
    have kM_3 : M 0 3 = M 91 34 := hT (0, 3, 91, 34) (List.mem_of_getElem? (i := 3) rfl)
    have kM_4 : M 2 8 = M 93 0 := hT ((2 : Int).toNat, 8, 93, 0) (List.mem_of_getElem? (i := 4) rfl)
    have kM_5 : M 2 9 = M 93 1 := hT ((2 : Int).toNat, 9, 93, 1) (List.mem_of_getElem? (i := 5) rfl)
    have kM_6 : M 2 10 = M 93 2 := hT ((2 : Int).toNat, 10, 93, 2) (List.mem_of_getElem? (i := 6) rfl)
    have kM_7 : M 77 6 = M 91 61 := hT (77, 6, 91, 61) (List.mem_of_getElem? (i := 7) rfl)
    obtain ⟨rv1, N1, e1, p1, q1⟩ := u_runX ko_91 (ks := uKs 2) (ex := [[(1, 2), (-1, 3)], [(-1, 2), (1, 3)]]) (o := 0) (bs := [false]) (by decide +kernel) hs.1 hs.2 (as := [x1.toInt]) ⟨⟨uarg_i _, fun h => nomatch h⟩, trivial⟩ (fun hm f hf => by
        obtain ⟨ρ, hρ⟩ : ∃ ρ, ρ = uRho [x1.toInt] M (cM kc_91) := ⟨_, rfl⟩
        have o1 : ρ 0 = 1 := by rw [hρ]; rfl
        rw [← hρ] at hm ⊢
        have m3 : M 93 0 = 1 * ρ 2 + 0 := hm (93, 0, [(1, 2)]) (List.mem_of_getElem? (i := 3) rfl)
        have m4 : M 2 8 = 1 * ρ 3 + 0 := hm (2, 8, [(1, 3)]) (List.mem_of_getElem? (i := 4) rfl)
        have hf : f ∈ ([[(1, 2), (-1, 3)], [(-1, 2), (1, 3)]] : List qF) := hf
        simp only [List.mem_cons, List.not_mem_nil, or_false] at hf
        rcases hf with rfl | rfl
        · show 0 ≤ 1 * ρ 2 + (-1 * ρ 3 + 0)
          omega
        · show 0 ≤ -1 * ρ 2 + (1 * ρ 3 + 0)
          omega) J (N := 300) (by decide)
    obtain ⟨ρ1, u1, w1, t1, z1, i1, y1⟩ := up_91 p1
    have o1 : ρ1 0 = 1 := u1 0 (by decide)
    have a1_1 : ρ1 1 = x1.toInt := (u1 1 (by decide)).trans (urho_a (as := [x1.toInt]) (j := 0) (show (0 : Nat) < 1 from by decide))
    have m1_93_0 : M 93 0 = ρ1 2 := by
      have h := q1 (93, 0, [(1, 2)]) (List.mem_of_getElem? (i := 3) rfl)
      have h : M 93 0 = 1 * uRho [x1.toInt] M (cM kc_91) 2 + 0 := h
      rw [u1 2 (by decide)]
      omega
    have m1_2_8 : M 2 8 = ρ1 3 := by
      have h := q1 (2, 8, [(1, 3)]) (List.mem_of_getElem? (i := 4) rfl)
      have h : M 2 8 = 1 * uRho [x1.toInt] M (cM kc_91) 3 + 0 := h
      rw [u1 3 (by decide)]
      omega
    obtain ⟨t1_0, t1_1, t1_2, t1_3, t1_4, t1_5, t1_6, t1_7, t1_8, t1_9, t1_10, t1_11, t1_12⟩ := t1
    rw [o1] at z1
    have k1 : ∀ q ∈ uKq 2, N1 q.1 q.2.1 = q.2.2 := ukeepX_ok (ks := uKs 2) (c := kc_91) (by decide +kernel) hs.2 p1
    have b1_0_1 : N1 0 1 = M 0 1 := y1 0 1 (by decide +kernel)
    have b1_0_2 : N1 0 2 = M 0 2 := y1 0 2 (by decide +kernel)
    have b1_0_3 : N1 0 3 = M 0 3 := y1 0 3 (by decide +kernel)
    have b1_2_8 : N1 2 8 = M 2 8 := y1 2 8 (by decide +kernel)
    have b1_2_9 : N1 2 9 = M 2 9 := y1 2 9 (by decide +kernel)
    have b1_2_10 : N1 2 10 = M 2 10 := y1 2 10 (by decide +kernel)
    have b1_4_261 : N1 4 261 = M 4 261 := y1 4 261 (by decide +kernel)
    have b1_4_350 : N1 4 350 = ρ1 5 := t1_0
    have b1_4_365 : N1 4 365 = ρ1 11 := t1_6
    have b1_4_366 : N1 4 366 = ρ1 12 := t1_7
    have b1_4_367 : N1 4 367 = ρ1 13 := t1_8
    have b1_4_372 : N1 4 372 = ρ1 17 := t1_12
    have b1_77_6 : N1 77 6 = M 77 6 := y1 77 6 (by decide +kernel)
    have b1_91_2 : N1 91 2 = M 91 2 := y1 91 2 (by decide +kernel)
    have b1_91_33 : N1 91 33 = M 91 33 := y1 91 33 (by decide +kernel)
    have b1_91_34 : N1 91 34 = M 91 34 := y1 91 34 (by decide +kernel)
    have b1_91_61 : N1 91 61 = M 91 61 := y1 91 61 (by decide +kernel)
    have b1_93_0 : N1 93 0 = M 93 0 := y1 93 0 (by decide +kernel)
    have b1_93_1 : N1 93 1 = M 93 1 := y1 93 1 (by decide +kernel)
    have b1_93_2 : N1 93 2 = M 93 2 := y1 93 2 (by decide +kernel)
    rcases z1 with z1 | z1 | z1
    · have v1 : N1 4 350 = 0 := by omega
      obtain ⟨rv2, N2, e2, p2, q2⟩ := u_runX ko_r678 (ks := uKq 2 ++ [(4, 350, 0)]) (ex := [[(-1, 0), (-1, 1)]]) (o := 91) (bs := [false]) (by decide +kernel) i1 (fun q hq => by rcases List.mem_append.mp hq with hq | hq; exact k1 q hq; rw [List.mem_singleton] at hq; rw [hq]; exact v1) (as := [x1.toInt]) ⟨⟨uarg_i _, fun h => nomatch h⟩, trivial⟩ (fun hm f hf => by
          obtain ⟨ρ, hρ⟩ : ∃ ρ, ρ = uRho [x1.toInt] N1 (cM kc_r678) := ⟨_, rfl⟩
          have o1 : ρ 0 = 1 := by rw [hρ]; rfl
          have a1 : ρ 1 = x1.toInt := by rw [hρ]; exact urho_a (as := [x1.toInt]) (j := 0) (show (0 : Nat) < 1 from by decide)
          rw [← hρ] at hm ⊢
          have hf : f ∈ ([[(-1, 0), (-1, 1)]] : List qF) := hf
          simp only [List.mem_cons, List.not_mem_nil, or_false] at hf
          rcases hf with rfl
          · show 0 ≤ -1 * ρ 0 + (-1 * ρ 1 + 0)
            omega) J (N := 300) (by decide)
      obtain ⟨ρ2, u2, w2, t2, z2, i2, y2⟩ := up_r678 p2
      have o2 : ρ2 0 = 1 := u2 0 (by decide)
      have a2_1 : ρ2 1 = x1.toInt := (u2 1 (by decide)).trans (urho_a (as := [x1.toInt]) (j := 0) (show (0 : Nat) < 1 from by decide))
      have m2_93_0 : N1 93 0 = ρ2 2 := by
        have h := q2 (93, 0, [(1, 2)]) (List.mem_of_getElem? (i := 1) rfl)
        have h : N1 93 0 = 1 * uRho [x1.toInt] N1 (cM kc_r678) 2 + 0 := h
        rw [u2 2 (by decide)]
        omega
      rw [o2] at z2
      have s2 : uSt 2 N2 := ⟨i2, ukeepX_ok (ks := uKq 2 ++ [(4, 350, 0)]) (c := kc_r678) (by decide +kernel) (fun q hq => by rcases List.mem_append.mp hq with hq | hq; exact k1 q hq; rw [List.mem_singleton] at hq; rw [hq]; exact v1) p2⟩
      have b2_0_1 : N2 0 1 = N1 0 1 := y2 0 1 (by decide +kernel)
      have b2_0_2 : N2 0 2 = N1 0 2 := y2 0 2 (by decide +kernel)
      have b2_0_3 : N2 0 3 = N1 0 3 := y2 0 3 (by decide +kernel)
      have b2_2_8 : N2 2 8 = N1 2 8 := y2 2 8 (by decide +kernel)
      have b2_2_9 : N2 2 9 = N1 2 9 := y2 2 9 (by decide +kernel)
      have b2_2_10 : N2 2 10 = N1 2 10 := y2 2 10 (by decide +kernel)
      have b2_4_261 : N2 4 261 = N1 4 261 := y2 4 261 (by decide +kernel)
      have b2_77_6 : N2 77 6 = N1 77 6 := y2 77 6 (by decide +kernel)
      have b2_91_2 : N2 91 2 = N1 91 2 := y2 91 2 (by decide +kernel)
      have b2_91_33 : N2 91 33 = N1 91 33 := y2 91 33 (by decide +kernel)
      have b2_91_34 : N2 91 34 = N1 91 34 := y2 91 34 (by decide +kernel)
      have b2_91_61 : N2 91 61 = N1 91 61 := y2 91 61 (by decide +kernel)
      have b2_93_0 : N2 93 0 = N1 93 0 := y2 93 0 (by decide +kernel)
      have b2_93_1 : N2 93 1 = N1 93 1 := y2 93 1 (by decide +kernel)
      have b2_93_2 : N2 93 2 = N1 93 2 := y2 93 2 (by decide +kernel)
      have hv : ρ2 3 = ρ1 4 := by omega
      clear z1 z2
      rw [w1] at e1
      rw [w2, hv] at e2
      simp only [List.map_cons, List.map_nil, i32_of] at e1 e2
      exact ⟨Int32.ofInt (ρ1 4), N1, N2, e1, e2, 2, Or.inl rfl, s2, (fun q hq => by
        have hq : q ∈ ([(0, 1, 91, 2), (4, 261, 0, 1), (0, 2, 91, 33), (0, 3, 91, 34), (2, 8, 93, 0), (2, 9, 93, 1), (2, 10, 93, 2), (77, 6, 91, 61)] : List (Nat × Nat × Nat × Nat)) := hq
        simp only [List.mem_cons, List.not_mem_nil, or_false] at hq
        rcases hq with rfl | rfl | rfl | rfl | rfl | rfl | rfl | rfl
        · exact (show N2 0 1 = N2 91 2 by omega)
        · exact (show N2 4 261 = N2 0 1 by omega)
        · exact (show N2 0 2 = N2 91 33 by omega)
        · exact (show N2 0 3 = N2 91 34 by omega)
        · exact (show N2 2 8 = N2 93 0 by omega)
        · exact (show N2 2 9 = N2 93 1 by omega)
        · exact (show N2 2 10 = N2 93 2 by omega)
        · exact (show N2 77 6 = N2 91 61 by omega))⟩
    · have v1 : N1 4 350 = 0 := by omega
      obtain ⟨rv2, N2, e2, p2, q2⟩ := u_runX ko_r679 (ks := uKq 2 ++ [(4, 350, 0)]) (ex := [[(1, 1), (-1, 2)]]) (o := 91) (bs := [false]) (by decide +kernel) i1 (fun q hq => by rcases List.mem_append.mp hq with hq | hq; exact k1 q hq; rw [List.mem_singleton] at hq; rw [hq]; exact v1) (as := [x1.toInt]) ⟨⟨uarg_i _, fun h => nomatch h⟩, trivial⟩ (fun hm f hf => by
          obtain ⟨ρ, hρ⟩ : ∃ ρ, ρ = uRho [x1.toInt] N1 (cM kc_r679) := ⟨_, rfl⟩
          have o1 : ρ 0 = 1 := by rw [hρ]; rfl
          have a1 : ρ 1 = x1.toInt := by rw [hρ]; exact urho_a (as := [x1.toInt]) (j := 0) (show (0 : Nat) < 1 from by decide)
          rw [← hρ] at hm ⊢
          have m1 : N1 93 0 = 1 * ρ 2 + 0 := hm (93, 0, [(1, 2)]) (List.mem_of_getElem? (i := 1) rfl)
          have hf : f ∈ ([[(1, 1), (-1, 2)]] : List qF) := hf
          simp only [List.mem_cons, List.not_mem_nil, or_false] at hf
          rcases hf with rfl
          · show 0 ≤ 1 * ρ 1 + (-1 * ρ 2 + 0)
            omega) J (N := 300) (by decide)
      obtain ⟨ρ2, u2, w2, t2, z2, i2, y2⟩ := up_r679 p2
      have o2 : ρ2 0 = 1 := u2 0 (by decide)
      have a2_1 : ρ2 1 = x1.toInt := (u2 1 (by decide)).trans (urho_a (as := [x1.toInt]) (j := 0) (show (0 : Nat) < 1 from by decide))
      have m2_93_0 : N1 93 0 = ρ2 2 := by
        have h := q2 (93, 0, [(1, 2)]) (List.mem_of_getElem? (i := 1) rfl)
        have h : N1 93 0 = 1 * uRho [x1.toInt] N1 (cM kc_r679) 2 + 0 := h
        rw [u2 2 (by decide)]
        omega
      rw [o2] at z2
      have s2 : uSt 2 N2 := ⟨i2, ukeepX_ok (ks := uKq 2 ++ [(4, 350, 0)]) (c := kc_r679) (by decide +kernel) (fun q hq => by rcases List.mem_append.mp hq with hq | hq; exact k1 q hq; rw [List.mem_singleton] at hq; rw [hq]; exact v1) p2⟩
      have b2_0_1 : N2 0 1 = N1 0 1 := y2 0 1 (by decide +kernel)
      have b2_0_2 : N2 0 2 = N1 0 2 := y2 0 2 (by decide +kernel)
      have b2_0_3 : N2 0 3 = N1 0 3 := y2 0 3 (by decide +kernel)
      have b2_2_8 : N2 2 8 = N1 2 8 := y2 2 8 (by decide +kernel)
      have b2_2_9 : N2 2 9 = N1 2 9 := y2 2 9 (by decide +kernel)
      have b2_2_10 : N2 2 10 = N1 2 10 := y2 2 10 (by decide +kernel)
      have b2_4_261 : N2 4 261 = N1 4 261 := y2 4 261 (by decide +kernel)
      have b2_77_6 : N2 77 6 = N1 77 6 := y2 77 6 (by decide +kernel)
      have b2_91_2 : N2 91 2 = N1 91 2 := y2 91 2 (by decide +kernel)
      have b2_91_33 : N2 91 33 = N1 91 33 := y2 91 33 (by decide +kernel)
      have b2_91_34 : N2 91 34 = N1 91 34 := y2 91 34 (by decide +kernel)
      have b2_91_61 : N2 91 61 = N1 91 61 := y2 91 61 (by decide +kernel)
      have b2_93_0 : N2 93 0 = N1 93 0 := y2 93 0 (by decide +kernel)
      have b2_93_1 : N2 93 1 = N1 93 1 := y2 93 1 (by decide +kernel)
      have b2_93_2 : N2 93 2 = N1 93 2 := y2 93 2 (by decide +kernel)
      have hv : ρ2 3 = ρ1 4 := by omega
      clear z1 z2
      rw [w1] at e1
      rw [w2, hv] at e2
      simp only [List.map_cons, List.map_nil, i32_of] at e1 e2
      exact ⟨Int32.ofInt (ρ1 4), N1, N2, e1, e2, 2, Or.inl rfl, s2, (fun q hq => by
        have hq : q ∈ ([(0, 1, 91, 2), (4, 261, 0, 1), (0, 2, 91, 33), (0, 3, 91, 34), (2, 8, 93, 0), (2, 9, 93, 1), (2, 10, 93, 2), (77, 6, 91, 61)] : List (Nat × Nat × Nat × Nat)) := hq
        simp only [List.mem_cons, List.not_mem_nil, or_false] at hq
        rcases hq with rfl | rfl | rfl | rfl | rfl | rfl | rfl | rfl
        · exact (show N2 0 1 = N2 91 2 by omega)
        · exact (show N2 4 261 = N2 0 1 by omega)
        · exact (show N2 0 2 = N2 91 33 by omega)
        · exact (show N2 0 3 = N2 91 34 by omega)
        · exact (show N2 2 8 = N2 93 0 by omega)
        · exact (show N2 2 9 = N2 93 1 by omega)
        · exact (show N2 2 10 = N2 93 2 by omega)
        · exact (show N2 77 6 = N2 91 61 by omega))⟩
    · have v1 : N1 4 350 = 30 := by omega
      obtain ⟨rv2, N2, e2, p2, q2⟩ := u_runX ko_r677 (ks := uKq 2 ++ [(4, 350, 30)]) (ex := [[(1, 3)], [(99, 0), (-1, 3)], [(-1, 1), (1, 2)], [(1, 1), (-1, 2)], [(1, 1)], [(-1, 0), (-1, 1), (1, 6)], [(-1, 3), (7, 4)], [(6, 0), (1, 3), (-7, 4)]]) (o := 91) (bs := [false]) (by decide +kernel) i1 (fun q hq => by rcases List.mem_append.mp hq with hq | hq; exact k1 q hq; rw [List.mem_singleton] at hq; rw [hq]; exact v1) (as := [x1.toInt]) ⟨⟨uarg_i _, fun h => nomatch h⟩, trivial⟩ (fun hm f hf => by
          obtain ⟨ρ, hρ⟩ : ∃ ρ, ρ = uRho [x1.toInt] N1 (cM kc_r677) := ⟨_, rfl⟩
          have o1 : ρ 0 = 1 := by rw [hρ]; rfl
          have a1 : ρ 1 = x1.toInt := by rw [hρ]; exact urho_a (as := [x1.toInt]) (j := 0) (show (0 : Nat) < 1 from by decide)
          rw [← hρ] at hm ⊢
          have m1 : N1 4 372 = 1 * ρ 2 + 0 := hm (4, 372, [(1, 2)]) (List.mem_of_getElem? (i := 1) rfl)
          have m2 : N1 4 365 = 1 * ρ 3 + 0 := hm (4, 365, [(1, 3)]) (List.mem_of_getElem? (i := 2) rfl)
          have m3 : N1 4 367 = 1 * ρ 4 + 0 := hm (4, 367, [(1, 4)]) (List.mem_of_getElem? (i := 3) rfl)
          have m5 : N1 93 0 = 1 * ρ 6 + 0 := hm (93, 0, [(1, 6)]) (List.mem_of_getElem? (i := 5) rfl)
          have hf : f ∈ ([[(1, 3)], [(99, 0), (-1, 3)], [(-1, 1), (1, 2)], [(1, 1), (-1, 2)], [(1, 1)], [(-1, 0), (-1, 1), (1, 6)], [(-1, 3), (7, 4)], [(6, 0), (1, 3), (-7, 4)]] : List qF) := hf
          simp only [List.mem_cons, List.not_mem_nil, or_false] at hf
          rcases hf with rfl | rfl | rfl | rfl | rfl | rfl | rfl | rfl
          · show 0 ≤ 1 * ρ 3 + 0
            omega
          · show 0 ≤ 99 * ρ 0 + (-1 * ρ 3 + 0)
            omega
          · show 0 ≤ -1 * ρ 1 + (1 * ρ 2 + 0)
            omega
          · show 0 ≤ 1 * ρ 1 + (-1 * ρ 2 + 0)
            omega
          · show 0 ≤ 1 * ρ 1 + 0
            omega
          · show 0 ≤ -1 * ρ 0 + (-1 * ρ 1 + (1 * ρ 6 + 0))
            omega
          · show 0 ≤ -1 * ρ 3 + (7 * ρ 4 + 0)
            omega
          · show 0 ≤ 6 * ρ 0 + (1 * ρ 3 + (-7 * ρ 4 + 0))
            omega) J (N := 300) (by decide)
      obtain ⟨ρ2, u2, w2, t2, z2, i2, y2⟩ := up_r677 p2
      have o2 : ρ2 0 = 1 := u2 0 (by decide)
      have a2_1 : ρ2 1 = x1.toInt := (u2 1 (by decide)).trans (urho_a (as := [x1.toInt]) (j := 0) (show (0 : Nat) < 1 from by decide))
      have m2_4_372 : N1 4 372 = ρ2 2 := by
        have h := q2 (4, 372, [(1, 2)]) (List.mem_of_getElem? (i := 1) rfl)
        have h : N1 4 372 = 1 * uRho [x1.toInt] N1 (cM kc_r677) 2 + 0 := h
        rw [u2 2 (by decide)]
        omega
      have m2_4_365 : N1 4 365 = ρ2 3 := by
        have h := q2 (4, 365, [(1, 3)]) (List.mem_of_getElem? (i := 2) rfl)
        have h : N1 4 365 = 1 * uRho [x1.toInt] N1 (cM kc_r677) 3 + 0 := h
        rw [u2 3 (by decide)]
        omega
      have m2_4_367 : N1 4 367 = ρ2 4 := by
        have h := q2 (4, 367, [(1, 4)]) (List.mem_of_getElem? (i := 3) rfl)
        have h : N1 4 367 = 1 * uRho [x1.toInt] N1 (cM kc_r677) 4 + 0 := h
        rw [u2 4 (by decide)]
        omega
      have m2_4_366 : N1 4 366 = ρ2 5 := by
        have h := q2 (4, 366, [(1, 5)]) (List.mem_of_getElem? (i := 4) rfl)
        have h : N1 4 366 = 1 * uRho [x1.toInt] N1 (cM kc_r677) 5 + 0 := h
        rw [u2 5 (by decide)]
        omega
      have m2_93_0 : N1 93 0 = ρ2 6 := by
        have h := q2 (93, 0, [(1, 6)]) (List.mem_of_getElem? (i := 5) rfl)
        have h : N1 93 0 = 1 * uRho [x1.toInt] N1 (cM kc_r677) 6 + 0 := h
        rw [u2 6 (by decide)]
        omega
      obtain ⟨t2_0, t2_1, t2_2, t2_3, t2_4, t2_5, t2_6, t2_7, t2_8⟩ := t2
      rw [o2] at z2
      have s2 : uSt 2 N2 := ⟨i2, ukeepX_ok (ks := uKq 2 ++ [(4, 350, 30)]) (c := kc_r677) (by decide +kernel) (fun q hq => by rcases List.mem_append.mp hq with hq | hq; exact k1 q hq; rw [List.mem_singleton] at hq; rw [hq]; exact v1) p2⟩
      have b2_0_1 : N2 0 1 = N1 0 1 := y2 0 1 (by decide +kernel)
      have b2_0_2 : N2 0 2 = N1 0 2 := y2 0 2 (by decide +kernel)
      have b2_0_3 : N2 0 3 = N1 0 3 := y2 0 3 (by decide +kernel)
      have b2_2_8 : N2 2 8 = N1 2 8 := y2 2 8 (by decide +kernel)
      have b2_2_9 : N2 2 9 = N1 2 9 := y2 2 9 (by decide +kernel)
      have b2_2_10 : N2 2 10 = N1 2 10 := y2 2 10 (by decide +kernel)
      have b2_4_261 : N2 4 261 = N1 4 261 := y2 4 261 (by decide +kernel)
      have b2_77_6 : N2 77 6 = N1 77 6 := y2 77 6 (by decide +kernel)
      have b2_91_2 : N2 91 2 = N1 91 2 := y2 91 2 (by decide +kernel)
      have b2_91_33 : N2 91 33 = N1 91 33 := y2 91 33 (by decide +kernel)
      have b2_91_34 : N2 91 34 = N1 91 34 := y2 91 34 (by decide +kernel)
      have b2_91_61 : N2 91 61 = N1 91 61 := y2 91 61 (by decide +kernel)
      have b2_93_0 : N2 93 0 = N1 93 0 := y2 93 0 (by decide +kernel)
      have b2_93_1 : N2 93 1 = N1 93 1 := y2 93 1 (by decide +kernel)
      have b2_93_2 : N2 93 2 = N1 93 2 := y2 93 2 (by decide +kernel)
      have hv : ρ2 7 = ρ1 4 := by omega
      clear z1 z2
      rw [w1] at e1
      rw [w2, hv] at e2
      simp only [List.map_cons, List.map_nil, i32_of] at e1 e2
      exact ⟨Int32.ofInt (ρ1 4), N1, N2, e1, e2, 2, Or.inl rfl, s2, (fun q hq => by
        have hq : q ∈ ([(0, 1, 91, 2), (4, 261, 0, 1), (0, 2, 91, 33), (0, 3, 91, 34), (2, 8, 93, 0), (2, 9, 93, 1), (2, 10, 93, 2), (77, 6, 91, 61)] : List (Nat × Nat × Nat × Nat)) := hq
        simp only [List.mem_cons, List.not_mem_nil, or_false] at hq
        rcases hq with rfl | rfl | rfl | rfl | rfl | rfl | rfl | rfl
        · exact (show N2 0 1 = N2 91 2 by omega)
        · exact (show N2 4 261 = N2 0 1 by omega)
        · exact (show N2 0 2 = N2 91 33 by omega)
        · exact (show N2 0 3 = N2 91 34 by omega)
        · exact (show N2 2 8 = N2 93 0 by omega)
        · exact (show N2 2 9 = N2 93 1 by omega)
        · exact (show N2 2 10 = N2 93 2 by omega)
        · exact (show N2 77 6 = N2 91 61 by omega))⟩
  · have kM_0 : M 0 1 = M 91 2 := hT (0, 1, 91, 2) (List.mem_of_getElem? (i := 0) rfl)
    have kM_1 : M 4 261 = M 0 1 := hT (4, 261, 0, 1) (List.mem_of_getElem? (i := 1) rfl)
    have kM_2 : M 0 2 = M 91 33 := hT (0, 2, 91, 33) (List.mem_of_getElem? (i := 2) rfl)
    have kM_3 : M 0 3 = M 91 34 := hT (0, 3, 91, 34) (List.mem_of_getElem? (i := 3) rfl)
    have kM_4 : M 28 8 = M 93 0 := hT ((28 : Int).toNat, 8, 93, 0) (List.mem_of_getElem? (i := 4) rfl)
    have kM_5 : M 28 9 = M 93 1 := hT ((28 : Int).toNat, 9, 93, 1) (List.mem_of_getElem? (i := 5) rfl)
    have kM_6 : M 28 10 = M 93 2 := hT ((28 : Int).toNat, 10, 93, 2) (List.mem_of_getElem? (i := 6) rfl)
    have kM_7 : M 77 6 = M 91 61 := hT (77, 6, 91, 61) (List.mem_of_getElem? (i := 7) rfl)
    obtain ⟨rv1, N1, e1, p1, q1⟩ := u_runX ko_269 (ks := uKs 28) (ex := [[(1, 2), (-1, 3)], [(-1, 2), (1, 3)]]) (o := 0) (bs := [false]) (by decide +kernel) hs.1 hs.2 (as := [x1.toInt]) ⟨⟨uarg_i _, fun h => nomatch h⟩, trivial⟩ (fun hm f hf => by
        obtain ⟨ρ, hρ⟩ : ∃ ρ, ρ = uRho [x1.toInt] M (cM kc_269) := ⟨_, rfl⟩
        have o1 : ρ 0 = 1 := by rw [hρ]; rfl
        rw [← hρ] at hm ⊢
        have m3 : M 93 0 = 1 * ρ 2 + 0 := hm (93, 0, [(1, 2)]) (List.mem_of_getElem? (i := 3) rfl)
        have m4 : M 28 8 = 1 * ρ 3 + 0 := hm (28, 8, [(1, 3)]) (List.mem_of_getElem? (i := 4) rfl)
        have hf : f ∈ ([[(1, 2), (-1, 3)], [(-1, 2), (1, 3)]] : List qF) := hf
        simp only [List.mem_cons, List.not_mem_nil, or_false] at hf
        rcases hf with rfl | rfl
        · show 0 ≤ 1 * ρ 2 + (-1 * ρ 3 + 0)
          omega
        · show 0 ≤ -1 * ρ 2 + (1 * ρ 3 + 0)
          omega) J (N := 300) (by decide)
    obtain ⟨ρ1, u1, w1, t1, z1, i1, y1⟩ := up_269 p1
    have o1 : ρ1 0 = 1 := u1 0 (by decide)
    have a1_1 : ρ1 1 = x1.toInt := (u1 1 (by decide)).trans (urho_a (as := [x1.toInt]) (j := 0) (show (0 : Nat) < 1 from by decide))
    have m1_93_0 : M 93 0 = ρ1 2 := by
      have h := q1 (93, 0, [(1, 2)]) (List.mem_of_getElem? (i := 3) rfl)
      have h : M 93 0 = 1 * uRho [x1.toInt] M (cM kc_269) 2 + 0 := h
      rw [u1 2 (by decide)]
      omega
    have m1_28_8 : M 28 8 = ρ1 3 := by
      have h := q1 (28, 8, [(1, 3)]) (List.mem_of_getElem? (i := 4) rfl)
      have h : M 28 8 = 1 * uRho [x1.toInt] M (cM kc_269) 3 + 0 := h
      rw [u1 3 (by decide)]
      omega
    obtain ⟨t1_0, t1_1, t1_2, t1_3, t1_4, t1_5, t1_6, t1_7, t1_8, t1_9, t1_10, t1_11, t1_12⟩ := t1
    rw [o1] at z1
    have k1 : ∀ q ∈ uKq 28, N1 q.1 q.2.1 = q.2.2 := ukeepX_ok (ks := uKs 28) (c := kc_269) (by decide +kernel) hs.2 p1
    have b1_0_1 : N1 0 1 = M 0 1 := y1 0 1 (by decide +kernel)
    have b1_0_2 : N1 0 2 = M 0 2 := y1 0 2 (by decide +kernel)
    have b1_0_3 : N1 0 3 = M 0 3 := y1 0 3 (by decide +kernel)
    have b1_4_261 : N1 4 261 = M 4 261 := y1 4 261 (by decide +kernel)
    have b1_4_350 : N1 4 350 = ρ1 5 := t1_0
    have b1_4_365 : N1 4 365 = ρ1 11 := t1_6
    have b1_4_366 : N1 4 366 = ρ1 12 := t1_7
    have b1_4_367 : N1 4 367 = ρ1 13 := t1_8
    have b1_4_372 : N1 4 372 = ρ1 17 := t1_12
    have b1_28_8 : N1 28 8 = M 28 8 := y1 28 8 (by decide +kernel)
    have b1_28_9 : N1 28 9 = M 28 9 := y1 28 9 (by decide +kernel)
    have b1_28_10 : N1 28 10 = M 28 10 := y1 28 10 (by decide +kernel)
    have b1_77_6 : N1 77 6 = M 77 6 := y1 77 6 (by decide +kernel)
    have b1_91_2 : N1 91 2 = M 91 2 := y1 91 2 (by decide +kernel)
    have b1_91_33 : N1 91 33 = M 91 33 := y1 91 33 (by decide +kernel)
    have b1_91_34 : N1 91 34 = M 91 34 := y1 91 34 (by decide +kernel)
    have b1_91_61 : N1 91 61 = M 91 61 := y1 91 61 (by decide +kernel)
    have b1_93_0 : N1 93 0 = M 93 0 := y1 93 0 (by decide +kernel)
    have b1_93_1 : N1 93 1 = M 93 1 := y1 93 1 (by decide +kernel)
    have b1_93_2 : N1 93 2 = M 93 2 := y1 93 2 (by decide +kernel)
    rcases z1 with z1 | z1 | z1
    · have v1 : N1 4 350 = 0 := by omega
      obtain ⟨rv2, N2, e2, p2, q2⟩ := u_runX ko_r678 (ks := uKq 28 ++ [(4, 350, 0)]) (ex := [[(-1, 0), (-1, 1)]]) (o := 91) (bs := [false]) (by decide +kernel) i1 (fun q hq => by rcases List.mem_append.mp hq with hq | hq; exact k1 q hq; rw [List.mem_singleton] at hq; rw [hq]; exact v1) (as := [x1.toInt]) ⟨⟨uarg_i _, fun h => nomatch h⟩, trivial⟩ (fun hm f hf => by
          obtain ⟨ρ, hρ⟩ : ∃ ρ, ρ = uRho [x1.toInt] N1 (cM kc_r678) := ⟨_, rfl⟩
          have o1 : ρ 0 = 1 := by rw [hρ]; rfl
          have a1 : ρ 1 = x1.toInt := by rw [hρ]; exact urho_a (as := [x1.toInt]) (j := 0) (show (0 : Nat) < 1 from by decide)
          rw [← hρ] at hm ⊢
          have hf : f ∈ ([[(-1, 0), (-1, 1)]] : List qF) := hf
          simp only [List.mem_cons, List.not_mem_nil, or_false] at hf
          rcases hf with rfl
          · show 0 ≤ -1 * ρ 0 + (-1 * ρ 1 + 0)
            omega) J (N := 300) (by decide)
      obtain ⟨ρ2, u2, w2, t2, z2, i2, y2⟩ := up_r678 p2
      have o2 : ρ2 0 = 1 := u2 0 (by decide)
      have a2_1 : ρ2 1 = x1.toInt := (u2 1 (by decide)).trans (urho_a (as := [x1.toInt]) (j := 0) (show (0 : Nat) < 1 from by decide))
      have m2_93_0 : N1 93 0 = ρ2 2 := by
        have h := q2 (93, 0, [(1, 2)]) (List.mem_of_getElem? (i := 1) rfl)
        have h : N1 93 0 = 1 * uRho [x1.toInt] N1 (cM kc_r678) 2 + 0 := h
        rw [u2 2 (by decide)]
        omega
      rw [o2] at z2
      have s2 : uSt 28 N2 := ⟨i2, ukeepX_ok (ks := uKq 28 ++ [(4, 350, 0)]) (c := kc_r678) (by decide +kernel) (fun q hq => by rcases List.mem_append.mp hq with hq | hq; exact k1 q hq; rw [List.mem_singleton] at hq; rw [hq]; exact v1) p2⟩
      have b2_0_1 : N2 0 1 = N1 0 1 := y2 0 1 (by decide +kernel)
      have b2_0_2 : N2 0 2 = N1 0 2 := y2 0 2 (by decide +kernel)
      have b2_0_3 : N2 0 3 = N1 0 3 := y2 0 3 (by decide +kernel)
      have b2_4_261 : N2 4 261 = N1 4 261 := y2 4 261 (by decide +kernel)
      have b2_28_8 : N2 28 8 = N1 28 8 := y2 28 8 (by decide +kernel)
      have b2_28_9 : N2 28 9 = N1 28 9 := y2 28 9 (by decide +kernel)
      have b2_28_10 : N2 28 10 = N1 28 10 := y2 28 10 (by decide +kernel)
      have b2_77_6 : N2 77 6 = N1 77 6 := y2 77 6 (by decide +kernel)
      have b2_91_2 : N2 91 2 = N1 91 2 := y2 91 2 (by decide +kernel)
      have b2_91_33 : N2 91 33 = N1 91 33 := y2 91 33 (by decide +kernel)
      have b2_91_34 : N2 91 34 = N1 91 34 := y2 91 34 (by decide +kernel)
      have b2_91_61 : N2 91 61 = N1 91 61 := y2 91 61 (by decide +kernel)
      have b2_93_0 : N2 93 0 = N1 93 0 := y2 93 0 (by decide +kernel)
      have b2_93_1 : N2 93 1 = N1 93 1 := y2 93 1 (by decide +kernel)
      have b2_93_2 : N2 93 2 = N1 93 2 := y2 93 2 (by decide +kernel)
      have hv : ρ2 3 = ρ1 4 := by omega
      clear z1 z2
      rw [w1] at e1
      rw [w2, hv] at e2
      simp only [List.map_cons, List.map_nil, i32_of] at e1 e2
      exact ⟨Int32.ofInt (ρ1 4), N1, N2, e1, e2, 28, Or.inr rfl, s2, (fun q hq => by
        have hq : q ∈ ([(0, 1, 91, 2), (4, 261, 0, 1), (0, 2, 91, 33), (0, 3, 91, 34), (28, 8, 93, 0), (28, 9, 93, 1), (28, 10, 93, 2), (77, 6, 91, 61)] : List (Nat × Nat × Nat × Nat)) := hq
        simp only [List.mem_cons, List.not_mem_nil, or_false] at hq
        rcases hq with rfl | rfl | rfl | rfl | rfl | rfl | rfl | rfl
        · exact (show N2 0 1 = N2 91 2 by omega)
        · exact (show N2 4 261 = N2 0 1 by omega)
        · exact (show N2 0 2 = N2 91 33 by omega)
        · exact (show N2 0 3 = N2 91 34 by omega)
        · exact (show N2 28 8 = N2 93 0 by omega)
        · exact (show N2 28 9 = N2 93 1 by omega)
        · exact (show N2 28 10 = N2 93 2 by omega)
        · exact (show N2 77 6 = N2 91 61 by omega))⟩
    · have v1 : N1 4 350 = 0 := by omega
      obtain ⟨rv2, N2, e2, p2, q2⟩ := u_runX ko_r679 (ks := uKq 28 ++ [(4, 350, 0)]) (ex := [[(1, 1), (-1, 2)]]) (o := 91) (bs := [false]) (by decide +kernel) i1 (fun q hq => by rcases List.mem_append.mp hq with hq | hq; exact k1 q hq; rw [List.mem_singleton] at hq; rw [hq]; exact v1) (as := [x1.toInt]) ⟨⟨uarg_i _, fun h => nomatch h⟩, trivial⟩ (fun hm f hf => by
          obtain ⟨ρ, hρ⟩ : ∃ ρ, ρ = uRho [x1.toInt] N1 (cM kc_r679) := ⟨_, rfl⟩
          have o1 : ρ 0 = 1 := by rw [hρ]; rfl
          have a1 : ρ 1 = x1.toInt := by rw [hρ]; exact urho_a (as := [x1.toInt]) (j := 0) (show (0 : Nat) < 1 from by decide)
          rw [← hρ] at hm ⊢
          have m1 : N1 93 0 = 1 * ρ 2 + 0 := hm (93, 0, [(1, 2)]) (List.mem_of_getElem? (i := 1) rfl)
          have hf : f ∈ ([[(1, 1), (-1, 2)]] : List qF) := hf
          simp only [List.mem_cons, List.not_mem_nil, or_false] at hf
          rcases hf with rfl
          · show 0 ≤ 1 * ρ 1 + (-1 * ρ 2 + 0)
            omega) J (N := 300) (by decide)
      obtain ⟨ρ2, u2, w2, t2, z2, i2, y2⟩ := up_r679 p2
      have o2 : ρ2 0 = 1 := u2 0 (by decide)
      have a2_1 : ρ2 1 = x1.toInt := (u2 1 (by decide)).trans (urho_a (as := [x1.toInt]) (j := 0) (show (0 : Nat) < 1 from by decide))
      have m2_93_0 : N1 93 0 = ρ2 2 := by
        have h := q2 (93, 0, [(1, 2)]) (List.mem_of_getElem? (i := 1) rfl)
        have h : N1 93 0 = 1 * uRho [x1.toInt] N1 (cM kc_r679) 2 + 0 := h
        rw [u2 2 (by decide)]
        omega
      rw [o2] at z2
      have s2 : uSt 28 N2 := ⟨i2, ukeepX_ok (ks := uKq 28 ++ [(4, 350, 0)]) (c := kc_r679) (by decide +kernel) (fun q hq => by rcases List.mem_append.mp hq with hq | hq; exact k1 q hq; rw [List.mem_singleton] at hq; rw [hq]; exact v1) p2⟩
      have b2_0_1 : N2 0 1 = N1 0 1 := y2 0 1 (by decide +kernel)
      have b2_0_2 : N2 0 2 = N1 0 2 := y2 0 2 (by decide +kernel)
      have b2_0_3 : N2 0 3 = N1 0 3 := y2 0 3 (by decide +kernel)
      have b2_4_261 : N2 4 261 = N1 4 261 := y2 4 261 (by decide +kernel)
      have b2_28_8 : N2 28 8 = N1 28 8 := y2 28 8 (by decide +kernel)
      have b2_28_9 : N2 28 9 = N1 28 9 := y2 28 9 (by decide +kernel)
      have b2_28_10 : N2 28 10 = N1 28 10 := y2 28 10 (by decide +kernel)
      have b2_77_6 : N2 77 6 = N1 77 6 := y2 77 6 (by decide +kernel)
      have b2_91_2 : N2 91 2 = N1 91 2 := y2 91 2 (by decide +kernel)
      have b2_91_33 : N2 91 33 = N1 91 33 := y2 91 33 (by decide +kernel)
      have b2_91_34 : N2 91 34 = N1 91 34 := y2 91 34 (by decide +kernel)
      have b2_91_61 : N2 91 61 = N1 91 61 := y2 91 61 (by decide +kernel)
      have b2_93_0 : N2 93 0 = N1 93 0 := y2 93 0 (by decide +kernel)
      have b2_93_1 : N2 93 1 = N1 93 1 := y2 93 1 (by decide +kernel)
      have b2_93_2 : N2 93 2 = N1 93 2 := y2 93 2 (by decide +kernel)
      have hv : ρ2 3 = ρ1 4 := by omega
      clear z1 z2
      rw [w1] at e1
      rw [w2, hv] at e2
      simp only [List.map_cons, List.map_nil, i32_of] at e1 e2
      exact ⟨Int32.ofInt (ρ1 4), N1, N2, e1, e2, 28, Or.inr rfl, s2, (fun q hq => by
        have hq : q ∈ ([(0, 1, 91, 2), (4, 261, 0, 1), (0, 2, 91, 33), (0, 3, 91, 34), (28, 8, 93, 0), (28, 9, 93, 1), (28, 10, 93, 2), (77, 6, 91, 61)] : List (Nat × Nat × Nat × Nat)) := hq
        simp only [List.mem_cons, List.not_mem_nil, or_false] at hq
        rcases hq with rfl | rfl | rfl | rfl | rfl | rfl | rfl | rfl
        · exact (show N2 0 1 = N2 91 2 by omega)
        · exact (show N2 4 261 = N2 0 1 by omega)
        · exact (show N2 0 2 = N2 91 33 by omega)
        · exact (show N2 0 3 = N2 91 34 by omega)
        · exact (show N2 28 8 = N2 93 0 by omega)
        · exact (show N2 28 9 = N2 93 1 by omega)
        · exact (show N2 28 10 = N2 93 2 by omega)
        · exact (show N2 77 6 = N2 91 61 by omega))⟩
    · have v1 : N1 4 350 = 30 := by omega
      obtain ⟨rv2, N2, e2, p2, q2⟩ := u_runX ko_r677 (ks := uKq 28 ++ [(4, 350, 30)]) (ex := [[(1, 3)], [(99, 0), (-1, 3)], [(-1, 1), (1, 2)], [(1, 1), (-1, 2)], [(1, 1)], [(-1, 0), (-1, 1), (1, 6)], [(-1, 3), (7, 4)], [(6, 0), (1, 3), (-7, 4)]]) (o := 91) (bs := [false]) (by decide +kernel) i1 (fun q hq => by rcases List.mem_append.mp hq with hq | hq; exact k1 q hq; rw [List.mem_singleton] at hq; rw [hq]; exact v1) (as := [x1.toInt]) ⟨⟨uarg_i _, fun h => nomatch h⟩, trivial⟩ (fun hm f hf => by
          obtain ⟨ρ, hρ⟩ : ∃ ρ, ρ = uRho [x1.toInt] N1 (cM kc_r677) := ⟨_, rfl⟩
          have o1 : ρ 0 = 1 := by rw [hρ]; rfl
          have a1 : ρ 1 = x1.toInt := by rw [hρ]; exact urho_a (as := [x1.toInt]) (j := 0) (show (0 : Nat) < 1 from by decide)
          rw [← hρ] at hm ⊢
          have m1 : N1 4 372 = 1 * ρ 2 + 0 := hm (4, 372, [(1, 2)]) (List.mem_of_getElem? (i := 1) rfl)
          have m2 : N1 4 365 = 1 * ρ 3 + 0 := hm (4, 365, [(1, 3)]) (List.mem_of_getElem? (i := 2) rfl)
          have m3 : N1 4 367 = 1 * ρ 4 + 0 := hm (4, 367, [(1, 4)]) (List.mem_of_getElem? (i := 3) rfl)
          have m5 : N1 93 0 = 1 * ρ 6 + 0 := hm (93, 0, [(1, 6)]) (List.mem_of_getElem? (i := 5) rfl)
          have hf : f ∈ ([[(1, 3)], [(99, 0), (-1, 3)], [(-1, 1), (1, 2)], [(1, 1), (-1, 2)], [(1, 1)], [(-1, 0), (-1, 1), (1, 6)], [(-1, 3), (7, 4)], [(6, 0), (1, 3), (-7, 4)]] : List qF) := hf
          simp only [List.mem_cons, List.not_mem_nil, or_false] at hf
          rcases hf with rfl | rfl | rfl | rfl | rfl | rfl | rfl | rfl
          · show 0 ≤ 1 * ρ 3 + 0
            omega
          · show 0 ≤ 99 * ρ 0 + (-1 * ρ 3 + 0)
            omega
          · show 0 ≤ -1 * ρ 1 + (1 * ρ 2 + 0)
            omega
          · show 0 ≤ 1 * ρ 1 + (-1 * ρ 2 + 0)
            omega
          · show 0 ≤ 1 * ρ 1 + 0
            omega
          · show 0 ≤ -1 * ρ 0 + (-1 * ρ 1 + (1 * ρ 6 + 0))
            omega
          · show 0 ≤ -1 * ρ 3 + (7 * ρ 4 + 0)
            omega
          · show 0 ≤ 6 * ρ 0 + (1 * ρ 3 + (-7 * ρ 4 + 0))
            omega) J (N := 300) (by decide)
      obtain ⟨ρ2, u2, w2, t2, z2, i2, y2⟩ := up_r677 p2
      have o2 : ρ2 0 = 1 := u2 0 (by decide)
      have a2_1 : ρ2 1 = x1.toInt := (u2 1 (by decide)).trans (urho_a (as := [x1.toInt]) (j := 0) (show (0 : Nat) < 1 from by decide))
      have m2_4_372 : N1 4 372 = ρ2 2 := by
        have h := q2 (4, 372, [(1, 2)]) (List.mem_of_getElem? (i := 1) rfl)
        have h : N1 4 372 = 1 * uRho [x1.toInt] N1 (cM kc_r677) 2 + 0 := h
        rw [u2 2 (by decide)]
        omega
      have m2_4_365 : N1 4 365 = ρ2 3 := by
        have h := q2 (4, 365, [(1, 3)]) (List.mem_of_getElem? (i := 2) rfl)
        have h : N1 4 365 = 1 * uRho [x1.toInt] N1 (cM kc_r677) 3 + 0 := h
        rw [u2 3 (by decide)]
        omega
      have m2_4_367 : N1 4 367 = ρ2 4 := by
        have h := q2 (4, 367, [(1, 4)]) (List.mem_of_getElem? (i := 3) rfl)
        have h : N1 4 367 = 1 * uRho [x1.toInt] N1 (cM kc_r677) 4 + 0 := h
        rw [u2 4 (by decide)]
        omega
      have m2_4_366 : N1 4 366 = ρ2 5 := by
        have h := q2 (4, 366, [(1, 5)]) (List.mem_of_getElem? (i := 4) rfl)
        have h : N1 4 366 = 1 * uRho [x1.toInt] N1 (cM kc_r677) 5 + 0 := h
        rw [u2 5 (by decide)]
        omega
      have m2_93_0 : N1 93 0 = ρ2 6 := by
        have h := q2 (93, 0, [(1, 6)]) (List.mem_of_getElem? (i := 5) rfl)
        have h : N1 93 0 = 1 * uRho [x1.toInt] N1 (cM kc_r677) 6 + 0 := h
        rw [u2 6 (by decide)]
        omega
      obtain ⟨t2_0, t2_1, t2_2, t2_3, t2_4, t2_5, t2_6, t2_7, t2_8⟩ := t2
      rw [o2] at z2
      have s2 : uSt 28 N2 := ⟨i2, ukeepX_ok (ks := uKq 28 ++ [(4, 350, 30)]) (c := kc_r677) (by decide +kernel) (fun q hq => by rcases List.mem_append.mp hq with hq | hq; exact k1 q hq; rw [List.mem_singleton] at hq; rw [hq]; exact v1) p2⟩
      have b2_0_1 : N2 0 1 = N1 0 1 := y2 0 1 (by decide +kernel)
      have b2_0_2 : N2 0 2 = N1 0 2 := y2 0 2 (by decide +kernel)
      have b2_0_3 : N2 0 3 = N1 0 3 := y2 0 3 (by decide +kernel)
      have b2_4_261 : N2 4 261 = N1 4 261 := y2 4 261 (by decide +kernel)
      have b2_28_8 : N2 28 8 = N1 28 8 := y2 28 8 (by decide +kernel)
      have b2_28_9 : N2 28 9 = N1 28 9 := y2 28 9 (by decide +kernel)
      have b2_28_10 : N2 28 10 = N1 28 10 := y2 28 10 (by decide +kernel)
      have b2_77_6 : N2 77 6 = N1 77 6 := y2 77 6 (by decide +kernel)
      have b2_91_2 : N2 91 2 = N1 91 2 := y2 91 2 (by decide +kernel)
      have b2_91_33 : N2 91 33 = N1 91 33 := y2 91 33 (by decide +kernel)
      have b2_91_34 : N2 91 34 = N1 91 34 := y2 91 34 (by decide +kernel)
      have b2_91_61 : N2 91 61 = N1 91 61 := y2 91 61 (by decide +kernel)
      have b2_93_0 : N2 93 0 = N1 93 0 := y2 93 0 (by decide +kernel)
      have b2_93_1 : N2 93 1 = N1 93 1 := y2 93 1 (by decide +kernel)
      have b2_93_2 : N2 93 2 = N1 93 2 := y2 93 2 (by decide +kernel)
      have hv : ρ2 7 = ρ1 4 := by omega
      clear z1 z2
      rw [w1] at e1
      rw [w2, hv] at e2
      simp only [List.map_cons, List.map_nil, i32_of] at e1 e2
      exact ⟨Int32.ofInt (ρ1 4), N1, N2, e1, e2, 28, Or.inr rfl, s2, (fun q hq => by
        have hq : q ∈ ([(0, 1, 91, 2), (4, 261, 0, 1), (0, 2, 91, 33), (0, 3, 91, 34), (28, 8, 93, 0), (28, 9, 93, 1), (28, 10, 93, 2), (77, 6, 91, 61)] : List (Nat × Nat × Nat × Nat)) := hq
        simp only [List.mem_cons, List.not_mem_nil, or_false] at hq
        rcases hq with rfl | rfl | rfl | rfl | rfl | rfl | rfl | rfl
        · exact (show N2 0 1 = N2 91 2 by omega)
        · exact (show N2 4 261 = N2 0 1 by omega)
        · exact (show N2 0 2 = N2 91 33 by omega)
        · exact (show N2 0 3 = N2 91 34 by omega)
        · exact (show N2 28 8 = N2 93 0 by omega)
        · exact (show N2 28 9 = N2 93 1 by omega)
        · exact (show N2 28 10 = N2 93 2 by omega)
        · exact (show N2 77 6 = N2 91 61 by omega))⟩
theorem up_93 {ρ : Nat → Int} {M M' : sM} {rv : Option sV} (h : qPost kc_93 ρ M rv M') : ∃ ρ' : Nat → Int, (∀ a, a < 7 → ρ' a = ρ a) ∧ rv = qRv 0 (ρ' 7) ∧ (M' 77 6 = ρ' 8) ∧ ((0 ≤ 1 * ρ' 0 + (1 * ρ' 7 + 0) ∧ 0 ≤ -1 * ρ' 0 + (-1 * ρ' 7 + 0) ∧ 0 ≤ -1 * ρ' 6 + (1 * ρ' 8 + 0) ∧ 0 ≤ 1 * ρ' 6 + (-1 * ρ' 8 + 0) ∧ 0 ≤ -1 * ρ' 0 + (-1 * ρ' 1 + 0) ∧ 0 ≤ 1 * ρ' 8 + 0 ∧ 0 ≤ 24 * ρ' 0 + (-1 * ρ' 8 + 0)) ∨ (0 ≤ 1 * ρ' 0 + (1 * ρ' 7 + 0) ∧ 0 ≤ -1 * ρ' 0 + (-1 * ρ' 7 + 0) ∧ 0 ≤ -1 * ρ' 6 + (1 * ρ' 8 + 0) ∧ 0 ≤ 1 * ρ' 6 + (-1 * ρ' 8 + 0) ∧ 0 ≤ 1 * ρ' 1 + (-1 * ρ' 5 + 0) ∧ 0 ≤ 1 * ρ' 8 + 0 ∧ 0 ≤ 24 * ρ' 0 + (-1 * ρ' 8 + 0)) ∨ (0 ≤ 1 * ρ' 0 + (1 * ρ' 7 + 0) ∧ 0 ≤ -1 * ρ' 0 + (-1 * ρ' 7 + 0) ∧ 0 ≤ -1 * ρ' 6 + (1 * ρ' 8 + 0) ∧ 0 ≤ 1 * ρ' 6 + (-1 * ρ' 8 + 0) ∧ 0 ≤ -1 * ρ' 0 + (-1 * ρ' 2 + 0) ∧ 0 ≤ 1 * ρ' 8 + 0 ∧ 0 ≤ 24 * ρ' 0 + (-1 * ρ' 8 + 0)) ∨ (0 ≤ 1 * ρ' 0 + (1 * ρ' 7 + 0) ∧ 0 ≤ -1 * ρ' 0 + (-1 * ρ' 7 + 0) ∧ 0 ≤ -1 * ρ' 6 + (1 * ρ' 8 + 0) ∧ 0 ≤ 1 * ρ' 6 + (-1 * ρ' 8 + 0) ∧ 0 ≤ -24 * ρ' 0 + (1 * ρ' 2 + 0) ∧ 0 ≤ 1 * ρ' 8 + 0 ∧ 0 ≤ 24 * ρ' 0 + (-1 * ρ' 8 + 0)) ∨ (0 ≤ 1 * ρ' 0 + (1 * ρ' 7 + 0) ∧ 0 ≤ -1 * ρ' 0 + (-1 * ρ' 7 + 0) ∧ 0 ≤ -1 * ρ' 6 + (1 * ρ' 8 + 0) ∧ 0 ≤ 1 * ρ' 6 + (-1 * ρ' 8 + 0) ∧ 0 ≤ -10000 * ρ' 0 + (-1 * ρ' 3 + 0) ∧ 0 ≤ 1 * ρ' 8 + 0 ∧ 0 ≤ 24 * ρ' 0 + (-1 * ρ' 8 + 0)) ∨ (0 ≤ 1 * ρ' 0 + (1 * ρ' 7 + 0) ∧ 0 ≤ -1 * ρ' 0 + (-1 * ρ' 7 + 0) ∧ 0 ≤ -1 * ρ' 6 + (1 * ρ' 8 + 0) ∧ 0 ≤ 1 * ρ' 6 + (-1 * ρ' 8 + 0) ∧ 0 ≤ -10000 * ρ' 0 + (1 * ρ' 4 + 0) ∧ 0 ≤ 1 * ρ' 8 + 0 ∧ 0 ≤ 24 * ρ' 0 + (-1 * ρ' 8 + 0)) ∨ (0 ≤ 1 * ρ' 0 + (1 * ρ' 7 + 0) ∧ 0 ≤ -1 * ρ' 0 + (-1 * ρ' 7 + 0) ∧ 0 ≤ -1 * ρ' 6 + (1 * ρ' 8 + 0) ∧ 0 ≤ 1 * ρ' 6 + (-1 * ρ' 8 + 0) ∧ 0 ≤ -1 * ρ' 0 + (1 * ρ' 3 + (-1 * ρ' 4 + 0)) ∧ 0 ≤ 1 * ρ' 8 + 0 ∧ 0 ≤ 24 * ρ' 0 + (-1 * ρ' 8 + 0)) ∨ (0 ≤ 1 * ρ' 0 + (1 * ρ' 7 + 0) ∧ 0 ≤ -1 * ρ' 0 + (-1 * ρ' 7 + 0) ∧ 0 ≤ -1 * ρ' 6 + (1 * ρ' 8 + 0) ∧ 0 ≤ 1 * ρ' 6 + (-1 * ρ' 8 + 0) ∧ 0 ≤ -24 * ρ' 0 + (1 * ρ' 6 + 0) ∧ 0 ≤ 1 * ρ' 8 + 0 ∧ 0 ≤ 24 * ρ' 0 + (-1 * ρ' 8 + 0)) ∨ (0 ≤ -1 * ρ' 6 + (1 * ρ' 7 + 0) ∧ 0 ≤ 1 * ρ' 6 + (-1 * ρ' 7 + 0) ∧ 0 ≤ -1 * ρ' 0 + (-1 * ρ' 6 + (1 * ρ' 8 + 0)) ∧ 0 ≤ 1 * ρ' 0 + (1 * ρ' 6 + (-1 * ρ' 8 + 0)) ∧ 0 ≤ 1 * ρ' 1 + 0 ∧ 0 ≤ -1 * ρ' 0 + (-1 * ρ' 1 + (1 * ρ' 5 + 0)) ∧ 0 ≤ 1 * ρ' 2 + 0 ∧ 0 ≤ 23 * ρ' 0 + (-1 * ρ' 2 + 0) ∧ 0 ≤ 9999 * ρ' 0 + (1 * ρ' 3 + 0) ∧ 0 ≤ 9999 * ρ' 0 + (-1 * ρ' 4 + 0) ∧ 0 ≤ -1 * ρ' 3 + (1 * ρ' 4 + 0) ∧ 0 ≤ 23 * ρ' 0 + (-1 * ρ' 6 + 0) ∧ 0 ≤ 1 * ρ' 8 + 0 ∧ 0 ≤ 24 * ρ' 0 + (-1 * ρ' 8 + 0))) ∧ sI M' ∧ sF (cS kc_93) M M' := by
  obtain ⟨ρ', h1, h2, ⟨al, hal, hf⟩, h3, h4, h5⟩ := h
  refine ⟨ρ', h1, h2, h3 (77, 6, 8) (List.mem_of_getElem? (i := 0) rfl), ?_, h4, h5⟩
  have hal : al ∈ ([[[(1, 0), (1, 7)], [(-1, 0), (-1, 7)], [(-1, 6), (1, 8)], [(1, 6), (-1, 8)], [(-1, 0), (-1, 1)], [(1, 8)], [(24, 0), (-1, 8)]], [[(1, 0), (1, 7)], [(-1, 0), (-1, 7)], [(-1, 6), (1, 8)], [(1, 6), (-1, 8)], [(1, 1), (-1, 5)], [(1, 8)], [(24, 0), (-1, 8)]], [[(1, 0), (1, 7)], [(-1, 0), (-1, 7)], [(-1, 6), (1, 8)], [(1, 6), (-1, 8)], [(-1, 0), (-1, 2)], [(1, 8)], [(24, 0), (-1, 8)]], [[(1, 0), (1, 7)], [(-1, 0), (-1, 7)], [(-1, 6), (1, 8)], [(1, 6), (-1, 8)], [(-24, 0), (1, 2)], [(1, 8)], [(24, 0), (-1, 8)]], [[(1, 0), (1, 7)], [(-1, 0), (-1, 7)], [(-1, 6), (1, 8)], [(1, 6), (-1, 8)], [(-10000, 0), (-1, 3)], [(1, 8)], [(24, 0), (-1, 8)]], [[(1, 0), (1, 7)], [(-1, 0), (-1, 7)], [(-1, 6), (1, 8)], [(1, 6), (-1, 8)], [(-10000, 0), (1, 4)], [(1, 8)], [(24, 0), (-1, 8)]], [[(1, 0), (1, 7)], [(-1, 0), (-1, 7)], [(-1, 6), (1, 8)], [(1, 6), (-1, 8)], [(-1, 0), (1, 3), (-1, 4)], [(1, 8)], [(24, 0), (-1, 8)]], [[(1, 0), (1, 7)], [(-1, 0), (-1, 7)], [(-1, 6), (1, 8)], [(1, 6), (-1, 8)], [(-24, 0), (1, 6)], [(1, 8)], [(24, 0), (-1, 8)]], [[(-1, 6), (1, 7)], [(1, 6), (-1, 7)], [(-1, 0), (-1, 6), (1, 8)], [(1, 0), (1, 6), (-1, 8)], [(1, 1)], [(-1, 0), (-1, 1), (1, 5)], [(1, 2)], [(23, 0), (-1, 2)], [(9999, 0), (1, 3)], [(9999, 0), (-1, 4)], [(-1, 3), (1, 4)], [(23, 0), (-1, 6)], [(1, 8)], [(24, 0), (-1, 8)]]] : List (List qF)) := hal
  simp only [List.mem_cons, List.not_mem_nil, or_false] at hal
  rcases hal with rfl | rfl | rfl | rfl | rfl | rfl | rfl | rfl | rfl
  · exact Or.inl ⟨hf [(1, 0), (1, 7)] (List.mem_of_getElem? (i := 0) rfl), hf [(-1, 0), (-1, 7)] (List.mem_of_getElem? (i := 1) rfl), hf [(-1, 6), (1, 8)] (List.mem_of_getElem? (i := 2) rfl), hf [(1, 6), (-1, 8)] (List.mem_of_getElem? (i := 3) rfl), hf [(-1, 0), (-1, 1)] (List.mem_of_getElem? (i := 4) rfl), hf [(1, 8)] (List.mem_of_getElem? (i := 5) rfl), hf [(24, 0), (-1, 8)] (List.mem_of_getElem? (i := 6) rfl)⟩
  · exact Or.inr (Or.inl ⟨hf [(1, 0), (1, 7)] (List.mem_of_getElem? (i := 0) rfl), hf [(-1, 0), (-1, 7)] (List.mem_of_getElem? (i := 1) rfl), hf [(-1, 6), (1, 8)] (List.mem_of_getElem? (i := 2) rfl), hf [(1, 6), (-1, 8)] (List.mem_of_getElem? (i := 3) rfl), hf [(1, 1), (-1, 5)] (List.mem_of_getElem? (i := 4) rfl), hf [(1, 8)] (List.mem_of_getElem? (i := 5) rfl), hf [(24, 0), (-1, 8)] (List.mem_of_getElem? (i := 6) rfl)⟩)
  · exact Or.inr (Or.inr (Or.inl ⟨hf [(1, 0), (1, 7)] (List.mem_of_getElem? (i := 0) rfl), hf [(-1, 0), (-1, 7)] (List.mem_of_getElem? (i := 1) rfl), hf [(-1, 6), (1, 8)] (List.mem_of_getElem? (i := 2) rfl), hf [(1, 6), (-1, 8)] (List.mem_of_getElem? (i := 3) rfl), hf [(-1, 0), (-1, 2)] (List.mem_of_getElem? (i := 4) rfl), hf [(1, 8)] (List.mem_of_getElem? (i := 5) rfl), hf [(24, 0), (-1, 8)] (List.mem_of_getElem? (i := 6) rfl)⟩))
  · exact Or.inr (Or.inr (Or.inr (Or.inl ⟨hf [(1, 0), (1, 7)] (List.mem_of_getElem? (i := 0) rfl), hf [(-1, 0), (-1, 7)] (List.mem_of_getElem? (i := 1) rfl), hf [(-1, 6), (1, 8)] (List.mem_of_getElem? (i := 2) rfl), hf [(1, 6), (-1, 8)] (List.mem_of_getElem? (i := 3) rfl), hf [(-24, 0), (1, 2)] (List.mem_of_getElem? (i := 4) rfl), hf [(1, 8)] (List.mem_of_getElem? (i := 5) rfl), hf [(24, 0), (-1, 8)] (List.mem_of_getElem? (i := 6) rfl)⟩)))
  · exact Or.inr (Or.inr (Or.inr (Or.inr (Or.inl ⟨hf [(1, 0), (1, 7)] (List.mem_of_getElem? (i := 0) rfl), hf [(-1, 0), (-1, 7)] (List.mem_of_getElem? (i := 1) rfl), hf [(-1, 6), (1, 8)] (List.mem_of_getElem? (i := 2) rfl), hf [(1, 6), (-1, 8)] (List.mem_of_getElem? (i := 3) rfl), hf [(-10000, 0), (-1, 3)] (List.mem_of_getElem? (i := 4) rfl), hf [(1, 8)] (List.mem_of_getElem? (i := 5) rfl), hf [(24, 0), (-1, 8)] (List.mem_of_getElem? (i := 6) rfl)⟩))))
  · exact Or.inr (Or.inr (Or.inr (Or.inr (Or.inr (Or.inl ⟨hf [(1, 0), (1, 7)] (List.mem_of_getElem? (i := 0) rfl), hf [(-1, 0), (-1, 7)] (List.mem_of_getElem? (i := 1) rfl), hf [(-1, 6), (1, 8)] (List.mem_of_getElem? (i := 2) rfl), hf [(1, 6), (-1, 8)] (List.mem_of_getElem? (i := 3) rfl), hf [(-10000, 0), (1, 4)] (List.mem_of_getElem? (i := 4) rfl), hf [(1, 8)] (List.mem_of_getElem? (i := 5) rfl), hf [(24, 0), (-1, 8)] (List.mem_of_getElem? (i := 6) rfl)⟩)))))
  · exact Or.inr (Or.inr (Or.inr (Or.inr (Or.inr (Or.inr (Or.inl ⟨hf [(1, 0), (1, 7)] (List.mem_of_getElem? (i := 0) rfl), hf [(-1, 0), (-1, 7)] (List.mem_of_getElem? (i := 1) rfl), hf [(-1, 6), (1, 8)] (List.mem_of_getElem? (i := 2) rfl), hf [(1, 6), (-1, 8)] (List.mem_of_getElem? (i := 3) rfl), hf [(-1, 0), (1, 3), (-1, 4)] (List.mem_of_getElem? (i := 4) rfl), hf [(1, 8)] (List.mem_of_getElem? (i := 5) rfl), hf [(24, 0), (-1, 8)] (List.mem_of_getElem? (i := 6) rfl)⟩))))))
  · exact Or.inr (Or.inr (Or.inr (Or.inr (Or.inr (Or.inr (Or.inr (Or.inl ⟨hf [(1, 0), (1, 7)] (List.mem_of_getElem? (i := 0) rfl), hf [(-1, 0), (-1, 7)] (List.mem_of_getElem? (i := 1) rfl), hf [(-1, 6), (1, 8)] (List.mem_of_getElem? (i := 2) rfl), hf [(1, 6), (-1, 8)] (List.mem_of_getElem? (i := 3) rfl), hf [(-24, 0), (1, 6)] (List.mem_of_getElem? (i := 4) rfl), hf [(1, 8)] (List.mem_of_getElem? (i := 5) rfl), hf [(24, 0), (-1, 8)] (List.mem_of_getElem? (i := 6) rfl)⟩)))))))
  · exact Or.inr (Or.inr (Or.inr (Or.inr (Or.inr (Or.inr (Or.inr (Or.inr (⟨hf [(-1, 6), (1, 7)] (List.mem_of_getElem? (i := 0) rfl), hf [(1, 6), (-1, 7)] (List.mem_of_getElem? (i := 1) rfl), hf [(-1, 0), (-1, 6), (1, 8)] (List.mem_of_getElem? (i := 2) rfl), hf [(1, 0), (1, 6), (-1, 8)] (List.mem_of_getElem? (i := 3) rfl), hf [(1, 1)] (List.mem_of_getElem? (i := 4) rfl), hf [(-1, 0), (-1, 1), (1, 5)] (List.mem_of_getElem? (i := 5) rfl), hf [(1, 2)] (List.mem_of_getElem? (i := 6) rfl), hf [(23, 0), (-1, 2)] (List.mem_of_getElem? (i := 7) rfl), hf [(9999, 0), (1, 3)] (List.mem_of_getElem? (i := 8) rfl), hf [(9999, 0), (-1, 4)] (List.mem_of_getElem? (i := 9) rfl), hf [(-1, 3), (1, 4)] (List.mem_of_getElem? (i := 10) rfl), hf [(23, 0), (-1, 6)] (List.mem_of_getElem? (i := 11) rfl), hf [(1, 8)] (List.mem_of_getElem? (i := 12) rfl), hf [(24, 0), (-1, 8)] (List.mem_of_getElem? (i := 13) rfl)⟩))))))))
theorem up_270 {ρ : Nat → Int} {M M' : sM} {rv : Option sV} (h : qPost kc_270 ρ M rv M') : ∃ ρ' : Nat → Int, (∀ a, a < 7 → ρ' a = ρ a) ∧ rv = qRv 0 (ρ' 7) ∧ (M' 77 6 = ρ' 8) ∧ ((0 ≤ 1 * ρ' 0 + (1 * ρ' 7 + 0) ∧ 0 ≤ -1 * ρ' 0 + (-1 * ρ' 7 + 0) ∧ 0 ≤ -1 * ρ' 6 + (1 * ρ' 8 + 0) ∧ 0 ≤ 1 * ρ' 6 + (-1 * ρ' 8 + 0) ∧ 0 ≤ -1 * ρ' 0 + (-1 * ρ' 1 + 0) ∧ 0 ≤ 1 * ρ' 8 + 0 ∧ 0 ≤ 24 * ρ' 0 + (-1 * ρ' 8 + 0)) ∨ (0 ≤ 1 * ρ' 0 + (1 * ρ' 7 + 0) ∧ 0 ≤ -1 * ρ' 0 + (-1 * ρ' 7 + 0) ∧ 0 ≤ -1 * ρ' 6 + (1 * ρ' 8 + 0) ∧ 0 ≤ 1 * ρ' 6 + (-1 * ρ' 8 + 0) ∧ 0 ≤ 1 * ρ' 1 + (-1 * ρ' 5 + 0) ∧ 0 ≤ 1 * ρ' 8 + 0 ∧ 0 ≤ 24 * ρ' 0 + (-1 * ρ' 8 + 0)) ∨ (0 ≤ 1 * ρ' 0 + (1 * ρ' 7 + 0) ∧ 0 ≤ -1 * ρ' 0 + (-1 * ρ' 7 + 0) ∧ 0 ≤ -1 * ρ' 6 + (1 * ρ' 8 + 0) ∧ 0 ≤ 1 * ρ' 6 + (-1 * ρ' 8 + 0) ∧ 0 ≤ -1 * ρ' 0 + (-1 * ρ' 2 + 0) ∧ 0 ≤ 1 * ρ' 8 + 0 ∧ 0 ≤ 24 * ρ' 0 + (-1 * ρ' 8 + 0)) ∨ (0 ≤ 1 * ρ' 0 + (1 * ρ' 7 + 0) ∧ 0 ≤ -1 * ρ' 0 + (-1 * ρ' 7 + 0) ∧ 0 ≤ -1 * ρ' 6 + (1 * ρ' 8 + 0) ∧ 0 ≤ 1 * ρ' 6 + (-1 * ρ' 8 + 0) ∧ 0 ≤ -24 * ρ' 0 + (1 * ρ' 2 + 0) ∧ 0 ≤ 1 * ρ' 8 + 0 ∧ 0 ≤ 24 * ρ' 0 + (-1 * ρ' 8 + 0)) ∨ (0 ≤ 1 * ρ' 0 + (1 * ρ' 7 + 0) ∧ 0 ≤ -1 * ρ' 0 + (-1 * ρ' 7 + 0) ∧ 0 ≤ -1 * ρ' 6 + (1 * ρ' 8 + 0) ∧ 0 ≤ 1 * ρ' 6 + (-1 * ρ' 8 + 0) ∧ 0 ≤ -10000 * ρ' 0 + (-1 * ρ' 3 + 0) ∧ 0 ≤ 1 * ρ' 8 + 0 ∧ 0 ≤ 24 * ρ' 0 + (-1 * ρ' 8 + 0)) ∨ (0 ≤ 1 * ρ' 0 + (1 * ρ' 7 + 0) ∧ 0 ≤ -1 * ρ' 0 + (-1 * ρ' 7 + 0) ∧ 0 ≤ -1 * ρ' 6 + (1 * ρ' 8 + 0) ∧ 0 ≤ 1 * ρ' 6 + (-1 * ρ' 8 + 0) ∧ 0 ≤ -10000 * ρ' 0 + (1 * ρ' 4 + 0) ∧ 0 ≤ 1 * ρ' 8 + 0 ∧ 0 ≤ 24 * ρ' 0 + (-1 * ρ' 8 + 0)) ∨ (0 ≤ 1 * ρ' 0 + (1 * ρ' 7 + 0) ∧ 0 ≤ -1 * ρ' 0 + (-1 * ρ' 7 + 0) ∧ 0 ≤ -1 * ρ' 6 + (1 * ρ' 8 + 0) ∧ 0 ≤ 1 * ρ' 6 + (-1 * ρ' 8 + 0) ∧ 0 ≤ -1 * ρ' 0 + (1 * ρ' 3 + (-1 * ρ' 4 + 0)) ∧ 0 ≤ 1 * ρ' 8 + 0 ∧ 0 ≤ 24 * ρ' 0 + (-1 * ρ' 8 + 0)) ∨ (0 ≤ 1 * ρ' 0 + (1 * ρ' 7 + 0) ∧ 0 ≤ -1 * ρ' 0 + (-1 * ρ' 7 + 0) ∧ 0 ≤ -1 * ρ' 6 + (1 * ρ' 8 + 0) ∧ 0 ≤ 1 * ρ' 6 + (-1 * ρ' 8 + 0) ∧ 0 ≤ -24 * ρ' 0 + (1 * ρ' 6 + 0) ∧ 0 ≤ 1 * ρ' 8 + 0 ∧ 0 ≤ 24 * ρ' 0 + (-1 * ρ' 8 + 0)) ∨ (0 ≤ -1 * ρ' 6 + (1 * ρ' 7 + 0) ∧ 0 ≤ 1 * ρ' 6 + (-1 * ρ' 7 + 0) ∧ 0 ≤ -1 * ρ' 0 + (-1 * ρ' 6 + (1 * ρ' 8 + 0)) ∧ 0 ≤ 1 * ρ' 0 + (1 * ρ' 6 + (-1 * ρ' 8 + 0)) ∧ 0 ≤ 1 * ρ' 1 + 0 ∧ 0 ≤ -1 * ρ' 0 + (-1 * ρ' 1 + (1 * ρ' 5 + 0)) ∧ 0 ≤ 1 * ρ' 2 + 0 ∧ 0 ≤ 23 * ρ' 0 + (-1 * ρ' 2 + 0) ∧ 0 ≤ 9999 * ρ' 0 + (1 * ρ' 3 + 0) ∧ 0 ≤ 9999 * ρ' 0 + (-1 * ρ' 4 + 0) ∧ 0 ≤ -1 * ρ' 3 + (1 * ρ' 4 + 0) ∧ 0 ≤ 23 * ρ' 0 + (-1 * ρ' 6 + 0) ∧ 0 ≤ 1 * ρ' 8 + 0 ∧ 0 ≤ 24 * ρ' 0 + (-1 * ρ' 8 + 0))) ∧ sI M' ∧ sF (cS kc_270) M M' := by
  obtain ⟨ρ', h1, h2, ⟨al, hal, hf⟩, h3, h4, h5⟩ := h
  refine ⟨ρ', h1, h2, h3 (77, 6, 8) (List.mem_of_getElem? (i := 0) rfl), ?_, h4, h5⟩
  have hal : al ∈ ([[[(1, 0), (1, 7)], [(-1, 0), (-1, 7)], [(-1, 6), (1, 8)], [(1, 6), (-1, 8)], [(-1, 0), (-1, 1)], [(1, 8)], [(24, 0), (-1, 8)]], [[(1, 0), (1, 7)], [(-1, 0), (-1, 7)], [(-1, 6), (1, 8)], [(1, 6), (-1, 8)], [(1, 1), (-1, 5)], [(1, 8)], [(24, 0), (-1, 8)]], [[(1, 0), (1, 7)], [(-1, 0), (-1, 7)], [(-1, 6), (1, 8)], [(1, 6), (-1, 8)], [(-1, 0), (-1, 2)], [(1, 8)], [(24, 0), (-1, 8)]], [[(1, 0), (1, 7)], [(-1, 0), (-1, 7)], [(-1, 6), (1, 8)], [(1, 6), (-1, 8)], [(-24, 0), (1, 2)], [(1, 8)], [(24, 0), (-1, 8)]], [[(1, 0), (1, 7)], [(-1, 0), (-1, 7)], [(-1, 6), (1, 8)], [(1, 6), (-1, 8)], [(-10000, 0), (-1, 3)], [(1, 8)], [(24, 0), (-1, 8)]], [[(1, 0), (1, 7)], [(-1, 0), (-1, 7)], [(-1, 6), (1, 8)], [(1, 6), (-1, 8)], [(-10000, 0), (1, 4)], [(1, 8)], [(24, 0), (-1, 8)]], [[(1, 0), (1, 7)], [(-1, 0), (-1, 7)], [(-1, 6), (1, 8)], [(1, 6), (-1, 8)], [(-1, 0), (1, 3), (-1, 4)], [(1, 8)], [(24, 0), (-1, 8)]], [[(1, 0), (1, 7)], [(-1, 0), (-1, 7)], [(-1, 6), (1, 8)], [(1, 6), (-1, 8)], [(-24, 0), (1, 6)], [(1, 8)], [(24, 0), (-1, 8)]], [[(-1, 6), (1, 7)], [(1, 6), (-1, 7)], [(-1, 0), (-1, 6), (1, 8)], [(1, 0), (1, 6), (-1, 8)], [(1, 1)], [(-1, 0), (-1, 1), (1, 5)], [(1, 2)], [(23, 0), (-1, 2)], [(9999, 0), (1, 3)], [(9999, 0), (-1, 4)], [(-1, 3), (1, 4)], [(23, 0), (-1, 6)], [(1, 8)], [(24, 0), (-1, 8)]]] : List (List qF)) := hal
  simp only [List.mem_cons, List.not_mem_nil, or_false] at hal
  rcases hal with rfl | rfl | rfl | rfl | rfl | rfl | rfl | rfl | rfl
  · exact Or.inl ⟨hf [(1, 0), (1, 7)] (List.mem_of_getElem? (i := 0) rfl), hf [(-1, 0), (-1, 7)] (List.mem_of_getElem? (i := 1) rfl), hf [(-1, 6), (1, 8)] (List.mem_of_getElem? (i := 2) rfl), hf [(1, 6), (-1, 8)] (List.mem_of_getElem? (i := 3) rfl), hf [(-1, 0), (-1, 1)] (List.mem_of_getElem? (i := 4) rfl), hf [(1, 8)] (List.mem_of_getElem? (i := 5) rfl), hf [(24, 0), (-1, 8)] (List.mem_of_getElem? (i := 6) rfl)⟩
  · exact Or.inr (Or.inl ⟨hf [(1, 0), (1, 7)] (List.mem_of_getElem? (i := 0) rfl), hf [(-1, 0), (-1, 7)] (List.mem_of_getElem? (i := 1) rfl), hf [(-1, 6), (1, 8)] (List.mem_of_getElem? (i := 2) rfl), hf [(1, 6), (-1, 8)] (List.mem_of_getElem? (i := 3) rfl), hf [(1, 1), (-1, 5)] (List.mem_of_getElem? (i := 4) rfl), hf [(1, 8)] (List.mem_of_getElem? (i := 5) rfl), hf [(24, 0), (-1, 8)] (List.mem_of_getElem? (i := 6) rfl)⟩)
  · exact Or.inr (Or.inr (Or.inl ⟨hf [(1, 0), (1, 7)] (List.mem_of_getElem? (i := 0) rfl), hf [(-1, 0), (-1, 7)] (List.mem_of_getElem? (i := 1) rfl), hf [(-1, 6), (1, 8)] (List.mem_of_getElem? (i := 2) rfl), hf [(1, 6), (-1, 8)] (List.mem_of_getElem? (i := 3) rfl), hf [(-1, 0), (-1, 2)] (List.mem_of_getElem? (i := 4) rfl), hf [(1, 8)] (List.mem_of_getElem? (i := 5) rfl), hf [(24, 0), (-1, 8)] (List.mem_of_getElem? (i := 6) rfl)⟩))
  · exact Or.inr (Or.inr (Or.inr (Or.inl ⟨hf [(1, 0), (1, 7)] (List.mem_of_getElem? (i := 0) rfl), hf [(-1, 0), (-1, 7)] (List.mem_of_getElem? (i := 1) rfl), hf [(-1, 6), (1, 8)] (List.mem_of_getElem? (i := 2) rfl), hf [(1, 6), (-1, 8)] (List.mem_of_getElem? (i := 3) rfl), hf [(-24, 0), (1, 2)] (List.mem_of_getElem? (i := 4) rfl), hf [(1, 8)] (List.mem_of_getElem? (i := 5) rfl), hf [(24, 0), (-1, 8)] (List.mem_of_getElem? (i := 6) rfl)⟩)))
  · exact Or.inr (Or.inr (Or.inr (Or.inr (Or.inl ⟨hf [(1, 0), (1, 7)] (List.mem_of_getElem? (i := 0) rfl), hf [(-1, 0), (-1, 7)] (List.mem_of_getElem? (i := 1) rfl), hf [(-1, 6), (1, 8)] (List.mem_of_getElem? (i := 2) rfl), hf [(1, 6), (-1, 8)] (List.mem_of_getElem? (i := 3) rfl), hf [(-10000, 0), (-1, 3)] (List.mem_of_getElem? (i := 4) rfl), hf [(1, 8)] (List.mem_of_getElem? (i := 5) rfl), hf [(24, 0), (-1, 8)] (List.mem_of_getElem? (i := 6) rfl)⟩))))
  · exact Or.inr (Or.inr (Or.inr (Or.inr (Or.inr (Or.inl ⟨hf [(1, 0), (1, 7)] (List.mem_of_getElem? (i := 0) rfl), hf [(-1, 0), (-1, 7)] (List.mem_of_getElem? (i := 1) rfl), hf [(-1, 6), (1, 8)] (List.mem_of_getElem? (i := 2) rfl), hf [(1, 6), (-1, 8)] (List.mem_of_getElem? (i := 3) rfl), hf [(-10000, 0), (1, 4)] (List.mem_of_getElem? (i := 4) rfl), hf [(1, 8)] (List.mem_of_getElem? (i := 5) rfl), hf [(24, 0), (-1, 8)] (List.mem_of_getElem? (i := 6) rfl)⟩)))))
  · exact Or.inr (Or.inr (Or.inr (Or.inr (Or.inr (Or.inr (Or.inl ⟨hf [(1, 0), (1, 7)] (List.mem_of_getElem? (i := 0) rfl), hf [(-1, 0), (-1, 7)] (List.mem_of_getElem? (i := 1) rfl), hf [(-1, 6), (1, 8)] (List.mem_of_getElem? (i := 2) rfl), hf [(1, 6), (-1, 8)] (List.mem_of_getElem? (i := 3) rfl), hf [(-1, 0), (1, 3), (-1, 4)] (List.mem_of_getElem? (i := 4) rfl), hf [(1, 8)] (List.mem_of_getElem? (i := 5) rfl), hf [(24, 0), (-1, 8)] (List.mem_of_getElem? (i := 6) rfl)⟩))))))
  · exact Or.inr (Or.inr (Or.inr (Or.inr (Or.inr (Or.inr (Or.inr (Or.inl ⟨hf [(1, 0), (1, 7)] (List.mem_of_getElem? (i := 0) rfl), hf [(-1, 0), (-1, 7)] (List.mem_of_getElem? (i := 1) rfl), hf [(-1, 6), (1, 8)] (List.mem_of_getElem? (i := 2) rfl), hf [(1, 6), (-1, 8)] (List.mem_of_getElem? (i := 3) rfl), hf [(-24, 0), (1, 6)] (List.mem_of_getElem? (i := 4) rfl), hf [(1, 8)] (List.mem_of_getElem? (i := 5) rfl), hf [(24, 0), (-1, 8)] (List.mem_of_getElem? (i := 6) rfl)⟩)))))))
  · exact Or.inr (Or.inr (Or.inr (Or.inr (Or.inr (Or.inr (Or.inr (Or.inr (⟨hf [(-1, 6), (1, 7)] (List.mem_of_getElem? (i := 0) rfl), hf [(1, 6), (-1, 7)] (List.mem_of_getElem? (i := 1) rfl), hf [(-1, 0), (-1, 6), (1, 8)] (List.mem_of_getElem? (i := 2) rfl), hf [(1, 0), (1, 6), (-1, 8)] (List.mem_of_getElem? (i := 3) rfl), hf [(1, 1)] (List.mem_of_getElem? (i := 4) rfl), hf [(-1, 0), (-1, 1), (1, 5)] (List.mem_of_getElem? (i := 5) rfl), hf [(1, 2)] (List.mem_of_getElem? (i := 6) rfl), hf [(23, 0), (-1, 2)] (List.mem_of_getElem? (i := 7) rfl), hf [(9999, 0), (1, 3)] (List.mem_of_getElem? (i := 8) rfl), hf [(9999, 0), (-1, 4)] (List.mem_of_getElem? (i := 9) rfl), hf [(-1, 3), (1, 4)] (List.mem_of_getElem? (i := 10) rfl), hf [(23, 0), (-1, 6)] (List.mem_of_getElem? (i := 11) rfl), hf [(1, 8)] (List.mem_of_getElem? (i := 12) rfl), hf [(24, 0), (-1, 8)] (List.mem_of_getElem? (i := 13) rfl)⟩))))))))
theorem up_r680 {ρ : Nat → Int} {M M' : sM} {rv : Option sV} (h : qPost kc_r680 ρ M rv M') : ∃ ρ' : Nat → Int, (∀ a, a < 7 → ρ' a = ρ a) ∧ rv = qRv 0 (ρ' 7) ∧ (M' 91 61 = ρ' 8) ∧ ((0 ≤ 1 * ρ' 0 + (1 * ρ' 7 + 0) ∧ 0 ≤ -1 * ρ' 0 + (-1 * ρ' 7 + 0) ∧ 0 ≤ -1 * ρ' 6 + (1 * ρ' 8 + 0) ∧ 0 ≤ 1 * ρ' 6 + (-1 * ρ' 8 + 0) ∧ 0 ≤ -1 * ρ' 0 + (-1 * ρ' 1 + 0) ∧ 0 ≤ 1 * ρ' 8 + 0 ∧ 0 ≤ 24 * ρ' 0 + (-1 * ρ' 8 + 0)) ∨ (0 ≤ 1 * ρ' 0 + (1 * ρ' 7 + 0) ∧ 0 ≤ -1 * ρ' 0 + (-1 * ρ' 7 + 0) ∧ 0 ≤ -1 * ρ' 6 + (1 * ρ' 8 + 0) ∧ 0 ≤ 1 * ρ' 6 + (-1 * ρ' 8 + 0) ∧ 0 ≤ 1 * ρ' 1 + (-1 * ρ' 5 + 0) ∧ 0 ≤ 1 * ρ' 8 + 0 ∧ 0 ≤ 24 * ρ' 0 + (-1 * ρ' 8 + 0)) ∨ (0 ≤ 1 * ρ' 0 + (1 * ρ' 7 + 0) ∧ 0 ≤ -1 * ρ' 0 + (-1 * ρ' 7 + 0) ∧ 0 ≤ -1 * ρ' 6 + (1 * ρ' 8 + 0) ∧ 0 ≤ 1 * ρ' 6 + (-1 * ρ' 8 + 0) ∧ 0 ≤ -1 * ρ' 0 + (-1 * ρ' 2 + 0) ∧ 0 ≤ 1 * ρ' 8 + 0 ∧ 0 ≤ 24 * ρ' 0 + (-1 * ρ' 8 + 0)) ∨ (0 ≤ 1 * ρ' 0 + (1 * ρ' 7 + 0) ∧ 0 ≤ -1 * ρ' 0 + (-1 * ρ' 7 + 0) ∧ 0 ≤ -1 * ρ' 6 + (1 * ρ' 8 + 0) ∧ 0 ≤ 1 * ρ' 6 + (-1 * ρ' 8 + 0) ∧ 0 ≤ -24 * ρ' 0 + (1 * ρ' 2 + 0) ∧ 0 ≤ 1 * ρ' 8 + 0 ∧ 0 ≤ 24 * ρ' 0 + (-1 * ρ' 8 + 0)) ∨ (0 ≤ 1 * ρ' 0 + (1 * ρ' 7 + 0) ∧ 0 ≤ -1 * ρ' 0 + (-1 * ρ' 7 + 0) ∧ 0 ≤ -1 * ρ' 6 + (1 * ρ' 8 + 0) ∧ 0 ≤ 1 * ρ' 6 + (-1 * ρ' 8 + 0) ∧ 0 ≤ -10000 * ρ' 0 + (-1 * ρ' 3 + 0) ∧ 0 ≤ 1 * ρ' 8 + 0 ∧ 0 ≤ 24 * ρ' 0 + (-1 * ρ' 8 + 0)) ∨ (0 ≤ 1 * ρ' 0 + (1 * ρ' 7 + 0) ∧ 0 ≤ -1 * ρ' 0 + (-1 * ρ' 7 + 0) ∧ 0 ≤ -1 * ρ' 6 + (1 * ρ' 8 + 0) ∧ 0 ≤ 1 * ρ' 6 + (-1 * ρ' 8 + 0) ∧ 0 ≤ -10000 * ρ' 0 + (1 * ρ' 4 + 0) ∧ 0 ≤ 1 * ρ' 8 + 0 ∧ 0 ≤ 24 * ρ' 0 + (-1 * ρ' 8 + 0)) ∨ (0 ≤ 1 * ρ' 0 + (1 * ρ' 7 + 0) ∧ 0 ≤ -1 * ρ' 0 + (-1 * ρ' 7 + 0) ∧ 0 ≤ -1 * ρ' 6 + (1 * ρ' 8 + 0) ∧ 0 ≤ 1 * ρ' 6 + (-1 * ρ' 8 + 0) ∧ 0 ≤ -1 * ρ' 0 + (1 * ρ' 3 + (-1 * ρ' 4 + 0)) ∧ 0 ≤ 1 * ρ' 8 + 0 ∧ 0 ≤ 24 * ρ' 0 + (-1 * ρ' 8 + 0)) ∨ (0 ≤ 1 * ρ' 0 + (1 * ρ' 7 + 0) ∧ 0 ≤ -1 * ρ' 0 + (-1 * ρ' 7 + 0) ∧ 0 ≤ -1 * ρ' 6 + (1 * ρ' 8 + 0) ∧ 0 ≤ 1 * ρ' 6 + (-1 * ρ' 8 + 0) ∧ 0 ≤ -24 * ρ' 0 + (1 * ρ' 6 + 0) ∧ 0 ≤ 1 * ρ' 8 + 0 ∧ 0 ≤ 24 * ρ' 0 + (-1 * ρ' 8 + 0)) ∨ (0 ≤ -1 * ρ' 6 + (1 * ρ' 7 + 0) ∧ 0 ≤ 1 * ρ' 6 + (-1 * ρ' 7 + 0) ∧ 0 ≤ -1 * ρ' 0 + (-1 * ρ' 6 + (1 * ρ' 8 + 0)) ∧ 0 ≤ 1 * ρ' 0 + (1 * ρ' 6 + (-1 * ρ' 8 + 0)) ∧ 0 ≤ 1 * ρ' 1 + 0 ∧ 0 ≤ -1 * ρ' 0 + (-1 * ρ' 1 + (1 * ρ' 5 + 0)) ∧ 0 ≤ 1 * ρ' 2 + 0 ∧ 0 ≤ 23 * ρ' 0 + (-1 * ρ' 2 + 0) ∧ 0 ≤ 9999 * ρ' 0 + (1 * ρ' 3 + 0) ∧ 0 ≤ 9999 * ρ' 0 + (-1 * ρ' 4 + 0) ∧ 0 ≤ -1 * ρ' 3 + (1 * ρ' 4 + 0) ∧ 0 ≤ 23 * ρ' 0 + (-1 * ρ' 6 + 0) ∧ 0 ≤ 1 * ρ' 8 + 0 ∧ 0 ≤ 24 * ρ' 0 + (-1 * ρ' 8 + 0))) ∧ sI M' ∧ sF (cS kc_r680) M M' := by
  obtain ⟨ρ', h1, h2, ⟨al, hal, hf⟩, h3, h4, h5⟩ := h
  refine ⟨ρ', h1, h2, h3 (91, 61, 8) (List.mem_of_getElem? (i := 0) rfl), ?_, h4, h5⟩
  have hal : al ∈ ([[[(1, 0), (1, 7)], [(-1, 0), (-1, 7)], [(-1, 6), (1, 8)], [(1, 6), (-1, 8)], [(-1, 0), (-1, 1)], [(1, 8)], [(24, 0), (-1, 8)]], [[(1, 0), (1, 7)], [(-1, 0), (-1, 7)], [(-1, 6), (1, 8)], [(1, 6), (-1, 8)], [(1, 1), (-1, 5)], [(1, 8)], [(24, 0), (-1, 8)]], [[(1, 0), (1, 7)], [(-1, 0), (-1, 7)], [(-1, 6), (1, 8)], [(1, 6), (-1, 8)], [(-1, 0), (-1, 2)], [(1, 8)], [(24, 0), (-1, 8)]], [[(1, 0), (1, 7)], [(-1, 0), (-1, 7)], [(-1, 6), (1, 8)], [(1, 6), (-1, 8)], [(-24, 0), (1, 2)], [(1, 8)], [(24, 0), (-1, 8)]], [[(1, 0), (1, 7)], [(-1, 0), (-1, 7)], [(-1, 6), (1, 8)], [(1, 6), (-1, 8)], [(-10000, 0), (-1, 3)], [(1, 8)], [(24, 0), (-1, 8)]], [[(1, 0), (1, 7)], [(-1, 0), (-1, 7)], [(-1, 6), (1, 8)], [(1, 6), (-1, 8)], [(-10000, 0), (1, 4)], [(1, 8)], [(24, 0), (-1, 8)]], [[(1, 0), (1, 7)], [(-1, 0), (-1, 7)], [(-1, 6), (1, 8)], [(1, 6), (-1, 8)], [(-1, 0), (1, 3), (-1, 4)], [(1, 8)], [(24, 0), (-1, 8)]], [[(1, 0), (1, 7)], [(-1, 0), (-1, 7)], [(-1, 6), (1, 8)], [(1, 6), (-1, 8)], [(-24, 0), (1, 6)], [(1, 8)], [(24, 0), (-1, 8)]], [[(-1, 6), (1, 7)], [(1, 6), (-1, 7)], [(-1, 0), (-1, 6), (1, 8)], [(1, 0), (1, 6), (-1, 8)], [(1, 1)], [(-1, 0), (-1, 1), (1, 5)], [(1, 2)], [(23, 0), (-1, 2)], [(9999, 0), (1, 3)], [(9999, 0), (-1, 4)], [(-1, 3), (1, 4)], [(23, 0), (-1, 6)], [(1, 8)], [(24, 0), (-1, 8)]]] : List (List qF)) := hal
  simp only [List.mem_cons, List.not_mem_nil, or_false] at hal
  rcases hal with rfl | rfl | rfl | rfl | rfl | rfl | rfl | rfl | rfl
  · exact Or.inl ⟨hf [(1, 0), (1, 7)] (List.mem_of_getElem? (i := 0) rfl), hf [(-1, 0), (-1, 7)] (List.mem_of_getElem? (i := 1) rfl), hf [(-1, 6), (1, 8)] (List.mem_of_getElem? (i := 2) rfl), hf [(1, 6), (-1, 8)] (List.mem_of_getElem? (i := 3) rfl), hf [(-1, 0), (-1, 1)] (List.mem_of_getElem? (i := 4) rfl), hf [(1, 8)] (List.mem_of_getElem? (i := 5) rfl), hf [(24, 0), (-1, 8)] (List.mem_of_getElem? (i := 6) rfl)⟩
  · exact Or.inr (Or.inl ⟨hf [(1, 0), (1, 7)] (List.mem_of_getElem? (i := 0) rfl), hf [(-1, 0), (-1, 7)] (List.mem_of_getElem? (i := 1) rfl), hf [(-1, 6), (1, 8)] (List.mem_of_getElem? (i := 2) rfl), hf [(1, 6), (-1, 8)] (List.mem_of_getElem? (i := 3) rfl), hf [(1, 1), (-1, 5)] (List.mem_of_getElem? (i := 4) rfl), hf [(1, 8)] (List.mem_of_getElem? (i := 5) rfl), hf [(24, 0), (-1, 8)] (List.mem_of_getElem? (i := 6) rfl)⟩)
  · exact Or.inr (Or.inr (Or.inl ⟨hf [(1, 0), (1, 7)] (List.mem_of_getElem? (i := 0) rfl), hf [(-1, 0), (-1, 7)] (List.mem_of_getElem? (i := 1) rfl), hf [(-1, 6), (1, 8)] (List.mem_of_getElem? (i := 2) rfl), hf [(1, 6), (-1, 8)] (List.mem_of_getElem? (i := 3) rfl), hf [(-1, 0), (-1, 2)] (List.mem_of_getElem? (i := 4) rfl), hf [(1, 8)] (List.mem_of_getElem? (i := 5) rfl), hf [(24, 0), (-1, 8)] (List.mem_of_getElem? (i := 6) rfl)⟩))
  · exact Or.inr (Or.inr (Or.inr (Or.inl ⟨hf [(1, 0), (1, 7)] (List.mem_of_getElem? (i := 0) rfl), hf [(-1, 0), (-1, 7)] (List.mem_of_getElem? (i := 1) rfl), hf [(-1, 6), (1, 8)] (List.mem_of_getElem? (i := 2) rfl), hf [(1, 6), (-1, 8)] (List.mem_of_getElem? (i := 3) rfl), hf [(-24, 0), (1, 2)] (List.mem_of_getElem? (i := 4) rfl), hf [(1, 8)] (List.mem_of_getElem? (i := 5) rfl), hf [(24, 0), (-1, 8)] (List.mem_of_getElem? (i := 6) rfl)⟩)))
  · exact Or.inr (Or.inr (Or.inr (Or.inr (Or.inl ⟨hf [(1, 0), (1, 7)] (List.mem_of_getElem? (i := 0) rfl), hf [(-1, 0), (-1, 7)] (List.mem_of_getElem? (i := 1) rfl), hf [(-1, 6), (1, 8)] (List.mem_of_getElem? (i := 2) rfl), hf [(1, 6), (-1, 8)] (List.mem_of_getElem? (i := 3) rfl), hf [(-10000, 0), (-1, 3)] (List.mem_of_getElem? (i := 4) rfl), hf [(1, 8)] (List.mem_of_getElem? (i := 5) rfl), hf [(24, 0), (-1, 8)] (List.mem_of_getElem? (i := 6) rfl)⟩))))
  · exact Or.inr (Or.inr (Or.inr (Or.inr (Or.inr (Or.inl ⟨hf [(1, 0), (1, 7)] (List.mem_of_getElem? (i := 0) rfl), hf [(-1, 0), (-1, 7)] (List.mem_of_getElem? (i := 1) rfl), hf [(-1, 6), (1, 8)] (List.mem_of_getElem? (i := 2) rfl), hf [(1, 6), (-1, 8)] (List.mem_of_getElem? (i := 3) rfl), hf [(-10000, 0), (1, 4)] (List.mem_of_getElem? (i := 4) rfl), hf [(1, 8)] (List.mem_of_getElem? (i := 5) rfl), hf [(24, 0), (-1, 8)] (List.mem_of_getElem? (i := 6) rfl)⟩)))))
  · exact Or.inr (Or.inr (Or.inr (Or.inr (Or.inr (Or.inr (Or.inl ⟨hf [(1, 0), (1, 7)] (List.mem_of_getElem? (i := 0) rfl), hf [(-1, 0), (-1, 7)] (List.mem_of_getElem? (i := 1) rfl), hf [(-1, 6), (1, 8)] (List.mem_of_getElem? (i := 2) rfl), hf [(1, 6), (-1, 8)] (List.mem_of_getElem? (i := 3) rfl), hf [(-1, 0), (1, 3), (-1, 4)] (List.mem_of_getElem? (i := 4) rfl), hf [(1, 8)] (List.mem_of_getElem? (i := 5) rfl), hf [(24, 0), (-1, 8)] (List.mem_of_getElem? (i := 6) rfl)⟩))))))
  · exact Or.inr (Or.inr (Or.inr (Or.inr (Or.inr (Or.inr (Or.inr (Or.inl ⟨hf [(1, 0), (1, 7)] (List.mem_of_getElem? (i := 0) rfl), hf [(-1, 0), (-1, 7)] (List.mem_of_getElem? (i := 1) rfl), hf [(-1, 6), (1, 8)] (List.mem_of_getElem? (i := 2) rfl), hf [(1, 6), (-1, 8)] (List.mem_of_getElem? (i := 3) rfl), hf [(-24, 0), (1, 6)] (List.mem_of_getElem? (i := 4) rfl), hf [(1, 8)] (List.mem_of_getElem? (i := 5) rfl), hf [(24, 0), (-1, 8)] (List.mem_of_getElem? (i := 6) rfl)⟩)))))))
  · exact Or.inr (Or.inr (Or.inr (Or.inr (Or.inr (Or.inr (Or.inr (Or.inr (⟨hf [(-1, 6), (1, 7)] (List.mem_of_getElem? (i := 0) rfl), hf [(1, 6), (-1, 7)] (List.mem_of_getElem? (i := 1) rfl), hf [(-1, 0), (-1, 6), (1, 8)] (List.mem_of_getElem? (i := 2) rfl), hf [(1, 0), (1, 6), (-1, 8)] (List.mem_of_getElem? (i := 3) rfl), hf [(1, 1)] (List.mem_of_getElem? (i := 4) rfl), hf [(-1, 0), (-1, 1), (1, 5)] (List.mem_of_getElem? (i := 5) rfl), hf [(1, 2)] (List.mem_of_getElem? (i := 6) rfl), hf [(23, 0), (-1, 2)] (List.mem_of_getElem? (i := 7) rfl), hf [(9999, 0), (1, 3)] (List.mem_of_getElem? (i := 8) rfl), hf [(9999, 0), (-1, 4)] (List.mem_of_getElem? (i := 9) rfl), hf [(-1, 3), (1, 4)] (List.mem_of_getElem? (i := 10) rfl), hf [(23, 0), (-1, 6)] (List.mem_of_getElem? (i := 11) rfl), hf [(1, 8)] (List.mem_of_getElem? (i := 12) rfl), hf [(24, 0), (-1, 8)] (List.mem_of_getElem? (i := 13) rfl)⟩))))))))
set_option maxHeartbeats 4000000 in
theorem uo_29 {M : sM} (hM : uG M) (J : pHp) (x1 : Int32) (x2 : Int32) (x3 : Int32) (x4 : Int32) : ∃ (v : Int32) (M1 M2 : sM), pEx 300 142 [.ref 0, .int x1, .int x2, .int x3, .int x4] (sHp sLay M ++ J) (some (.int v)) (sHp sLay M1 ++ J) ∧ pEx 300 266 [.ref 91, .int x1, .int x2, .int x3, .int x4] (sHp sLay M1 ++ J) (some (.int v)) (sHp sLay M2 ++ J) ∧ uG M2 := by
  obtain ⟨r, hr, hs, hT⟩ := hM
  rcases hr with rfl | rfl
  · have kM_0 : M 0 1 = M 91 2 := hT (0, 1, 91, 2) (List.mem_of_getElem? (i := 0) rfl)
    have kM_1 : M 4 261 = M 0 1 := hT (4, 261, 0, 1) (List.mem_of_getElem? (i := 1) rfl)
    have kM_2 : M 0 2 = M 91 33 := hT (0, 2, 91, 33) (List.mem_of_getElem? (i := 2) rfl)
    have kM_3 : M 0 3 = M 91 34 := hT (0, 3, 91, 34) (List.mem_of_getElem? (i := 3) rfl)
    have kM_4 : M 2 8 = M 93 0 := hT ((2 : Int).toNat, 8, 93, 0) (List.mem_of_getElem? (i := 4) rfl)
    have kM_5 : M 2 9 = M 93 1 := hT ((2 : Int).toNat, 9, 93, 1) (List.mem_of_getElem? (i := 5) rfl)
    have kM_6 : M 2 10 = M 93 2 := hT ((2 : Int).toNat, 10, 93, 2) (List.mem_of_getElem? (i := 6) rfl)
    have kM_7 : M 77 6 = M 91 61 := hT (77, 6, 91, 61) (List.mem_of_getElem? (i := 7) rfl)
    obtain ⟨rv1, N1, e1, p1, q1⟩ := u_runX ko_93 (ks := uKs 2) (ex := []) (o := 0) (bs := [false, false, false, false]) (by decide +kernel) hs.1 hs.2 (as := [x1.toInt, x2.toInt, x3.toInt, x4.toInt]) ⟨⟨uarg_i _, fun h => nomatch h⟩, ⟨⟨uarg_i _, fun h => nomatch h⟩, ⟨⟨uarg_i _, fun h => nomatch h⟩, ⟨⟨uarg_i _, fun h => nomatch h⟩, trivial⟩⟩⟩⟩ (fun _ f hf => nomatch hf) J (N := 300) (by decide)
    obtain ⟨ρ1, u1, w1, t1, z1, i1, y1⟩ := up_93 p1
    have o1 : ρ1 0 = 1 := u1 0 (by decide)
    have a1_1 : ρ1 1 = x1.toInt := (u1 1 (by decide)).trans (urho_a (as := [x1.toInt, x2.toInt, x3.toInt, x4.toInt]) (j := 0) (show (0 : Nat) < 4 from by decide))
    have a1_2 : ρ1 2 = x2.toInt := (u1 2 (by decide)).trans (urho_a (as := [x1.toInt, x2.toInt, x3.toInt, x4.toInt]) (j := 1) (show (1 : Nat) < 4 from by decide))
    have a1_3 : ρ1 3 = x3.toInt := (u1 3 (by decide)).trans (urho_a (as := [x1.toInt, x2.toInt, x3.toInt, x4.toInt]) (j := 2) (show (2 : Nat) < 4 from by decide))
    have a1_4 : ρ1 4 = x4.toInt := (u1 4 (by decide)).trans (urho_a (as := [x1.toInt, x2.toInt, x3.toInt, x4.toInt]) (j := 3) (show (3 : Nat) < 4 from by decide))
    have m1_2_8 : M 2 8 = ρ1 5 := by
      have h := q1 (2, 8, [(1, 5)]) (List.mem_of_getElem? (i := 0) rfl)
      have h : M 2 8 = 1 * uRho [x1.toInt, x2.toInt, x3.toInt, x4.toInt] M (cM kc_93) 5 + 0 := h
      rw [u1 5 (by decide)]
      omega
    have m1_77_6 : M 77 6 = ρ1 6 := by
      have h := q1 (77, 6, [(1, 6)]) (List.mem_of_getElem? (i := 1) rfl)
      have h : M 77 6 = 1 * uRho [x1.toInt, x2.toInt, x3.toInt, x4.toInt] M (cM kc_93) 6 + 0 := h
      rw [u1 6 (by decide)]
      omega
    have t1_0 := t1
    rw [o1] at z1
    have s1 : uSt 2 N1 := ukeep_ok (c := kc_93) (r := 2) (by decide +kernel) hs p1
    have b1_0_1 : N1 0 1 = M 0 1 := y1 0 1 (by decide +kernel)
    have b1_0_2 : N1 0 2 = M 0 2 := y1 0 2 (by decide +kernel)
    have b1_0_3 : N1 0 3 = M 0 3 := y1 0 3 (by decide +kernel)
    have b1_2_8 : N1 2 8 = M 2 8 := y1 2 8 (by decide +kernel)
    have b1_2_9 : N1 2 9 = M 2 9 := y1 2 9 (by decide +kernel)
    have b1_2_10 : N1 2 10 = M 2 10 := y1 2 10 (by decide +kernel)
    have b1_4_261 : N1 4 261 = M 4 261 := y1 4 261 (by decide +kernel)
    have b1_77_6 : N1 77 6 = ρ1 8 := t1_0
    have b1_91_2 : N1 91 2 = M 91 2 := y1 91 2 (by decide +kernel)
    have b1_91_33 : N1 91 33 = M 91 33 := y1 91 33 (by decide +kernel)
    have b1_91_34 : N1 91 34 = M 91 34 := y1 91 34 (by decide +kernel)
    have b1_91_61 : N1 91 61 = M 91 61 := y1 91 61 (by decide +kernel)
    have b1_93_0 : N1 93 0 = M 93 0 := y1 93 0 (by decide +kernel)
    have b1_93_1 : N1 93 1 = M 93 1 := y1 93 1 (by decide +kernel)
    have b1_93_2 : N1 93 2 = M 93 2 := y1 93 2 (by decide +kernel)
    obtain ⟨rv2, N2, e2, p2, q2⟩ := u_runX ko_r680 (ks := uKs 2) (ex := []) (o := 91) (bs := [false, false, false, false]) (by decide +kernel) s1.1 s1.2 (as := [x1.toInt, x2.toInt, x3.toInt, x4.toInt]) ⟨⟨uarg_i _, fun h => nomatch h⟩, ⟨⟨uarg_i _, fun h => nomatch h⟩, ⟨⟨uarg_i _, fun h => nomatch h⟩, ⟨⟨uarg_i _, fun h => nomatch h⟩, trivial⟩⟩⟩⟩ (fun _ f hf => nomatch hf) J (N := 300) (by decide)
    obtain ⟨ρ2, u2, w2, t2, z2, i2, y2⟩ := up_r680 p2
    have o2 : ρ2 0 = 1 := u2 0 (by decide)
    have a2_1 : ρ2 1 = x1.toInt := (u2 1 (by decide)).trans (urho_a (as := [x1.toInt, x2.toInt, x3.toInt, x4.toInt]) (j := 0) (show (0 : Nat) < 4 from by decide))
    have a2_2 : ρ2 2 = x2.toInt := (u2 2 (by decide)).trans (urho_a (as := [x1.toInt, x2.toInt, x3.toInt, x4.toInt]) (j := 1) (show (1 : Nat) < 4 from by decide))
    have a2_3 : ρ2 3 = x3.toInt := (u2 3 (by decide)).trans (urho_a (as := [x1.toInt, x2.toInt, x3.toInt, x4.toInt]) (j := 2) (show (2 : Nat) < 4 from by decide))
    have a2_4 : ρ2 4 = x4.toInt := (u2 4 (by decide)).trans (urho_a (as := [x1.toInt, x2.toInt, x3.toInt, x4.toInt]) (j := 3) (show (3 : Nat) < 4 from by decide))
    have m2_93_0 : N1 93 0 = ρ2 5 := by
      have h := q2 (93, 0, [(1, 5)]) (List.mem_of_getElem? (i := 0) rfl)
      have h : N1 93 0 = 1 * uRho [x1.toInt, x2.toInt, x3.toInt, x4.toInt] N1 (cM kc_r680) 5 + 0 := h
      rw [u2 5 (by decide)]
      omega
    have m2_91_61 : N1 91 61 = ρ2 6 := by
      have h := q2 (91, 61, [(1, 6)]) (List.mem_of_getElem? (i := 1) rfl)
      have h : N1 91 61 = 1 * uRho [x1.toInt, x2.toInt, x3.toInt, x4.toInt] N1 (cM kc_r680) 6 + 0 := h
      rw [u2 6 (by decide)]
      omega
    have t2_0 := t2
    rw [o2] at z2
    have s2 : uSt 2 N2 := ukeep_ok (c := kc_r680) (r := 2) (by decide +kernel) s1 p2
    have b2_0_1 : N2 0 1 = N1 0 1 := y2 0 1 (by decide +kernel)
    have b2_0_2 : N2 0 2 = N1 0 2 := y2 0 2 (by decide +kernel)
    have b2_0_3 : N2 0 3 = N1 0 3 := y2 0 3 (by decide +kernel)
    have b2_2_8 : N2 2 8 = N1 2 8 := y2 2 8 (by decide +kernel)
    have b2_2_9 : N2 2 9 = N1 2 9 := y2 2 9 (by decide +kernel)
    have b2_2_10 : N2 2 10 = N1 2 10 := y2 2 10 (by decide +kernel)
    have b2_4_261 : N2 4 261 = N1 4 261 := y2 4 261 (by decide +kernel)
    have b2_77_6 : N2 77 6 = N1 77 6 := y2 77 6 (by decide +kernel)
    have b2_91_2 : N2 91 2 = N1 91 2 := y2 91 2 (by decide +kernel)
    have b2_91_33 : N2 91 33 = N1 91 33 := y2 91 33 (by decide +kernel)
    have b2_91_34 : N2 91 34 = N1 91 34 := y2 91 34 (by decide +kernel)
    have b2_91_61 : N2 91 61 = ρ2 8 := t2_0
    have b2_93_0 : N2 93 0 = N1 93 0 := y2 93 0 (by decide +kernel)
    have b2_93_1 : N2 93 1 = N1 93 1 := y2 93 1 (by decide +kernel)
    have b2_93_2 : N2 93 2 = N1 93 2 := y2 93 2 (by decide +kernel)
    have hv : ρ2 7 = ρ1 7 ∧ N2 77 6 = N2 91 61 := by
      clear hT hs s1 s2 i1 i2 y1 y2 u1 u2 q1 q2 p1 p2
      rcases z1 with z1 | z1 | z1 | z1 | z1 | z1 | z1 | z1 | z1 <;> rcases z2 with z2 | z2 | z2 | z2 | z2 | z2 | z2 | z2 | z2 <;> omega
    obtain ⟨hv, hw0⟩ := hv
    clear z1 z2
    rw [w1] at e1
    rw [w2, hv] at e2
    simp only [List.map_cons, List.map_nil, i32_of] at e1 e2
    exact ⟨Int32.ofInt (ρ1 7), N1, N2, e1, e2, 2, Or.inl rfl, s2, (fun q hq => by
      have hq : q ∈ ([(0, 1, 91, 2), (4, 261, 0, 1), (0, 2, 91, 33), (0, 3, 91, 34), (2, 8, 93, 0), (2, 9, 93, 1), (2, 10, 93, 2), (77, 6, 91, 61)] : List (Nat × Nat × Nat × Nat)) := hq
      simp only [List.mem_cons, List.not_mem_nil, or_false] at hq
      rcases hq with rfl | rfl | rfl | rfl | rfl | rfl | rfl | rfl
      · exact (show N2 0 1 = N2 91 2 by omega)
      · exact (show N2 4 261 = N2 0 1 by omega)
      · exact (show N2 0 2 = N2 91 33 by omega)
      · exact (show N2 0 3 = N2 91 34 by omega)
      · exact (show N2 2 8 = N2 93 0 by omega)
      · exact (show N2 2 9 = N2 93 1 by omega)
      · exact (show N2 2 10 = N2 93 2 by omega)
      · exact (show N2 77 6 = N2 91 61 by omega))⟩
  · have kM_0 : M 0 1 = M 91 2 := hT (0, 1, 91, 2) (List.mem_of_getElem? (i := 0) rfl)
    have kM_1 : M 4 261 = M 0 1 := hT (4, 261, 0, 1) (List.mem_of_getElem? (i := 1) rfl)
    have kM_2 : M 0 2 = M 91 33 := hT (0, 2, 91, 33) (List.mem_of_getElem? (i := 2) rfl)
    have kM_3 : M 0 3 = M 91 34 := hT (0, 3, 91, 34) (List.mem_of_getElem? (i := 3) rfl)
    have kM_4 : M 28 8 = M 93 0 := hT ((28 : Int).toNat, 8, 93, 0) (List.mem_of_getElem? (i := 4) rfl)
    have kM_5 : M 28 9 = M 93 1 := hT ((28 : Int).toNat, 9, 93, 1) (List.mem_of_getElem? (i := 5) rfl)
    have kM_6 : M 28 10 = M 93 2 := hT ((28 : Int).toNat, 10, 93, 2) (List.mem_of_getElem? (i := 6) rfl)
    have kM_7 : M 77 6 = M 91 61 := hT (77, 6, 91, 61) (List.mem_of_getElem? (i := 7) rfl)
    obtain ⟨rv1, N1, e1, p1, q1⟩ := u_runX ko_270 (ks := uKs 28) (ex := []) (o := 0) (bs := [false, false, false, false]) (by decide +kernel) hs.1 hs.2 (as := [x1.toInt, x2.toInt, x3.toInt, x4.toInt]) ⟨⟨uarg_i _, fun h => nomatch h⟩, ⟨⟨uarg_i _, fun h => nomatch h⟩, ⟨⟨uarg_i _, fun h => nomatch h⟩, ⟨⟨uarg_i _, fun h => nomatch h⟩, trivial⟩⟩⟩⟩ (fun _ f hf => nomatch hf) J (N := 300) (by decide)
    obtain ⟨ρ1, u1, w1, t1, z1, i1, y1⟩ := up_270 p1
    have o1 : ρ1 0 = 1 := u1 0 (by decide)
    have a1_1 : ρ1 1 = x1.toInt := (u1 1 (by decide)).trans (urho_a (as := [x1.toInt, x2.toInt, x3.toInt, x4.toInt]) (j := 0) (show (0 : Nat) < 4 from by decide))
    have a1_2 : ρ1 2 = x2.toInt := (u1 2 (by decide)).trans (urho_a (as := [x1.toInt, x2.toInt, x3.toInt, x4.toInt]) (j := 1) (show (1 : Nat) < 4 from by decide))
    have a1_3 : ρ1 3 = x3.toInt := (u1 3 (by decide)).trans (urho_a (as := [x1.toInt, x2.toInt, x3.toInt, x4.toInt]) (j := 2) (show (2 : Nat) < 4 from by decide))
    have a1_4 : ρ1 4 = x4.toInt := (u1 4 (by decide)).trans (urho_a (as := [x1.toInt, x2.toInt, x3.toInt, x4.toInt]) (j := 3) (show (3 : Nat) < 4 from by decide))
    have m1_28_8 : M 28 8 = ρ1 5 := by
      have h := q1 (28, 8, [(1, 5)]) (List.mem_of_getElem? (i := 0) rfl)
      have h : M 28 8 = 1 * uRho [x1.toInt, x2.toInt, x3.toInt, x4.toInt] M (cM kc_270) 5 + 0 := h
      rw [u1 5 (by decide)]
      omega
    have m1_77_6 : M 77 6 = ρ1 6 := by
      have h := q1 (77, 6, [(1, 6)]) (List.mem_of_getElem? (i := 1) rfl)
      have h : M 77 6 = 1 * uRho [x1.toInt, x2.toInt, x3.toInt, x4.toInt] M (cM kc_270) 6 + 0 := h
      rw [u1 6 (by decide)]
      omega
    have t1_0 := t1
    rw [o1] at z1
    have s1 : uSt 28 N1 := ukeep_ok (c := kc_270) (r := 28) (by decide +kernel) hs p1
    have b1_0_1 : N1 0 1 = M 0 1 := y1 0 1 (by decide +kernel)
    have b1_0_2 : N1 0 2 = M 0 2 := y1 0 2 (by decide +kernel)
    have b1_0_3 : N1 0 3 = M 0 3 := y1 0 3 (by decide +kernel)
    have b1_4_261 : N1 4 261 = M 4 261 := y1 4 261 (by decide +kernel)
    have b1_28_8 : N1 28 8 = M 28 8 := y1 28 8 (by decide +kernel)
    have b1_28_9 : N1 28 9 = M 28 9 := y1 28 9 (by decide +kernel)
    have b1_28_10 : N1 28 10 = M 28 10 := y1 28 10 (by decide +kernel)
    have b1_77_6 : N1 77 6 = ρ1 8 := t1_0
    have b1_91_2 : N1 91 2 = M 91 2 := y1 91 2 (by decide +kernel)
    have b1_91_33 : N1 91 33 = M 91 33 := y1 91 33 (by decide +kernel)
    have b1_91_34 : N1 91 34 = M 91 34 := y1 91 34 (by decide +kernel)
    have b1_91_61 : N1 91 61 = M 91 61 := y1 91 61 (by decide +kernel)
    have b1_93_0 : N1 93 0 = M 93 0 := y1 93 0 (by decide +kernel)
    have b1_93_1 : N1 93 1 = M 93 1 := y1 93 1 (by decide +kernel)
    have b1_93_2 : N1 93 2 = M 93 2 := y1 93 2 (by decide +kernel)
    obtain ⟨rv2, N2, e2, p2, q2⟩ := u_runX ko_r680 (ks := uKs 28) (ex := []) (o := 91) (bs := [false, false, false, false]) (by decide +kernel) s1.1 s1.2 (as := [x1.toInt, x2.toInt, x3.toInt, x4.toInt]) ⟨⟨uarg_i _, fun h => nomatch h⟩, ⟨⟨uarg_i _, fun h => nomatch h⟩, ⟨⟨uarg_i _, fun h => nomatch h⟩, ⟨⟨uarg_i _, fun h => nomatch h⟩, trivial⟩⟩⟩⟩ (fun _ f hf => nomatch hf) J (N := 300) (by decide)
    obtain ⟨ρ2, u2, w2, t2, z2, i2, y2⟩ := up_r680 p2
    have o2 : ρ2 0 = 1 := u2 0 (by decide)
    have a2_1 : ρ2 1 = x1.toInt := (u2 1 (by decide)).trans (urho_a (as := [x1.toInt, x2.toInt, x3.toInt, x4.toInt]) (j := 0) (show (0 : Nat) < 4 from by decide))
    have a2_2 : ρ2 2 = x2.toInt := (u2 2 (by decide)).trans (urho_a (as := [x1.toInt, x2.toInt, x3.toInt, x4.toInt]) (j := 1) (show (1 : Nat) < 4 from by decide))
    have a2_3 : ρ2 3 = x3.toInt := (u2 3 (by decide)).trans (urho_a (as := [x1.toInt, x2.toInt, x3.toInt, x4.toInt]) (j := 2) (show (2 : Nat) < 4 from by decide))
    have a2_4 : ρ2 4 = x4.toInt := (u2 4 (by decide)).trans (urho_a (as := [x1.toInt, x2.toInt, x3.toInt, x4.toInt]) (j := 3) (show (3 : Nat) < 4 from by decide))
    have m2_93_0 : N1 93 0 = ρ2 5 := by
      have h := q2 (93, 0, [(1, 5)]) (List.mem_of_getElem? (i := 0) rfl)
      have h : N1 93 0 = 1 * uRho [x1.toInt, x2.toInt, x3.toInt, x4.toInt] N1 (cM kc_r680) 5 + 0 := h
      rw [u2 5 (by decide)]
      omega
    have m2_91_61 : N1 91 61 = ρ2 6 := by
      have h := q2 (91, 61, [(1, 6)]) (List.mem_of_getElem? (i := 1) rfl)
      have h : N1 91 61 = 1 * uRho [x1.toInt, x2.toInt, x3.toInt, x4.toInt] N1 (cM kc_r680) 6 + 0 := h
      rw [u2 6 (by decide)]
      omega
    have t2_0 := t2
    rw [o2] at z2
    have s2 : uSt 28 N2 := ukeep_ok (c := kc_r680) (r := 28) (by decide +kernel) s1 p2
    have b2_0_1 : N2 0 1 = N1 0 1 := y2 0 1 (by decide +kernel)
    have b2_0_2 : N2 0 2 = N1 0 2 := y2 0 2 (by decide +kernel)
    have b2_0_3 : N2 0 3 = N1 0 3 := y2 0 3 (by decide +kernel)
    have b2_4_261 : N2 4 261 = N1 4 261 := y2 4 261 (by decide +kernel)
    have b2_28_8 : N2 28 8 = N1 28 8 := y2 28 8 (by decide +kernel)
    have b2_28_9 : N2 28 9 = N1 28 9 := y2 28 9 (by decide +kernel)
    have b2_28_10 : N2 28 10 = N1 28 10 := y2 28 10 (by decide +kernel)
    have b2_77_6 : N2 77 6 = N1 77 6 := y2 77 6 (by decide +kernel)
    have b2_91_2 : N2 91 2 = N1 91 2 := y2 91 2 (by decide +kernel)
    have b2_91_33 : N2 91 33 = N1 91 33 := y2 91 33 (by decide +kernel)
    have b2_91_34 : N2 91 34 = N1 91 34 := y2 91 34 (by decide +kernel)
    have b2_91_61 : N2 91 61 = ρ2 8 := t2_0
    have b2_93_0 : N2 93 0 = N1 93 0 := y2 93 0 (by decide +kernel)
    have b2_93_1 : N2 93 1 = N1 93 1 := y2 93 1 (by decide +kernel)
    have b2_93_2 : N2 93 2 = N1 93 2 := y2 93 2 (by decide +kernel)
    have hv : ρ2 7 = ρ1 7 ∧ N2 77 6 = N2 91 61 := by
      clear hT hs s1 s2 i1 i2 y1 y2 u1 u2 q1 q2 p1 p2
      rcases z1 with z1 | z1 | z1 | z1 | z1 | z1 | z1 | z1 | z1 <;> rcases z2 with z2 | z2 | z2 | z2 | z2 | z2 | z2 | z2 | z2 <;> omega
    obtain ⟨hv, hw0⟩ := hv
    clear z1 z2
    rw [w1] at e1
    rw [w2, hv] at e2
    simp only [List.map_cons, List.map_nil, i32_of] at e1 e2
    exact ⟨Int32.ofInt (ρ1 7), N1, N2, e1, e2, 28, Or.inr rfl, s2, (fun q hq => by
      have hq : q ∈ ([(0, 1, 91, 2), (4, 261, 0, 1), (0, 2, 91, 33), (0, 3, 91, 34), (28, 8, 93, 0), (28, 9, 93, 1), (28, 10, 93, 2), (77, 6, 91, 61)] : List (Nat × Nat × Nat × Nat)) := hq
      simp only [List.mem_cons, List.not_mem_nil, or_false] at hq
      rcases hq with rfl | rfl | rfl | rfl | rfl | rfl | rfl | rfl
      · exact (show N2 0 1 = N2 91 2 by omega)
      · exact (show N2 4 261 = N2 0 1 by omega)
      · exact (show N2 0 2 = N2 91 33 by omega)
      · exact (show N2 0 3 = N2 91 34 by omega)
      · exact (show N2 28 8 = N2 93 0 by omega)
      · exact (show N2 28 9 = N2 93 1 by omega)
      · exact (show N2 28 10 = N2 93 2 by omega)
      · exact (show N2 77 6 = N2 91 61 by omega))⟩
theorem up_95 {ρ : Nat → Int} {M M' : sM} {rv : Option sV} (h : qPost kc_95 ρ M rv M') : ∃ ρ' : Nat → Int, (∀ a, a < 3 → ρ' a = ρ a) ∧ rv = qRv 0 (ρ' 3) ∧ (M' 77 6 = ρ' 4) ∧ ((0 ≤ 1 * ρ' 0 + (1 * ρ' 3 + 0) ∧ 0 ≤ -1 * ρ' 0 + (-1 * ρ' 3 + 0) ∧ 0 ≤ -1 * ρ' 2 + (1 * ρ' 4 + 0) ∧ 0 ≤ 1 * ρ' 2 + (-1 * ρ' 4 + 0) ∧ 0 ≤ -1 * ρ' 0 + (-1 * ρ' 1 + 0) ∧ 0 ≤ 1 * ρ' 4 + 0 ∧ 0 ≤ 24 * ρ' 0 + (-1 * ρ' 4 + 0)) ∨ (0 ≤ 1 * ρ' 0 + (1 * ρ' 3 + 0) ∧ 0 ≤ -1 * ρ' 0 + (-1 * ρ' 3 + 0) ∧ 0 ≤ -1 * ρ' 2 + (1 * ρ' 4 + 0) ∧ 0 ≤ 1 * ρ' 2 + (-1 * ρ' 4 + 0) ∧ 0 ≤ 1 * ρ' 1 + (-1 * ρ' 2 + 0) ∧ 0 ≤ 1 * ρ' 4 + 0 ∧ 0 ≤ 24 * ρ' 0 + (-1 * ρ' 4 + 0)) ∨ (0 ≤ 1 * ρ' 0 + (1 * ρ' 3 + 0) ∧ 0 ≤ -1 * ρ' 0 + (-1 * ρ' 3 + 0) ∧ 0 ≤ -1 * ρ' 2 + (1 * ρ' 4 + 0) ∧ 0 ≤ 1 * ρ' 2 + (-1 * ρ' 4 + 0) ∧ 0 ≤ -24 * ρ' 0 + (1 * ρ' 2 + 0) ∧ 0 ≤ 1 * ρ' 4 + 0 ∧ 0 ≤ 24 * ρ' 0 + (-1 * ρ' 4 + 0)) ∨ (0 ≤ -1 * ρ' 2 + (1 * ρ' 3 + 0) ∧ 0 ≤ 1 * ρ' 2 + (-1 * ρ' 3 + 0) ∧ 0 ≤ -1 * ρ' 0 + (-1 * ρ' 2 + (1 * ρ' 4 + 0)) ∧ 0 ≤ 1 * ρ' 0 + (1 * ρ' 2 + (-1 * ρ' 4 + 0)) ∧ 0 ≤ 1 * ρ' 1 + 0 ∧ 0 ≤ -1 * ρ' 0 + (-1 * ρ' 1 + (1 * ρ' 2 + 0)) ∧ 0 ≤ 23 * ρ' 0 + (-1 * ρ' 2 + 0) ∧ 0 ≤ 1 * ρ' 4 + 0 ∧ 0 ≤ 24 * ρ' 0 + (-1 * ρ' 4 + 0))) ∧ sI M' ∧ sF (cS kc_95) M M' := by
  obtain ⟨ρ', h1, h2, ⟨al, hal, hf⟩, h3, h4, h5⟩ := h
  refine ⟨ρ', h1, h2, h3 (77, 6, 4) (List.mem_of_getElem? (i := 0) rfl), ?_, h4, h5⟩
  have hal : al ∈ ([[[(1, 0), (1, 3)], [(-1, 0), (-1, 3)], [(-1, 2), (1, 4)], [(1, 2), (-1, 4)], [(-1, 0), (-1, 1)], [(1, 4)], [(24, 0), (-1, 4)]], [[(1, 0), (1, 3)], [(-1, 0), (-1, 3)], [(-1, 2), (1, 4)], [(1, 2), (-1, 4)], [(1, 1), (-1, 2)], [(1, 4)], [(24, 0), (-1, 4)]], [[(1, 0), (1, 3)], [(-1, 0), (-1, 3)], [(-1, 2), (1, 4)], [(1, 2), (-1, 4)], [(-24, 0), (1, 2)], [(1, 4)], [(24, 0), (-1, 4)]], [[(-1, 2), (1, 3)], [(1, 2), (-1, 3)], [(-1, 0), (-1, 2), (1, 4)], [(1, 0), (1, 2), (-1, 4)], [(1, 1)], [(-1, 0), (-1, 1), (1, 2)], [(23, 0), (-1, 2)], [(1, 4)], [(24, 0), (-1, 4)]]] : List (List qF)) := hal
  simp only [List.mem_cons, List.not_mem_nil, or_false] at hal
  rcases hal with rfl | rfl | rfl | rfl
  · exact Or.inl ⟨hf [(1, 0), (1, 3)] (List.mem_of_getElem? (i := 0) rfl), hf [(-1, 0), (-1, 3)] (List.mem_of_getElem? (i := 1) rfl), hf [(-1, 2), (1, 4)] (List.mem_of_getElem? (i := 2) rfl), hf [(1, 2), (-1, 4)] (List.mem_of_getElem? (i := 3) rfl), hf [(-1, 0), (-1, 1)] (List.mem_of_getElem? (i := 4) rfl), hf [(1, 4)] (List.mem_of_getElem? (i := 5) rfl), hf [(24, 0), (-1, 4)] (List.mem_of_getElem? (i := 6) rfl)⟩
  · exact Or.inr (Or.inl ⟨hf [(1, 0), (1, 3)] (List.mem_of_getElem? (i := 0) rfl), hf [(-1, 0), (-1, 3)] (List.mem_of_getElem? (i := 1) rfl), hf [(-1, 2), (1, 4)] (List.mem_of_getElem? (i := 2) rfl), hf [(1, 2), (-1, 4)] (List.mem_of_getElem? (i := 3) rfl), hf [(1, 1), (-1, 2)] (List.mem_of_getElem? (i := 4) rfl), hf [(1, 4)] (List.mem_of_getElem? (i := 5) rfl), hf [(24, 0), (-1, 4)] (List.mem_of_getElem? (i := 6) rfl)⟩)
  · exact Or.inr (Or.inr (Or.inl ⟨hf [(1, 0), (1, 3)] (List.mem_of_getElem? (i := 0) rfl), hf [(-1, 0), (-1, 3)] (List.mem_of_getElem? (i := 1) rfl), hf [(-1, 2), (1, 4)] (List.mem_of_getElem? (i := 2) rfl), hf [(1, 2), (-1, 4)] (List.mem_of_getElem? (i := 3) rfl), hf [(-24, 0), (1, 2)] (List.mem_of_getElem? (i := 4) rfl), hf [(1, 4)] (List.mem_of_getElem? (i := 5) rfl), hf [(24, 0), (-1, 4)] (List.mem_of_getElem? (i := 6) rfl)⟩))
  · exact Or.inr (Or.inr (Or.inr (⟨hf [(-1, 2), (1, 3)] (List.mem_of_getElem? (i := 0) rfl), hf [(1, 2), (-1, 3)] (List.mem_of_getElem? (i := 1) rfl), hf [(-1, 0), (-1, 2), (1, 4)] (List.mem_of_getElem? (i := 2) rfl), hf [(1, 0), (1, 2), (-1, 4)] (List.mem_of_getElem? (i := 3) rfl), hf [(1, 1)] (List.mem_of_getElem? (i := 4) rfl), hf [(-1, 0), (-1, 1), (1, 2)] (List.mem_of_getElem? (i := 5) rfl), hf [(23, 0), (-1, 2)] (List.mem_of_getElem? (i := 6) rfl), hf [(1, 4)] (List.mem_of_getElem? (i := 7) rfl), hf [(24, 0), (-1, 4)] (List.mem_of_getElem? (i := 8) rfl)⟩)))
theorem up_r681 {ρ : Nat → Int} {M M' : sM} {rv : Option sV} (h : qPost kc_r681 ρ M rv M') : ∃ ρ' : Nat → Int, (∀ a, a < 3 → ρ' a = ρ a) ∧ rv = qRv 0 (ρ' 3) ∧ (M' 91 61 = ρ' 4) ∧ ((0 ≤ 1 * ρ' 0 + (1 * ρ' 3 + 0) ∧ 0 ≤ -1 * ρ' 0 + (-1 * ρ' 3 + 0) ∧ 0 ≤ -1 * ρ' 2 + (1 * ρ' 4 + 0) ∧ 0 ≤ 1 * ρ' 2 + (-1 * ρ' 4 + 0) ∧ 0 ≤ -1 * ρ' 0 + (-1 * ρ' 1 + 0) ∧ 0 ≤ 1 * ρ' 4 + 0 ∧ 0 ≤ 24 * ρ' 0 + (-1 * ρ' 4 + 0)) ∨ (0 ≤ 1 * ρ' 0 + (1 * ρ' 3 + 0) ∧ 0 ≤ -1 * ρ' 0 + (-1 * ρ' 3 + 0) ∧ 0 ≤ -1 * ρ' 2 + (1 * ρ' 4 + 0) ∧ 0 ≤ 1 * ρ' 2 + (-1 * ρ' 4 + 0) ∧ 0 ≤ 1 * ρ' 1 + (-1 * ρ' 2 + 0) ∧ 0 ≤ 1 * ρ' 4 + 0 ∧ 0 ≤ 24 * ρ' 0 + (-1 * ρ' 4 + 0)) ∨ (0 ≤ 1 * ρ' 0 + (1 * ρ' 3 + 0) ∧ 0 ≤ -1 * ρ' 0 + (-1 * ρ' 3 + 0) ∧ 0 ≤ -1 * ρ' 2 + (1 * ρ' 4 + 0) ∧ 0 ≤ 1 * ρ' 2 + (-1 * ρ' 4 + 0) ∧ 0 ≤ -24 * ρ' 0 + (1 * ρ' 2 + 0) ∧ 0 ≤ 1 * ρ' 4 + 0 ∧ 0 ≤ 24 * ρ' 0 + (-1 * ρ' 4 + 0)) ∨ (0 ≤ -1 * ρ' 2 + (1 * ρ' 3 + 0) ∧ 0 ≤ 1 * ρ' 2 + (-1 * ρ' 3 + 0) ∧ 0 ≤ -1 * ρ' 0 + (-1 * ρ' 2 + (1 * ρ' 4 + 0)) ∧ 0 ≤ 1 * ρ' 0 + (1 * ρ' 2 + (-1 * ρ' 4 + 0)) ∧ 0 ≤ 1 * ρ' 1 + 0 ∧ 0 ≤ -1 * ρ' 0 + (-1 * ρ' 1 + (1 * ρ' 2 + 0)) ∧ 0 ≤ 23 * ρ' 0 + (-1 * ρ' 2 + 0) ∧ 0 ≤ 1 * ρ' 4 + 0 ∧ 0 ≤ 24 * ρ' 0 + (-1 * ρ' 4 + 0))) ∧ sI M' ∧ sF (cS kc_r681) M M' := by
  obtain ⟨ρ', h1, h2, ⟨al, hal, hf⟩, h3, h4, h5⟩ := h
  refine ⟨ρ', h1, h2, h3 (91, 61, 4) (List.mem_of_getElem? (i := 0) rfl), ?_, h4, h5⟩
  have hal : al ∈ ([[[(1, 0), (1, 3)], [(-1, 0), (-1, 3)], [(-1, 2), (1, 4)], [(1, 2), (-1, 4)], [(-1, 0), (-1, 1)], [(1, 4)], [(24, 0), (-1, 4)]], [[(1, 0), (1, 3)], [(-1, 0), (-1, 3)], [(-1, 2), (1, 4)], [(1, 2), (-1, 4)], [(1, 1), (-1, 2)], [(1, 4)], [(24, 0), (-1, 4)]], [[(1, 0), (1, 3)], [(-1, 0), (-1, 3)], [(-1, 2), (1, 4)], [(1, 2), (-1, 4)], [(-24, 0), (1, 2)], [(1, 4)], [(24, 0), (-1, 4)]], [[(-1, 2), (1, 3)], [(1, 2), (-1, 3)], [(-1, 0), (-1, 2), (1, 4)], [(1, 0), (1, 2), (-1, 4)], [(1, 1)], [(-1, 0), (-1, 1), (1, 2)], [(23, 0), (-1, 2)], [(1, 4)], [(24, 0), (-1, 4)]]] : List (List qF)) := hal
  simp only [List.mem_cons, List.not_mem_nil, or_false] at hal
  rcases hal with rfl | rfl | rfl | rfl
  · exact Or.inl ⟨hf [(1, 0), (1, 3)] (List.mem_of_getElem? (i := 0) rfl), hf [(-1, 0), (-1, 3)] (List.mem_of_getElem? (i := 1) rfl), hf [(-1, 2), (1, 4)] (List.mem_of_getElem? (i := 2) rfl), hf [(1, 2), (-1, 4)] (List.mem_of_getElem? (i := 3) rfl), hf [(-1, 0), (-1, 1)] (List.mem_of_getElem? (i := 4) rfl), hf [(1, 4)] (List.mem_of_getElem? (i := 5) rfl), hf [(24, 0), (-1, 4)] (List.mem_of_getElem? (i := 6) rfl)⟩
  · exact Or.inr (Or.inl ⟨hf [(1, 0), (1, 3)] (List.mem_of_getElem? (i := 0) rfl), hf [(-1, 0), (-1, 3)] (List.mem_of_getElem? (i := 1) rfl), hf [(-1, 2), (1, 4)] (List.mem_of_getElem? (i := 2) rfl), hf [(1, 2), (-1, 4)] (List.mem_of_getElem? (i := 3) rfl), hf [(1, 1), (-1, 2)] (List.mem_of_getElem? (i := 4) rfl), hf [(1, 4)] (List.mem_of_getElem? (i := 5) rfl), hf [(24, 0), (-1, 4)] (List.mem_of_getElem? (i := 6) rfl)⟩)
  · exact Or.inr (Or.inr (Or.inl ⟨hf [(1, 0), (1, 3)] (List.mem_of_getElem? (i := 0) rfl), hf [(-1, 0), (-1, 3)] (List.mem_of_getElem? (i := 1) rfl), hf [(-1, 2), (1, 4)] (List.mem_of_getElem? (i := 2) rfl), hf [(1, 2), (-1, 4)] (List.mem_of_getElem? (i := 3) rfl), hf [(-24, 0), (1, 2)] (List.mem_of_getElem? (i := 4) rfl), hf [(1, 4)] (List.mem_of_getElem? (i := 5) rfl), hf [(24, 0), (-1, 4)] (List.mem_of_getElem? (i := 6) rfl)⟩))
  · exact Or.inr (Or.inr (Or.inr (⟨hf [(-1, 2), (1, 3)] (List.mem_of_getElem? (i := 0) rfl), hf [(1, 2), (-1, 3)] (List.mem_of_getElem? (i := 1) rfl), hf [(-1, 0), (-1, 2), (1, 4)] (List.mem_of_getElem? (i := 2) rfl), hf [(1, 0), (1, 2), (-1, 4)] (List.mem_of_getElem? (i := 3) rfl), hf [(1, 1)] (List.mem_of_getElem? (i := 4) rfl), hf [(-1, 0), (-1, 1), (1, 2)] (List.mem_of_getElem? (i := 5) rfl), hf [(23, 0), (-1, 2)] (List.mem_of_getElem? (i := 6) rfl), hf [(1, 4)] (List.mem_of_getElem? (i := 7) rfl), hf [(24, 0), (-1, 4)] (List.mem_of_getElem? (i := 8) rfl)⟩)))
set_option maxHeartbeats 4000000 in
theorem uo_30 {M : sM} (hM : uG M) (J : pHp) (x1 : Int32) : ∃ (v : Int32) (M1 M2 : sM), pEx 300 144 [.ref 0, .int x1] (sHp sLay M ++ J) (some (.int v)) (sHp sLay M1 ++ J) ∧ pEx 300 267 [.ref 91, .int x1] (sHp sLay M1 ++ J) (some (.int v)) (sHp sLay M2 ++ J) ∧ uG M2 := by
  obtain ⟨r, hr, hs, hT⟩ := hM
  rcases hr with rfl | rfl
  · have kM_0 : M 0 1 = M 91 2 := hT (0, 1, 91, 2) (List.mem_of_getElem? (i := 0) rfl)
    have kM_1 : M 4 261 = M 0 1 := hT (4, 261, 0, 1) (List.mem_of_getElem? (i := 1) rfl)
    have kM_2 : M 0 2 = M 91 33 := hT (0, 2, 91, 33) (List.mem_of_getElem? (i := 2) rfl)
    have kM_3 : M 0 3 = M 91 34 := hT (0, 3, 91, 34) (List.mem_of_getElem? (i := 3) rfl)
    have kM_4 : M 2 8 = M 93 0 := hT ((2 : Int).toNat, 8, 93, 0) (List.mem_of_getElem? (i := 4) rfl)
    have kM_5 : M 2 9 = M 93 1 := hT ((2 : Int).toNat, 9, 93, 1) (List.mem_of_getElem? (i := 5) rfl)
    have kM_6 : M 2 10 = M 93 2 := hT ((2 : Int).toNat, 10, 93, 2) (List.mem_of_getElem? (i := 6) rfl)
    have kM_7 : M 77 6 = M 91 61 := hT (77, 6, 91, 61) (List.mem_of_getElem? (i := 7) rfl)
    obtain ⟨rv1, N1, e1, p1, q1⟩ := u_runX ko_95 (ks := uKs 2) (ex := []) (o := 0) (bs := [false]) (by decide +kernel) hs.1 hs.2 (as := [x1.toInt]) ⟨⟨uarg_i _, fun h => nomatch h⟩, trivial⟩ (fun _ f hf => nomatch hf) J (N := 300) (by decide)
    obtain ⟨ρ1, u1, w1, t1, z1, i1, y1⟩ := up_95 p1
    have o1 : ρ1 0 = 1 := u1 0 (by decide)
    have a1_1 : ρ1 1 = x1.toInt := (u1 1 (by decide)).trans (urho_a (as := [x1.toInt]) (j := 0) (show (0 : Nat) < 1 from by decide))
    have m1_77_6 : M 77 6 = ρ1 2 := by
      have h := q1 (77, 6, [(1, 2)]) (List.mem_of_getElem? (i := 0) rfl)
      have h : M 77 6 = 1 * uRho [x1.toInt] M (cM kc_95) 2 + 0 := h
      rw [u1 2 (by decide)]
      omega
    have t1_0 := t1
    rw [o1] at z1
    have s1 : uSt 2 N1 := ukeep_ok (c := kc_95) (r := 2) (by decide +kernel) hs p1
    have b1_0_1 : N1 0 1 = M 0 1 := y1 0 1 (by decide +kernel)
    have b1_0_2 : N1 0 2 = M 0 2 := y1 0 2 (by decide +kernel)
    have b1_0_3 : N1 0 3 = M 0 3 := y1 0 3 (by decide +kernel)
    have b1_2_8 : N1 2 8 = M 2 8 := y1 2 8 (by decide +kernel)
    have b1_2_9 : N1 2 9 = M 2 9 := y1 2 9 (by decide +kernel)
    have b1_2_10 : N1 2 10 = M 2 10 := y1 2 10 (by decide +kernel)
    have b1_4_261 : N1 4 261 = M 4 261 := y1 4 261 (by decide +kernel)
    have b1_77_6 : N1 77 6 = ρ1 4 := t1_0
    have b1_91_2 : N1 91 2 = M 91 2 := y1 91 2 (by decide +kernel)
    have b1_91_33 : N1 91 33 = M 91 33 := y1 91 33 (by decide +kernel)
    have b1_91_34 : N1 91 34 = M 91 34 := y1 91 34 (by decide +kernel)
    have b1_91_61 : N1 91 61 = M 91 61 := y1 91 61 (by decide +kernel)
    have b1_93_0 : N1 93 0 = M 93 0 := y1 93 0 (by decide +kernel)
    have b1_93_1 : N1 93 1 = M 93 1 := y1 93 1 (by decide +kernel)
    have b1_93_2 : N1 93 2 = M 93 2 := y1 93 2 (by decide +kernel)
    obtain ⟨rv2, N2, e2, p2, q2⟩ := u_runX ko_r681 (ks := uKs 2) (ex := []) (o := 91) (bs := [false]) (by decide +kernel) s1.1 s1.2 (as := [x1.toInt]) ⟨⟨uarg_i _, fun h => nomatch h⟩, trivial⟩ (fun _ f hf => nomatch hf) J (N := 300) (by decide)
    obtain ⟨ρ2, u2, w2, t2, z2, i2, y2⟩ := up_r681 p2
    have o2 : ρ2 0 = 1 := u2 0 (by decide)
    have a2_1 : ρ2 1 = x1.toInt := (u2 1 (by decide)).trans (urho_a (as := [x1.toInt]) (j := 0) (show (0 : Nat) < 1 from by decide))
    have m2_91_61 : N1 91 61 = ρ2 2 := by
      have h := q2 (91, 61, [(1, 2)]) (List.mem_of_getElem? (i := 0) rfl)
      have h : N1 91 61 = 1 * uRho [x1.toInt] N1 (cM kc_r681) 2 + 0 := h
      rw [u2 2 (by decide)]
      omega
    have t2_0 := t2
    rw [o2] at z2
    have s2 : uSt 2 N2 := ukeep_ok (c := kc_r681) (r := 2) (by decide +kernel) s1 p2
    have b2_0_1 : N2 0 1 = N1 0 1 := y2 0 1 (by decide +kernel)
    have b2_0_2 : N2 0 2 = N1 0 2 := y2 0 2 (by decide +kernel)
    have b2_0_3 : N2 0 3 = N1 0 3 := y2 0 3 (by decide +kernel)
    have b2_2_8 : N2 2 8 = N1 2 8 := y2 2 8 (by decide +kernel)
    have b2_2_9 : N2 2 9 = N1 2 9 := y2 2 9 (by decide +kernel)
    have b2_2_10 : N2 2 10 = N1 2 10 := y2 2 10 (by decide +kernel)
    have b2_4_261 : N2 4 261 = N1 4 261 := y2 4 261 (by decide +kernel)
    have b2_77_6 : N2 77 6 = N1 77 6 := y2 77 6 (by decide +kernel)
    have b2_91_2 : N2 91 2 = N1 91 2 := y2 91 2 (by decide +kernel)
    have b2_91_33 : N2 91 33 = N1 91 33 := y2 91 33 (by decide +kernel)
    have b2_91_34 : N2 91 34 = N1 91 34 := y2 91 34 (by decide +kernel)
    have b2_91_61 : N2 91 61 = ρ2 4 := t2_0
    have b2_93_0 : N2 93 0 = N1 93 0 := y2 93 0 (by decide +kernel)
    have b2_93_1 : N2 93 1 = N1 93 1 := y2 93 1 (by decide +kernel)
    have b2_93_2 : N2 93 2 = N1 93 2 := y2 93 2 (by decide +kernel)
    have hv : ρ2 3 = ρ1 3 ∧ N2 77 6 = N2 91 61 := by
      clear hT hs s1 s2 i1 i2 y1 y2 u1 u2 q1 q2 p1 p2
      rcases z1 with z1 | z1 | z1 | z1 <;> rcases z2 with z2 | z2 | z2 | z2 <;> omega
    obtain ⟨hv, hw0⟩ := hv
    clear z1 z2
    rw [w1] at e1
    rw [w2, hv] at e2
    simp only [List.map_cons, List.map_nil, i32_of] at e1 e2
    exact ⟨Int32.ofInt (ρ1 3), N1, N2, e1, e2, 2, Or.inl rfl, s2, (fun q hq => by
      have hq : q ∈ ([(0, 1, 91, 2), (4, 261, 0, 1), (0, 2, 91, 33), (0, 3, 91, 34), (2, 8, 93, 0), (2, 9, 93, 1), (2, 10, 93, 2), (77, 6, 91, 61)] : List (Nat × Nat × Nat × Nat)) := hq
      simp only [List.mem_cons, List.not_mem_nil, or_false] at hq
      rcases hq with rfl | rfl | rfl | rfl | rfl | rfl | rfl | rfl
      · exact (show N2 0 1 = N2 91 2 by omega)
      · exact (show N2 4 261 = N2 0 1 by omega)
      · exact (show N2 0 2 = N2 91 33 by omega)
      · exact (show N2 0 3 = N2 91 34 by omega)
      · exact (show N2 2 8 = N2 93 0 by omega)
      · exact (show N2 2 9 = N2 93 1 by omega)
      · exact (show N2 2 10 = N2 93 2 by omega)
      · exact (show N2 77 6 = N2 91 61 by omega))⟩
  · have kM_0 : M 0 1 = M 91 2 := hT (0, 1, 91, 2) (List.mem_of_getElem? (i := 0) rfl)
    have kM_1 : M 4 261 = M 0 1 := hT (4, 261, 0, 1) (List.mem_of_getElem? (i := 1) rfl)
    have kM_2 : M 0 2 = M 91 33 := hT (0, 2, 91, 33) (List.mem_of_getElem? (i := 2) rfl)
    have kM_3 : M 0 3 = M 91 34 := hT (0, 3, 91, 34) (List.mem_of_getElem? (i := 3) rfl)
    have kM_4 : M 28 8 = M 93 0 := hT ((28 : Int).toNat, 8, 93, 0) (List.mem_of_getElem? (i := 4) rfl)
    have kM_5 : M 28 9 = M 93 1 := hT ((28 : Int).toNat, 9, 93, 1) (List.mem_of_getElem? (i := 5) rfl)
    have kM_6 : M 28 10 = M 93 2 := hT ((28 : Int).toNat, 10, 93, 2) (List.mem_of_getElem? (i := 6) rfl)
    have kM_7 : M 77 6 = M 91 61 := hT (77, 6, 91, 61) (List.mem_of_getElem? (i := 7) rfl)
    obtain ⟨rv1, N1, e1, p1, q1⟩ := u_runX ko_95 (ks := uKs 28) (ex := []) (o := 0) (bs := [false]) (by decide +kernel) hs.1 hs.2 (as := [x1.toInt]) ⟨⟨uarg_i _, fun h => nomatch h⟩, trivial⟩ (fun _ f hf => nomatch hf) J (N := 300) (by decide)
    obtain ⟨ρ1, u1, w1, t1, z1, i1, y1⟩ := up_95 p1
    have o1 : ρ1 0 = 1 := u1 0 (by decide)
    have a1_1 : ρ1 1 = x1.toInt := (u1 1 (by decide)).trans (urho_a (as := [x1.toInt]) (j := 0) (show (0 : Nat) < 1 from by decide))
    have m1_77_6 : M 77 6 = ρ1 2 := by
      have h := q1 (77, 6, [(1, 2)]) (List.mem_of_getElem? (i := 0) rfl)
      have h : M 77 6 = 1 * uRho [x1.toInt] M (cM kc_95) 2 + 0 := h
      rw [u1 2 (by decide)]
      omega
    have t1_0 := t1
    rw [o1] at z1
    have s1 : uSt 28 N1 := ukeep_ok (c := kc_95) (r := 28) (by decide +kernel) hs p1
    have b1_0_1 : N1 0 1 = M 0 1 := y1 0 1 (by decide +kernel)
    have b1_0_2 : N1 0 2 = M 0 2 := y1 0 2 (by decide +kernel)
    have b1_0_3 : N1 0 3 = M 0 3 := y1 0 3 (by decide +kernel)
    have b1_4_261 : N1 4 261 = M 4 261 := y1 4 261 (by decide +kernel)
    have b1_28_8 : N1 28 8 = M 28 8 := y1 28 8 (by decide +kernel)
    have b1_28_9 : N1 28 9 = M 28 9 := y1 28 9 (by decide +kernel)
    have b1_28_10 : N1 28 10 = M 28 10 := y1 28 10 (by decide +kernel)
    have b1_77_6 : N1 77 6 = ρ1 4 := t1_0
    have b1_91_2 : N1 91 2 = M 91 2 := y1 91 2 (by decide +kernel)
    have b1_91_33 : N1 91 33 = M 91 33 := y1 91 33 (by decide +kernel)
    have b1_91_34 : N1 91 34 = M 91 34 := y1 91 34 (by decide +kernel)
    have b1_91_61 : N1 91 61 = M 91 61 := y1 91 61 (by decide +kernel)
    have b1_93_0 : N1 93 0 = M 93 0 := y1 93 0 (by decide +kernel)
    have b1_93_1 : N1 93 1 = M 93 1 := y1 93 1 (by decide +kernel)
    have b1_93_2 : N1 93 2 = M 93 2 := y1 93 2 (by decide +kernel)
    obtain ⟨rv2, N2, e2, p2, q2⟩ := u_runX ko_r681 (ks := uKs 28) (ex := []) (o := 91) (bs := [false]) (by decide +kernel) s1.1 s1.2 (as := [x1.toInt]) ⟨⟨uarg_i _, fun h => nomatch h⟩, trivial⟩ (fun _ f hf => nomatch hf) J (N := 300) (by decide)
    obtain ⟨ρ2, u2, w2, t2, z2, i2, y2⟩ := up_r681 p2
    have o2 : ρ2 0 = 1 := u2 0 (by decide)
    have a2_1 : ρ2 1 = x1.toInt := (u2 1 (by decide)).trans (urho_a (as := [x1.toInt]) (j := 0) (show (0 : Nat) < 1 from by decide))
    have m2_91_61 : N1 91 61 = ρ2 2 := by
      have h := q2 (91, 61, [(1, 2)]) (List.mem_of_getElem? (i := 0) rfl)
      have h : N1 91 61 = 1 * uRho [x1.toInt] N1 (cM kc_r681) 2 + 0 := h
      rw [u2 2 (by decide)]
      omega
    have t2_0 := t2
    rw [o2] at z2
    have s2 : uSt 28 N2 := ukeep_ok (c := kc_r681) (r := 28) (by decide +kernel) s1 p2
    have b2_0_1 : N2 0 1 = N1 0 1 := y2 0 1 (by decide +kernel)
    have b2_0_2 : N2 0 2 = N1 0 2 := y2 0 2 (by decide +kernel)
    have b2_0_3 : N2 0 3 = N1 0 3 := y2 0 3 (by decide +kernel)
    have b2_4_261 : N2 4 261 = N1 4 261 := y2 4 261 (by decide +kernel)
    have b2_28_8 : N2 28 8 = N1 28 8 := y2 28 8 (by decide +kernel)
    have b2_28_9 : N2 28 9 = N1 28 9 := y2 28 9 (by decide +kernel)
    have b2_28_10 : N2 28 10 = N1 28 10 := y2 28 10 (by decide +kernel)
    have b2_77_6 : N2 77 6 = N1 77 6 := y2 77 6 (by decide +kernel)
    have b2_91_2 : N2 91 2 = N1 91 2 := y2 91 2 (by decide +kernel)
    have b2_91_33 : N2 91 33 = N1 91 33 := y2 91 33 (by decide +kernel)
    have b2_91_34 : N2 91 34 = N1 91 34 := y2 91 34 (by decide +kernel)
    have b2_91_61 : N2 91 61 = ρ2 4 := t2_0
    have b2_93_0 : N2 93 0 = N1 93 0 := y2 93 0 (by decide +kernel)
    have b2_93_1 : N2 93 1 = N1 93 1 := y2 93 1 (by decide +kernel)
    have b2_93_2 : N2 93 2 = N1 93 2 := y2 93 2 (by decide +kernel)
    have hv : ρ2 3 = ρ1 3 ∧ N2 77 6 = N2 91 61 := by
      clear hT hs s1 s2 i1 i2 y1 y2 u1 u2 q1 q2 p1 p2
      rcases z1 with z1 | z1 | z1 | z1 <;> rcases z2 with z2 | z2 | z2 | z2 <;> omega
    obtain ⟨hv, hw0⟩ := hv
    clear z1 z2
    rw [w1] at e1
    rw [w2, hv] at e2
    simp only [List.map_cons, List.map_nil, i32_of] at e1 e2
    exact ⟨Int32.ofInt (ρ1 3), N1, N2, e1, e2, 28, Or.inr rfl, s2, (fun q hq => by
      have hq : q ∈ ([(0, 1, 91, 2), (4, 261, 0, 1), (0, 2, 91, 33), (0, 3, 91, 34), (28, 8, 93, 0), (28, 9, 93, 1), (28, 10, 93, 2), (77, 6, 91, 61)] : List (Nat × Nat × Nat × Nat)) := hq
      simp only [List.mem_cons, List.not_mem_nil, or_false] at hq
      rcases hq with rfl | rfl | rfl | rfl | rfl | rfl | rfl | rfl
      · exact (show N2 0 1 = N2 91 2 by omega)
      · exact (show N2 4 261 = N2 0 1 by omega)
      · exact (show N2 0 2 = N2 91 33 by omega)
      · exact (show N2 0 3 = N2 91 34 by omega)
      · exact (show N2 28 8 = N2 93 0 by omega)
      · exact (show N2 28 9 = N2 93 1 by omega)
      · exact (show N2 28 10 = N2 93 2 by omega)
      · exact (show N2 77 6 = N2 91 61 by omega))⟩
theorem uo_31 {M : sM} (hM : uG M) (J : pHp) (x1 : Int32) : ∃ (v1 : Int32) (M1 : sM) (v2 : Int32) (M2 : sM), pEx 300 146 [.ref 0, .int x1] (sHp sLay M ++ J) (some (.int v1)) (sHp sLay M1 ++ J) ∧ pEx 300 268 [.ref 91, .int x1] (sHp sLay M1 ++ J) (some (.int v2)) (sHp sLay M2 ++ J) ∧ uG M2 := by
  obtain ⟨z1, M1, z2, M2, e1, e2, e3⟩ := u_two ko_96 ko_96 ko_r682 (bs := [false]) (by decide +kernel) hM (as := [x1.toInt]) ⟨⟨uarg_i _, fun h => nomatch h⟩, trivial⟩ J
  simp only [List.map_cons, List.map_nil, i32_of] at e1 e2
  exact ⟨Int32.ofInt z1, M1, Int32.ofInt z2, M2, e1, e2, e3⟩
theorem uo_32 {M : sM} (hM : uG M) (J : pHp)  : ∃ (v1 : Int32) (M1 : sM) (v2 : Int32) (M2 : sM), pEx 300 147 [.ref 0] (sHp sLay M ++ J) (some (.int v1)) (sHp sLay M1 ++ J) ∧ pEx 300 269 [.ref 91] (sHp sLay M1 ++ J) (some (.int v2)) (sHp sLay M2 ++ J) ∧ uG M2 := by
  obtain ⟨z1, M1, z2, M2, e1, e2, e3⟩ := u_two ko_102 ko_273 ko_r687 (bs := []) (by decide +kernel) hM (as := []) trivial J
  simp only [List.map_cons, List.map_nil, i32_of] at e1 e2
  exact ⟨Int32.ofInt z1, M1, Int32.ofInt z2, M2, e1, e2, e3⟩
theorem uo_33 {M : sM} (hM : uG M) (J : pHp) (x1 : Int32) (x2 : Int32) : ∃ (v1 : Int32) (M1 : sM) (v2 : Int32) (M2 : sM), pEx 300 153 [.ref 0, .int x1, .int x2] (sHp sLay M ++ J) (some (.int v1)) (sHp sLay M1 ++ J) ∧ pEx 300 274 [.ref 91, .int x1, .int x2] (sHp sLay M1 ++ J) (some (.int v2)) (sHp sLay M2 ++ J) ∧ uG M2 := by
  obtain ⟨z1, M1, z2, M2, e1, e2, e3⟩ := u_two ko_104 ko_275 ko_r688 (bs := [false, false]) (by decide +kernel) hM (as := [x1.toInt, x2.toInt]) ⟨⟨uarg_i _, fun h => nomatch h⟩, ⟨⟨uarg_i _, fun h => nomatch h⟩, trivial⟩⟩ J
  simp only [List.map_cons, List.map_nil, i32_of] at e1 e2
  exact ⟨Int32.ofInt z1, M1, Int32.ofInt z2, M2, e1, e2, e3⟩
theorem uo_34 {M : sM} (hM : uG M) (J : pHp) (x1 : Int32) : ∃ (v1 : Int32) (M1 : sM) (v2 : Int32) (M2 : sM), pEx 300 155 [.ref 0, .int x1] (sHp sLay M ++ J) (some (.int v1)) (sHp sLay M1 ++ J) ∧ pEx 300 275 [.ref 91, .int x1] (sHp sLay M1 ++ J) (some (.int v2)) (sHp sLay M2 ++ J) ∧ uG M2 := by
  obtain ⟨z1, M1, z2, M2, e1, e2, e3⟩ := u_two ko_105 ko_276 ko_r689 (bs := [false]) (by decide +kernel) hM (as := [x1.toInt]) ⟨⟨uarg_i _, fun h => nomatch h⟩, trivial⟩ J
  simp only [List.map_cons, List.map_nil, i32_of] at e1 e2
  exact ⟨Int32.ofInt z1, M1, Int32.ofInt z2, M2, e1, e2, e3⟩
theorem uo_35 {M : sM} (hM : uG M) (J : pHp) (x1 : Int32) : ∃ (v1 : Int32) (M1 : sM) (v2 : Int32) (M2 : sM), pEx 300 156 [.ref 0, .int x1] (sHp sLay M ++ J) (some (.int v1)) (sHp sLay M1 ++ J) ∧ pEx 300 276 [.ref 91, .int x1] (sHp sLay M1 ++ J) (some (.int v2)) (sHp sLay M2 ++ J) ∧ uG M2 := by
  obtain ⟨z1, M1, z2, M2, e1, e2, e3⟩ := u_two ko_110 ko_279 ko_r694 (bs := [false]) (by decide +kernel) hM (as := [x1.toInt]) ⟨⟨uarg_i _, fun h => nomatch h⟩, trivial⟩ J
  simp only [List.map_cons, List.map_nil, i32_of] at e1 e2
  exact ⟨Int32.ofInt z1, M1, Int32.ofInt z2, M2, e1, e2, e3⟩
theorem uo_36 {M : sM} (hM : uG M) (J : pHp) (x1 : Int32) (x2 : Int32) (x3 : Int32) : ∃ (v1 : Int32) (M1 : sM) (v2 : Int32) (M2 : sM), pEx 300 158 [.ref 0, .int x1, .int x2, .int x3] (sHp sLay M ++ J) (some (.int v1)) (sHp sLay M1 ++ J) ∧ pEx 300 277 [.ref 91, .int x1, .int x2, .int x3] (sHp sLay M1 ++ J) (some (.int v2)) (sHp sLay M2 ++ J) ∧ uG M2 := by
  obtain ⟨z1, M1, z2, M2, e1, e2, e3⟩ := u_two ko_121 ko_290 ko_r695 (bs := [false, false, false]) (by decide +kernel) hM (as := [x1.toInt, x2.toInt, x3.toInt]) ⟨⟨uarg_i _, fun h => nomatch h⟩, ⟨⟨uarg_i _, fun h => nomatch h⟩, ⟨⟨uarg_i _, fun h => nomatch h⟩, trivial⟩⟩⟩ J
  simp only [List.map_cons, List.map_nil, i32_of] at e1 e2
  exact ⟨Int32.ofInt z1, M1, Int32.ofInt z2, M2, e1, e2, e3⟩
theorem uo_37 {M : sM} (hM : uG M) (J : pHp)  : ∃ (v1 : Int32) (M1 : sM) (v2 : Int32) (M2 : sM), pEx 300 160 [.ref 0] (sHp sLay M ++ J) (some (.int v1)) (sHp sLay M1 ++ J) ∧ pEx 300 278 [.ref 91] (sHp sLay M1 ++ J) (some (.int v2)) (sHp sLay M2 ++ J) ∧ uG M2 := by
  obtain ⟨z1, M1, z2, M2, e1, e2, e3⟩ := u_two ko_122 ko_122 ko_r697 (bs := []) (by decide +kernel) hM (as := []) trivial J
  simp only [List.map_cons, List.map_nil, i32_of] at e1 e2
  exact ⟨Int32.ofInt z1, M1, Int32.ofInt z2, M2, e1, e2, e3⟩
theorem uo_38 {M : sM} (hM : uG M) (J : pHp)  : ∃ (v1 : Int32) (M1 : sM) (v2 : Int32) (M2 : sM), pEx 300 161 [.ref 0] (sHp sLay M ++ J) (some (.int v1)) (sHp sLay M1 ++ J) ∧ pEx 300 279 [.ref 91] (sHp sLay M1 ++ J) (some (.int v2)) (sHp sLay M2 ++ J) ∧ uG M2 := by
  obtain ⟨z1, M1, z2, M2, e1, e2, e3⟩ := u_two ko_124 ko_124 ko_r698 (bs := []) (by decide +kernel) hM (as := []) trivial J
  simp only [List.map_cons, List.map_nil, i32_of] at e1 e2
  exact ⟨Int32.ofInt z1, M1, Int32.ofInt z2, M2, e1, e2, e3⟩
theorem uo_39 {M : sM} (hM : uG M) (J : pHp)  : ∃ (v1 : Int32) (M1 : sM) (v2 : Int32) (M2 : sM), pEx 300 162 [.ref 0] (sHp sLay M ++ J) (some (.int v1)) (sHp sLay M1 ++ J) ∧ pEx 300 280 [.ref 91] (sHp sLay M1 ++ J) (some (.int v2)) (sHp sLay M2 ++ J) ∧ uG M2 := by
  obtain ⟨z1, M1, z2, M2, e1, e2, e3⟩ := u_two ko_126 ko_126 ko_r699 (bs := []) (by decide +kernel) hM (as := []) trivial J
  simp only [List.map_cons, List.map_nil, i32_of] at e1 e2
  exact ⟨Int32.ofInt z1, M1, Int32.ofInt z2, M2, e1, e2, e3⟩
theorem uo_40 {M : sM} (hM : uG M) (J : pHp) (x1 : Int32) : ∃ (v1 : Int32) (M1 : sM) (v2 : Int32) (M2 : sM), pEx 300 163 [.ref 0, .int x1] (sHp sLay M ++ J) (some (.int v1)) (sHp sLay M1 ++ J) ∧ pEx 300 281 [.ref 91, .int x1] (sHp sLay M1 ++ J) (some (.int v2)) (sHp sLay M2 ++ J) ∧ uG M2 := by
  obtain ⟨z1, M1, z2, M2, e1, e2, e3⟩ := u_two ko_128 ko_291 ko_r700 (bs := [false]) (by decide +kernel) hM (as := [x1.toInt]) ⟨⟨uarg_i _, fun h => nomatch h⟩, trivial⟩ J
  simp only [List.map_cons, List.map_nil, i32_of] at e1 e2
  exact ⟨Int32.ofInt z1, M1, Int32.ofInt z2, M2, e1, e2, e3⟩
