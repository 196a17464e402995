/-! feed and text: what is fed on both sides. -/
theorem up_1 {ρ : Nat → Int} {M M' : sM} {rv : Option sV} (h : qPost kc_1 ρ M rv M') : ∃ ρ' : Nat → Int, (∀ a, a < 7 → ρ' a = ρ a) ∧ rv = qRv 0 (ρ' 7) ∧ (M' 0 1 = ρ' 8) ∧ ((0 ≤ 1 * ρ' 0 + (1 * ρ' 7 + 0) ∧ 0 ≤ -1 * ρ' 0 + (-1 * ρ' 7 + 0) ∧ 0 ≤ -1 * ρ' 6 + (1 * ρ' 8 + 0) ∧ 0 ≤ 1 * ρ' 6 + (-1 * ρ' 8 + 0) ∧ 0 ≤ -681 * ρ' 0 + (1 * ρ' 6 + 0) ∧ 0 ≤ 1 * ρ' 8 + 0 ∧ 0 ≤ 700 * ρ' 0 + (-1 * ρ' 8 + 0)) ∨ (0 ≤ -20 * ρ' 0 + (-1 * ρ' 6 + (1 * ρ' 7 + 0)) ∧ 0 ≤ 20 * ρ' 0 + (1 * ρ' 6 + (-1 * ρ' 7 + 0)) ∧ 0 ≤ -20 * ρ' 0 + (-1 * ρ' 6 + (1 * ρ' 8 + 0)) ∧ 0 ≤ 20 * ρ' 0 + (1 * ρ' 6 + (-1 * ρ' 8 + 0)) ∧ 0 ≤ 680 * ρ' 0 + (-1 * ρ' 6 + 0) ∧ 0 ≤ 1 * ρ' 8 + 0 ∧ 0 ≤ 700 * ρ' 0 + (-1 * ρ' 8 + 0))) ∧ sI M' ∧ sF (cS kc_1) M M' := by
  obtain ⟨ρ', h1, h2, ⟨al, hal, hf⟩, h3, h4, h5⟩ := h
  refine ⟨ρ', h1, h2, h3 (0, 1, 8) (List.mem_of_getElem? (i := 0) rfl), ?_, h4, h5⟩
  have hal : al ∈ ([[[(1, 0), (1, 7)], [(-1, 0), (-1, 7)], [(-1, 6), (1, 8)], [(1, 6), (-1, 8)], [(-681, 0), (1, 6)], [(1, 8)], [(700, 0), (-1, 8)]], [[(-20, 0), (-1, 6), (1, 7)], [(20, 0), (1, 6), (-1, 7)], [(-20, 0), (-1, 6), (1, 8)], [(20, 0), (1, 6), (-1, 8)], [(680, 0), (-1, 6)], [(1, 8)], [(700, 0), (-1, 8)]]] : List (List qF)) := hal
  simp only [List.mem_cons, List.not_mem_nil, or_false] at hal
  rcases hal with rfl | rfl
  · exact Or.inl ⟨hf [(1, 0), (1, 7)] (List.mem_of_getElem? (i := 0) rfl), hf [(-1, 0), (-1, 7)] (List.mem_of_getElem? (i := 1) rfl), hf [(-1, 6), (1, 8)] (List.mem_of_getElem? (i := 2) rfl), hf [(1, 6), (-1, 8)] (List.mem_of_getElem? (i := 3) rfl), hf [(-681, 0), (1, 6)] (List.mem_of_getElem? (i := 4) rfl), hf [(1, 8)] (List.mem_of_getElem? (i := 5) rfl), hf [(700, 0), (-1, 8)] (List.mem_of_getElem? (i := 6) rfl)⟩
  · exact Or.inr (⟨hf [(-20, 0), (-1, 6), (1, 7)] (List.mem_of_getElem? (i := 0) rfl), hf [(20, 0), (1, 6), (-1, 7)] (List.mem_of_getElem? (i := 1) rfl), hf [(-20, 0), (-1, 6), (1, 8)] (List.mem_of_getElem? (i := 2) rfl), hf [(20, 0), (1, 6), (-1, 8)] (List.mem_of_getElem? (i := 3) rfl), hf [(680, 0), (-1, 6)] (List.mem_of_getElem? (i := 4) rfl), hf [(1, 8)] (List.mem_of_getElem? (i := 5) rfl), hf [(700, 0), (-1, 8)] (List.mem_of_getElem? (i := 6) rfl)⟩)
theorem up_r0 {ρ : Nat → Int} {M M' : sM} {rv : Option sV} (h : qPost kc_r0 ρ M rv M') : ∃ ρ' : Nat → Int, (∀ a, a < 7 → ρ' a = ρ a) ∧ rv = qRv 0 (ρ' 7) ∧ (M' 91 2 = ρ' 8) ∧ ((0 ≤ 1 * ρ' 0 + (1 * ρ' 7 + 0) ∧ 0 ≤ -1 * ρ' 0 + (-1 * ρ' 7 + 0) ∧ 0 ≤ -1 * ρ' 6 + (1 * ρ' 8 + 0) ∧ 0 ≤ 1 * ρ' 6 + (-1 * ρ' 8 + 0) ∧ 0 ≤ -681 * ρ' 0 + (1 * ρ' 6 + 0) ∧ 0 ≤ 1 * ρ' 8 + 0 ∧ 0 ≤ 700 * ρ' 0 + (-1 * ρ' 8 + 0)) ∨ (0 ≤ -20 * ρ' 0 + (-1 * ρ' 6 + (1 * ρ' 7 + 0)) ∧ 0 ≤ 20 * ρ' 0 + (1 * ρ' 6 + (-1 * ρ' 7 + 0)) ∧ 0 ≤ -20 * ρ' 0 + (-1 * ρ' 6 + (1 * ρ' 8 + 0)) ∧ 0 ≤ 20 * ρ' 0 + (1 * ρ' 6 + (-1 * ρ' 8 + 0)) ∧ 0 ≤ 680 * ρ' 0 + (-1 * ρ' 6 + 0) ∧ 0 ≤ 1 * ρ' 8 + 0 ∧ 0 ≤ 700 * ρ' 0 + (-1 * ρ' 8 + 0))) ∧ sI M' ∧ sF (cS kc_r0) M M' := by
  obtain ⟨ρ', h1, h2, ⟨al, hal, hf⟩, h3, h4, h5⟩ := h
  refine ⟨ρ', h1, h2, h3 (91, 2, 8) (List.mem_of_getElem? (i := 0) rfl), ?_, h4, h5⟩
  have hal : al ∈ ([[[(1, 0), (1, 7)], [(-1, 0), (-1, 7)], [(-1, 6), (1, 8)], [(1, 6), (-1, 8)], [(-681, 0), (1, 6)], [(1, 8)], [(700, 0), (-1, 8)]], [[(-20, 0), (-1, 6), (1, 7)], [(20, 0), (1, 6), (-1, 7)], [(-20, 0), (-1, 6), (1, 8)], [(20, 0), (1, 6), (-1, 8)], [(680, 0), (-1, 6)], [(1, 8)], [(700, 0), (-1, 8)]]] : List (List qF)) := hal
  simp only [List.mem_cons, List.not_mem_nil, or_false] at hal
  rcases hal with rfl | rfl
  · exact Or.inl ⟨hf [(1, 0), (1, 7)] (List.mem_of_getElem? (i := 0) rfl), hf [(-1, 0), (-1, 7)] (List.mem_of_getElem? (i := 1) rfl), hf [(-1, 6), (1, 8)] (List.mem_of_getElem? (i := 2) rfl), hf [(1, 6), (-1, 8)] (List.mem_of_getElem? (i := 3) rfl), hf [(-681, 0), (1, 6)] (List.mem_of_getElem? (i := 4) rfl), hf [(1, 8)] (List.mem_of_getElem? (i := 5) rfl), hf [(700, 0), (-1, 8)] (List.mem_of_getElem? (i := 6) rfl)⟩
  · exact Or.inr (⟨hf [(-20, 0), (-1, 6), (1, 7)] (List.mem_of_getElem? (i := 0) rfl), hf [(20, 0), (1, 6), (-1, 7)] (List.mem_of_getElem? (i := 1) rfl), hf [(-20, 0), (-1, 6), (1, 8)] (List.mem_of_getElem? (i := 2) rfl), hf [(20, 0), (1, 6), (-1, 8)] (List.mem_of_getElem? (i := 3) rfl), hf [(680, 0), (-1, 6)] (List.mem_of_getElem? (i := 4) rfl), hf [(1, 8)] (List.mem_of_getElem? (i := 5) rfl), hf [(700, 0), (-1, 8)] (List.mem_of_getElem? (i := 6) rfl)⟩)
theorem up_59 {ρ : Nat → Int} {M M' : sM} {rv : Option sV} (h : qPost kc_59 ρ M rv M') : ∃ ρ' : Nat → Int, (∀ a, a < 3 → ρ' a = ρ a) ∧ rv = qRv 0 (ρ' 3) ∧ (M' 0 1 = ρ' 4 ∧ M' 0 5 = ρ' 5 ∧ M' 0 6 = ρ' 6 ∧ M' 58 4 = ρ' 7) ∧ ((0 ≤ -2 * ρ' 0 + (1 * ρ' 5 + 0) ∧ 0 ≤ 2 * ρ' 0 + (-1 * ρ' 5 + 0) ∧ 0 ≤ -28 * ρ' 0 + (1 * ρ' 6 + 0) ∧ 0 ≤ 28 * ρ' 0 + (-1 * ρ' 6 + 0) ∧ 0 ≤ -2 * ρ' 0 + (1 * ρ' 7 + 0) ∧ 0 ≤ 2 * ρ' 0 + (-1 * ρ' 7 + 0) ∧ 0 ≤ -1 * ρ' 2 + (1 * ρ' 4 + 0) ∧ 0 ≤ 1 * ρ' 2 + (-1 * ρ' 4 + 0) ∧ 0 ≤ -1 * ρ' 0 + (-1 * ρ' 1 + 0) ∧ 0 ≤ 1 * ρ' 4 + 0 ∧ 0 ≤ 700 * ρ' 0 + (-1 * ρ' 4 + 0)) ∨ (0 ≤ -2 * ρ' 0 + (1 * ρ' 5 + 0) ∧ 0 ≤ 2 * ρ' 0 + (-1 * ρ' 5 + 0) ∧ 0 ≤ -28 * ρ' 0 + (1 * ρ' 6 + 0) ∧ 0 ≤ 28 * ρ' 0 + (-1 * ρ' 6 + 0) ∧ 0 ≤ -2 * ρ' 0 + (1 * ρ' 7 + 0) ∧ 0 ≤ 2 * ρ' 0 + (-1 * ρ' 7 + 0) ∧ 0 ≤ -1 * ρ' 2 + (1 * ρ' 4 + 0) ∧ 0 ≤ 1 * ρ' 2 + (-1 * ρ' 4 + 0) ∧ 0 ≤ -1 * ρ' 0 + (1 * ρ' 1 + (-1 * ρ' 2 + 0)) ∧ 0 ≤ 1 * ρ' 4 + 0 ∧ 0 ≤ 700 * ρ' 0 + (-1 * ρ' 4 + 0)) ∨ (0 ≤ -2 * ρ' 0 + (1 * ρ' 5 + 0) ∧ 0 ≤ 2 * ρ' 0 + (-1 * ρ' 5 + 0) ∧ 0 ≤ -28 * ρ' 0 + (1 * ρ' 6 + 0) ∧ 0 ≤ 28 * ρ' 0 + (-1 * ρ' 6 + 0) ∧ 0 ≤ -2 * ρ' 0 + (1 * ρ' 7 + 0) ∧ 0 ≤ 2 * ρ' 0 + (-1 * ρ' 7 + 0) ∧ 0 ≤ 1 * ρ' 4 + 0 ∧ 0 ≤ -1 * ρ' 4 + 0 ∧ 0 ≤ 1 * ρ' 1 + 0 ∧ 0 ≤ -1 * ρ' 1 + (1 * ρ' 2 + 0) ∧ 0 ≤ 700 * ρ' 0 + (-1 * ρ' 4 + 0)) ∨ (0 ≤ -28 * ρ' 0 + (1 * ρ' 5 + 0) ∧ 0 ≤ 28 * ρ' 0 + (-1 * ρ' 5 + 0) ∧ 0 ≤ -2 * ρ' 0 + (1 * ρ' 6 + 0) ∧ 0 ≤ 2 * ρ' 0 + (-1 * ρ' 6 + 0) ∧ 0 ≤ -28 * ρ' 0 + (1 * ρ' 7 + 0) ∧ 0 ≤ 28 * ρ' 0 + (-1 * ρ' 7 + 0) ∧ 0 ≤ 1 * ρ' 4 + 0 ∧ 0 ≤ -1 * ρ' 4 + 0 ∧ 0 ≤ 1 * ρ' 1 + 0 ∧ 0 ≤ -1 * ρ' 1 + (1 * ρ' 2 + 0) ∧ 0 ≤ 700 * ρ' 0 + (-1 * ρ' 4 + 0))) ∧ sI M' ∧ sF (cS kc_59) M M' := by
  obtain ⟨ρ', h1, h2, ⟨al, hal, hf⟩, h3, h4, h5⟩ := h
  refine ⟨ρ', h1, h2, ⟨h3 (0, 1, 4) (List.mem_of_getElem? (i := 0) rfl), h3 (0, 5, 5) (List.mem_of_getElem? (i := 1) rfl), h3 (0, 6, 6) (List.mem_of_getElem? (i := 2) rfl), h3 (58, 4, 7) (List.mem_of_getElem? (i := 3) rfl)⟩, ?_, h4, h5⟩
  have hal : al ∈ ([[[(-2, 0), (1, 5)], [(2, 0), (-1, 5)], [(-28, 0), (1, 6)], [(28, 0), (-1, 6)], [(-2, 0), (1, 7)], [(2, 0), (-1, 7)], [(-1, 2), (1, 4)], [(1, 2), (-1, 4)], [(-1, 0), (-1, 1)], [(1, 4)], [(700, 0), (-1, 4)]], [[(-2, 0), (1, 5)], [(2, 0), (-1, 5)], [(-28, 0), (1, 6)], [(28, 0), (-1, 6)], [(-2, 0), (1, 7)], [(2, 0), (-1, 7)], [(-1, 2), (1, 4)], [(1, 2), (-1, 4)], [(-1, 0), (1, 1), (-1, 2)], [(1, 4)], [(700, 0), (-1, 4)]], [[(-2, 0), (1, 5)], [(2, 0), (-1, 5)], [(-28, 0), (1, 6)], [(28, 0), (-1, 6)], [(-2, 0), (1, 7)], [(2, 0), (-1, 7)], [(1, 4)], [(-1, 4)], [(1, 1)], [(-1, 1), (1, 2)], [(700, 0), (-1, 4)]], [[(-28, 0), (1, 5)], [(28, 0), (-1, 5)], [(-2, 0), (1, 6)], [(2, 0), (-1, 6)], [(-28, 0), (1, 7)], [(28, 0), (-1, 7)], [(1, 4)], [(-1, 4)], [(1, 1)], [(-1, 1), (1, 2)], [(700, 0), (-1, 4)]]] : List (List qF)) := hal
  simp only [List.mem_cons, List.not_mem_nil, or_false] at hal
  rcases hal with rfl | rfl | rfl | rfl
  · exact Or.inl ⟨hf [(-2, 0), (1, 5)] (List.mem_of_getElem? (i := 0) rfl), hf [(2, 0), (-1, 5)] (List.mem_of_getElem? (i := 1) rfl), hf [(-28, 0), (1, 6)] (List.mem_of_getElem? (i := 2) rfl), hf [(28, 0), (-1, 6)] (List.mem_of_getElem? (i := 3) rfl), hf [(-2, 0), (1, 7)] (List.mem_of_getElem? (i := 4) rfl), hf [(2, 0), (-1, 7)] (List.mem_of_getElem? (i := 5) rfl), hf [(-1, 2), (1, 4)] (List.mem_of_getElem? (i := 6) rfl), hf [(1, 2), (-1, 4)] (List.mem_of_getElem? (i := 7) rfl), hf [(-1, 0), (-1, 1)] (List.mem_of_getElem? (i := 8) rfl), hf [(1, 4)] (List.mem_of_getElem? (i := 9) rfl), hf [(700, 0), (-1, 4)] (List.mem_of_getElem? (i := 10) rfl)⟩
  · exact Or.inr (Or.inl ⟨hf [(-2, 0), (1, 5)] (List.mem_of_getElem? (i := 0) rfl), hf [(2, 0), (-1, 5)] (List.mem_of_getElem? (i := 1) rfl), hf [(-28, 0), (1, 6)] (List.mem_of_getElem? (i := 2) rfl), hf [(28, 0), (-1, 6)] (List.mem_of_getElem? (i := 3) rfl), hf [(-2, 0), (1, 7)] (List.mem_of_getElem? (i := 4) rfl), hf [(2, 0), (-1, 7)] (List.mem_of_getElem? (i := 5) rfl), hf [(-1, 2), (1, 4)] (List.mem_of_getElem? (i := 6) rfl), hf [(1, 2), (-1, 4)] (List.mem_of_getElem? (i := 7) rfl), hf [(-1, 0), (1, 1), (-1, 2)] (List.mem_of_getElem? (i := 8) rfl), hf [(1, 4)] (List.mem_of_getElem? (i := 9) rfl), hf [(700, 0), (-1, 4)] (List.mem_of_getElem? (i := 10) rfl)⟩)
  · exact Or.inr (Or.inr (Or.inl ⟨hf [(-2, 0), (1, 5)] (List.mem_of_getElem? (i := 0) rfl), hf [(2, 0), (-1, 5)] (List.mem_of_getElem? (i := 1) rfl), hf [(-28, 0), (1, 6)] (List.mem_of_getElem? (i := 2) rfl), hf [(28, 0), (-1, 6)] (List.mem_of_getElem? (i := 3) rfl), hf [(-2, 0), (1, 7)] (List.mem_of_getElem? (i := 4) rfl), hf [(2, 0), (-1, 7)] (List.mem_of_getElem? (i := 5) rfl), hf [(1, 4)] (List.mem_of_getElem? (i := 6) rfl), hf [(-1, 4)] (List.mem_of_getElem? (i := 7) rfl), hf [(1, 1)] (List.mem_of_getElem? (i := 8) rfl), hf [(-1, 1), (1, 2)] (List.mem_of_getElem? (i := 9) rfl), hf [(700, 0), (-1, 4)] (List.mem_of_getElem? (i := 10) rfl)⟩))
  · exact Or.inr (Or.inr (Or.inr (⟨hf [(-28, 0), (1, 5)] (List.mem_of_getElem? (i := 0) rfl), hf [(28, 0), (-1, 5)] (List.mem_of_getElem? (i := 1) rfl), hf [(-2, 0), (1, 6)] (List.mem_of_getElem? (i := 2) rfl), hf [(2, 0), (-1, 6)] (List.mem_of_getElem? (i := 3) rfl), hf [(-28, 0), (1, 7)] (List.mem_of_getElem? (i := 4) rfl), hf [(28, 0), (-1, 7)] (List.mem_of_getElem? (i := 5) rfl), hf [(1, 4)] (List.mem_of_getElem? (i := 6) rfl), hf [(-1, 4)] (List.mem_of_getElem? (i := 7) rfl), hf [(1, 1)] (List.mem_of_getElem? (i := 8) rfl), hf [(-1, 1), (1, 2)] (List.mem_of_getElem? (i := 9) rfl), hf [(700, 0), (-1, 4)] (List.mem_of_getElem? (i := 10) rfl)⟩)))
theorem up_209 {ρ : Nat → Int} {M M' : sM} {rv : Option sV} (h : qPost kc_209 ρ M rv M') : ∃ ρ' : Nat → Int, (∀ a, a < 3 → ρ' a = ρ a) ∧ rv = qRv 0 (ρ' 3) ∧ (M' 0 1 = ρ' 4 ∧ M' 0 5 = ρ' 5 ∧ M' 0 6 = ρ' 6 ∧ M' 58 4 = ρ' 7) ∧ ((0 ≤ -28 * ρ' 0 + (1 * ρ' 5 + 0) ∧ 0 ≤ 28 * ρ' 0 + (-1 * ρ' 5 + 0) ∧ 0 ≤ -2 * ρ' 0 + (1 * ρ' 6 + 0) ∧ 0 ≤ 2 * ρ' 0 + (-1 * ρ' 6 + 0) ∧ 0 ≤ -28 * ρ' 0 + (1 * ρ' 7 + 0) ∧ 0 ≤ 28 * ρ' 0 + (-1 * ρ' 7 + 0) ∧ 0 ≤ -1 * ρ' 2 + (1 * ρ' 4 + 0) ∧ 0 ≤ 1 * ρ' 2 + (-1 * ρ' 4 + 0) ∧ 0 ≤ -1 * ρ' 0 + (-1 * ρ' 1 + 0) ∧ 0 ≤ 1 * ρ' 4 + 0 ∧ 0 ≤ 700 * ρ' 0 + (-1 * ρ' 4 + 0)) ∨ (0 ≤ -28 * ρ' 0 + (1 * ρ' 5 + 0) ∧ 0 ≤ 28 * ρ' 0 + (-1 * ρ' 5 + 0) ∧ 0 ≤ -2 * ρ' 0 + (1 * ρ' 6 + 0) ∧ 0 ≤ 2 * ρ' 0 + (-1 * ρ' 6 + 0) ∧ 0 ≤ -28 * ρ' 0 + (1 * ρ' 7 + 0) ∧ 0 ≤ 28 * ρ' 0 + (-1 * ρ' 7 + 0) ∧ 0 ≤ -1 * ρ' 2 + (1 * ρ' 4 + 0) ∧ 0 ≤ 1 * ρ' 2 + (-1 * ρ' 4 + 0) ∧ 0 ≤ -1 * ρ' 0 + (1 * ρ' 1 + (-1 * ρ' 2 + 0)) ∧ 0 ≤ 1 * ρ' 4 + 0 ∧ 0 ≤ 700 * ρ' 0 + (-1 * ρ' 4 + 0)) ∨ (0 ≤ -28 * ρ' 0 + (1 * ρ' 5 + 0) ∧ 0 ≤ 28 * ρ' 0 + (-1 * ρ' 5 + 0) ∧ 0 ≤ -2 * ρ' 0 + (1 * ρ' 6 + 0) ∧ 0 ≤ 2 * ρ' 0 + (-1 * ρ' 6 + 0) ∧ 0 ≤ -28 * ρ' 0 + (1 * ρ' 7 + 0) ∧ 0 ≤ 28 * ρ' 0 + (-1 * ρ' 7 + 0) ∧ 0 ≤ 1 * ρ' 4 + 0 ∧ 0 ≤ -1 * ρ' 4 + 0 ∧ 0 ≤ 1 * ρ' 1 + 0 ∧ 0 ≤ -1 * ρ' 1 + (1 * ρ' 2 + 0) ∧ 0 ≤ 700 * ρ' 0 + (-1 * ρ' 4 + 0)) ∨ (0 ≤ -2 * ρ' 0 + (1 * ρ' 5 + 0) ∧ 0 ≤ 2 * ρ' 0 + (-1 * ρ' 5 + 0) ∧ 0 ≤ -28 * ρ' 0 + (1 * ρ' 6 + 0) ∧ 0 ≤ 28 * ρ' 0 + (-1 * ρ' 6 + 0) ∧ 0 ≤ -2 * ρ' 0 + (1 * ρ' 7 + 0) ∧ 0 ≤ 2 * ρ' 0 + (-1 * ρ' 7 + 0) ∧ 0 ≤ 1 * ρ' 4 + 0 ∧ 0 ≤ -1 * ρ' 4 + 0 ∧ 0 ≤ 1 * ρ' 1 + 0 ∧ 0 ≤ -1 * ρ' 1 + (1 * ρ' 2 + 0) ∧ 0 ≤ 700 * ρ' 0 + (-1 * ρ' 4 + 0))) ∧ sI M' ∧ sF (cS kc_209) M M' := by
  obtain ⟨ρ', h1, h2, ⟨al, hal, hf⟩, h3, h4, h5⟩ := h
  refine ⟨ρ', h1, h2, ⟨h3 (0, 1, 4) (List.mem_of_getElem? (i := 0) rfl), h3 (0, 5, 5) (List.mem_of_getElem? (i := 1) rfl), h3 (0, 6, 6) (List.mem_of_getElem? (i := 2) rfl), h3 (58, 4, 7) (List.mem_of_getElem? (i := 3) rfl)⟩, ?_, h4, h5⟩
  have hal : al ∈ ([[[(-28, 0), (1, 5)], [(28, 0), (-1, 5)], [(-2, 0), (1, 6)], [(2, 0), (-1, 6)], [(-28, 0), (1, 7)], [(28, 0), (-1, 7)], [(-1, 2), (1, 4)], [(1, 2), (-1, 4)], [(-1, 0), (-1, 1)], [(1, 4)], [(700, 0), (-1, 4)]], [[(-28, 0), (1, 5)], [(28, 0), (-1, 5)], [(-2, 0), (1, 6)], [(2, 0), (-1, 6)], [(-28, 0), (1, 7)], [(28, 0), (-1, 7)], [(-1, 2), (1, 4)], [(1, 2), (-1, 4)], [(-1, 0), (1, 1), (-1, 2)], [(1, 4)], [(700, 0), (-1, 4)]], [[(-28, 0), (1, 5)], [(28, 0), (-1, 5)], [(-2, 0), (1, 6)], [(2, 0), (-1, 6)], [(-28, 0), (1, 7)], [(28, 0), (-1, 7)], [(1, 4)], [(-1, 4)], [(1, 1)], [(-1, 1), (1, 2)], [(700, 0), (-1, 4)]], [[(-2, 0), (1, 5)], [(2, 0), (-1, 5)], [(-28, 0), (1, 6)], [(28, 0), (-1, 6)], [(-2, 0), (1, 7)], [(2, 0), (-1, 7)], [(1, 4)], [(-1, 4)], [(1, 1)], [(-1, 1), (1, 2)], [(700, 0), (-1, 4)]]] : List (List qF)) := hal
  simp only [List.mem_cons, List.not_mem_nil, or_false] at hal
  rcases hal with rfl | rfl | rfl | rfl
  · exact Or.inl ⟨hf [(-28, 0), (1, 5)] (List.mem_of_getElem? (i := 0) rfl), hf [(28, 0), (-1, 5)] (List.mem_of_getElem? (i := 1) rfl), hf [(-2, 0), (1, 6)] (List.mem_of_getElem? (i := 2) rfl), hf [(2, 0), (-1, 6)] (List.mem_of_getElem? (i := 3) rfl), hf [(-28, 0), (1, 7)] (List.mem_of_getElem? (i := 4) rfl), hf [(28, 0), (-1, 7)] (List.mem_of_getElem? (i := 5) rfl), hf [(-1, 2), (1, 4)] (List.mem_of_getElem? (i := 6) rfl), hf [(1, 2), (-1, 4)] (List.mem_of_getElem? (i := 7) rfl), hf [(-1, 0), (-1, 1)] (List.mem_of_getElem? (i := 8) rfl), hf [(1, 4)] (List.mem_of_getElem? (i := 9) rfl), hf [(700, 0), (-1, 4)] (List.mem_of_getElem? (i := 10) rfl)⟩
  · exact Or.inr (Or.inl ⟨hf [(-28, 0), (1, 5)] (List.mem_of_getElem? (i := 0) rfl), hf [(28, 0), (-1, 5)] (List.mem_of_getElem? (i := 1) rfl), hf [(-2, 0), (1, 6)] (List.mem_of_getElem? (i := 2) rfl), hf [(2, 0), (-1, 6)] (List.mem_of_getElem? (i := 3) rfl), hf [(-28, 0), (1, 7)] (List.mem_of_getElem? (i := 4) rfl), hf [(28, 0), (-1, 7)] (List.mem_of_getElem? (i := 5) rfl), hf [(-1, 2), (1, 4)] (List.mem_of_getElem? (i := 6) rfl), hf [(1, 2), (-1, 4)] (List.mem_of_getElem? (i := 7) rfl), hf [(-1, 0), (1, 1), (-1, 2)] (List.mem_of_getElem? (i := 8) rfl), hf [(1, 4)] (List.mem_of_getElem? (i := 9) rfl), hf [(700, 0), (-1, 4)] (List.mem_of_getElem? (i := 10) rfl)⟩)
  · exact Or.inr (Or.inr (Or.inl ⟨hf [(-28, 0), (1, 5)] (List.mem_of_getElem? (i := 0) rfl), hf [(28, 0), (-1, 5)] (List.mem_of_getElem? (i := 1) rfl), hf [(-2, 0), (1, 6)] (List.mem_of_getElem? (i := 2) rfl), hf [(2, 0), (-1, 6)] (List.mem_of_getElem? (i := 3) rfl), hf [(-28, 0), (1, 7)] (List.mem_of_getElem? (i := 4) rfl), hf [(28, 0), (-1, 7)] (List.mem_of_getElem? (i := 5) rfl), hf [(1, 4)] (List.mem_of_getElem? (i := 6) rfl), hf [(-1, 4)] (List.mem_of_getElem? (i := 7) rfl), hf [(1, 1)] (List.mem_of_getElem? (i := 8) rfl), hf [(-1, 1), (1, 2)] (List.mem_of_getElem? (i := 9) rfl), hf [(700, 0), (-1, 4)] (List.mem_of_getElem? (i := 10) rfl)⟩))
  · exact Or.inr (Or.inr (Or.inr (⟨hf [(-2, 0), (1, 5)] (List.mem_of_getElem? (i := 0) rfl), hf [(2, 0), (-1, 5)] (List.mem_of_getElem? (i := 1) rfl), hf [(-28, 0), (1, 6)] (List.mem_of_getElem? (i := 2) rfl), hf [(28, 0), (-1, 6)] (List.mem_of_getElem? (i := 3) rfl), hf [(-2, 0), (1, 7)] (List.mem_of_getElem? (i := 4) rfl), hf [(2, 0), (-1, 7)] (List.mem_of_getElem? (i := 5) rfl), hf [(1, 4)] (List.mem_of_getElem? (i := 6) rfl), hf [(-1, 4)] (List.mem_of_getElem? (i := 7) rfl), hf [(1, 1)] (List.mem_of_getElem? (i := 8) rfl), hf [(-1, 1), (1, 2)] (List.mem_of_getElem? (i := 9) rfl), hf [(700, 0), (-1, 4)] (List.mem_of_getElem? (i := 10) rfl)⟩)))
theorem up_r558 {ρ : Nat → Int} {M M' : sM} {rv : Option sV} (h : qPost kc_r558 ρ M rv M') : ∃ ρ' : Nat → Int, (∀ a, a < 3 → ρ' a = ρ a) ∧ rv = qRv 0 (ρ' 3) ∧ (M' 91 2 = ρ' 4 ∧ M' 91 991 = 1 ∧ M' 91 992 = 50 ∧ M' 91 975 = 1 ∧ M' 91 995 = 1 ∧ M' 91 974 = 1) ∧ ((0 ≤ -1 * ρ' 2 + (1 * ρ' 4 + 0) ∧ 0 ≤ 1 * ρ' 2 + (-1 * ρ' 4 + 0) ∧ 0 ≤ -1 * ρ' 0 + (-1 * ρ' 1 + 0) ∧ 0 ≤ 1 * ρ' 4 + 0 ∧ 0 ≤ 700 * ρ' 0 + (-1 * ρ' 4 + 0)) ∨ (0 ≤ -1 * ρ' 2 + (1 * ρ' 4 + 0) ∧ 0 ≤ 1 * ρ' 2 + (-1 * ρ' 4 + 0) ∧ 0 ≤ -1 * ρ' 0 + (1 * ρ' 1 + (-1 * ρ' 2 + 0)) ∧ 0 ≤ 1 * ρ' 4 + 0 ∧ 0 ≤ 700 * ρ' 0 + (-1 * ρ' 4 + 0)) ∨ (0 ≤ 1 * ρ' 4 + 0 ∧ 0 ≤ -1 * ρ' 4 + 0 ∧ 0 ≤ 1 * ρ' 1 + 0 ∧ 0 ≤ -1 * ρ' 1 + (1 * ρ' 2 + 0) ∧ 0 ≤ 700 * ρ' 0 + (-1 * ρ' 4 + 0))) ∧ sI M' ∧ sF (cS kc_r558) M M' := by
  obtain ⟨ρ', h1, h2, ⟨al, hal, hf⟩, h3, h4, h5⟩ := h
  refine ⟨ρ', h1, h2, ⟨h3 (91, 2, 4) (List.mem_of_getElem? (i := 0) rfl), h3 (91, 991, 100001) (List.mem_of_getElem? (i := 1) rfl), h3 (91, 992, 100050) (List.mem_of_getElem? (i := 2) rfl), h3 (91, 975, 100001) (List.mem_of_getElem? (i := 3) rfl), h3 (91, 995, 100001) (List.mem_of_getElem? (i := 4) rfl), h3 (91, 974, 100001) (List.mem_of_getElem? (i := 5) rfl)⟩, ?_, h4, h5⟩
  have hal : al ∈ ([[[(-1, 2), (1, 4)], [(1, 2), (-1, 4)], [(-1, 0), (-1, 1)], [(1, 4)], [(700, 0), (-1, 4)]], [[(-1, 2), (1, 4)], [(1, 2), (-1, 4)], [(-1, 0), (1, 1), (-1, 2)], [(1, 4)], [(700, 0), (-1, 4)]], [[(1, 4)], [(-1, 4)], [(1, 1)], [(-1, 1), (1, 2)], [(700, 0), (-1, 4)]]] : List (List qF)) := hal
  simp only [List.mem_cons, List.not_mem_nil, or_false] at hal
  rcases hal with rfl | rfl | rfl
  · exact Or.inl ⟨hf [(-1, 2), (1, 4)] (List.mem_of_getElem? (i := 0) rfl), hf [(1, 2), (-1, 4)] (List.mem_of_getElem? (i := 1) rfl), hf [(-1, 0), (-1, 1)] (List.mem_of_getElem? (i := 2) rfl), hf [(1, 4)] (List.mem_of_getElem? (i := 3) rfl), hf [(700, 0), (-1, 4)] (List.mem_of_getElem? (i := 4) rfl)⟩
  · exact Or.inr (Or.inl ⟨hf [(-1, 2), (1, 4)] (List.mem_of_getElem? (i := 0) rfl), hf [(1, 2), (-1, 4)] (List.mem_of_getElem? (i := 1) rfl), hf [(-1, 0), (1, 1), (-1, 2)] (List.mem_of_getElem? (i := 2) rfl), hf [(1, 4)] (List.mem_of_getElem? (i := 3) rfl), hf [(700, 0), (-1, 4)] (List.mem_of_getElem? (i := 4) rfl)⟩)
  · exact Or.inr (Or.inr (⟨hf [(1, 4)] (List.mem_of_getElem? (i := 0) rfl), hf [(-1, 4)] (List.mem_of_getElem? (i := 1) rfl), hf [(1, 1)] (List.mem_of_getElem? (i := 2) rfl), hf [(-1, 1), (1, 2)] (List.mem_of_getElem? (i := 3) rfl), hf [(700, 0), (-1, 4)] (List.mem_of_getElem? (i := 4) rfl)⟩))
theorem uo_0 {M : sM} (hM : uG M) (J : pHp) (x1 : Int32) (x2 : Int32) (x3 : Int32) (x4 : Int32) (x5 : Int32) : ∃ (v : Int32) (M1 M2 : sM), pEx 300 25 [.ref 0, .int x1, .int x2, .int x3, .int x4, .int x5] (sHp sLay M ++ J) (some (.int v)) (sHp sLay M1 ++ J) ∧ pEx 300 168 [.ref 91, .int x1, .int x2, .int x3, .int x4, .int x5] (sHp sLay M1 ++ J) (some (.int v)) (sHp sLay M2 ++ J) ∧ uG M2 := by
  obtain ⟨r, hr, hs, hf⟩ := hM
  rcases hr with rfl | rfl
  · obtain ⟨rv1, N1', e1, p1, q1⟩ := u_run ko_1 (r := 2) (o := 0) (bs := [false, false, false, false, false]) (by decide +kernel) hs (as := [x1.toInt, x2.toInt, x3.toInt, x4.toInt, x5.toInt]) ⟨⟨uarg_i _, fun h => nomatch h⟩, ⟨⟨uarg_i _, fun h => nomatch h⟩, ⟨⟨uarg_i _, fun h => nomatch h⟩, ⟨⟨uarg_i _, fun h => nomatch h⟩, ⟨⟨uarg_i _, fun h => nomatch h⟩, trivial⟩⟩⟩⟩⟩ J (N := 300) (by decide)
    have s1 := ukeep_ok (c := kc_1) (r := 2) (by decide +kernel) hs p1
    obtain ⟨ρ1, u1, w1, t1, z1, -, y1⟩ := up_1 p1
    have g1 := q1 _ (List.mem_of_getElem? (i := 0) rfl)
    obtain ⟨rv2, N2', e2, p2, q2⟩ := u_run ko_r0 (r := 2) (o := 91) (bs := [false, false, false, false, false]) (by decide +kernel) s1 (as := [x1.toInt, x2.toInt, x3.toInt, x4.toInt, x5.toInt]) ⟨⟨uarg_i _, fun h => nomatch h⟩, ⟨⟨uarg_i _, fun h => nomatch h⟩, ⟨⟨uarg_i _, fun h => nomatch h⟩, ⟨⟨uarg_i _, fun h => nomatch h⟩, ⟨⟨uarg_i _, fun h => nomatch h⟩, trivial⟩⟩⟩⟩⟩ J (N := 300) (by decide)
    have s2 := ukeep_ok (c := kc_r0) (r := 2) (by decide +kernel) s1 p2
    obtain ⟨ρ2, u2, w2, t2, z2, -, y2⟩ := up_r0 p2
    have g2 := q2 _ (List.mem_of_getElem? (i := 0) rfl)
    have k1 : N1' 91 2 = M 91 2 := y1 91 2 (by decide +kernel)
    have k2 : N2' 0 1 = N1' 0 1 := y2 0 1 (by decide +kernel)
    rw [show M 0 1 = ρ1 6 by rw [u1 6 (by decide)]; exact g1.trans (qd_at.trans (by omega))] at hf
    rw [k1, show M 91 2 = ρ1 6 from hf.symm] at g2
    have g3 : ρ2 6 = ρ1 6 := by rw [u2 6 (by decide)]; exact (g2.trans (qd_at.trans (by omega))).symm
    have o1 : ρ1 0 = 1 := u1 0 (by decide)
    have o2 : ρ2 0 = 1 := u2 0 (by decide)
    rw [o1] at z1
    rw [o2] at z2
    have hv : ρ2 7 = ρ1 7 := by omega
    have hw : N2' 0 1 = N2' 91 2 := by rw [k2, t1, t2]; omega
    rw [w1] at e1
    rw [w2, hv] at e2
    simp only [List.map_cons, List.map_nil, i32_of] at e1 e2
    exact ⟨Int32.ofInt (ρ1 7), N1', N2', e1, e2, 2, Or.inl rfl, s2, hw⟩
  · obtain ⟨rv1, N1', e1, p1, q1⟩ := u_run ko_1 (r := 28) (o := 0) (bs := [false, false, false, false, false]) (by decide +kernel) hs (as := [x1.toInt, x2.toInt, x3.toInt, x4.toInt, x5.toInt]) ⟨⟨uarg_i _, fun h => nomatch h⟩, ⟨⟨uarg_i _, fun h => nomatch h⟩, ⟨⟨uarg_i _, fun h => nomatch h⟩, ⟨⟨uarg_i _, fun h => nomatch h⟩, ⟨⟨uarg_i _, fun h => nomatch h⟩, trivial⟩⟩⟩⟩⟩ J (N := 300) (by decide)
    have s1 := ukeep_ok (c := kc_1) (r := 28) (by decide +kernel) hs p1
    obtain ⟨ρ1, u1, w1, t1, z1, -, y1⟩ := up_1 p1
    have g1 := q1 _ (List.mem_of_getElem? (i := 0) rfl)
    obtain ⟨rv2, N2', e2, p2, q2⟩ := u_run ko_r0 (r := 28) (o := 91) (bs := [false, false, false, false, false]) (by decide +kernel) s1 (as := [x1.toInt, x2.toInt, x3.toInt, x4.toInt, x5.toInt]) ⟨⟨uarg_i _, fun h => nomatch h⟩, ⟨⟨uarg_i _, fun h => nomatch h⟩, ⟨⟨uarg_i _, fun h => nomatch h⟩, ⟨⟨uarg_i _, fun h => nomatch h⟩, ⟨⟨uarg_i _, fun h => nomatch h⟩, trivial⟩⟩⟩⟩⟩ J (N := 300) (by decide)
    have s2 := ukeep_ok (c := kc_r0) (r := 28) (by decide +kernel) s1 p2
    obtain ⟨ρ2, u2, w2, t2, z2, -, y2⟩ := up_r0 p2
    have g2 := q2 _ (List.mem_of_getElem? (i := 0) rfl)
    have k1 : N1' 91 2 = M 91 2 := y1 91 2 (by decide +kernel)
    have k2 : N2' 0 1 = N1' 0 1 := y2 0 1 (by decide +kernel)
    rw [show M 0 1 = ρ1 6 by rw [u1 6 (by decide)]; exact g1.trans (qd_at.trans (by omega))] at hf
    rw [k1, show M 91 2 = ρ1 6 from hf.symm] at g2
    have g3 : ρ2 6 = ρ1 6 := by rw [u2 6 (by decide)]; exact (g2.trans (qd_at.trans (by omega))).symm
    have o1 : ρ1 0 = 1 := u1 0 (by decide)
    have o2 : ρ2 0 = 1 := u2 0 (by decide)
    rw [o1] at z1
    rw [o2] at z2
    have hv : ρ2 7 = ρ1 7 := by omega
    have hw : N2' 0 1 = N2' 91 2 := by rw [k2, t1, t2]; omega
    rw [w1] at e1
    rw [w2, hv] at e2
    simp only [List.map_cons, List.map_nil, i32_of] at e1 e2
    exact ⟨Int32.ofInt (ρ1 7), N1', N2', e1, e2, 28, Or.inr rfl, s2, hw⟩
/-- text leaves all but the roads -/
def uKt (r : Int) : List (Nat × Nat × Int) := (uKs r).drop 3
theorem ukt_mem {r : Int} : ∀ q ∈ uKs r, q = (0, 5, r) ∨ q = (0, 6, 30 - r) ∨ q = (58, 4, r) ∨ q ∈ uKt r := by
  intro q hq
  simp only [uKs, List.mem_cons, List.not_mem_nil, or_false] at hq
  simp only [uKt, uKs, List.drop, List.mem_cons, List.not_mem_nil, or_false]
  exact hq
theorem uo_1 {M : sM} (hM : uG M) (J : pHp) (x1 : Int32) : ∃ (v1 : Int32) (M1 : sM) (v2 : Int32) (M2 : sM), pEx 300 27 [.ref 0, .int x1] (sHp sLay M ++ J) (some (.int v1)) (sHp sLay M1 ++ J) ∧ pEx 300 169 [.ref 91, .int x1] (sHp sLay M1 ++ J) (some (.int v2)) (sHp sLay M2 ++ J) ∧ uG M2 := by
  obtain ⟨r, hr, hs, hf⟩ := hM
  rcases hr with rfl | rfl
  · obtain ⟨rv1, N1', e1, p1, q1⟩ := u_run ko_59 (r := 2) (o := 0) (bs := [false]) (by decide +kernel) hs (as := [x1.toInt]) ⟨⟨uarg_i _, fun h => nomatch h⟩, trivial⟩ J (N := 300) (by decide)
    obtain ⟨ρ1, u1, w1, t1, z1, i1, y1⟩ := up_59 p1
    have g1 := q1 _ (List.mem_of_getElem? (i := 3) rfl)
    have o1 : ρ1 0 = 1 := u1 0 (by decide)
    have ox : ρ1 1 = x1.toInt := u1 1 (by decide)
    rw [o1, ox] at z1
    have k1 : N1' 91 2 = M 91 2 := y1 91 2 (by decide +kernel)
    have gf : ρ1 2 = M 0 1 := by rw [u1 2 (by decide)]; exact (g1.trans (qd_at.trans (by omega))).symm
    obtain ⟨r1, hr1, e5, e6, e4, hfe⟩ : ∃ r1 : Int, (r1 = 2 ∨ r1 = 28) ∧ N1' 0 5 = r1 ∧ N1' 0 6 = 30 - r1 ∧ N1' 58 4 = r1 ∧ ((N1' 0 1 = M 0 1 ∧ (x1.toInt ≤ -1 ∨ M 0 1 + 1 ≤ x1.toInt)) ∨ (N1' 0 1 = 0 ∧ 0 ≤ x1.toInt ∧ x1.toInt ≤ M 0 1)) := by
      rw [t1.2.1, t1.2.2.1, t1.2.2.2, t1.1]
      refine ⟨ρ1 5, ?_, rfl, ?_, ?_, ?_⟩
      · omega
      · omega
      · omega
      · omega
    have s1 : uSt r1 N1' := by
      refine ⟨i1, fun q hq => ?_⟩
      rcases ukt_mem q hq with rfl | rfl | rfl | h
      · exact e5
      · exact e6
      · exact e4
      · have hk : ∀ q ∈ uKt 2, sIn (cS kc_59) q.1 q.2.1 = false := by decide +kernel
        have h2 : q ∈ uKt 2 := h
        rw [y1 _ _ (hk q h2)]
        exact hs.2 q (List.mem_of_mem_drop h2)
    have two : ∃ (rv2 : Option sV) (N2' : sM), pEx 300 (cK kc_r558) (.ref 91 :: [x1.toInt].map (fun x => Value.int (Int32.ofInt x))) (sHp sLay N1' ++ J) (rv2.map sE) (sHp sLay N2' ++ J) ∧ qPost kc_r558 (uRho [x1.toInt] N1' (cM kc_r558)) N1' rv2 N2' ∧ (∀ q ∈ cM kc_r558, N1' q.1 q.2.1 = qD (uRho [x1.toInt] N1' (cM kc_r558)) q.2.2) ∧ uSt r1 N2' := by
      rcases hr1 with rfl | rfl
      · obtain ⟨rv2, N2', e2, p2, q2⟩ := u_run ko_r558 (r := 2) (o := 91) (bs := [false]) (by decide +kernel) s1 (as := [x1.toInt]) ⟨⟨uarg_i _, fun h => nomatch h⟩, trivial⟩ J (N := 300) (by decide)
        exact ⟨rv2, N2', e2, p2, q2, ukeep_ok (c := kc_r558) (r := 2) (by decide +kernel) s1 p2⟩
      · obtain ⟨rv2, N2', e2, p2, q2⟩ := u_run ko_r558 (r := 28) (o := 91) (bs := [false]) (by decide +kernel) s1 (as := [x1.toInt]) ⟨⟨uarg_i _, fun h => nomatch h⟩, trivial⟩ J (N := 300) (by decide)
        exact ⟨rv2, N2', e2, p2, q2, ukeep_ok (c := kc_r558) (r := 28) (by decide +kernel) s1 p2⟩
    obtain ⟨rv2, N2', e2, p2, q2, s2⟩ := two
    obtain ⟨ρ2, u2, w2, t2, z2, -, y2⟩ := up_r558 p2
    have g2 := q2 _ (List.mem_of_getElem? (i := 0) rfl)
    have o2 : ρ2 0 = 1 := u2 0 (by decide)
    have oy : ρ2 1 = x1.toInt := u2 1 (by decide)
    rw [o2, oy] at z2
    have k2 : N2' 0 1 = N1' 0 1 := y2 0 1 (by decide +kernel)
    have gg : ρ2 2 = N1' 91 2 := by rw [u2 2 (by decide)]; exact (g2.trans (qd_at.trans (by omega))).symm
    have hw : N2' 0 1 = N2' 91 2 := by rw [k2, t2.1]; omega
    rw [w1] at e1
    rw [w2] at e2
    simp only [List.map_cons, List.map_nil, i32_of] at e1 e2
    exact ⟨Int32.ofInt (ρ1 3), N1', Int32.ofInt (ρ2 3), N2', e1, e2, r1, hr1, s2, hw⟩
  · obtain ⟨rv1, N1', e1, p1, q1⟩ := u_run ko_209 (r := 28) (o := 0) (bs := [false]) (by decide +kernel) hs (as := [x1.toInt]) ⟨⟨uarg_i _, fun h => nomatch h⟩, trivial⟩ J (N := 300) (by decide)
    obtain ⟨ρ1, u1, w1, t1, z1, i1, y1⟩ := up_209 p1
    have g1 := q1 _ (List.mem_of_getElem? (i := 3) rfl)
    have o1 : ρ1 0 = 1 := u1 0 (by decide)
    have ox : ρ1 1 = x1.toInt := u1 1 (by decide)
    rw [o1, ox] at z1
    have k1 : N1' 91 2 = M 91 2 := y1 91 2 (by decide +kernel)
    have gf : ρ1 2 = M 0 1 := by rw [u1 2 (by decide)]; exact (g1.trans (qd_at.trans (by omega))).symm
    obtain ⟨r1, hr1, e5, e6, e4, hfe⟩ : ∃ r1 : Int, (r1 = 2 ∨ r1 = 28) ∧ N1' 0 5 = r1 ∧ N1' 0 6 = 30 - r1 ∧ N1' 58 4 = r1 ∧ ((N1' 0 1 = M 0 1 ∧ (x1.toInt ≤ -1 ∨ M 0 1 + 1 ≤ x1.toInt)) ∨ (N1' 0 1 = 0 ∧ 0 ≤ x1.toInt ∧ x1.toInt ≤ M 0 1)) := by
      rw [t1.2.1, t1.2.2.1, t1.2.2.2, t1.1]
      refine ⟨ρ1 5, ?_, rfl, ?_, ?_, ?_⟩
      · omega
      · omega
      · omega
      · omega
    have s1 : uSt r1 N1' := by
      refine ⟨i1, fun q hq => ?_⟩
      rcases ukt_mem q hq with rfl | rfl | rfl | h
      · exact e5
      · exact e6
      · exact e4
      · have hk : ∀ q ∈ uKt 28, sIn (cS kc_209) q.1 q.2.1 = false := by decide +kernel
        have h2 : q ∈ uKt 28 := h
        rw [y1 _ _ (hk q h2)]
        exact hs.2 q (List.mem_of_mem_drop h2)
    have two : ∃ (rv2 : Option sV) (N2' : sM), pEx 300 (cK kc_r558) (.ref 91 :: [x1.toInt].map (fun x => Value.int (Int32.ofInt x))) (sHp sLay N1' ++ J) (rv2.map sE) (sHp sLay N2' ++ J) ∧ qPost kc_r558 (uRho [x1.toInt] N1' (cM kc_r558)) N1' rv2 N2' ∧ (∀ q ∈ cM kc_r558, N1' q.1 q.2.1 = qD (uRho [x1.toInt] N1' (cM kc_r558)) q.2.2) ∧ uSt r1 N2' := by
      rcases hr1 with rfl | rfl
      · obtain ⟨rv2, N2', e2, p2, q2⟩ := u_run ko_r558 (r := 2) (o := 91) (bs := [false]) (by decide +kernel) s1 (as := [x1.toInt]) ⟨⟨uarg_i _, fun h => nomatch h⟩, trivial⟩ J (N := 300) (by decide)
        exact ⟨rv2, N2', e2, p2, q2, ukeep_ok (c := kc_r558) (r := 2) (by decide +kernel) s1 p2⟩
      · obtain ⟨rv2, N2', e2, p2, q2⟩ := u_run ko_r558 (r := 28) (o := 91) (bs := [false]) (by decide +kernel) s1 (as := [x1.toInt]) ⟨⟨uarg_i _, fun h => nomatch h⟩, trivial⟩ J (N := 300) (by decide)
        exact ⟨rv2, N2', e2, p2, q2, ukeep_ok (c := kc_r558) (r := 28) (by decide +kernel) s1 p2⟩
    obtain ⟨rv2, N2', e2, p2, q2, s2⟩ := two
    obtain ⟨ρ2, u2, w2, t2, z2, -, y2⟩ := up_r558 p2
    have g2 := q2 _ (List.mem_of_getElem? (i := 0) rfl)
    have o2 : ρ2 0 = 1 := u2 0 (by decide)
    have oy : ρ2 1 = x1.toInt := u2 1 (by decide)
    rw [o2, oy] at z2
    have k2 : N2' 0 1 = N1' 0 1 := y2 0 1 (by decide +kernel)
    have gg : ρ2 2 = N1' 91 2 := by rw [u2 2 (by decide)]; exact (g2.trans (qd_at.trans (by omega))).symm
    have hw : N2' 0 1 = N2' 91 2 := by rw [k2, t2.1]; omega
    rw [w1] at e1
    rw [w2] at e2
    simp only [List.map_cons, List.map_nil, i32_of] at e1 e2
    exact ⟨Int32.ofInt (ρ1 3), N1', Int32.ofInt (ρ2 3), N2', e1, e2, r1, hr1, s2, hw⟩
