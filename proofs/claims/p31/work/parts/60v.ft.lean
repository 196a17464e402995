/-! feed and text: what is fed on both sides, what is read. -/
theorem up_5 {ρ : Nat → Int} {M M' : sM} {rv : Option sV} (h : qPost kc_5 ρ M rv M') : ∃ ρ' : Nat → Int, (∀ a, a < 8 → ρ' a = ρ a) ∧ rv = qRv 0 (ρ' 8) ∧ (M' 0 1 = ρ' 9 ∧ M' 4 262 = ρ' 10 ∧ M' 4 263 = ρ' 11 ∧ M' 4 264 = ρ' 12 ∧ M' 4 265 = ρ' 13 ∧ M' 4 266 = ρ' 14 ∧ M' 4 267 = ρ' 15 ∧ M' 4 268 = ρ' 16 ∧ M' 4 269 = ρ' 17 ∧ M' 91 249 = 0 ∧ M' 91 259 = 0) ∧ ((0 ≤ 1 * ρ' 0 + (1 * ρ' 8 + 0) ∧ 0 ≤ -1 * ρ' 0 + (-1 * ρ' 8 + 0) ∧ 0 ≤ -1 * ρ' 6 + (1 * ρ' 9 + 0) ∧ 0 ≤ 1 * ρ' 6 + (-1 * ρ' 9 + 0) ∧ 0 ≤ -681 * ρ' 0 + (1 * ρ' 6 + 0) ∧ 0 ≤ 1 * ρ' 9 + 0 ∧ 0 ≤ 700 * ρ' 0 + (-1 * ρ' 9 + 0)) ∨ (0 ≤ -20 * ρ' 0 + (-1 * ρ' 6 + (1 * ρ' 8 + 0)) ∧ 0 ≤ 20 * ρ' 0 + (1 * ρ' 6 + (-1 * ρ' 8 + 0)) ∧ 0 ≤ -20 * ρ' 0 + (-1 * ρ' 6 + (1 * ρ' 9 + 0)) ∧ 0 ≤ 20 * ρ' 0 + (1 * ρ' 6 + (-1 * ρ' 9 + 0)) ∧ 0 ≤ 680 * ρ' 0 + (-1 * ρ' 6 + 0) ∧ 0 ≤ -20 * ρ' 0 + (1 * ρ' 10 + 0) ∧ 0 ≤ 20 * ρ' 0 + (-1 * ρ' 10 + 0) ∧ 0 ≤ -1 * ρ' 6 + (1 * ρ' 11 + 0) ∧ 0 ≤ 1 * ρ' 6 + (-1 * ρ' 11 + 0) ∧ 0 ≤ 1 * ρ' 12 + 0 ∧ 0 ≤ -1 * ρ' 12 + 0 ∧ 0 ≤ -1 * ρ' 1 + (1 * ρ' 13 + 0) ∧ 0 ≤ 1 * ρ' 1 + (-1 * ρ' 13 + 0) ∧ 0 ≤ -1 * ρ' 2 + (1 * ρ' 14 + 0) ∧ 0 ≤ 1 * ρ' 2 + (-1 * ρ' 14 + 0) ∧ 0 ≤ -1 * ρ' 3 + (1 * ρ' 15 + 0) ∧ 0 ≤ 1 * ρ' 3 + (-1 * ρ' 15 + 0) ∧ 0 ≤ -1 * ρ' 4 + (1 * ρ' 16 + 0) ∧ 0 ≤ 1 * ρ' 4 + (-1 * ρ' 16 + 0) ∧ 0 ≤ -1 * ρ' 5 + (1 * ρ' 17 + 0) ∧ 0 ≤ 1 * ρ' 5 + (-1 * ρ' 17 + 0) ∧ 0 ≤ 1 * ρ' 9 + 0 ∧ 0 ≤ 700 * ρ' 0 + (-1 * ρ' 9 + 0))) ∧ sI M' ∧ sF (cS kc_5) M M' := by
  obtain ⟨ρ', h1, h2, ⟨al, hal, hf⟩, h3, h4, h5⟩ := h
  refine ⟨ρ', h1, h2, ⟨h3 (0, 1, 9) (List.mem_of_getElem? (i := 0) rfl), h3 (4, 262, 10) (List.mem_of_getElem? (i := 1) rfl), h3 (4, 263, 11) (List.mem_of_getElem? (i := 2) rfl), h3 (4, 264, 12) (List.mem_of_getElem? (i := 3) rfl), h3 (4, 265, 13) (List.mem_of_getElem? (i := 4) rfl), h3 (4, 266, 14) (List.mem_of_getElem? (i := 5) rfl), h3 (4, 267, 15) (List.mem_of_getElem? (i := 6) rfl), h3 (4, 268, 16) (List.mem_of_getElem? (i := 7) rfl), h3 (4, 269, 17) (List.mem_of_getElem? (i := 8) rfl), h3 (91, 249, 100000) (List.mem_of_getElem? (i := 9) rfl), h3 (91, 259, 100000) (List.mem_of_getElem? (i := 10) rfl)⟩, ?_, h4, h5⟩
  have hal : al ∈ ([[[(1, 0), (1, 8)], [(-1, 0), (-1, 8)], [(-1, 6), (1, 9)], [(1, 6), (-1, 9)], [(-681, 0), (1, 6)], [(1, 9)], [(700, 0), (-1, 9)]], [[(-20, 0), (-1, 6), (1, 8)], [(20, 0), (1, 6), (-1, 8)], [(-20, 0), (-1, 6), (1, 9)], [(20, 0), (1, 6), (-1, 9)], [(680, 0), (-1, 6)], [(-20, 0), (1, 10)], [(20, 0), (-1, 10)], [(-1, 6), (1, 11)], [(1, 6), (-1, 11)], [(1, 12)], [(-1, 12)], [(-1, 1), (1, 13)], [(1, 1), (-1, 13)], [(-1, 2), (1, 14)], [(1, 2), (-1, 14)], [(-1, 3), (1, 15)], [(1, 3), (-1, 15)], [(-1, 4), (1, 16)], [(1, 4), (-1, 16)], [(-1, 5), (1, 17)], [(1, 5), (-1, 17)], [(1, 9)], [(700, 0), (-1, 9)]]] : List (List qF)) := hal
  simp only [List.mem_cons, List.not_mem_nil, or_false] at hal
  rcases hal with rfl | rfl
  · exact Or.inl ⟨hf [(1, 0), (1, 8)] (List.mem_of_getElem? (i := 0) rfl), hf [(-1, 0), (-1, 8)] (List.mem_of_getElem? (i := 1) rfl), hf [(-1, 6), (1, 9)] (List.mem_of_getElem? (i := 2) rfl), hf [(1, 6), (-1, 9)] (List.mem_of_getElem? (i := 3) rfl), hf [(-681, 0), (1, 6)] (List.mem_of_getElem? (i := 4) rfl), hf [(1, 9)] (List.mem_of_getElem? (i := 5) rfl), hf [(700, 0), (-1, 9)] (List.mem_of_getElem? (i := 6) rfl)⟩
  · exact Or.inr (⟨hf [(-20, 0), (-1, 6), (1, 8)] (List.mem_of_getElem? (i := 0) rfl), hf [(20, 0), (1, 6), (-1, 8)] (List.mem_of_getElem? (i := 1) rfl), hf [(-20, 0), (-1, 6), (1, 9)] (List.mem_of_getElem? (i := 2) rfl), hf [(20, 0), (1, 6), (-1, 9)] (List.mem_of_getElem? (i := 3) rfl), hf [(680, 0), (-1, 6)] (List.mem_of_getElem? (i := 4) rfl), hf [(-20, 0), (1, 10)] (List.mem_of_getElem? (i := 5) rfl), hf [(20, 0), (-1, 10)] (List.mem_of_getElem? (i := 6) rfl), hf [(-1, 6), (1, 11)] (List.mem_of_getElem? (i := 7) rfl), hf [(1, 6), (-1, 11)] (List.mem_of_getElem? (i := 8) rfl), hf [(1, 12)] (List.mem_of_getElem? (i := 9) rfl), hf [(-1, 12)] (List.mem_of_getElem? (i := 10) rfl), hf [(-1, 1), (1, 13)] (List.mem_of_getElem? (i := 11) rfl), hf [(1, 1), (-1, 13)] (List.mem_of_getElem? (i := 12) rfl), hf [(-1, 2), (1, 14)] (List.mem_of_getElem? (i := 13) rfl), hf [(1, 2), (-1, 14)] (List.mem_of_getElem? (i := 14) rfl), hf [(-1, 3), (1, 15)] (List.mem_of_getElem? (i := 15) rfl), hf [(1, 3), (-1, 15)] (List.mem_of_getElem? (i := 16) rfl), hf [(-1, 4), (1, 16)] (List.mem_of_getElem? (i := 17) rfl), hf [(1, 4), (-1, 16)] (List.mem_of_getElem? (i := 18) rfl), hf [(-1, 5), (1, 17)] (List.mem_of_getElem? (i := 19) rfl), hf [(1, 5), (-1, 17)] (List.mem_of_getElem? (i := 20) rfl), hf [(1, 9)] (List.mem_of_getElem? (i := 21) rfl), hf [(700, 0), (-1, 9)] (List.mem_of_getElem? (i := 22) rfl)⟩)
theorem up_r0 {ρ : Nat → Int} {M M' : sM} {rv : Option sV} (h : qPost kc_r0 ρ M rv M') : ∃ ρ' : Nat → Int, (∀ a, a < 7 → ρ' a = ρ a) ∧ rv = qRv 0 (ρ' 7) ∧ (M' 91 2 = ρ' 8) ∧ ((0 ≤ 1 * ρ' 0 + (1 * ρ' 7 + 0) ∧ 0 ≤ -1 * ρ' 0 + (-1 * ρ' 7 + 0) ∧ 0 ≤ -1 * ρ' 6 + (1 * ρ' 8 + 0) ∧ 0 ≤ 1 * ρ' 6 + (-1 * ρ' 8 + 0) ∧ 0 ≤ 1 * ρ' 8 + 0 ∧ 0 ≤ 700 * ρ' 0 + (-1 * ρ' 8 + 0))) ∧ sI M' ∧ sF (cS kc_r0) M M' := by
  obtain ⟨ρ', h1, h2, ⟨al, hal, hf⟩, h3, h4, h5⟩ := h
  refine ⟨ρ', h1, h2, h3 (91, 2, 8) (List.mem_of_getElem? (i := 0) rfl), ?_, h4, h5⟩
  have hal : al ∈ ([[[(1, 0), (1, 7)], [(-1, 0), (-1, 7)], [(-1, 6), (1, 8)], [(1, 6), (-1, 8)], [(1, 8)], [(700, 0), (-1, 8)]]] : List (List qF)) := hal
  simp only [List.mem_cons, List.not_mem_nil, or_false] at hal
  rcases hal with rfl
  · exact ⟨hf [(1, 0), (1, 7)] (List.mem_of_getElem? (i := 0) rfl), hf [(-1, 0), (-1, 7)] (List.mem_of_getElem? (i := 1) rfl), hf [(-1, 6), (1, 8)] (List.mem_of_getElem? (i := 2) rfl), hf [(1, 6), (-1, 8)] (List.mem_of_getElem? (i := 3) rfl), hf [(1, 8)] (List.mem_of_getElem? (i := 4) rfl), hf [(700, 0), (-1, 8)] (List.mem_of_getElem? (i := 5) rfl)⟩
theorem up_r1 {ρ : Nat → Int} {M M' : sM} {rv : Option sV} (h : qPost kc_r1 ρ M rv M') : ∃ ρ' : Nat → Int, (∀ a, a < 14 → ρ' a = ρ a) ∧ rv = qRv 0 (ρ' 14) ∧ (M' 91 2 = ρ' 15 ∧ M' 4 261 = ρ' 16 ∧ M' 91 249 = 0 ∧ M' 91 259 = 0) ∧ ((0 ≤ -20 * ρ' 0 + (-1 * ρ' 6 + (1 * ρ' 14 + 0)) ∧ 0 ≤ 20 * ρ' 0 + (1 * ρ' 6 + (-1 * ρ' 14 + 0)) ∧ 0 ≤ -20 * ρ' 0 + (-1 * ρ' 6 + (1 * ρ' 15 + 0)) ∧ 0 ≤ 20 * ρ' 0 + (1 * ρ' 6 + (-1 * ρ' 15 + 0)) ∧ 0 ≤ -1 * ρ' 15 + (1 * ρ' 16 + 0) ∧ 0 ≤ 1 * ρ' 15 + (-1 * ρ' 16 + 0) ∧ 0 ≤ 1 * ρ' 15 + 0 ∧ 0 ≤ 700 * ρ' 0 + (-1 * ρ' 15 + 0))) ∧ sI M' ∧ sF (cS kc_r1) M M' := by
  obtain ⟨ρ', h1, h2, ⟨al, hal, hf⟩, h3, h4, h5⟩ := h
  refine ⟨ρ', h1, h2, ⟨h3 (91, 2, 15) (List.mem_of_getElem? (i := 0) rfl), h3 (4, 261, 16) (List.mem_of_getElem? (i := 1) rfl), h3 (91, 249, 100000) (List.mem_of_getElem? (i := 2) rfl), h3 (91, 259, 100000) (List.mem_of_getElem? (i := 3) rfl)⟩, ?_, h4, h5⟩
  have hal : al ∈ ([[[(-20, 0), (-1, 6), (1, 14)], [(20, 0), (1, 6), (-1, 14)], [(-20, 0), (-1, 6), (1, 15)], [(20, 0), (1, 6), (-1, 15)], [(-1, 15), (1, 16)], [(1, 15), (-1, 16)], [(1, 15)], [(700, 0), (-1, 15)]]] : List (List qF)) := hal
  simp only [List.mem_cons, List.not_mem_nil, or_false] at hal
  rcases hal with rfl
  · exact ⟨hf [(-20, 0), (-1, 6), (1, 14)] (List.mem_of_getElem? (i := 0) rfl), hf [(20, 0), (1, 6), (-1, 14)] (List.mem_of_getElem? (i := 1) rfl), hf [(-20, 0), (-1, 6), (1, 15)] (List.mem_of_getElem? (i := 2) rfl), hf [(20, 0), (1, 6), (-1, 15)] (List.mem_of_getElem? (i := 3) rfl), hf [(-1, 15), (1, 16)] (List.mem_of_getElem? (i := 4) rfl), hf [(1, 15), (-1, 16)] (List.mem_of_getElem? (i := 5) rfl), hf [(1, 15)] (List.mem_of_getElem? (i := 6) rfl), hf [(700, 0), (-1, 15)] (List.mem_of_getElem? (i := 7) rfl)⟩
theorem up_124 {ρ : Nat → Int} {M M' : sM} {rv : Option sV} (h : qPost kc_124 ρ M rv M') : ∃ ρ' : Nat → Int, (∀ a, a < 3 → ρ' a = ρ a) ∧ rv = qRv 0 (ρ' 3) ∧ (M' 0 1 = ρ' 4 ∧ M' 0 5 = ρ' 5 ∧ M' 0 6 = ρ' 6 ∧ M' 58 4 = ρ' 7) ∧ ((0 ≤ -2 * ρ' 0 + (1 * ρ' 5 + 0) ∧ 0 ≤ 2 * ρ' 0 + (-1 * ρ' 5 + 0) ∧ 0 ≤ -28 * ρ' 0 + (1 * ρ' 6 + 0) ∧ 0 ≤ 28 * ρ' 0 + (-1 * ρ' 6 + 0) ∧ 0 ≤ -2 * ρ' 0 + (1 * ρ' 7 + 0) ∧ 0 ≤ 2 * ρ' 0 + (-1 * ρ' 7 + 0) ∧ 0 ≤ -1 * ρ' 2 + (1 * ρ' 4 + 0) ∧ 0 ≤ 1 * ρ' 2 + (-1 * ρ' 4 + 0) ∧ 0 ≤ 2 * ρ' 0 + (1 * ρ' 3 + 0) ∧ 0 ≤ -2 * ρ' 0 + (-1 * ρ' 3 + 0) ∧ 0 ≤ 1 * ρ' 4 + 0 ∧ 0 ≤ 700 * ρ' 0 + (-1 * ρ' 4 + 0))) ∧ sI M' ∧ sF (cS kc_124) M M' := by
  obtain ⟨ρ', h1, h2, ⟨al, hal, hf⟩, h3, h4, h5⟩ := h
  refine ⟨ρ', h1, h2, ⟨h3 (0, 1, 4) (List.mem_of_getElem? (i := 0) rfl), h3 (0, 5, 5) (List.mem_of_getElem? (i := 1) rfl), h3 (0, 6, 6) (List.mem_of_getElem? (i := 2) rfl), h3 (58, 4, 7) (List.mem_of_getElem? (i := 3) rfl)⟩, ?_, h4, h5⟩
  have hal : al ∈ ([[[(-2, 0), (1, 5)], [(2, 0), (-1, 5)], [(-28, 0), (1, 6)], [(28, 0), (-1, 6)], [(-2, 0), (1, 7)], [(2, 0), (-1, 7)], [(-1, 2), (1, 4)], [(1, 2), (-1, 4)], [(2, 0), (1, 3)], [(-2, 0), (-1, 3)], [(1, 4)], [(700, 0), (-1, 4)]]] : List (List qF)) := hal
  simp only [List.mem_cons, List.not_mem_nil, or_false] at hal
  rcases hal with rfl
  · exact ⟨hf [(-2, 0), (1, 5)] (List.mem_of_getElem? (i := 0) rfl), hf [(2, 0), (-1, 5)] (List.mem_of_getElem? (i := 1) rfl), hf [(-28, 0), (1, 6)] (List.mem_of_getElem? (i := 2) rfl), hf [(28, 0), (-1, 6)] (List.mem_of_getElem? (i := 3) rfl), hf [(-2, 0), (1, 7)] (List.mem_of_getElem? (i := 4) rfl), hf [(2, 0), (-1, 7)] (List.mem_of_getElem? (i := 5) rfl), hf [(-1, 2), (1, 4)] (List.mem_of_getElem? (i := 6) rfl), hf [(1, 2), (-1, 4)] (List.mem_of_getElem? (i := 7) rfl), hf [(2, 0), (1, 3)] (List.mem_of_getElem? (i := 8) rfl), hf [(-2, 0), (-1, 3)] (List.mem_of_getElem? (i := 9) rfl), hf [(1, 4)] (List.mem_of_getElem? (i := 10) rfl), hf [(700, 0), (-1, 4)] (List.mem_of_getElem? (i := 11) rfl)⟩
theorem up_125 {ρ : Nat → Int} {M M' : sM} {rv : Option sV} (h : qPost kc_125 ρ M rv M') : ∃ ρ' : Nat → Int, (∀ a, a < 3 → ρ' a = ρ a) ∧ rv = qRv 0 (ρ' 3) ∧ (M' 0 1 = ρ' 4 ∧ M' 0 5 = ρ' 5 ∧ M' 0 6 = ρ' 6 ∧ M' 58 4 = ρ' 7) ∧ ((0 ≤ -2 * ρ' 0 + (1 * ρ' 5 + 0) ∧ 0 ≤ 2 * ρ' 0 + (-1 * ρ' 5 + 0) ∧ 0 ≤ -28 * ρ' 0 + (1 * ρ' 6 + 0) ∧ 0 ≤ 28 * ρ' 0 + (-1 * ρ' 6 + 0) ∧ 0 ≤ -2 * ρ' 0 + (1 * ρ' 7 + 0) ∧ 0 ≤ 2 * ρ' 0 + (-1 * ρ' 7 + 0) ∧ 0 ≤ -1 * ρ' 2 + (1 * ρ' 4 + 0) ∧ 0 ≤ 1 * ρ' 2 + (-1 * ρ' 4 + 0) ∧ 0 ≤ 2 * ρ' 0 + (1 * ρ' 3 + 0) ∧ 0 ≤ -2 * ρ' 0 + (-1 * ρ' 3 + 0) ∧ 0 ≤ 1 * ρ' 4 + 0 ∧ 0 ≤ 700 * ρ' 0 + (-1 * ρ' 4 + 0))) ∧ sI M' ∧ sF (cS kc_125) M M' := by
  obtain ⟨ρ', h1, h2, ⟨al, hal, hf⟩, h3, h4, h5⟩ := h
  refine ⟨ρ', h1, h2, ⟨h3 (0, 1, 4) (List.mem_of_getElem? (i := 0) rfl), h3 (0, 5, 5) (List.mem_of_getElem? (i := 1) rfl), h3 (0, 6, 6) (List.mem_of_getElem? (i := 2) rfl), h3 (58, 4, 7) (List.mem_of_getElem? (i := 3) rfl)⟩, ?_, h4, h5⟩
  have hal : al ∈ ([[[(-2, 0), (1, 5)], [(2, 0), (-1, 5)], [(-28, 0), (1, 6)], [(28, 0), (-1, 6)], [(-2, 0), (1, 7)], [(2, 0), (-1, 7)], [(-1, 2), (1, 4)], [(1, 2), (-1, 4)], [(2, 0), (1, 3)], [(-2, 0), (-1, 3)], [(1, 4)], [(700, 0), (-1, 4)]]] : List (List qF)) := hal
  simp only [List.mem_cons, List.not_mem_nil, or_false] at hal
  rcases hal with rfl
  · exact ⟨hf [(-2, 0), (1, 5)] (List.mem_of_getElem? (i := 0) rfl), hf [(2, 0), (-1, 5)] (List.mem_of_getElem? (i := 1) rfl), hf [(-28, 0), (1, 6)] (List.mem_of_getElem? (i := 2) rfl), hf [(28, 0), (-1, 6)] (List.mem_of_getElem? (i := 3) rfl), hf [(-2, 0), (1, 7)] (List.mem_of_getElem? (i := 4) rfl), hf [(2, 0), (-1, 7)] (List.mem_of_getElem? (i := 5) rfl), hf [(-1, 2), (1, 4)] (List.mem_of_getElem? (i := 6) rfl), hf [(1, 2), (-1, 4)] (List.mem_of_getElem? (i := 7) rfl), hf [(2, 0), (1, 3)] (List.mem_of_getElem? (i := 8) rfl), hf [(-2, 0), (-1, 3)] (List.mem_of_getElem? (i := 9) rfl), hf [(1, 4)] (List.mem_of_getElem? (i := 10) rfl), hf [(700, 0), (-1, 4)] (List.mem_of_getElem? (i := 11) rfl)⟩
theorem up_201 {ρ : Nat → Int} {M M' : sM} {rv : Option sV} (h : qPost kc_201 ρ M rv M') : ∃ ρ' : Nat → Int, (∀ a, a < 17 → ρ' a = ρ a) ∧ rv = qRv 0 (ρ' 17) ∧ (M' 0 1 = ρ' 18 ∧ M' 0 2 = ρ' 19 ∧ M' 0 3 = ρ' 20 ∧ M' 4 100 = 0 ∧ M' 4 101 = ρ' 22 ∧ M' 4 207 = ρ' 23 ∧ M' 4 208 = ρ' 24 ∧ M' 91 249 = 0 ∧ M' 91 30 = ρ' 26 ∧ M' 4 200 = ρ' 27 ∧ M' 4 201 = ρ' 28 ∧ M' 4 202 = ρ' 29 ∧ M' 4 203 = ρ' 30 ∧ M' 4 204 = ρ' 31 ∧ M' 4 205 = ρ' 32 ∧ M' 4 206 = ρ' 33 ∧ M' 4 210 = 0 ∧ M' 4 212 = 0 ∧ M' 4 214 = 0 ∧ M' 4 220 = 0 ∧ M' 4 226 = 0 ∧ M' 4 233 = 0 ∧ M' 4 235 = 0 ∧ M' 4 230 = 0 ∧ M' 77 6 = ρ' 42 ∧ M' 28 8 = ρ' 43 ∧ M' 28 9 = ρ' 44 ∧ M' 28 10 = ρ' 45 ∧ M' 0 5 = ρ' 46 ∧ M' 0 6 = ρ' 47 ∧ M' 58 4 = ρ' 48) ∧ ((0 ≤ -2 * ρ' 0 + (1 * ρ' 46 + 0) ∧ 0 ≤ 2 * ρ' 0 + (-1 * ρ' 46 + 0) ∧ 0 ≤ -28 * ρ' 0 + (1 * ρ' 47 + 0) ∧ 0 ≤ 28 * ρ' 0 + (-1 * ρ' 47 + 0) ∧ 0 ≤ -2 * ρ' 0 + (1 * ρ' 48 + 0) ∧ 0 ≤ 2 * ρ' 0 + (-1 * ρ' 48 + 0) ∧ 0 ≤ 1 * ρ' 18 + 0 ∧ 0 ≤ -1 * ρ' 18 + 0 ∧ (0 : Int) ≤ 0 ∧ (0 : Int) ≤ 0 ∧ 0 ≤ -1 * ρ' 0 + (1 * ρ' 27 + 0) ∧ 0 ≤ 1 * ρ' 0 + (-1 * ρ' 27 + 0) ∧ 0 ≤ -1 * ρ' 19 + (1 * ρ' 28 + 0) ∧ 0 ≤ 1 * ρ' 19 + (-1 * ρ' 28 + 0) ∧ 0 ≤ -1 * ρ' 20 + (1 * ρ' 29 + 0) ∧ 0 ≤ 1 * ρ' 20 + (-1 * ρ' 29 + 0) ∧ 0 ≤ -1 * ρ' 1 + (1 * ρ' 22 + 0) ∧ 0 ≤ 1 * ρ' 1 + (-1 * ρ' 22 + 0) ∧ (0 : Int) ≤ 0 ∧ (0 : Int) ≤ 0 ∧ 0 ≤ -1 * ρ' 5 + (1 * ρ' 24 + 0) ∧ 0 ≤ 1 * ρ' 5 + (-1 * ρ' 24 + 0) ∧ 0 ≤ -1 * ρ' 5 + (1 * ρ' 26 + 0) ∧ 0 ≤ 1 * ρ' 5 + (-1 * ρ' 26 + 0) ∧ 0 ≤ 1 * ρ' 0 + (1 * ρ' 17 + 0) ∧ 0 ≤ -1 * ρ' 0 + (-1 * ρ' 17 + 0) ∧ 0 ≤ -1 * ρ' 0 + (1 * ρ' 28 + 0) ∧ 0 ≤ -1 * ρ' 16 + (1 * ρ' 42 + 0) ∧ 0 ≤ 1 * ρ' 16 + (-1 * ρ' 42 + 0) ∧ 0 ≤ 700 * ρ' 0 + (-1 * ρ' 18 + 0) ∧ 0 ≤ 2147483648 * ρ' 0 + (1 * ρ' 19 + 0) ∧ 0 ≤ 2147483647 * ρ' 0 + (-1 * ρ' 19 + 0) ∧ 0 ≤ 2147483648 * ρ' 0 + (1 * ρ' 20 + 0) ∧ 0 ≤ 2147483647 * ρ' 0 + (-1 * ρ' 20 + 0) ∧ 0 ≤ 2147483648 * ρ' 0 + (1 * ρ' 26 + 0) ∧ 0 ≤ 2147483647 * ρ' 0 + (-1 * ρ' 26 + 0) ∧ 0 ≤ 1 * ρ' 42 + 0 ∧ 0 ≤ 24 * ρ' 0 + (-1 * ρ' 42 + 0) ∧ 0 ≤ 1 * ρ' 43 + 0 ∧ 0 ≤ 9 * ρ' 0 + (-1 * ρ' 43 + 0) ∧ 0 ≤ 1 * ρ' 44 + 0 ∧ 0 ≤ 6 * ρ' 0 + (-1 * ρ' 44 + 0) ∧ 0 ≤ 1 * ρ' 45 + 0 ∧ 0 ≤ 3 * ρ' 0 + (-1 * ρ' 45 + 0)) ∨ (0 ≤ -28 * ρ' 0 + (1 * ρ' 46 + 0) ∧ 0 ≤ 28 * ρ' 0 + (-1 * ρ' 46 + 0) ∧ 0 ≤ -2 * ρ' 0 + (1 * ρ' 47 + 0) ∧ 0 ≤ 2 * ρ' 0 + (-1 * ρ' 47 + 0) ∧ 0 ≤ -28 * ρ' 0 + (1 * ρ' 48 + 0) ∧ 0 ≤ 28 * ρ' 0 + (-1 * ρ' 48 + 0) ∧ 0 ≤ 1 * ρ' 18 + 0 ∧ 0 ≤ -1 * ρ' 18 + 0 ∧ (0 : Int) ≤ 0 ∧ (0 : Int) ≤ 0 ∧ 0 ≤ -1 * ρ' 0 + (1 * ρ' 27 + 0) ∧ 0 ≤ 1 * ρ' 0 + (-1 * ρ' 27 + 0) ∧ 0 ≤ -1 * ρ' 19 + (1 * ρ' 28 + 0) ∧ 0 ≤ 1 * ρ' 19 + (-1 * ρ' 28 + 0) ∧ 0 ≤ -1 * ρ' 20 + (1 * ρ' 29 + 0) ∧ 0 ≤ 1 * ρ' 20 + (-1 * ρ' 29 + 0) ∧ 0 ≤ -1 * ρ' 1 + (1 * ρ' 22 + 0) ∧ 0 ≤ 1 * ρ' 1 + (-1 * ρ' 22 + 0) ∧ (0 : Int) ≤ 0 ∧ (0 : Int) ≤ 0 ∧ 0 ≤ -1 * ρ' 5 + (1 * ρ' 24 + 0) ∧ 0 ≤ 1 * ρ' 5 + (-1 * ρ' 24 + 0) ∧ 0 ≤ -1 * ρ' 5 + (1 * ρ' 26 + 0) ∧ 0 ≤ 1 * ρ' 5 + (-1 * ρ' 26 + 0) ∧ 0 ≤ 1 * ρ' 28 + 0 ∧ 0 ≤ -1 * ρ' 28 + 0 ∧ 0 ≤ 1 * ρ' 17 + (-1 * ρ' 30 + 0) ∧ 0 ≤ -1 * ρ' 17 + (1 * ρ' 30 + 0) ∧ 0 ≤ 1 * ρ' 42 + 0 ∧ 0 ≤ -1 * ρ' 42 + 0 ∧ 0 ≤ 1 * ρ' 31 + (-1 * ρ' 43 + 0) ∧ 0 ≤ -1 * ρ' 31 + (1 * ρ' 43 + 0) ∧ 0 ≤ 1 * ρ' 32 + (-1 * ρ' 44 + 0) ∧ 0 ≤ -1 * ρ' 32 + (1 * ρ' 44 + 0) ∧ 0 ≤ 1 * ρ' 33 + (-1 * ρ' 45 + 0) ∧ 0 ≤ -1 * ρ' 33 + (1 * ρ' 45 + 0) ∧ 0 ≤ 700 * ρ' 0 + (-1 * ρ' 18 + 0) ∧ 0 ≤ 2147483648 * ρ' 0 + (1 * ρ' 19 + 0) ∧ 0 ≤ 2147483647 * ρ' 0 + (-1 * ρ' 19 + 0) ∧ 0 ≤ 2147483648 * ρ' 0 + (1 * ρ' 20 + 0) ∧ 0 ≤ 2147483647 * ρ' 0 + (-1 * ρ' 20 + 0) ∧ 0 ≤ 2147483648 * ρ' 0 + (1 * ρ' 26 + 0) ∧ 0 ≤ 2147483647 * ρ' 0 + (-1 * ρ' 26 + 0) ∧ 0 ≤ 24 * ρ' 0 + (-1 * ρ' 42 + 0) ∧ 0 ≤ 1 * ρ' 43 + 0 ∧ 0 ≤ 9 * ρ' 0 + (-1 * ρ' 43 + 0) ∧ 0 ≤ 1 * ρ' 44 + 0 ∧ 0 ≤ 6 * ρ' 0 + (-1 * ρ' 44 + 0) ∧ 0 ≤ 1 * ρ' 45 + 0 ∧ 0 ≤ 3 * ρ' 0 + (-1 * ρ' 45 + 0))) ∧ sI M' ∧ sF (cS kc_201) M M' := by
  obtain ⟨ρ', h1, h2, ⟨al, hal, hf⟩, h3, h4, h5⟩ := h
  refine ⟨ρ', h1, h2, ⟨h3 (0, 1, 18) (List.mem_of_getElem? (i := 0) rfl), h3 (0, 2, 19) (List.mem_of_getElem? (i := 1) rfl), h3 (0, 3, 20) (List.mem_of_getElem? (i := 2) rfl), h3 (4, 100, 100000) (List.mem_of_getElem? (i := 3) rfl), h3 (4, 101, 22) (List.mem_of_getElem? (i := 4) rfl), h3 (4, 207, 23) (List.mem_of_getElem? (i := 5) rfl), h3 (4, 208, 24) (List.mem_of_getElem? (i := 6) rfl), h3 (91, 249, 100000) (List.mem_of_getElem? (i := 7) rfl), h3 (91, 30, 26) (List.mem_of_getElem? (i := 8) rfl), h3 (4, 200, 27) (List.mem_of_getElem? (i := 9) rfl), h3 (4, 201, 28) (List.mem_of_getElem? (i := 10) rfl), h3 (4, 202, 29) (List.mem_of_getElem? (i := 11) rfl), h3 (4, 203, 30) (List.mem_of_getElem? (i := 12) rfl), h3 (4, 204, 31) (List.mem_of_getElem? (i := 13) rfl), h3 (4, 205, 32) (List.mem_of_getElem? (i := 14) rfl), h3 (4, 206, 33) (List.mem_of_getElem? (i := 15) rfl), h3 (4, 210, 100000) (List.mem_of_getElem? (i := 16) rfl), h3 (4, 212, 100000) (List.mem_of_getElem? (i := 17) rfl), h3 (4, 214, 100000) (List.mem_of_getElem? (i := 18) rfl), h3 (4, 220, 100000) (List.mem_of_getElem? (i := 19) rfl), h3 (4, 226, 100000) (List.mem_of_getElem? (i := 20) rfl), h3 (4, 233, 100000) (List.mem_of_getElem? (i := 21) rfl), h3 (4, 235, 100000) (List.mem_of_getElem? (i := 22) rfl), h3 (4, 230, 100000) (List.mem_of_getElem? (i := 23) rfl), h3 (77, 6, 42) (List.mem_of_getElem? (i := 24) rfl), h3 (28, 8, 43) (List.mem_of_getElem? (i := 25) rfl), h3 (28, 9, 44) (List.mem_of_getElem? (i := 26) rfl), h3 (28, 10, 45) (List.mem_of_getElem? (i := 27) rfl), h3 (0, 5, 46) (List.mem_of_getElem? (i := 28) rfl), h3 (0, 6, 47) (List.mem_of_getElem? (i := 29) rfl), h3 (58, 4, 48) (List.mem_of_getElem? (i := 30) rfl)⟩, ?_, h4, h5⟩
  have hal : al ∈ ([[[(-2, 0), (1, 46)], [(2, 0), (-1, 46)], [(-28, 0), (1, 47)], [(28, 0), (-1, 47)], [(-2, 0), (1, 48)], [(2, 0), (-1, 48)], [(1, 18)], [(-1, 18)], [], [], [(-1, 0), (1, 27)], [(1, 0), (-1, 27)], [(-1, 19), (1, 28)], [(1, 19), (-1, 28)], [(-1, 20), (1, 29)], [(1, 20), (-1, 29)], [(-1, 1), (1, 22)], [(1, 1), (-1, 22)], [], [], [(-1, 5), (1, 24)], [(1, 5), (-1, 24)], [(-1, 5), (1, 26)], [(1, 5), (-1, 26)], [(1, 0), (1, 17)], [(-1, 0), (-1, 17)], [(-1, 0), (1, 28)], [(-1, 16), (1, 42)], [(1, 16), (-1, 42)], [(700, 0), (-1, 18)], [(2147483648, 0), (1, 19)], [(2147483647, 0), (-1, 19)], [(2147483648, 0), (1, 20)], [(2147483647, 0), (-1, 20)], [(2147483648, 0), (1, 26)], [(2147483647, 0), (-1, 26)], [(1, 42)], [(24, 0), (-1, 42)], [(1, 43)], [(9, 0), (-1, 43)], [(1, 44)], [(6, 0), (-1, 44)], [(1, 45)], [(3, 0), (-1, 45)]], [[(-28, 0), (1, 46)], [(28, 0), (-1, 46)], [(-2, 0), (1, 47)], [(2, 0), (-1, 47)], [(-28, 0), (1, 48)], [(28, 0), (-1, 48)], [(1, 18)], [(-1, 18)], [], [], [(-1, 0), (1, 27)], [(1, 0), (-1, 27)], [(-1, 19), (1, 28)], [(1, 19), (-1, 28)], [(-1, 20), (1, 29)], [(1, 20), (-1, 29)], [(-1, 1), (1, 22)], [(1, 1), (-1, 22)], [], [], [(-1, 5), (1, 24)], [(1, 5), (-1, 24)], [(-1, 5), (1, 26)], [(1, 5), (-1, 26)], [(1, 28)], [(-1, 28)], [(1, 17), (-1, 30)], [(-1, 17), (1, 30)], [(1, 42)], [(-1, 42)], [(1, 31), (-1, 43)], [(-1, 31), (1, 43)], [(1, 32), (-1, 44)], [(-1, 32), (1, 44)], [(1, 33), (-1, 45)], [(-1, 33), (1, 45)], [(700, 0), (-1, 18)], [(2147483648, 0), (1, 19)], [(2147483647, 0), (-1, 19)], [(2147483648, 0), (1, 20)], [(2147483647, 0), (-1, 20)], [(2147483648, 0), (1, 26)], [(2147483647, 0), (-1, 26)], [(24, 0), (-1, 42)], [(1, 43)], [(9, 0), (-1, 43)], [(1, 44)], [(6, 0), (-1, 44)], [(1, 45)], [(3, 0), (-1, 45)]]] : List (List qF)) := hal
  simp only [List.mem_cons, List.not_mem_nil, or_false] at hal
  rcases hal with rfl | rfl
  · exact Or.inl ⟨hf [(-2, 0), (1, 46)] (List.mem_of_getElem? (i := 0) rfl), hf [(2, 0), (-1, 46)] (List.mem_of_getElem? (i := 1) rfl), hf [(-28, 0), (1, 47)] (List.mem_of_getElem? (i := 2) rfl), hf [(28, 0), (-1, 47)] (List.mem_of_getElem? (i := 3) rfl), hf [(-2, 0), (1, 48)] (List.mem_of_getElem? (i := 4) rfl), hf [(2, 0), (-1, 48)] (List.mem_of_getElem? (i := 5) rfl), hf [(1, 18)] (List.mem_of_getElem? (i := 6) rfl), hf [(-1, 18)] (List.mem_of_getElem? (i := 7) rfl), hf [] (List.mem_of_getElem? (i := 8) rfl), hf [] (List.mem_of_getElem? (i := 9) rfl), hf [(-1, 0), (1, 27)] (List.mem_of_getElem? (i := 10) rfl), hf [(1, 0), (-1, 27)] (List.mem_of_getElem? (i := 11) rfl), hf [(-1, 19), (1, 28)] (List.mem_of_getElem? (i := 12) rfl), hf [(1, 19), (-1, 28)] (List.mem_of_getElem? (i := 13) rfl), hf [(-1, 20), (1, 29)] (List.mem_of_getElem? (i := 14) rfl), hf [(1, 20), (-1, 29)] (List.mem_of_getElem? (i := 15) rfl), hf [(-1, 1), (1, 22)] (List.mem_of_getElem? (i := 16) rfl), hf [(1, 1), (-1, 22)] (List.mem_of_getElem? (i := 17) rfl), hf [] (List.mem_of_getElem? (i := 18) rfl), hf [] (List.mem_of_getElem? (i := 19) rfl), hf [(-1, 5), (1, 24)] (List.mem_of_getElem? (i := 20) rfl), hf [(1, 5), (-1, 24)] (List.mem_of_getElem? (i := 21) rfl), hf [(-1, 5), (1, 26)] (List.mem_of_getElem? (i := 22) rfl), hf [(1, 5), (-1, 26)] (List.mem_of_getElem? (i := 23) rfl), hf [(1, 0), (1, 17)] (List.mem_of_getElem? (i := 24) rfl), hf [(-1, 0), (-1, 17)] (List.mem_of_getElem? (i := 25) rfl), hf [(-1, 0), (1, 28)] (List.mem_of_getElem? (i := 26) rfl), hf [(-1, 16), (1, 42)] (List.mem_of_getElem? (i := 27) rfl), hf [(1, 16), (-1, 42)] (List.mem_of_getElem? (i := 28) rfl), hf [(700, 0), (-1, 18)] (List.mem_of_getElem? (i := 29) rfl), hf [(2147483648, 0), (1, 19)] (List.mem_of_getElem? (i := 30) rfl), hf [(2147483647, 0), (-1, 19)] (List.mem_of_getElem? (i := 31) rfl), hf [(2147483648, 0), (1, 20)] (List.mem_of_getElem? (i := 32) rfl), hf [(2147483647, 0), (-1, 20)] (List.mem_of_getElem? (i := 33) rfl), hf [(2147483648, 0), (1, 26)] (List.mem_of_getElem? (i := 34) rfl), hf [(2147483647, 0), (-1, 26)] (List.mem_of_getElem? (i := 35) rfl), hf [(1, 42)] (List.mem_of_getElem? (i := 36) rfl), hf [(24, 0), (-1, 42)] (List.mem_of_getElem? (i := 37) rfl), hf [(1, 43)] (List.mem_of_getElem? (i := 38) rfl), hf [(9, 0), (-1, 43)] (List.mem_of_getElem? (i := 39) rfl), hf [(1, 44)] (List.mem_of_getElem? (i := 40) rfl), hf [(6, 0), (-1, 44)] (List.mem_of_getElem? (i := 41) rfl), hf [(1, 45)] (List.mem_of_getElem? (i := 42) rfl), hf [(3, 0), (-1, 45)] (List.mem_of_getElem? (i := 43) rfl)⟩
  · exact Or.inr (⟨hf [(-28, 0), (1, 46)] (List.mem_of_getElem? (i := 0) rfl), hf [(28, 0), (-1, 46)] (List.mem_of_getElem? (i := 1) rfl), hf [(-2, 0), (1, 47)] (List.mem_of_getElem? (i := 2) rfl), hf [(2, 0), (-1, 47)] (List.mem_of_getElem? (i := 3) rfl), hf [(-28, 0), (1, 48)] (List.mem_of_getElem? (i := 4) rfl), hf [(28, 0), (-1, 48)] (List.mem_of_getElem? (i := 5) rfl), hf [(1, 18)] (List.mem_of_getElem? (i := 6) rfl), hf [(-1, 18)] (List.mem_of_getElem? (i := 7) rfl), hf [] (List.mem_of_getElem? (i := 8) rfl), hf [] (List.mem_of_getElem? (i := 9) rfl), hf [(-1, 0), (1, 27)] (List.mem_of_getElem? (i := 10) rfl), hf [(1, 0), (-1, 27)] (List.mem_of_getElem? (i := 11) rfl), hf [(-1, 19), (1, 28)] (List.mem_of_getElem? (i := 12) rfl), hf [(1, 19), (-1, 28)] (List.mem_of_getElem? (i := 13) rfl), hf [(-1, 20), (1, 29)] (List.mem_of_getElem? (i := 14) rfl), hf [(1, 20), (-1, 29)] (List.mem_of_getElem? (i := 15) rfl), hf [(-1, 1), (1, 22)] (List.mem_of_getElem? (i := 16) rfl), hf [(1, 1), (-1, 22)] (List.mem_of_getElem? (i := 17) rfl), hf [] (List.mem_of_getElem? (i := 18) rfl), hf [] (List.mem_of_getElem? (i := 19) rfl), hf [(-1, 5), (1, 24)] (List.mem_of_getElem? (i := 20) rfl), hf [(1, 5), (-1, 24)] (List.mem_of_getElem? (i := 21) rfl), hf [(-1, 5), (1, 26)] (List.mem_of_getElem? (i := 22) rfl), hf [(1, 5), (-1, 26)] (List.mem_of_getElem? (i := 23) rfl), hf [(1, 28)] (List.mem_of_getElem? (i := 24) rfl), hf [(-1, 28)] (List.mem_of_getElem? (i := 25) rfl), hf [(1, 17), (-1, 30)] (List.mem_of_getElem? (i := 26) rfl), hf [(-1, 17), (1, 30)] (List.mem_of_getElem? (i := 27) rfl), hf [(1, 42)] (List.mem_of_getElem? (i := 28) rfl), hf [(-1, 42)] (List.mem_of_getElem? (i := 29) rfl), hf [(1, 31), (-1, 43)] (List.mem_of_getElem? (i := 30) rfl), hf [(-1, 31), (1, 43)] (List.mem_of_getElem? (i := 31) rfl), hf [(1, 32), (-1, 44)] (List.mem_of_getElem? (i := 32) rfl), hf [(-1, 32), (1, 44)] (List.mem_of_getElem? (i := 33) rfl), hf [(1, 33), (-1, 45)] (List.mem_of_getElem? (i := 34) rfl), hf [(-1, 33), (1, 45)] (List.mem_of_getElem? (i := 35) rfl), hf [(700, 0), (-1, 18)] (List.mem_of_getElem? (i := 36) rfl), hf [(2147483648, 0), (1, 19)] (List.mem_of_getElem? (i := 37) rfl), hf [(2147483647, 0), (-1, 19)] (List.mem_of_getElem? (i := 38) rfl), hf [(2147483648, 0), (1, 20)] (List.mem_of_getElem? (i := 39) rfl), hf [(2147483647, 0), (-1, 20)] (List.mem_of_getElem? (i := 40) rfl), hf [(2147483648, 0), (1, 26)] (List.mem_of_getElem? (i := 41) rfl), hf [(2147483647, 0), (-1, 26)] (List.mem_of_getElem? (i := 42) rfl), hf [(24, 0), (-1, 42)] (List.mem_of_getElem? (i := 43) rfl), hf [(1, 43)] (List.mem_of_getElem? (i := 44) rfl), hf [(9, 0), (-1, 43)] (List.mem_of_getElem? (i := 45) rfl), hf [(1, 44)] (List.mem_of_getElem? (i := 46) rfl), hf [(6, 0), (-1, 44)] (List.mem_of_getElem? (i := 47) rfl), hf [(1, 45)] (List.mem_of_getElem? (i := 48) rfl), hf [(3, 0), (-1, 45)] (List.mem_of_getElem? (i := 49) rfl)⟩)
theorem up_282 {ρ : Nat → Int} {M M' : sM} {rv : Option sV} (h : qPost kc_282 ρ M rv M') : ∃ ρ' : Nat → Int, (∀ a, a < 3 → ρ' a = ρ a) ∧ rv = qRv 0 (ρ' 3) ∧ (M' 0 1 = ρ' 4 ∧ M' 0 5 = ρ' 5 ∧ M' 0 6 = ρ' 6 ∧ M' 58 4 = ρ' 7) ∧ ((0 ≤ -28 * ρ' 0 + (1 * ρ' 5 + 0) ∧ 0 ≤ 28 * ρ' 0 + (-1 * ρ' 5 + 0) ∧ 0 ≤ -2 * ρ' 0 + (1 * ρ' 6 + 0) ∧ 0 ≤ 2 * ρ' 0 + (-1 * ρ' 6 + 0) ∧ 0 ≤ -28 * ρ' 0 + (1 * ρ' 7 + 0) ∧ 0 ≤ 28 * ρ' 0 + (-1 * ρ' 7 + 0) ∧ 0 ≤ -1 * ρ' 2 + (1 * ρ' 4 + 0) ∧ 0 ≤ 1 * ρ' 2 + (-1 * ρ' 4 + 0) ∧ 0 ≤ 2 * ρ' 0 + (1 * ρ' 3 + 0) ∧ 0 ≤ -2 * ρ' 0 + (-1 * ρ' 3 + 0) ∧ 0 ≤ 1 * ρ' 4 + 0 ∧ 0 ≤ 700 * ρ' 0 + (-1 * ρ' 4 + 0))) ∧ sI M' ∧ sF (cS kc_282) M M' := by
  obtain ⟨ρ', h1, h2, ⟨al, hal, hf⟩, h3, h4, h5⟩ := h
  refine ⟨ρ', h1, h2, ⟨h3 (0, 1, 4) (List.mem_of_getElem? (i := 0) rfl), h3 (0, 5, 5) (List.mem_of_getElem? (i := 1) rfl), h3 (0, 6, 6) (List.mem_of_getElem? (i := 2) rfl), h3 (58, 4, 7) (List.mem_of_getElem? (i := 3) rfl)⟩, ?_, h4, h5⟩
  have hal : al ∈ ([[[(-28, 0), (1, 5)], [(28, 0), (-1, 5)], [(-2, 0), (1, 6)], [(2, 0), (-1, 6)], [(-28, 0), (1, 7)], [(28, 0), (-1, 7)], [(-1, 2), (1, 4)], [(1, 2), (-1, 4)], [(2, 0), (1, 3)], [(-2, 0), (-1, 3)], [(1, 4)], [(700, 0), (-1, 4)]]] : List (List qF)) := hal
  simp only [List.mem_cons, List.not_mem_nil, or_false] at hal
  rcases hal with rfl
  · exact ⟨hf [(-28, 0), (1, 5)] (List.mem_of_getElem? (i := 0) rfl), hf [(28, 0), (-1, 5)] (List.mem_of_getElem? (i := 1) rfl), hf [(-2, 0), (1, 6)] (List.mem_of_getElem? (i := 2) rfl), hf [(2, 0), (-1, 6)] (List.mem_of_getElem? (i := 3) rfl), hf [(-28, 0), (1, 7)] (List.mem_of_getElem? (i := 4) rfl), hf [(28, 0), (-1, 7)] (List.mem_of_getElem? (i := 5) rfl), hf [(-1, 2), (1, 4)] (List.mem_of_getElem? (i := 6) rfl), hf [(1, 2), (-1, 4)] (List.mem_of_getElem? (i := 7) rfl), hf [(2, 0), (1, 3)] (List.mem_of_getElem? (i := 8) rfl), hf [(-2, 0), (-1, 3)] (List.mem_of_getElem? (i := 9) rfl), hf [(1, 4)] (List.mem_of_getElem? (i := 10) rfl), hf [(700, 0), (-1, 4)] (List.mem_of_getElem? (i := 11) rfl)⟩
theorem up_283 {ρ : Nat → Int} {M M' : sM} {rv : Option sV} (h : qPost kc_283 ρ M rv M') : ∃ ρ' : Nat → Int, (∀ a, a < 3 → ρ' a = ρ a) ∧ rv = qRv 0 (ρ' 3) ∧ (M' 0 1 = ρ' 4 ∧ M' 0 5 = ρ' 5 ∧ M' 0 6 = ρ' 6 ∧ M' 58 4 = ρ' 7) ∧ ((0 ≤ -28 * ρ' 0 + (1 * ρ' 5 + 0) ∧ 0 ≤ 28 * ρ' 0 + (-1 * ρ' 5 + 0) ∧ 0 ≤ -2 * ρ' 0 + (1 * ρ' 6 + 0) ∧ 0 ≤ 2 * ρ' 0 + (-1 * ρ' 6 + 0) ∧ 0 ≤ -28 * ρ' 0 + (1 * ρ' 7 + 0) ∧ 0 ≤ 28 * ρ' 0 + (-1 * ρ' 7 + 0) ∧ 0 ≤ -1 * ρ' 2 + (1 * ρ' 4 + 0) ∧ 0 ≤ 1 * ρ' 2 + (-1 * ρ' 4 + 0) ∧ 0 ≤ 2 * ρ' 0 + (1 * ρ' 3 + 0) ∧ 0 ≤ -2 * ρ' 0 + (-1 * ρ' 3 + 0) ∧ 0 ≤ 1 * ρ' 4 + 0 ∧ 0 ≤ 700 * ρ' 0 + (-1 * ρ' 4 + 0))) ∧ sI M' ∧ sF (cS kc_283) M M' := by
  obtain ⟨ρ', h1, h2, ⟨al, hal, hf⟩, h3, h4, h5⟩ := h
  refine ⟨ρ', h1, h2, ⟨h3 (0, 1, 4) (List.mem_of_getElem? (i := 0) rfl), h3 (0, 5, 5) (List.mem_of_getElem? (i := 1) rfl), h3 (0, 6, 6) (List.mem_of_getElem? (i := 2) rfl), h3 (58, 4, 7) (List.mem_of_getElem? (i := 3) rfl)⟩, ?_, h4, h5⟩
  have hal : al ∈ ([[[(-28, 0), (1, 5)], [(28, 0), (-1, 5)], [(-2, 0), (1, 6)], [(2, 0), (-1, 6)], [(-28, 0), (1, 7)], [(28, 0), (-1, 7)], [(-1, 2), (1, 4)], [(1, 2), (-1, 4)], [(2, 0), (1, 3)], [(-2, 0), (-1, 3)], [(1, 4)], [(700, 0), (-1, 4)]]] : List (List qF)) := hal
  simp only [List.mem_cons, List.not_mem_nil, or_false] at hal
  rcases hal with rfl
  · exact ⟨hf [(-28, 0), (1, 5)] (List.mem_of_getElem? (i := 0) rfl), hf [(28, 0), (-1, 5)] (List.mem_of_getElem? (i := 1) rfl), hf [(-2, 0), (1, 6)] (List.mem_of_getElem? (i := 2) rfl), hf [(2, 0), (-1, 6)] (List.mem_of_getElem? (i := 3) rfl), hf [(-28, 0), (1, 7)] (List.mem_of_getElem? (i := 4) rfl), hf [(28, 0), (-1, 7)] (List.mem_of_getElem? (i := 5) rfl), hf [(-1, 2), (1, 4)] (List.mem_of_getElem? (i := 6) rfl), hf [(1, 2), (-1, 4)] (List.mem_of_getElem? (i := 7) rfl), hf [(2, 0), (1, 3)] (List.mem_of_getElem? (i := 8) rfl), hf [(-2, 0), (-1, 3)] (List.mem_of_getElem? (i := 9) rfl), hf [(1, 4)] (List.mem_of_getElem? (i := 10) rfl), hf [(700, 0), (-1, 4)] (List.mem_of_getElem? (i := 11) rfl)⟩
theorem up_329 {ρ : Nat → Int} {M M' : sM} {rv : Option sV} (h : qPost kc_329 ρ M rv M') : ∃ ρ' : Nat → Int, (∀ a, a < 17 → ρ' a = ρ a) ∧ rv = qRv 0 (ρ' 17) ∧ (M' 0 1 = ρ' 18 ∧ M' 0 2 = ρ' 19 ∧ M' 0 3 = ρ' 20 ∧ M' 4 100 = 0 ∧ M' 4 101 = ρ' 22 ∧ M' 4 207 = ρ' 23 ∧ M' 4 208 = ρ' 24 ∧ M' 91 249 = 0 ∧ M' 91 30 = ρ' 26 ∧ M' 4 200 = ρ' 27 ∧ M' 4 201 = ρ' 28 ∧ M' 4 202 = ρ' 29 ∧ M' 4 203 = ρ' 30 ∧ M' 4 204 = ρ' 31 ∧ M' 4 205 = ρ' 32 ∧ M' 4 206 = ρ' 33 ∧ M' 4 210 = 0 ∧ M' 4 212 = 0 ∧ M' 4 214 = 0 ∧ M' 4 220 = 0 ∧ M' 4 226 = 0 ∧ M' 4 233 = 0 ∧ M' 4 235 = 0 ∧ M' 4 230 = 0 ∧ M' 77 6 = ρ' 42 ∧ M' 2 8 = ρ' 43 ∧ M' 2 9 = ρ' 44 ∧ M' 2 10 = ρ' 45 ∧ M' 0 5 = ρ' 46 ∧ M' 0 6 = ρ' 47 ∧ M' 58 4 = ρ' 48) ∧ ((0 ≤ -28 * ρ' 0 + (1 * ρ' 46 + 0) ∧ 0 ≤ 28 * ρ' 0 + (-1 * ρ' 46 + 0) ∧ 0 ≤ -2 * ρ' 0 + (1 * ρ' 47 + 0) ∧ 0 ≤ 2 * ρ' 0 + (-1 * ρ' 47 + 0) ∧ 0 ≤ -28 * ρ' 0 + (1 * ρ' 48 + 0) ∧ 0 ≤ 28 * ρ' 0 + (-1 * ρ' 48 + 0) ∧ 0 ≤ 1 * ρ' 18 + 0 ∧ 0 ≤ -1 * ρ' 18 + 0 ∧ (0 : Int) ≤ 0 ∧ (0 : Int) ≤ 0 ∧ 0 ≤ -1 * ρ' 0 + (1 * ρ' 27 + 0) ∧ 0 ≤ 1 * ρ' 0 + (-1 * ρ' 27 + 0) ∧ 0 ≤ -1 * ρ' 19 + (1 * ρ' 28 + 0) ∧ 0 ≤ 1 * ρ' 19 + (-1 * ρ' 28 + 0) ∧ 0 ≤ -1 * ρ' 20 + (1 * ρ' 29 + 0) ∧ 0 ≤ 1 * ρ' 20 + (-1 * ρ' 29 + 0) ∧ 0 ≤ -1 * ρ' 1 + (1 * ρ' 22 + 0) ∧ 0 ≤ 1 * ρ' 1 + (-1 * ρ' 22 + 0) ∧ (0 : Int) ≤ 0 ∧ (0 : Int) ≤ 0 ∧ 0 ≤ -1 * ρ' 5 + (1 * ρ' 24 + 0) ∧ 0 ≤ 1 * ρ' 5 + (-1 * ρ' 24 + 0) ∧ 0 ≤ -1 * ρ' 5 + (1 * ρ' 26 + 0) ∧ 0 ≤ 1 * ρ' 5 + (-1 * ρ' 26 + 0) ∧ 0 ≤ 1 * ρ' 0 + (1 * ρ' 17 + 0) ∧ 0 ≤ -1 * ρ' 0 + (-1 * ρ' 17 + 0) ∧ 0 ≤ -1 * ρ' 0 + (1 * ρ' 28 + 0) ∧ 0 ≤ -1 * ρ' 16 + (1 * ρ' 42 + 0) ∧ 0 ≤ 1 * ρ' 16 + (-1 * ρ' 42 + 0) ∧ 0 ≤ 700 * ρ' 0 + (-1 * ρ' 18 + 0) ∧ 0 ≤ 2147483648 * ρ' 0 + (1 * ρ' 19 + 0) ∧ 0 ≤ 2147483647 * ρ' 0 + (-1 * ρ' 19 + 0) ∧ 0 ≤ 2147483648 * ρ' 0 + (1 * ρ' 20 + 0) ∧ 0 ≤ 2147483647 * ρ' 0 + (-1 * ρ' 20 + 0) ∧ 0 ≤ 2147483648 * ρ' 0 + (1 * ρ' 26 + 0) ∧ 0 ≤ 2147483647 * ρ' 0 + (-1 * ρ' 26 + 0) ∧ 0 ≤ 1 * ρ' 42 + 0 ∧ 0 ≤ 24 * ρ' 0 + (-1 * ρ' 42 + 0) ∧ 0 ≤ 1 * ρ' 43 + 0 ∧ 0 ≤ 9 * ρ' 0 + (-1 * ρ' 43 + 0) ∧ 0 ≤ 1 * ρ' 44 + 0 ∧ 0 ≤ 6 * ρ' 0 + (-1 * ρ' 44 + 0) ∧ 0 ≤ 1 * ρ' 45 + 0 ∧ 0 ≤ 3 * ρ' 0 + (-1 * ρ' 45 + 0)) ∨ (0 ≤ -2 * ρ' 0 + (1 * ρ' 46 + 0) ∧ 0 ≤ 2 * ρ' 0 + (-1 * ρ' 46 + 0) ∧ 0 ≤ -28 * ρ' 0 + (1 * ρ' 47 + 0) ∧ 0 ≤ 28 * ρ' 0 + (-1 * ρ' 47 + 0) ∧ 0 ≤ -2 * ρ' 0 + (1 * ρ' 48 + 0) ∧ 0 ≤ 2 * ρ' 0 + (-1 * ρ' 48 + 0) ∧ 0 ≤ 1 * ρ' 18 + 0 ∧ 0 ≤ -1 * ρ' 18 + 0 ∧ (0 : Int) ≤ 0 ∧ (0 : Int) ≤ 0 ∧ 0 ≤ -1 * ρ' 0 + (1 * ρ' 27 + 0) ∧ 0 ≤ 1 * ρ' 0 + (-1 * ρ' 27 + 0) ∧ 0 ≤ -1 * ρ' 19 + (1 * ρ' 28 + 0) ∧ 0 ≤ 1 * ρ' 19 + (-1 * ρ' 28 + 0) ∧ 0 ≤ -1 * ρ' 20 + (1 * ρ' 29 + 0) ∧ 0 ≤ 1 * ρ' 20 + (-1 * ρ' 29 + 0) ∧ 0 ≤ -1 * ρ' 1 + (1 * ρ' 22 + 0) ∧ 0 ≤ 1 * ρ' 1 + (-1 * ρ' 22 + 0) ∧ (0 : Int) ≤ 0 ∧ (0 : Int) ≤ 0 ∧ 0 ≤ -1 * ρ' 5 + (1 * ρ' 24 + 0) ∧ 0 ≤ 1 * ρ' 5 + (-1 * ρ' 24 + 0) ∧ 0 ≤ -1 * ρ' 5 + (1 * ρ' 26 + 0) ∧ 0 ≤ 1 * ρ' 5 + (-1 * ρ' 26 + 0) ∧ 0 ≤ 1 * ρ' 28 + 0 ∧ 0 ≤ -1 * ρ' 28 + 0 ∧ 0 ≤ 1 * ρ' 17 + (-1 * ρ' 30 + 0) ∧ 0 ≤ -1 * ρ' 17 + (1 * ρ' 30 + 0) ∧ 0 ≤ 1 * ρ' 42 + 0 ∧ 0 ≤ -1 * ρ' 42 + 0 ∧ 0 ≤ 1 * ρ' 31 + (-1 * ρ' 43 + 0) ∧ 0 ≤ -1 * ρ' 31 + (1 * ρ' 43 + 0) ∧ 0 ≤ 1 * ρ' 32 + (-1 * ρ' 44 + 0) ∧ 0 ≤ -1 * ρ' 32 + (1 * ρ' 44 + 0) ∧ 0 ≤ 1 * ρ' 33 + (-1 * ρ' 45 + 0) ∧ 0 ≤ -1 * ρ' 33 + (1 * ρ' 45 + 0) ∧ 0 ≤ 700 * ρ' 0 + (-1 * ρ' 18 + 0) ∧ 0 ≤ 2147483648 * ρ' 0 + (1 * ρ' 19 + 0) ∧ 0 ≤ 2147483647 * ρ' 0 + (-1 * ρ' 19 + 0) ∧ 0 ≤ 2147483648 * ρ' 0 + (1 * ρ' 20 + 0) ∧ 0 ≤ 2147483647 * ρ' 0 + (-1 * ρ' 20 + 0) ∧ 0 ≤ 2147483648 * ρ' 0 + (1 * ρ' 26 + 0) ∧ 0 ≤ 2147483647 * ρ' 0 + (-1 * ρ' 26 + 0) ∧ 0 ≤ 24 * ρ' 0 + (-1 * ρ' 42 + 0) ∧ 0 ≤ 1 * ρ' 43 + 0 ∧ 0 ≤ 9 * ρ' 0 + (-1 * ρ' 43 + 0) ∧ 0 ≤ 1 * ρ' 44 + 0 ∧ 0 ≤ 6 * ρ' 0 + (-1 * ρ' 44 + 0) ∧ 0 ≤ 1 * ρ' 45 + 0 ∧ 0 ≤ 3 * ρ' 0 + (-1 * ρ' 45 + 0))) ∧ sI M' ∧ sF (cS kc_329) M M' := by
  obtain ⟨ρ', h1, h2, ⟨al, hal, hf⟩, h3, h4, h5⟩ := h
  refine ⟨ρ', h1, h2, ⟨h3 (0, 1, 18) (List.mem_of_getElem? (i := 0) rfl), h3 (0, 2, 19) (List.mem_of_getElem? (i := 1) rfl), h3 (0, 3, 20) (List.mem_of_getElem? (i := 2) rfl), h3 (4, 100, 100000) (List.mem_of_getElem? (i := 3) rfl), h3 (4, 101, 22) (List.mem_of_getElem? (i := 4) rfl), h3 (4, 207, 23) (List.mem_of_getElem? (i := 5) rfl), h3 (4, 208, 24) (List.mem_of_getElem? (i := 6) rfl), h3 (91, 249, 100000) (List.mem_of_getElem? (i := 7) rfl), h3 (91, 30, 26) (List.mem_of_getElem? (i := 8) rfl), h3 (4, 200, 27) (List.mem_of_getElem? (i := 9) rfl), h3 (4, 201, 28) (List.mem_of_getElem? (i := 10) rfl), h3 (4, 202, 29) (List.mem_of_getElem? (i := 11) rfl), h3 (4, 203, 30) (List.mem_of_getElem? (i := 12) rfl), h3 (4, 204, 31) (List.mem_of_getElem? (i := 13) rfl), h3 (4, 205, 32) (List.mem_of_getElem? (i := 14) rfl), h3 (4, 206, 33) (List.mem_of_getElem? (i := 15) rfl), h3 (4, 210, 100000) (List.mem_of_getElem? (i := 16) rfl), h3 (4, 212, 100000) (List.mem_of_getElem? (i := 17) rfl), h3 (4, 214, 100000) (List.mem_of_getElem? (i := 18) rfl), h3 (4, 220, 100000) (List.mem_of_getElem? (i := 19) rfl), h3 (4, 226, 100000) (List.mem_of_getElem? (i := 20) rfl), h3 (4, 233, 100000) (List.mem_of_getElem? (i := 21) rfl), h3 (4, 235, 100000) (List.mem_of_getElem? (i := 22) rfl), h3 (4, 230, 100000) (List.mem_of_getElem? (i := 23) rfl), h3 (77, 6, 42) (List.mem_of_getElem? (i := 24) rfl), h3 (2, 8, 43) (List.mem_of_getElem? (i := 25) rfl), h3 (2, 9, 44) (List.mem_of_getElem? (i := 26) rfl), h3 (2, 10, 45) (List.mem_of_getElem? (i := 27) rfl), h3 (0, 5, 46) (List.mem_of_getElem? (i := 28) rfl), h3 (0, 6, 47) (List.mem_of_getElem? (i := 29) rfl), h3 (58, 4, 48) (List.mem_of_getElem? (i := 30) rfl)⟩, ?_, h4, h5⟩
  have hal : al ∈ ([[[(-28, 0), (1, 46)], [(28, 0), (-1, 46)], [(-2, 0), (1, 47)], [(2, 0), (-1, 47)], [(-28, 0), (1, 48)], [(28, 0), (-1, 48)], [(1, 18)], [(-1, 18)], [], [], [(-1, 0), (1, 27)], [(1, 0), (-1, 27)], [(-1, 19), (1, 28)], [(1, 19), (-1, 28)], [(-1, 20), (1, 29)], [(1, 20), (-1, 29)], [(-1, 1), (1, 22)], [(1, 1), (-1, 22)], [], [], [(-1, 5), (1, 24)], [(1, 5), (-1, 24)], [(-1, 5), (1, 26)], [(1, 5), (-1, 26)], [(1, 0), (1, 17)], [(-1, 0), (-1, 17)], [(-1, 0), (1, 28)], [(-1, 16), (1, 42)], [(1, 16), (-1, 42)], [(700, 0), (-1, 18)], [(2147483648, 0), (1, 19)], [(2147483647, 0), (-1, 19)], [(2147483648, 0), (1, 20)], [(2147483647, 0), (-1, 20)], [(2147483648, 0), (1, 26)], [(2147483647, 0), (-1, 26)], [(1, 42)], [(24, 0), (-1, 42)], [(1, 43)], [(9, 0), (-1, 43)], [(1, 44)], [(6, 0), (-1, 44)], [(1, 45)], [(3, 0), (-1, 45)]], [[(-2, 0), (1, 46)], [(2, 0), (-1, 46)], [(-28, 0), (1, 47)], [(28, 0), (-1, 47)], [(-2, 0), (1, 48)], [(2, 0), (-1, 48)], [(1, 18)], [(-1, 18)], [], [], [(-1, 0), (1, 27)], [(1, 0), (-1, 27)], [(-1, 19), (1, 28)], [(1, 19), (-1, 28)], [(-1, 20), (1, 29)], [(1, 20), (-1, 29)], [(-1, 1), (1, 22)], [(1, 1), (-1, 22)], [], [], [(-1, 5), (1, 24)], [(1, 5), (-1, 24)], [(-1, 5), (1, 26)], [(1, 5), (-1, 26)], [(1, 28)], [(-1, 28)], [(1, 17), (-1, 30)], [(-1, 17), (1, 30)], [(1, 42)], [(-1, 42)], [(1, 31), (-1, 43)], [(-1, 31), (1, 43)], [(1, 32), (-1, 44)], [(-1, 32), (1, 44)], [(1, 33), (-1, 45)], [(-1, 33), (1, 45)], [(700, 0), (-1, 18)], [(2147483648, 0), (1, 19)], [(2147483647, 0), (-1, 19)], [(2147483648, 0), (1, 20)], [(2147483647, 0), (-1, 20)], [(2147483648, 0), (1, 26)], [(2147483647, 0), (-1, 26)], [(24, 0), (-1, 42)], [(1, 43)], [(9, 0), (-1, 43)], [(1, 44)], [(6, 0), (-1, 44)], [(1, 45)], [(3, 0), (-1, 45)]]] : List (List qF)) := hal
  simp only [List.mem_cons, List.not_mem_nil, or_false] at hal
  rcases hal with rfl | rfl
  · exact Or.inl ⟨hf [(-28, 0), (1, 46)] (List.mem_of_getElem? (i := 0) rfl), hf [(28, 0), (-1, 46)] (List.mem_of_getElem? (i := 1) rfl), hf [(-2, 0), (1, 47)] (List.mem_of_getElem? (i := 2) rfl), hf [(2, 0), (-1, 47)] (List.mem_of_getElem? (i := 3) rfl), hf [(-28, 0), (1, 48)] (List.mem_of_getElem? (i := 4) rfl), hf [(28, 0), (-1, 48)] (List.mem_of_getElem? (i := 5) rfl), hf [(1, 18)] (List.mem_of_getElem? (i := 6) rfl), hf [(-1, 18)] (List.mem_of_getElem? (i := 7) rfl), hf [] (List.mem_of_getElem? (i := 8) rfl), hf [] (List.mem_of_getElem? (i := 9) rfl), hf [(-1, 0), (1, 27)] (List.mem_of_getElem? (i := 10) rfl), hf [(1, 0), (-1, 27)] (List.mem_of_getElem? (i := 11) rfl), hf [(-1, 19), (1, 28)] (List.mem_of_getElem? (i := 12) rfl), hf [(1, 19), (-1, 28)] (List.mem_of_getElem? (i := 13) rfl), hf [(-1, 20), (1, 29)] (List.mem_of_getElem? (i := 14) rfl), hf [(1, 20), (-1, 29)] (List.mem_of_getElem? (i := 15) rfl), hf [(-1, 1), (1, 22)] (List.mem_of_getElem? (i := 16) rfl), hf [(1, 1), (-1, 22)] (List.mem_of_getElem? (i := 17) rfl), hf [] (List.mem_of_getElem? (i := 18) rfl), hf [] (List.mem_of_getElem? (i := 19) rfl), hf [(-1, 5), (1, 24)] (List.mem_of_getElem? (i := 20) rfl), hf [(1, 5), (-1, 24)] (List.mem_of_getElem? (i := 21) rfl), hf [(-1, 5), (1, 26)] (List.mem_of_getElem? (i := 22) rfl), hf [(1, 5), (-1, 26)] (List.mem_of_getElem? (i := 23) rfl), hf [(1, 0), (1, 17)] (List.mem_of_getElem? (i := 24) rfl), hf [(-1, 0), (-1, 17)] (List.mem_of_getElem? (i := 25) rfl), hf [(-1, 0), (1, 28)] (List.mem_of_getElem? (i := 26) rfl), hf [(-1, 16), (1, 42)] (List.mem_of_getElem? (i := 27) rfl), hf [(1, 16), (-1, 42)] (List.mem_of_getElem? (i := 28) rfl), hf [(700, 0), (-1, 18)] (List.mem_of_getElem? (i := 29) rfl), hf [(2147483648, 0), (1, 19)] (List.mem_of_getElem? (i := 30) rfl), hf [(2147483647, 0), (-1, 19)] (List.mem_of_getElem? (i := 31) rfl), hf [(2147483648, 0), (1, 20)] (List.mem_of_getElem? (i := 32) rfl), hf [(2147483647, 0), (-1, 20)] (List.mem_of_getElem? (i := 33) rfl), hf [(2147483648, 0), (1, 26)] (List.mem_of_getElem? (i := 34) rfl), hf [(2147483647, 0), (-1, 26)] (List.mem_of_getElem? (i := 35) rfl), hf [(1, 42)] (List.mem_of_getElem? (i := 36) rfl), hf [(24, 0), (-1, 42)] (List.mem_of_getElem? (i := 37) rfl), hf [(1, 43)] (List.mem_of_getElem? (i := 38) rfl), hf [(9, 0), (-1, 43)] (List.mem_of_getElem? (i := 39) rfl), hf [(1, 44)] (List.mem_of_getElem? (i := 40) rfl), hf [(6, 0), (-1, 44)] (List.mem_of_getElem? (i := 41) rfl), hf [(1, 45)] (List.mem_of_getElem? (i := 42) rfl), hf [(3, 0), (-1, 45)] (List.mem_of_getElem? (i := 43) rfl)⟩
  · exact Or.inr (⟨hf [(-2, 0), (1, 46)] (List.mem_of_getElem? (i := 0) rfl), hf [(2, 0), (-1, 46)] (List.mem_of_getElem? (i := 1) rfl), hf [(-28, 0), (1, 47)] (List.mem_of_getElem? (i := 2) rfl), hf [(28, 0), (-1, 47)] (List.mem_of_getElem? (i := 3) rfl), hf [(-2, 0), (1, 48)] (List.mem_of_getElem? (i := 4) rfl), hf [(2, 0), (-1, 48)] (List.mem_of_getElem? (i := 5) rfl), hf [(1, 18)] (List.mem_of_getElem? (i := 6) rfl), hf [(-1, 18)] (List.mem_of_getElem? (i := 7) rfl), hf [] (List.mem_of_getElem? (i := 8) rfl), hf [] (List.mem_of_getElem? (i := 9) rfl), hf [(-1, 0), (1, 27)] (List.mem_of_getElem? (i := 10) rfl), hf [(1, 0), (-1, 27)] (List.mem_of_getElem? (i := 11) rfl), hf [(-1, 19), (1, 28)] (List.mem_of_getElem? (i := 12) rfl), hf [(1, 19), (-1, 28)] (List.mem_of_getElem? (i := 13) rfl), hf [(-1, 20), (1, 29)] (List.mem_of_getElem? (i := 14) rfl), hf [(1, 20), (-1, 29)] (List.mem_of_getElem? (i := 15) rfl), hf [(-1, 1), (1, 22)] (List.mem_of_getElem? (i := 16) rfl), hf [(1, 1), (-1, 22)] (List.mem_of_getElem? (i := 17) rfl), hf [] (List.mem_of_getElem? (i := 18) rfl), hf [] (List.mem_of_getElem? (i := 19) rfl), hf [(-1, 5), (1, 24)] (List.mem_of_getElem? (i := 20) rfl), hf [(1, 5), (-1, 24)] (List.mem_of_getElem? (i := 21) rfl), hf [(-1, 5), (1, 26)] (List.mem_of_getElem? (i := 22) rfl), hf [(1, 5), (-1, 26)] (List.mem_of_getElem? (i := 23) rfl), hf [(1, 28)] (List.mem_of_getElem? (i := 24) rfl), hf [(-1, 28)] (List.mem_of_getElem? (i := 25) rfl), hf [(1, 17), (-1, 30)] (List.mem_of_getElem? (i := 26) rfl), hf [(-1, 17), (1, 30)] (List.mem_of_getElem? (i := 27) rfl), hf [(1, 42)] (List.mem_of_getElem? (i := 28) rfl), hf [(-1, 42)] (List.mem_of_getElem? (i := 29) rfl), hf [(1, 31), (-1, 43)] (List.mem_of_getElem? (i := 30) rfl), hf [(-1, 31), (1, 43)] (List.mem_of_getElem? (i := 31) rfl), hf [(1, 32), (-1, 44)] (List.mem_of_getElem? (i := 32) rfl), hf [(-1, 32), (1, 44)] (List.mem_of_getElem? (i := 33) rfl), hf [(1, 33), (-1, 45)] (List.mem_of_getElem? (i := 34) rfl), hf [(-1, 33), (1, 45)] (List.mem_of_getElem? (i := 35) rfl), hf [(700, 0), (-1, 18)] (List.mem_of_getElem? (i := 36) rfl), hf [(2147483648, 0), (1, 19)] (List.mem_of_getElem? (i := 37) rfl), hf [(2147483647, 0), (-1, 19)] (List.mem_of_getElem? (i := 38) rfl), hf [(2147483648, 0), (1, 20)] (List.mem_of_getElem? (i := 39) rfl), hf [(2147483647, 0), (-1, 20)] (List.mem_of_getElem? (i := 40) rfl), hf [(2147483648, 0), (1, 26)] (List.mem_of_getElem? (i := 41) rfl), hf [(2147483647, 0), (-1, 26)] (List.mem_of_getElem? (i := 42) rfl), hf [(24, 0), (-1, 42)] (List.mem_of_getElem? (i := 43) rfl), hf [(1, 43)] (List.mem_of_getElem? (i := 44) rfl), hf [(9, 0), (-1, 43)] (List.mem_of_getElem? (i := 45) rfl), hf [(1, 44)] (List.mem_of_getElem? (i := 46) rfl), hf [(6, 0), (-1, 44)] (List.mem_of_getElem? (i := 47) rfl), hf [(1, 45)] (List.mem_of_getElem? (i := 48) rfl), hf [(3, 0), (-1, 45)] (List.mem_of_getElem? (i := 49) rfl)⟩)
theorem up_r2 {ρ : Nat → Int} {M M' : sM} {rv : Option sV} (h : qPost kc_r2 ρ M rv M') : ∃ ρ' : Nat → Int, (∀ a, a < 3 → ρ' a = ρ a) ∧ rv = qRv 0 (ρ' 3) ∧ (M' 91 2 = ρ' 4) ∧ ((0 ≤ 2 * ρ' 0 + (1 * ρ' 3 + 0) ∧ 0 ≤ -2 * ρ' 0 + (-1 * ρ' 3 + 0) ∧ 0 ≤ -1 * ρ' 2 + (1 * ρ' 4 + 0) ∧ 0 ≤ 1 * ρ' 2 + (-1 * ρ' 4 + 0) ∧ 0 ≤ 1 * ρ' 4 + 0 ∧ 0 ≤ 700 * ρ' 0 + (-1 * ρ' 4 + 0))) ∧ sI M' ∧ sF (cS kc_r2) M M' := by
  obtain ⟨ρ', h1, h2, ⟨al, hal, hf⟩, h3, h4, h5⟩ := h
  refine ⟨ρ', h1, h2, h3 (91, 2, 4) (List.mem_of_getElem? (i := 0) rfl), ?_, h4, h5⟩
  have hal : al ∈ ([[[(2, 0), (1, 3)], [(-2, 0), (-1, 3)], [(-1, 2), (1, 4)], [(1, 2), (-1, 4)], [(1, 4)], [(700, 0), (-1, 4)]]] : List (List qF)) := hal
  simp only [List.mem_cons, List.not_mem_nil, or_false] at hal
  rcases hal with rfl
  · exact ⟨hf [(2, 0), (1, 3)] (List.mem_of_getElem? (i := 0) rfl), hf [(-2, 0), (-1, 3)] (List.mem_of_getElem? (i := 1) rfl), hf [(-1, 2), (1, 4)] (List.mem_of_getElem? (i := 2) rfl), hf [(1, 2), (-1, 4)] (List.mem_of_getElem? (i := 3) rfl), hf [(1, 4)] (List.mem_of_getElem? (i := 4) rfl), hf [(700, 0), (-1, 4)] (List.mem_of_getElem? (i := 5) rfl)⟩
theorem up_r3 {ρ : Nat → Int} {M M' : sM} {rv : Option sV} (h : qPost kc_r3 ρ M rv M') : ∃ ρ' : Nat → Int, (∀ a, a < 3 → ρ' a = ρ a) ∧ rv = qRv 0 (ρ' 3) ∧ (M' 91 2 = ρ' 4) ∧ ((0 ≤ 2 * ρ' 0 + (1 * ρ' 3 + 0) ∧ 0 ≤ -2 * ρ' 0 + (-1 * ρ' 3 + 0) ∧ 0 ≤ -1 * ρ' 2 + (1 * ρ' 4 + 0) ∧ 0 ≤ 1 * ρ' 2 + (-1 * ρ' 4 + 0) ∧ 0 ≤ 1 * ρ' 4 + 0 ∧ 0 ≤ 700 * ρ' 0 + (-1 * ρ' 4 + 0))) ∧ sI M' ∧ sF (cS kc_r3) M M' := by
  obtain ⟨ρ', h1, h2, ⟨al, hal, hf⟩, h3, h4, h5⟩ := h
  refine ⟨ρ', h1, h2, h3 (91, 2, 4) (List.mem_of_getElem? (i := 0) rfl), ?_, h4, h5⟩
  have hal : al ∈ ([[[(2, 0), (1, 3)], [(-2, 0), (-1, 3)], [(-1, 2), (1, 4)], [(1, 2), (-1, 4)], [(1, 4)], [(700, 0), (-1, 4)]]] : List (List qF)) := hal
  simp only [List.mem_cons, List.not_mem_nil, or_false] at hal
  rcases hal with rfl
  · exact ⟨hf [(2, 0), (1, 3)] (List.mem_of_getElem? (i := 0) rfl), hf [(-2, 0), (-1, 3)] (List.mem_of_getElem? (i := 1) rfl), hf [(-1, 2), (1, 4)] (List.mem_of_getElem? (i := 2) rfl), hf [(1, 2), (-1, 4)] (List.mem_of_getElem? (i := 3) rfl), hf [(1, 4)] (List.mem_of_getElem? (i := 4) rfl), hf [(700, 0), (-1, 4)] (List.mem_of_getElem? (i := 5) rfl)⟩
theorem up_r580 {ρ : Nat → Int} {M M' : sM} {rv : Option sV} (h : qPost kc_r580 ρ M rv M') : ∃ ρ' : Nat → Int, (∀ a, a < 18 → ρ' a = ρ a) ∧ rv = qRv 0 (ρ' 18) ∧ (M' 91 2 = ρ' 19 ∧ M' 91 33 = ρ' 20 ∧ M' 91 34 = ρ' 21 ∧ M' 4 100 = 0 ∧ M' 4 200 = 0 ∧ M' 91 249 = 0 ∧ M' 4 261 = 0 ∧ M' 4 210 = 0 ∧ M' 4 212 = 0 ∧ M' 4 214 = 0 ∧ M' 4 220 = 0 ∧ M' 4 226 = 0 ∧ M' 4 233 = 0 ∧ M' 4 235 = 0 ∧ M' 4 230 = 0 ∧ M' 93 0 = ρ' 34 ∧ M' 93 1 = ρ' 35 ∧ M' 93 2 = ρ' 36 ∧ M' 91 61 = ρ' 37 ∧ M' 91 991 = 1 ∧ M' 91 992 = 50 ∧ M' 91 975 = 1 ∧ M' 91 995 = 1 ∧ M' 91 974 = 1) ∧ ((0 ≤ 1 * ρ' 0 + (1 * ρ' 18 + 0) ∧ 0 ≤ -1 * ρ' 0 + (-1 * ρ' 18 + 0) ∧ 0 ≤ -1 * ρ' 0 + (1 * ρ' 8 + 0) ∧ 0 ≤ 1 * ρ' 19 + 0 ∧ 0 ≤ -1 * ρ' 19 + 0 ∧ 0 ≤ -1 * ρ' 8 + (1 * ρ' 20 + 0) ∧ 0 ≤ 1 * ρ' 8 + (-1 * ρ' 20 + 0) ∧ 0 ≤ -1 * ρ' 9 + (1 * ρ' 21 + 0) ∧ 0 ≤ 1 * ρ' 9 + (-1 * ρ' 21 + 0) ∧ (0 : Int) ≤ 0 ∧ (0 : Int) ≤ 0 ∧ (0 : Int) ≤ 0 ∧ (0 : Int) ≤ 0 ∧ (0 : Int) ≤ 0 ∧ (0 : Int) ≤ 0 ∧ 0 ≤ -1 * ρ' 14 + (1 * ρ' 34 + 0) ∧ 0 ≤ 1 * ρ' 14 + (-1 * ρ' 34 + 0) ∧ 0 ≤ -1 * ρ' 15 + (1 * ρ' 35 + 0) ∧ 0 ≤ 1 * ρ' 15 + (-1 * ρ' 35 + 0) ∧ 0 ≤ -1 * ρ' 16 + (1 * ρ' 36 + 0) ∧ 0 ≤ 1 * ρ' 16 + (-1 * ρ' 36 + 0) ∧ 0 ≤ -1 * ρ' 17 + (1 * ρ' 37 + 0) ∧ 0 ≤ 1 * ρ' 17 + (-1 * ρ' 37 + 0) ∧ 0 ≤ 700 * ρ' 0 + (-1 * ρ' 19 + 0) ∧ 0 ≤ 1 * ρ' 20 + 0 ∧ 0 ≤ 4 * ρ' 0 + (-1 * ρ' 20 + 0) ∧ 0 ≤ 2147483648 * ρ' 0 + (1 * ρ' 21 + 0) ∧ 0 ≤ 2147483647 * ρ' 0 + (-1 * ρ' 21 + 0) ∧ 0 ≤ 1 * ρ' 34 + 0 ∧ 0 ≤ 9 * ρ' 0 + (-1 * ρ' 34 + 0) ∧ 0 ≤ 1 * ρ' 35 + 0 ∧ 0 ≤ 6 * ρ' 0 + (-1 * ρ' 35 + 0) ∧ 0 ≤ 1 * ρ' 36 + 0 ∧ 0 ≤ 3 * ρ' 0 + (-1 * ρ' 36 + 0) ∧ 0 ≤ 1 * ρ' 37 + 0 ∧ 0 ≤ 24 * ρ' 0 + (-1 * ρ' 37 + 0)) ∨ (0 ≤ -1 * ρ' 10 + (1 * ρ' 18 + 0) ∧ 0 ≤ 1 * ρ' 10 + (-1 * ρ' 18 + 0) ∧ 0 ≤ 1 * ρ' 8 + 0 ∧ 0 ≤ -1 * ρ' 8 + 0 ∧ 0 ≤ 1 * ρ' 19 + 0 ∧ 0 ≤ -1 * ρ' 19 + 0 ∧ 0 ≤ -1 * ρ' 8 + (1 * ρ' 20 + 0) ∧ 0 ≤ 1 * ρ' 8 + (-1 * ρ' 20 + 0) ∧ 0 ≤ -1 * ρ' 9 + (1 * ρ' 21 + 0) ∧ 0 ≤ 1 * ρ' 9 + (-1 * ρ' 21 + 0) ∧ (0 : Int) ≤ 0 ∧ (0 : Int) ≤ 0 ∧ (0 : Int) ≤ 0 ∧ (0 : Int) ≤ 0 ∧ (0 : Int) ≤ 0 ∧ (0 : Int) ≤ 0 ∧ 0 ≤ -1 * ρ' 11 + (1 * ρ' 34 + 0) ∧ 0 ≤ 1 * ρ' 11 + (-1 * ρ' 34 + 0) ∧ 0 ≤ -1 * ρ' 12 + (1 * ρ' 35 + 0) ∧ 0 ≤ 1 * ρ' 12 + (-1 * ρ' 35 + 0) ∧ 0 ≤ -1 * ρ' 13 + (1 * ρ' 36 + 0) ∧ 0 ≤ 1 * ρ' 13 + (-1 * ρ' 36 + 0) ∧ 0 ≤ 1 * ρ' 37 + 0 ∧ 0 ≤ -1 * ρ' 37 + 0 ∧ 0 ≤ 700 * ρ' 0 + (-1 * ρ' 19 + 0) ∧ 0 ≤ 1 * ρ' 20 + 0 ∧ 0 ≤ 4 * ρ' 0 + (-1 * ρ' 20 + 0) ∧ 0 ≤ 2147483648 * ρ' 0 + (1 * ρ' 21 + 0) ∧ 0 ≤ 2147483647 * ρ' 0 + (-1 * ρ' 21 + 0) ∧ 0 ≤ 1 * ρ' 34 + 0 ∧ 0 ≤ 9 * ρ' 0 + (-1 * ρ' 34 + 0) ∧ 0 ≤ 1 * ρ' 35 + 0 ∧ 0 ≤ 6 * ρ' 0 + (-1 * ρ' 35 + 0) ∧ 0 ≤ 1 * ρ' 36 + 0 ∧ 0 ≤ 3 * ρ' 0 + (-1 * ρ' 36 + 0) ∧ 0 ≤ 24 * ρ' 0 + (-1 * ρ' 37 + 0))) ∧ sI M' ∧ sF (cS kc_r580) M M' := by
  obtain ⟨ρ', h1, h2, ⟨al, hal, hf⟩, h3, h4, h5⟩ := h
  refine ⟨ρ', h1, h2, ⟨h3 (91, 2, 19) (List.mem_of_getElem? (i := 0) rfl), h3 (91, 33, 20) (List.mem_of_getElem? (i := 1) rfl), h3 (91, 34, 21) (List.mem_of_getElem? (i := 2) rfl), h3 (4, 100, 100000) (List.mem_of_getElem? (i := 3) rfl), h3 (4, 200, 100000) (List.mem_of_getElem? (i := 4) rfl), h3 (91, 249, 100000) (List.mem_of_getElem? (i := 5) rfl), h3 (4, 261, 100000) (List.mem_of_getElem? (i := 6) rfl), h3 (4, 210, 100000) (List.mem_of_getElem? (i := 7) rfl), h3 (4, 212, 100000) (List.mem_of_getElem? (i := 8) rfl), h3 (4, 214, 100000) (List.mem_of_getElem? (i := 9) rfl), h3 (4, 220, 100000) (List.mem_of_getElem? (i := 10) rfl), h3 (4, 226, 100000) (List.mem_of_getElem? (i := 11) rfl), h3 (4, 233, 100000) (List.mem_of_getElem? (i := 12) rfl), h3 (4, 235, 100000) (List.mem_of_getElem? (i := 13) rfl), h3 (4, 230, 100000) (List.mem_of_getElem? (i := 14) rfl), h3 (93, 0, 34) (List.mem_of_getElem? (i := 15) rfl), h3 (93, 1, 35) (List.mem_of_getElem? (i := 16) rfl), h3 (93, 2, 36) (List.mem_of_getElem? (i := 17) rfl), h3 (91, 61, 37) (List.mem_of_getElem? (i := 18) rfl), h3 (91, 991, 100001) (List.mem_of_getElem? (i := 19) rfl), h3 (91, 992, 100050) (List.mem_of_getElem? (i := 20) rfl), h3 (91, 975, 100001) (List.mem_of_getElem? (i := 21) rfl), h3 (91, 995, 100001) (List.mem_of_getElem? (i := 22) rfl), h3 (91, 974, 100001) (List.mem_of_getElem? (i := 23) rfl)⟩, ?_, h4, h5⟩
  have hal : al ∈ ([[[(1, 0), (1, 18)], [(-1, 0), (-1, 18)], [(-1, 0), (1, 8)], [(1, 19)], [(-1, 19)], [(-1, 8), (1, 20)], [(1, 8), (-1, 20)], [(-1, 9), (1, 21)], [(1, 9), (-1, 21)], [], [], [], [], [], [], [(-1, 14), (1, 34)], [(1, 14), (-1, 34)], [(-1, 15), (1, 35)], [(1, 15), (-1, 35)], [(-1, 16), (1, 36)], [(1, 16), (-1, 36)], [(-1, 17), (1, 37)], [(1, 17), (-1, 37)], [(700, 0), (-1, 19)], [(1, 20)], [(4, 0), (-1, 20)], [(2147483648, 0), (1, 21)], [(2147483647, 0), (-1, 21)], [(1, 34)], [(9, 0), (-1, 34)], [(1, 35)], [(6, 0), (-1, 35)], [(1, 36)], [(3, 0), (-1, 36)], [(1, 37)], [(24, 0), (-1, 37)]], [[(-1, 10), (1, 18)], [(1, 10), (-1, 18)], [(1, 8)], [(-1, 8)], [(1, 19)], [(-1, 19)], [(-1, 8), (1, 20)], [(1, 8), (-1, 20)], [(-1, 9), (1, 21)], [(1, 9), (-1, 21)], [], [], [], [], [], [], [(-1, 11), (1, 34)], [(1, 11), (-1, 34)], [(-1, 12), (1, 35)], [(1, 12), (-1, 35)], [(-1, 13), (1, 36)], [(1, 13), (-1, 36)], [(1, 37)], [(-1, 37)], [(700, 0), (-1, 19)], [(1, 20)], [(4, 0), (-1, 20)], [(2147483648, 0), (1, 21)], [(2147483647, 0), (-1, 21)], [(1, 34)], [(9, 0), (-1, 34)], [(1, 35)], [(6, 0), (-1, 35)], [(1, 36)], [(3, 0), (-1, 36)], [(24, 0), (-1, 37)]]] : List (List qF)) := hal
  simp only [List.mem_cons, List.not_mem_nil, or_false] at hal
  rcases hal with rfl | rfl
  · exact Or.inl ⟨hf [(1, 0), (1, 18)] (List.mem_of_getElem? (i := 0) rfl), hf [(-1, 0), (-1, 18)] (List.mem_of_getElem? (i := 1) rfl), hf [(-1, 0), (1, 8)] (List.mem_of_getElem? (i := 2) rfl), hf [(1, 19)] (List.mem_of_getElem? (i := 3) rfl), hf [(-1, 19)] (List.mem_of_getElem? (i := 4) rfl), hf [(-1, 8), (1, 20)] (List.mem_of_getElem? (i := 5) rfl), hf [(1, 8), (-1, 20)] (List.mem_of_getElem? (i := 6) rfl), hf [(-1, 9), (1, 21)] (List.mem_of_getElem? (i := 7) rfl), hf [(1, 9), (-1, 21)] (List.mem_of_getElem? (i := 8) rfl), hf [] (List.mem_of_getElem? (i := 9) rfl), hf [] (List.mem_of_getElem? (i := 10) rfl), hf [] (List.mem_of_getElem? (i := 11) rfl), hf [] (List.mem_of_getElem? (i := 12) rfl), hf [] (List.mem_of_getElem? (i := 13) rfl), hf [] (List.mem_of_getElem? (i := 14) rfl), hf [(-1, 14), (1, 34)] (List.mem_of_getElem? (i := 15) rfl), hf [(1, 14), (-1, 34)] (List.mem_of_getElem? (i := 16) rfl), hf [(-1, 15), (1, 35)] (List.mem_of_getElem? (i := 17) rfl), hf [(1, 15), (-1, 35)] (List.mem_of_getElem? (i := 18) rfl), hf [(-1, 16), (1, 36)] (List.mem_of_getElem? (i := 19) rfl), hf [(1, 16), (-1, 36)] (List.mem_of_getElem? (i := 20) rfl), hf [(-1, 17), (1, 37)] (List.mem_of_getElem? (i := 21) rfl), hf [(1, 17), (-1, 37)] (List.mem_of_getElem? (i := 22) rfl), hf [(700, 0), (-1, 19)] (List.mem_of_getElem? (i := 23) rfl), hf [(1, 20)] (List.mem_of_getElem? (i := 24) rfl), hf [(4, 0), (-1, 20)] (List.mem_of_getElem? (i := 25) rfl), hf [(2147483648, 0), (1, 21)] (List.mem_of_getElem? (i := 26) rfl), hf [(2147483647, 0), (-1, 21)] (List.mem_of_getElem? (i := 27) rfl), hf [(1, 34)] (List.mem_of_getElem? (i := 28) rfl), hf [(9, 0), (-1, 34)] (List.mem_of_getElem? (i := 29) rfl), hf [(1, 35)] (List.mem_of_getElem? (i := 30) rfl), hf [(6, 0), (-1, 35)] (List.mem_of_getElem? (i := 31) rfl), hf [(1, 36)] (List.mem_of_getElem? (i := 32) rfl), hf [(3, 0), (-1, 36)] (List.mem_of_getElem? (i := 33) rfl), hf [(1, 37)] (List.mem_of_getElem? (i := 34) rfl), hf [(24, 0), (-1, 37)] (List.mem_of_getElem? (i := 35) rfl)⟩
  · exact Or.inr (⟨hf [(-1, 10), (1, 18)] (List.mem_of_getElem? (i := 0) rfl), hf [(1, 10), (-1, 18)] (List.mem_of_getElem? (i := 1) rfl), hf [(1, 8)] (List.mem_of_getElem? (i := 2) rfl), hf [(-1, 8)] (List.mem_of_getElem? (i := 3) rfl), hf [(1, 19)] (List.mem_of_getElem? (i := 4) rfl), hf [(-1, 19)] (List.mem_of_getElem? (i := 5) rfl), hf [(-1, 8), (1, 20)] (List.mem_of_getElem? (i := 6) rfl), hf [(1, 8), (-1, 20)] (List.mem_of_getElem? (i := 7) rfl), hf [(-1, 9), (1, 21)] (List.mem_of_getElem? (i := 8) rfl), hf [(1, 9), (-1, 21)] (List.mem_of_getElem? (i := 9) rfl), hf [] (List.mem_of_getElem? (i := 10) rfl), hf [] (List.mem_of_getElem? (i := 11) rfl), hf [] (List.mem_of_getElem? (i := 12) rfl), hf [] (List.mem_of_getElem? (i := 13) rfl), hf [] (List.mem_of_getElem? (i := 14) rfl), hf [] (List.mem_of_getElem? (i := 15) rfl), hf [(-1, 11), (1, 34)] (List.mem_of_getElem? (i := 16) rfl), hf [(1, 11), (-1, 34)] (List.mem_of_getElem? (i := 17) rfl), hf [(-1, 12), (1, 35)] (List.mem_of_getElem? (i := 18) rfl), hf [(1, 12), (-1, 35)] (List.mem_of_getElem? (i := 19) rfl), hf [(-1, 13), (1, 36)] (List.mem_of_getElem? (i := 20) rfl), hf [(1, 13), (-1, 36)] (List.mem_of_getElem? (i := 21) rfl), hf [(1, 37)] (List.mem_of_getElem? (i := 22) rfl), hf [(-1, 37)] (List.mem_of_getElem? (i := 23) rfl), hf [(700, 0), (-1, 19)] (List.mem_of_getElem? (i := 24) rfl), hf [(1, 20)] (List.mem_of_getElem? (i := 25) rfl), hf [(4, 0), (-1, 20)] (List.mem_of_getElem? (i := 26) rfl), hf [(2147483648, 0), (1, 21)] (List.mem_of_getElem? (i := 27) rfl), hf [(2147483647, 0), (-1, 21)] (List.mem_of_getElem? (i := 28) rfl), hf [(1, 34)] (List.mem_of_getElem? (i := 29) rfl), hf [(9, 0), (-1, 34)] (List.mem_of_getElem? (i := 30) rfl), hf [(1, 35)] (List.mem_of_getElem? (i := 31) rfl), hf [(6, 0), (-1, 35)] (List.mem_of_getElem? (i := 32) rfl), hf [(1, 36)] (List.mem_of_getElem? (i := 33) rfl), hf [(3, 0), (-1, 36)] (List.mem_of_getElem? (i := 34) rfl), hf [(24, 0), (-1, 37)] (List.mem_of_getElem? (i := 35) rfl)⟩)
def uKw : List (Nat × Nat × Int) := [(91, 991, 1), (91, 992, 50), (91, 975, 1), (91, 995, 1), (91, 974, 1), (4, 100, 0), (4, 210, 0), (4, 212, 0), (4, 214, 0), (4, 220, 0), (4, 226, 0), (4, 230, 0), (4, 233, 0), (4, 235, 0), (91, 249, 0), (91, 259, 0)]
theorem ukw_of {r : Int} : ∀ q ∈ uKw, q ∈ uKs r := by
  intro q hq
  simp only [uKw, List.mem_cons, List.not_mem_nil, or_false] at hq
  simp only [uKs, List.mem_cons, List.not_mem_nil, or_false]
  rcases hq with rfl | rfl | rfl | rfl | rfl | rfl | rfl | rfl | rfl | rfl | rfl | rfl | rfl | rfl | rfl | rfl <;> simp
theorem uks_mem {r : Int} : ∀ q ∈ uKs r, q = (0, 5, r) ∨ q = (0, 6, 30 - r) ∨ q = (58, 4, r) ∨ q = (4, 200, 0) ∨ q ∈ uKw := by
  intro q hq
  simp only [uKs, List.mem_cons, List.not_mem_nil, or_false] at hq
  simp only [uKw, List.mem_cons, List.not_mem_nil, or_false]
  rcases hq with rfl | rfl | rfl | rfl | rfl | rfl | rfl | rfl | rfl | rfl | rfl | rfl | rfl | rfl | rfl | rfl | rfl | rfl | rfl | rfl <;> simp
theorem uo_0 {M : sM} (hM : uG M) (J : pHp) (x1 : Int32) (x2 : Int32) (x3 : Int32) (x4 : Int32) (x5 : Int32) : ∃ (v : Int32) (M1 M2 : sM), pEx 300 25 [.ref 0, .int x1, .int x2, .int x3, .int x4, .int x5] (sHp sLay M ++ J) (some (.int v)) (sHp sLay M1 ++ J) ∧ pEx 300 168 [.ref 91, .int x1, .int x2, .int x3, .int x4, .int x5] (sHp sLay M1 ++ J) (some (.int v)) (sHp sLay M2 ++ J) ∧ uG M2 := by
  obtain ⟨r, hr, hs, hT⟩ := hM
  rcases hr with rfl | rfl
  · have kM_0 : M 0 1 = M 91 2 := hT (0, 1, 91, 2) (List.mem_of_getElem? (i := 0) rfl)
    have kM_1 : M 4 261 = M 0 1 := hT (4, 261, 0, 1) (List.mem_of_getElem? (i := 1) rfl)
    have kM_2 : M 0 2 = M 91 33 := hT (0, 2, 91, 33) (List.mem_of_getElem? (i := 2) rfl)
    have kM_3 : M 0 3 = M 91 34 := hT (0, 3, 91, 34) (List.mem_of_getElem? (i := 3) rfl)
    have kM_4 : M 2 8 = M 93 0 := hT ((2 : Int).toNat, 8, 93, 0) (List.mem_of_getElem? (i := 4) rfl)
    have kM_5 : M 2 9 = M 93 1 := hT ((2 : Int).toNat, 9, 93, 1) (List.mem_of_getElem? (i := 5) rfl)
    have kM_6 : M 2 10 = M 93 2 := hT ((2 : Int).toNat, 10, 93, 2) (List.mem_of_getElem? (i := 6) rfl)
    have kM_7 : M 77 6 = M 91 61 := hT (77, 6, 91, 61) (List.mem_of_getElem? (i := 7) rfl)
    obtain ⟨rv1, N1, e1, p1, q1⟩ := u_runX ko_5 (ks := uKs 2) (ex := [[(-1, 6), (1, 7)], [(1, 6), (-1, 7)]]) (o := 0) (bs := [false, false, false, false, false]) (by decide +kernel) hs.1 hs.2 (as := [x1.toInt, x2.toInt, x3.toInt, x4.toInt, x5.toInt]) ⟨⟨uarg_i _, fun h => nomatch h⟩, ⟨⟨uarg_i _, fun h => nomatch h⟩, ⟨⟨uarg_i _, fun h => nomatch h⟩, ⟨⟨uarg_i _, fun h => nomatch h⟩, ⟨⟨uarg_i _, fun h => nomatch h⟩, trivial⟩⟩⟩⟩⟩ (fun hm f hf => by
        obtain ⟨ρ, hρ⟩ : ∃ ρ, ρ = uRho [x1.toInt, x2.toInt, x3.toInt, x4.toInt, x5.toInt] M (cM kc_5) := ⟨_, rfl⟩
        have o1 : ρ 0 = 1 := by rw [hρ]; rfl
        rw [← hρ] at hm ⊢
        have m0 : M 0 1 = 1 * ρ 6 + 0 := hm (0, 1, [(1, 6)]) (List.mem_of_getElem? (i := 0) rfl)
        have m1 : M 4 261 = 1 * ρ 7 + 0 := hm (4, 261, [(1, 7)]) (List.mem_of_getElem? (i := 1) rfl)
        have hf : f ∈ ([[(-1, 6), (1, 7)], [(1, 6), (-1, 7)]] : List qF) := hf
        simp only [List.mem_cons, List.not_mem_nil, or_false] at hf
        rcases hf with rfl | rfl
        · show 0 ≤ -1 * ρ 6 + (1 * ρ 7 + 0)
          omega
        · show 0 ≤ 1 * ρ 6 + (-1 * ρ 7 + 0)
          omega) J (N := 300) (by decide)
    obtain ⟨ρ1, u1, w1, t1, z1, i1, y1⟩ := up_5 p1
    have o1 : ρ1 0 = 1 := u1 0 (by decide)
    have a1_1 : ρ1 1 = x1.toInt := (u1 1 (by decide)).trans (urho_a (as := [x1.toInt, x2.toInt, x3.toInt, x4.toInt, x5.toInt]) (j := 0) (show (0 : Nat) < 5 from by decide))
    have a1_2 : ρ1 2 = x2.toInt := (u1 2 (by decide)).trans (urho_a (as := [x1.toInt, x2.toInt, x3.toInt, x4.toInt, x5.toInt]) (j := 1) (show (1 : Nat) < 5 from by decide))
    have a1_3 : ρ1 3 = x3.toInt := (u1 3 (by decide)).trans (urho_a (as := [x1.toInt, x2.toInt, x3.toInt, x4.toInt, x5.toInt]) (j := 2) (show (2 : Nat) < 5 from by decide))
    have a1_4 : ρ1 4 = x4.toInt := (u1 4 (by decide)).trans (urho_a (as := [x1.toInt, x2.toInt, x3.toInt, x4.toInt, x5.toInt]) (j := 3) (show (3 : Nat) < 5 from by decide))
    have a1_5 : ρ1 5 = x5.toInt := (u1 5 (by decide)).trans (urho_a (as := [x1.toInt, x2.toInt, x3.toInt, x4.toInt, x5.toInt]) (j := 4) (show (4 : Nat) < 5 from by decide))
    have m1_0_1 : M 0 1 = ρ1 6 := by
      have h := q1 (0, 1, [(1, 6)]) (List.mem_of_getElem? (i := 0) rfl)
      have h : M 0 1 = 1 * uRho [x1.toInt, x2.toInt, x3.toInt, x4.toInt, x5.toInt] M (cM kc_5) 6 + 0 := h
      rw [u1 6 (by decide)]
      omega
    have m1_4_261 : M 4 261 = ρ1 7 := by
      have h := q1 (4, 261, [(1, 7)]) (List.mem_of_getElem? (i := 1) rfl)
      have h : M 4 261 = 1 * uRho [x1.toInt, x2.toInt, x3.toInt, x4.toInt, x5.toInt] M (cM kc_5) 7 + 0 := h
      rw [u1 7 (by decide)]
      omega
    obtain ⟨t1_0, t1_1, t1_2, t1_3, t1_4, t1_5, t1_6, t1_7, t1_8, t1_9, t1_10⟩ := t1
    rw [o1] at z1
    have s1 : uSt 2 N1 := ukeep_ok (c := kc_5) (r := 2) (by decide +kernel) hs p1
    have b1_0_1 : N1 0 1 = ρ1 9 := t1_0
    have b1_0_2 : N1 0 2 = M 0 2 := y1 0 2 (by decide +kernel)
    have b1_0_3 : N1 0 3 = M 0 3 := y1 0 3 (by decide +kernel)
    have b1_2_8 : N1 2 8 = M 2 8 := y1 2 8 (by decide +kernel)
    have b1_2_9 : N1 2 9 = M 2 9 := y1 2 9 (by decide +kernel)
    have b1_2_10 : N1 2 10 = M 2 10 := y1 2 10 (by decide +kernel)
    have b1_4_261 : N1 4 261 = M 4 261 := y1 4 261 (by decide +kernel)
    have b1_77_6 : N1 77 6 = M 77 6 := y1 77 6 (by decide +kernel)
    have b1_91_2 : N1 91 2 = M 91 2 := y1 91 2 (by decide +kernel)
    have b1_91_33 : N1 91 33 = M 91 33 := y1 91 33 (by decide +kernel)
    have b1_91_34 : N1 91 34 = M 91 34 := y1 91 34 (by decide +kernel)
    have b1_91_61 : N1 91 61 = M 91 61 := y1 91 61 (by decide +kernel)
    have b1_93_0 : N1 93 0 = M 93 0 := y1 93 0 (by decide +kernel)
    have b1_93_1 : N1 93 1 = M 93 1 := y1 93 1 (by decide +kernel)
    have b1_93_2 : N1 93 2 = M 93 2 := y1 93 2 (by decide +kernel)
    rcases z1 with z1 | z1
    · obtain ⟨rv2, N2, e2, p2, q2⟩ := u_runX ko_r0 (ks := uKs 2) (ex := [[(-681, 0), (1, 6)]]) (o := 91) (bs := [false, false, false, false, false]) (by decide +kernel) s1.1 s1.2 (as := [x1.toInt, x2.toInt, x3.toInt, x4.toInt, x5.toInt]) ⟨⟨uarg_i _, fun h => nomatch h⟩, ⟨⟨uarg_i _, fun h => nomatch h⟩, ⟨⟨uarg_i _, fun h => nomatch h⟩, ⟨⟨uarg_i _, fun h => nomatch h⟩, ⟨⟨uarg_i _, fun h => nomatch h⟩, trivial⟩⟩⟩⟩⟩ (fun hm f hf => by
          obtain ⟨ρ, hρ⟩ : ∃ ρ, ρ = uRho [x1.toInt, x2.toInt, x3.toInt, x4.toInt, x5.toInt] N1 (cM kc_r0) := ⟨_, rfl⟩
          have o1 : ρ 0 = 1 := by rw [hρ]; rfl
          rw [← hρ] at hm ⊢
          have m0 : N1 91 2 = 1 * ρ 6 + 0 := hm (91, 2, [(1, 6)]) (List.mem_of_getElem? (i := 0) rfl)
          have hf : f ∈ ([[(-681, 0), (1, 6)]] : List qF) := hf
          simp only [List.mem_cons, List.not_mem_nil, or_false] at hf
          rcases hf with rfl
          · show 0 ≤ -681 * ρ 0 + (1 * ρ 6 + 0)
            omega) J (N := 300) (by decide)
      obtain ⟨ρ2, u2, w2, t2, z2, i2, y2⟩ := up_r0 p2
      have o2 : ρ2 0 = 1 := u2 0 (by decide)
      have a2_1 : ρ2 1 = x1.toInt := (u2 1 (by decide)).trans (urho_a (as := [x1.toInt, x2.toInt, x3.toInt, x4.toInt, x5.toInt]) (j := 0) (show (0 : Nat) < 5 from by decide))
      have a2_2 : ρ2 2 = x2.toInt := (u2 2 (by decide)).trans (urho_a (as := [x1.toInt, x2.toInt, x3.toInt, x4.toInt, x5.toInt]) (j := 1) (show (1 : Nat) < 5 from by decide))
      have a2_3 : ρ2 3 = x3.toInt := (u2 3 (by decide)).trans (urho_a (as := [x1.toInt, x2.toInt, x3.toInt, x4.toInt, x5.toInt]) (j := 2) (show (2 : Nat) < 5 from by decide))
      have a2_4 : ρ2 4 = x4.toInt := (u2 4 (by decide)).trans (urho_a (as := [x1.toInt, x2.toInt, x3.toInt, x4.toInt, x5.toInt]) (j := 3) (show (3 : Nat) < 5 from by decide))
      have a2_5 : ρ2 5 = x5.toInt := (u2 5 (by decide)).trans (urho_a (as := [x1.toInt, x2.toInt, x3.toInt, x4.toInt, x5.toInt]) (j := 4) (show (4 : Nat) < 5 from by decide))
      have m2_91_2 : N1 91 2 = ρ2 6 := by
        have h := q2 (91, 2, [(1, 6)]) (List.mem_of_getElem? (i := 0) rfl)
        have h : N1 91 2 = 1 * uRho [x1.toInt, x2.toInt, x3.toInt, x4.toInt, x5.toInt] N1 (cM kc_r0) 6 + 0 := h
        rw [u2 6 (by decide)]
        omega
      have t2_0 := t2
      rw [o2] at z2
      have s2 : uSt 2 N2 := ukeep_ok (c := kc_r0) (r := 2) (by decide +kernel) s1 p2
      have b2_0_1 : N2 0 1 = N1 0 1 := y2 0 1 (by decide +kernel)
      have b2_0_2 : N2 0 2 = N1 0 2 := y2 0 2 (by decide +kernel)
      have b2_0_3 : N2 0 3 = N1 0 3 := y2 0 3 (by decide +kernel)
      have b2_2_8 : N2 2 8 = N1 2 8 := y2 2 8 (by decide +kernel)
      have b2_2_9 : N2 2 9 = N1 2 9 := y2 2 9 (by decide +kernel)
      have b2_2_10 : N2 2 10 = N1 2 10 := y2 2 10 (by decide +kernel)
      have b2_4_261 : N2 4 261 = N1 4 261 := y2 4 261 (by decide +kernel)
      have b2_77_6 : N2 77 6 = N1 77 6 := y2 77 6 (by decide +kernel)
      have b2_91_2 : N2 91 2 = ρ2 8 := t2_0
      have b2_91_33 : N2 91 33 = N1 91 33 := y2 91 33 (by decide +kernel)
      have b2_91_34 : N2 91 34 = N1 91 34 := y2 91 34 (by decide +kernel)
      have b2_91_61 : N2 91 61 = N1 91 61 := y2 91 61 (by decide +kernel)
      have b2_93_0 : N2 93 0 = N1 93 0 := y2 93 0 (by decide +kernel)
      have b2_93_1 : N2 93 1 = N1 93 1 := y2 93 1 (by decide +kernel)
      have b2_93_2 : N2 93 2 = N1 93 2 := y2 93 2 (by decide +kernel)
      have hv : ρ2 7 = ρ1 8 := by omega
      rw [w1] at e1
      rw [w2, hv] at e2
      simp only [List.map_cons, List.map_nil, i32_of] at e1 e2
      exact ⟨Int32.ofInt (ρ1 8), N1, N2, e1, e2, 2, Or.inl rfl, s2, (fun q hq => by
        have hq : q ∈ ([(0, 1, 91, 2), (4, 261, 0, 1), (0, 2, 91, 33), (0, 3, 91, 34), (2, 8, 93, 0), (2, 9, 93, 1), (2, 10, 93, 2), (77, 6, 91, 61)] : List (Nat × Nat × Nat × Nat)) := hq
        simp only [List.mem_cons, List.not_mem_nil, or_false] at hq
        rcases hq with rfl | rfl | rfl | rfl | rfl | rfl | rfl | rfl
        · exact (show N2 0 1 = N2 91 2 by omega)
        · exact (show N2 4 261 = N2 0 1 by omega)
        · exact (show N2 0 2 = N2 91 33 by omega)
        · exact (show N2 0 3 = N2 91 34 by omega)
        · exact (show N2 2 8 = N2 93 0 by omega)
        · exact (show N2 2 9 = N2 93 1 by omega)
        · exact (show N2 2 10 = N2 93 2 by omega)
        · exact (show N2 77 6 = N2 91 61 by omega))⟩
    · have b1_4_262 : N1 4 262 = ρ1 10 := t1_1
      have b1_4_263 : N1 4 263 = ρ1 11 := t1_2
      have b1_4_264 : N1 4 264 = ρ1 12 := t1_3
      have b1_4_265 : N1 4 265 = ρ1 13 := t1_4
      have b1_4_266 : N1 4 266 = ρ1 14 := t1_5
      have b1_4_267 : N1 4 267 = ρ1 15 := t1_6
      have b1_4_268 : N1 4 268 = ρ1 16 := t1_7
      have b1_4_269 : N1 4 269 = ρ1 17 := t1_8
      obtain ⟨rv2, N2, e2, p2, q2⟩ := u_runX ko_r1 (ks := uKs 2 ++ [(4, 262, 20), (4, 264, 0)]) (ex := [[(-1, 6), (1, 7)], [(1, 6), (-1, 7)], [(-1, 6), (1, 8)], [(1, 6), (-1, 8)], [(-1, 1), (1, 9)], [(1, 1), (-1, 9)], [(-1, 2), (1, 10)], [(1, 2), (-1, 10)], [(-1, 3), (1, 11)], [(1, 3), (-1, 11)], [(-1, 4), (1, 12)], [(1, 4), (-1, 12)], [(-1, 5), (1, 13)], [(1, 5), (-1, 13)], [(680, 0), (-1, 6)]]) (o := 91) (bs := [false, false, false, false, false]) (by decide +kernel) s1.1 (fun q hq => by rcases List.mem_append.mp hq with hq | hq; exact s1.2 q hq; simp only [List.mem_cons, List.not_mem_nil, or_false] at hq; rcases hq with rfl | rfl; exact (show N1 4 262 = 20 by omega); exact (show N1 4 264 = 0 by omega)) (as := [x1.toInt, x2.toInt, x3.toInt, x4.toInt, x5.toInt]) ⟨⟨uarg_i _, fun h => nomatch h⟩, ⟨⟨uarg_i _, fun h => nomatch h⟩, ⟨⟨uarg_i _, fun h => nomatch h⟩, ⟨⟨uarg_i _, fun h => nomatch h⟩, ⟨⟨uarg_i _, fun h => nomatch h⟩, trivial⟩⟩⟩⟩⟩ (fun hm f hf => by
          obtain ⟨ρ, hρ⟩ : ∃ ρ, ρ = uRho [x1.toInt, x2.toInt, x3.toInt, x4.toInt, x5.toInt] N1 (cM kc_r1) := ⟨_, rfl⟩
          have o1 : ρ 0 = 1 := by rw [hρ]; rfl
          have a1 : ρ 1 = x1.toInt := by rw [hρ]; exact urho_a (as := [x1.toInt, x2.toInt, x3.toInt, x4.toInt, x5.toInt]) (j := 0) (show (0 : Nat) < 5 from by decide)
          have a2 : ρ 2 = x2.toInt := by rw [hρ]; exact urho_a (as := [x1.toInt, x2.toInt, x3.toInt, x4.toInt, x5.toInt]) (j := 1) (show (1 : Nat) < 5 from by decide)
          have a3 : ρ 3 = x3.toInt := by rw [hρ]; exact urho_a (as := [x1.toInt, x2.toInt, x3.toInt, x4.toInt, x5.toInt]) (j := 2) (show (2 : Nat) < 5 from by decide)
          have a4 : ρ 4 = x4.toInt := by rw [hρ]; exact urho_a (as := [x1.toInt, x2.toInt, x3.toInt, x4.toInt, x5.toInt]) (j := 3) (show (3 : Nat) < 5 from by decide)
          have a5 : ρ 5 = x5.toInt := by rw [hρ]; exact urho_a (as := [x1.toInt, x2.toInt, x3.toInt, x4.toInt, x5.toInt]) (j := 4) (show (4 : Nat) < 5 from by decide)
          rw [← hρ] at hm ⊢
          have m0 : N1 91 2 = 1 * ρ 6 + 0 := hm (91, 2, [(1, 6)]) (List.mem_of_getElem? (i := 0) rfl)
          have m1 : N1 4 261 = 1 * ρ 7 + 0 := hm (4, 261, [(1, 7)]) (List.mem_of_getElem? (i := 1) rfl)
          have m3 : N1 4 263 = 1 * ρ 8 + 0 := hm (4, 263, [(1, 8)]) (List.mem_of_getElem? (i := 3) rfl)
          have m15 : N1 4 265 = 1 * ρ 9 + 0 := hm (4, 265, [(1, 9)]) (List.mem_of_getElem? (i := 15) rfl)
          have m16 : N1 4 266 = 1 * ρ 10 + 0 := hm (4, 266, [(1, 10)]) (List.mem_of_getElem? (i := 16) rfl)
          have m17 : N1 4 267 = 1 * ρ 11 + 0 := hm (4, 267, [(1, 11)]) (List.mem_of_getElem? (i := 17) rfl)
          have m18 : N1 4 268 = 1 * ρ 12 + 0 := hm (4, 268, [(1, 12)]) (List.mem_of_getElem? (i := 18) rfl)
          have m19 : N1 4 269 = 1 * ρ 13 + 0 := hm (4, 269, [(1, 13)]) (List.mem_of_getElem? (i := 19) rfl)
          have hf : f ∈ ([[(-1, 6), (1, 7)], [(1, 6), (-1, 7)], [(-1, 6), (1, 8)], [(1, 6), (-1, 8)], [(-1, 1), (1, 9)], [(1, 1), (-1, 9)], [(-1, 2), (1, 10)], [(1, 2), (-1, 10)], [(-1, 3), (1, 11)], [(1, 3), (-1, 11)], [(-1, 4), (1, 12)], [(1, 4), (-1, 12)], [(-1, 5), (1, 13)], [(1, 5), (-1, 13)], [(680, 0), (-1, 6)]] : List qF) := hf
          simp only [List.mem_cons, List.not_mem_nil, or_false] at hf
          rcases hf with rfl | rfl | rfl | rfl | rfl | rfl | rfl | rfl | rfl | rfl | rfl | rfl | rfl | rfl | rfl
          · show 0 ≤ -1 * ρ 6 + (1 * ρ 7 + 0)
            omega
          · show 0 ≤ 1 * ρ 6 + (-1 * ρ 7 + 0)
            omega
          · show 0 ≤ -1 * ρ 6 + (1 * ρ 8 + 0)
            omega
          · show 0 ≤ 1 * ρ 6 + (-1 * ρ 8 + 0)
            omega
          · show 0 ≤ -1 * ρ 1 + (1 * ρ 9 + 0)
            omega
          · show 0 ≤ 1 * ρ 1 + (-1 * ρ 9 + 0)
            omega
          · show 0 ≤ -1 * ρ 2 + (1 * ρ 10 + 0)
            omega
          · show 0 ≤ 1 * ρ 2 + (-1 * ρ 10 + 0)
            omega
          · show 0 ≤ -1 * ρ 3 + (1 * ρ 11 + 0)
            omega
          · show 0 ≤ 1 * ρ 3 + (-1 * ρ 11 + 0)
            omega
          · show 0 ≤ -1 * ρ 4 + (1 * ρ 12 + 0)
            omega
          · show 0 ≤ 1 * ρ 4 + (-1 * ρ 12 + 0)
            omega
          · show 0 ≤ -1 * ρ 5 + (1 * ρ 13 + 0)
            omega
          · show 0 ≤ 1 * ρ 5 + (-1 * ρ 13 + 0)
            omega
          · show 0 ≤ 680 * ρ 0 + (-1 * ρ 6 + 0)
            omega) J (N := 300) (by decide)
      obtain ⟨ρ2, u2, w2, t2, z2, i2, y2⟩ := up_r1 p2
      have o2 : ρ2 0 = 1 := u2 0 (by decide)
      have a2_1 : ρ2 1 = x1.toInt := (u2 1 (by decide)).trans (urho_a (as := [x1.toInt, x2.toInt, x3.toInt, x4.toInt, x5.toInt]) (j := 0) (show (0 : Nat) < 5 from by decide))
      have a2_2 : ρ2 2 = x2.toInt := (u2 2 (by decide)).trans (urho_a (as := [x1.toInt, x2.toInt, x3.toInt, x4.toInt, x5.toInt]) (j := 1) (show (1 : Nat) < 5 from by decide))
      have a2_3 : ρ2 3 = x3.toInt := (u2 3 (by decide)).trans (urho_a (as := [x1.toInt, x2.toInt, x3.toInt, x4.toInt, x5.toInt]) (j := 2) (show (2 : Nat) < 5 from by decide))
      have a2_4 : ρ2 4 = x4.toInt := (u2 4 (by decide)).trans (urho_a (as := [x1.toInt, x2.toInt, x3.toInt, x4.toInt, x5.toInt]) (j := 3) (show (3 : Nat) < 5 from by decide))
      have a2_5 : ρ2 5 = x5.toInt := (u2 5 (by decide)).trans (urho_a (as := [x1.toInt, x2.toInt, x3.toInt, x4.toInt, x5.toInt]) (j := 4) (show (4 : Nat) < 5 from by decide))
      have m2_91_2 : N1 91 2 = ρ2 6 := by
        have h := q2 (91, 2, [(1, 6)]) (List.mem_of_getElem? (i := 0) rfl)
        have h : N1 91 2 = 1 * uRho [x1.toInt, x2.toInt, x3.toInt, x4.toInt, x5.toInt] N1 (cM kc_r1) 6 + 0 := h
        rw [u2 6 (by decide)]
        omega
      have m2_4_261 : N1 4 261 = ρ2 7 := by
        have h := q2 (4, 261, [(1, 7)]) (List.mem_of_getElem? (i := 1) rfl)
        have h : N1 4 261 = 1 * uRho [x1.toInt, x2.toInt, x3.toInt, x4.toInt, x5.toInt] N1 (cM kc_r1) 7 + 0 := h
        rw [u2 7 (by decide)]
        omega
      have m2_4_263 : N1 4 263 = ρ2 8 := by
        have h := q2 (4, 263, [(1, 8)]) (List.mem_of_getElem? (i := 3) rfl)
        have h : N1 4 263 = 1 * uRho [x1.toInt, x2.toInt, x3.toInt, x4.toInt, x5.toInt] N1 (cM kc_r1) 8 + 0 := h
        rw [u2 8 (by decide)]
        omega
      have m2_4_265 : N1 4 265 = ρ2 9 := by
        have h := q2 (4, 265, [(1, 9)]) (List.mem_of_getElem? (i := 15) rfl)
        have h : N1 4 265 = 1 * uRho [x1.toInt, x2.toInt, x3.toInt, x4.toInt, x5.toInt] N1 (cM kc_r1) 9 + 0 := h
        rw [u2 9 (by decide)]
        omega
      have m2_4_266 : N1 4 266 = ρ2 10 := by
        have h := q2 (4, 266, [(1, 10)]) (List.mem_of_getElem? (i := 16) rfl)
        have h : N1 4 266 = 1 * uRho [x1.toInt, x2.toInt, x3.toInt, x4.toInt, x5.toInt] N1 (cM kc_r1) 10 + 0 := h
        rw [u2 10 (by decide)]
        omega
      have m2_4_267 : N1 4 267 = ρ2 11 := by
        have h := q2 (4, 267, [(1, 11)]) (List.mem_of_getElem? (i := 17) rfl)
        have h : N1 4 267 = 1 * uRho [x1.toInt, x2.toInt, x3.toInt, x4.toInt, x5.toInt] N1 (cM kc_r1) 11 + 0 := h
        rw [u2 11 (by decide)]
        omega
      have m2_4_268 : N1 4 268 = ρ2 12 := by
        have h := q2 (4, 268, [(1, 12)]) (List.mem_of_getElem? (i := 18) rfl)
        have h : N1 4 268 = 1 * uRho [x1.toInt, x2.toInt, x3.toInt, x4.toInt, x5.toInt] N1 (cM kc_r1) 12 + 0 := h
        rw [u2 12 (by decide)]
        omega
      have m2_4_269 : N1 4 269 = ρ2 13 := by
        have h := q2 (4, 269, [(1, 13)]) (List.mem_of_getElem? (i := 19) rfl)
        have h : N1 4 269 = 1 * uRho [x1.toInt, x2.toInt, x3.toInt, x4.toInt, x5.toInt] N1 (cM kc_r1) 13 + 0 := h
        rw [u2 13 (by decide)]
        omega
      obtain ⟨t2_0, t2_1, t2_2, t2_3⟩ := t2
      rw [o2] at z2
      have s2 : uSt 2 N2 := ukeep_ok (c := kc_r1) (r := 2) (by decide +kernel) s1 p2
      have b2_0_1 : N2 0 1 = N1 0 1 := y2 0 1 (by decide +kernel)
      have b2_0_2 : N2 0 2 = N1 0 2 := y2 0 2 (by decide +kernel)
      have b2_0_3 : N2 0 3 = N1 0 3 := y2 0 3 (by decide +kernel)
      have b2_2_8 : N2 2 8 = N1 2 8 := y2 2 8 (by decide +kernel)
      have b2_2_9 : N2 2 9 = N1 2 9 := y2 2 9 (by decide +kernel)
      have b2_2_10 : N2 2 10 = N1 2 10 := y2 2 10 (by decide +kernel)
      have b2_4_261 : N2 4 261 = ρ2 16 := t2_1
      have b2_77_6 : N2 77 6 = N1 77 6 := y2 77 6 (by decide +kernel)
      have b2_91_2 : N2 91 2 = ρ2 15 := t2_0
      have b2_91_33 : N2 91 33 = N1 91 33 := y2 91 33 (by decide +kernel)
      have b2_91_34 : N2 91 34 = N1 91 34 := y2 91 34 (by decide +kernel)
      have b2_91_61 : N2 91 61 = N1 91 61 := y2 91 61 (by decide +kernel)
      have b2_93_0 : N2 93 0 = N1 93 0 := y2 93 0 (by decide +kernel)
      have b2_93_1 : N2 93 1 = N1 93 1 := y2 93 1 (by decide +kernel)
      have b2_93_2 : N2 93 2 = N1 93 2 := y2 93 2 (by decide +kernel)
      have hv : ρ2 14 = ρ1 8 := by omega
      rw [w1] at e1
      rw [w2, hv] at e2
      simp only [List.map_cons, List.map_nil, i32_of] at e1 e2
      exact ⟨Int32.ofInt (ρ1 8), N1, N2, e1, e2, 2, Or.inl rfl, s2, (fun q hq => by
        have hq : q ∈ ([(0, 1, 91, 2), (4, 261, 0, 1), (0, 2, 91, 33), (0, 3, 91, 34), (2, 8, 93, 0), (2, 9, 93, 1), (2, 10, 93, 2), (77, 6, 91, 61)] : List (Nat × Nat × Nat × Nat)) := hq
        simp only [List.mem_cons, List.not_mem_nil, or_false] at hq
        rcases hq with rfl | rfl | rfl | rfl | rfl | rfl | rfl | rfl
        · exact (show N2 0 1 = N2 91 2 by omega)
        · exact (show N2 4 261 = N2 0 1 by omega)
        · exact (show N2 0 2 = N2 91 33 by omega)
        · exact (show N2 0 3 = N2 91 34 by omega)
        · exact (show N2 2 8 = N2 93 0 by omega)
        · exact (show N2 2 9 = N2 93 1 by omega)
        · exact (show N2 2 10 = N2 93 2 by omega)
        · exact (show N2 77 6 = N2 91 61 by omega))⟩
  · have kM_0 : M 0 1 = M 91 2 := hT (0, 1, 91, 2) (List.mem_of_getElem? (i := 0) rfl)
    have kM_1 : M 4 261 = M 0 1 := hT (4, 261, 0, 1) (List.mem_of_getElem? (i := 1) rfl)
    have kM_2 : M 0 2 = M 91 33 := hT (0, 2, 91, 33) (List.mem_of_getElem? (i := 2) rfl)
    have kM_3 : M 0 3 = M 91 34 := hT (0, 3, 91, 34) (List.mem_of_getElem? (i := 3) rfl)
    have kM_4 : M 28 8 = M 93 0 := hT ((28 : Int).toNat, 8, 93, 0) (List.mem_of_getElem? (i := 4) rfl)
    have kM_5 : M 28 9 = M 93 1 := hT ((28 : Int).toNat, 9, 93, 1) (List.mem_of_getElem? (i := 5) rfl)
    have kM_6 : M 28 10 = M 93 2 := hT ((28 : Int).toNat, 10, 93, 2) (List.mem_of_getElem? (i := 6) rfl)
    have kM_7 : M 77 6 = M 91 61 := hT (77, 6, 91, 61) (List.mem_of_getElem? (i := 7) rfl)
    obtain ⟨rv1, N1, e1, p1, q1⟩ := u_runX ko_5 (ks := uKs 28) (ex := [[(-1, 6), (1, 7)], [(1, 6), (-1, 7)]]) (o := 0) (bs := [false, false, false, false, false]) (by decide +kernel) hs.1 hs.2 (as := [x1.toInt, x2.toInt, x3.toInt, x4.toInt, x5.toInt]) ⟨⟨uarg_i _, fun h => nomatch h⟩, ⟨⟨uarg_i _, fun h => nomatch h⟩, ⟨⟨uarg_i _, fun h => nomatch h⟩, ⟨⟨uarg_i _, fun h => nomatch h⟩, ⟨⟨uarg_i _, fun h => nomatch h⟩, trivial⟩⟩⟩⟩⟩ (fun hm f hf => by
        obtain ⟨ρ, hρ⟩ : ∃ ρ, ρ = uRho [x1.toInt, x2.toInt, x3.toInt, x4.toInt, x5.toInt] M (cM kc_5) := ⟨_, rfl⟩
        have o1 : ρ 0 = 1 := by rw [hρ]; rfl
        rw [← hρ] at hm ⊢
        have m0 : M 0 1 = 1 * ρ 6 + 0 := hm (0, 1, [(1, 6)]) (List.mem_of_getElem? (i := 0) rfl)
        have m1 : M 4 261 = 1 * ρ 7 + 0 := hm (4, 261, [(1, 7)]) (List.mem_of_getElem? (i := 1) rfl)
        have hf : f ∈ ([[(-1, 6), (1, 7)], [(1, 6), (-1, 7)]] : List qF) := hf
        simp only [List.mem_cons, List.not_mem_nil, or_false] at hf
        rcases hf with rfl | rfl
        · show 0 ≤ -1 * ρ 6 + (1 * ρ 7 + 0)
          omega
        · show 0 ≤ 1 * ρ 6 + (-1 * ρ 7 + 0)
          omega) J (N := 300) (by decide)
    obtain ⟨ρ1, u1, w1, t1, z1, i1, y1⟩ := up_5 p1
    have o1 : ρ1 0 = 1 := u1 0 (by decide)
    have a1_1 : ρ1 1 = x1.toInt := (u1 1 (by decide)).trans (urho_a (as := [x1.toInt, x2.toInt, x3.toInt, x4.toInt, x5.toInt]) (j := 0) (show (0 : Nat) < 5 from by decide))
    have a1_2 : ρ1 2 = x2.toInt := (u1 2 (by decide)).trans (urho_a (as := [x1.toInt, x2.toInt, x3.toInt, x4.toInt, x5.toInt]) (j := 1) (show (1 : Nat) < 5 from by decide))
    have a1_3 : ρ1 3 = x3.toInt := (u1 3 (by decide)).trans (urho_a (as := [x1.toInt, x2.toInt, x3.toInt, x4.toInt, x5.toInt]) (j := 2) (show (2 : Nat) < 5 from by decide))
    have a1_4 : ρ1 4 = x4.toInt := (u1 4 (by decide)).trans (urho_a (as := [x1.toInt, x2.toInt, x3.toInt, x4.toInt, x5.toInt]) (j := 3) (show (3 : Nat) < 5 from by decide))
    have a1_5 : ρ1 5 = x5.toInt := (u1 5 (by decide)).trans (urho_a (as := [x1.toInt, x2.toInt, x3.toInt, x4.toInt, x5.toInt]) (j := 4) (show (4 : Nat) < 5 from by decide))
    have m1_0_1 : M 0 1 = ρ1 6 := by
      have h := q1 (0, 1, [(1, 6)]) (List.mem_of_getElem? (i := 0) rfl)
      have h : M 0 1 = 1 * uRho [x1.toInt, x2.toInt, x3.toInt, x4.toInt, x5.toInt] M (cM kc_5) 6 + 0 := h
      rw [u1 6 (by decide)]
      omega
    have m1_4_261 : M 4 261 = ρ1 7 := by
      have h := q1 (4, 261, [(1, 7)]) (List.mem_of_getElem? (i := 1) rfl)
      have h : M 4 261 = 1 * uRho [x1.toInt, x2.toInt, x3.toInt, x4.toInt, x5.toInt] M (cM kc_5) 7 + 0 := h
      rw [u1 7 (by decide)]
      omega
    obtain ⟨t1_0, t1_1, t1_2, t1_3, t1_4, t1_5, t1_6, t1_7, t1_8, t1_9, t1_10⟩ := t1
    rw [o1] at z1
    have s1 : uSt 28 N1 := ukeep_ok (c := kc_5) (r := 28) (by decide +kernel) hs p1
    have b1_0_1 : N1 0 1 = ρ1 9 := t1_0
    have b1_0_2 : N1 0 2 = M 0 2 := y1 0 2 (by decide +kernel)
    have b1_0_3 : N1 0 3 = M 0 3 := y1 0 3 (by decide +kernel)
    have b1_4_261 : N1 4 261 = M 4 261 := y1 4 261 (by decide +kernel)
    have b1_28_8 : N1 28 8 = M 28 8 := y1 28 8 (by decide +kernel)
    have b1_28_9 : N1 28 9 = M 28 9 := y1 28 9 (by decide +kernel)
    have b1_28_10 : N1 28 10 = M 28 10 := y1 28 10 (by decide +kernel)
    have b1_77_6 : N1 77 6 = M 77 6 := y1 77 6 (by decide +kernel)
    have b1_91_2 : N1 91 2 = M 91 2 := y1 91 2 (by decide +kernel)
    have b1_91_33 : N1 91 33 = M 91 33 := y1 91 33 (by decide +kernel)
    have b1_91_34 : N1 91 34 = M 91 34 := y1 91 34 (by decide +kernel)
    have b1_91_61 : N1 91 61 = M 91 61 := y1 91 61 (by decide +kernel)
    have b1_93_0 : N1 93 0 = M 93 0 := y1 93 0 (by decide +kernel)
    have b1_93_1 : N1 93 1 = M 93 1 := y1 93 1 (by decide +kernel)
    have b1_93_2 : N1 93 2 = M 93 2 := y1 93 2 (by decide +kernel)
    rcases z1 with z1 | z1
    · obtain ⟨rv2, N2, e2, p2, q2⟩ := u_runX ko_r0 (ks := uKs 28) (ex := [[(-681, 0), (1, 6)]]) (o := 91) (bs := [false, false, false, false, false]) (by decide +kernel) s1.1 s1.2 (as := [x1.toInt, x2.toInt, x3.toInt, x4.toInt, x5.toInt]) ⟨⟨uarg_i _, fun h => nomatch h⟩, ⟨⟨uarg_i _, fun h => nomatch h⟩, ⟨⟨uarg_i _, fun h => nomatch h⟩, ⟨⟨uarg_i _, fun h => nomatch h⟩, ⟨⟨uarg_i _, fun h => nomatch h⟩, trivial⟩⟩⟩⟩⟩ (fun hm f hf => by
          obtain ⟨ρ, hρ⟩ : ∃ ρ, ρ = uRho [x1.toInt, x2.toInt, x3.toInt, x4.toInt, x5.toInt] N1 (cM kc_r0) := ⟨_, rfl⟩
          have o1 : ρ 0 = 1 := by rw [hρ]; rfl
          rw [← hρ] at hm ⊢
          have m0 : N1 91 2 = 1 * ρ 6 + 0 := hm (91, 2, [(1, 6)]) (List.mem_of_getElem? (i := 0) rfl)
          have hf : f ∈ ([[(-681, 0), (1, 6)]] : List qF) := hf
          simp only [List.mem_cons, List.not_mem_nil, or_false] at hf
          rcases hf with rfl
          · show 0 ≤ -681 * ρ 0 + (1 * ρ 6 + 0)
            omega) J (N := 300) (by decide)
      obtain ⟨ρ2, u2, w2, t2, z2, i2, y2⟩ := up_r0 p2
      have o2 : ρ2 0 = 1 := u2 0 (by decide)
      have a2_1 : ρ2 1 = x1.toInt := (u2 1 (by decide)).trans (urho_a (as := [x1.toInt, x2.toInt, x3.toInt, x4.toInt, x5.toInt]) (j := 0) (show (0 : Nat) < 5 from by decide))
      have a2_2 : ρ2 2 = x2.toInt := (u2 2 (by decide)).trans (urho_a (as := [x1.toInt, x2.toInt, x3.toInt, x4.toInt, x5.toInt]) (j := 1) (show (1 : Nat) < 5 from by decide))
      have a2_3 : ρ2 3 = x3.toInt := (u2 3 (by decide)).trans (urho_a (as := [x1.toInt, x2.toInt, x3.toInt, x4.toInt, x5.toInt]) (j := 2) (show (2 : Nat) < 5 from by decide))
      have a2_4 : ρ2 4 = x4.toInt := (u2 4 (by decide)).trans (urho_a (as := [x1.toInt, x2.toInt, x3.toInt, x4.toInt, x5.toInt]) (j := 3) (show (3 : Nat) < 5 from by decide))
      have a2_5 : ρ2 5 = x5.toInt := (u2 5 (by decide)).trans (urho_a (as := [x1.toInt, x2.toInt, x3.toInt, x4.toInt, x5.toInt]) (j := 4) (show (4 : Nat) < 5 from by decide))
      have m2_91_2 : N1 91 2 = ρ2 6 := by
        have h := q2 (91, 2, [(1, 6)]) (List.mem_of_getElem? (i := 0) rfl)
        have h : N1 91 2 = 1 * uRho [x1.toInt, x2.toInt, x3.toInt, x4.toInt, x5.toInt] N1 (cM kc_r0) 6 + 0 := h
        rw [u2 6 (by decide)]
        omega
      have t2_0 := t2
      rw [o2] at z2
      have s2 : uSt 28 N2 := ukeep_ok (c := kc_r0) (r := 28) (by decide +kernel) s1 p2
      have b2_0_1 : N2 0 1 = N1 0 1 := y2 0 1 (by decide +kernel)
      have b2_0_2 : N2 0 2 = N1 0 2 := y2 0 2 (by decide +kernel)
      have b2_0_3 : N2 0 3 = N1 0 3 := y2 0 3 (by decide +kernel)
      have b2_4_261 : N2 4 261 = N1 4 261 := y2 4 261 (by decide +kernel)
      have b2_28_8 : N2 28 8 = N1 28 8 := y2 28 8 (by decide +kernel)
      have b2_28_9 : N2 28 9 = N1 28 9 := y2 28 9 (by decide +kernel)
      have b2_28_10 : N2 28 10 = N1 28 10 := y2 28 10 (by decide +kernel)
      have b2_77_6 : N2 77 6 = N1 77 6 := y2 77 6 (by decide +kernel)
      have b2_91_2 : N2 91 2 = ρ2 8 := t2_0
      have b2_91_33 : N2 91 33 = N1 91 33 := y2 91 33 (by decide +kernel)
      have b2_91_34 : N2 91 34 = N1 91 34 := y2 91 34 (by decide +kernel)
      have b2_91_61 : N2 91 61 = N1 91 61 := y2 91 61 (by decide +kernel)
      have b2_93_0 : N2 93 0 = N1 93 0 := y2 93 0 (by decide +kernel)
      have b2_93_1 : N2 93 1 = N1 93 1 := y2 93 1 (by decide +kernel)
      have b2_93_2 : N2 93 2 = N1 93 2 := y2 93 2 (by decide +kernel)
      have hv : ρ2 7 = ρ1 8 := by omega
      rw [w1] at e1
      rw [w2, hv] at e2
      simp only [List.map_cons, List.map_nil, i32_of] at e1 e2
      exact ⟨Int32.ofInt (ρ1 8), N1, N2, e1, e2, 28, Or.inr rfl, s2, (fun q hq => by
        have hq : q ∈ ([(0, 1, 91, 2), (4, 261, 0, 1), (0, 2, 91, 33), (0, 3, 91, 34), (28, 8, 93, 0), (28, 9, 93, 1), (28, 10, 93, 2), (77, 6, 91, 61)] : List (Nat × Nat × Nat × Nat)) := hq
        simp only [List.mem_cons, List.not_mem_nil, or_false] at hq
        rcases hq with rfl | rfl | rfl | rfl | rfl | rfl | rfl | rfl
        · exact (show N2 0 1 = N2 91 2 by omega)
        · exact (show N2 4 261 = N2 0 1 by omega)
        · exact (show N2 0 2 = N2 91 33 by omega)
        · exact (show N2 0 3 = N2 91 34 by omega)
        · exact (show N2 28 8 = N2 93 0 by omega)
        · exact (show N2 28 9 = N2 93 1 by omega)
        · exact (show N2 28 10 = N2 93 2 by omega)
        · exact (show N2 77 6 = N2 91 61 by omega))⟩
    · have b1_4_262 : N1 4 262 = ρ1 10 := t1_1
      have b1_4_263 : N1 4 263 = ρ1 11 := t1_2
      have b1_4_264 : N1 4 264 = ρ1 12 := t1_3
      have b1_4_265 : N1 4 265 = ρ1 13 := t1_4
      have b1_4_266 : N1 4 266 = ρ1 14 := t1_5
      have b1_4_267 : N1 4 267 = ρ1 15 := t1_6
      have b1_4_268 : N1 4 268 = ρ1 16 := t1_7
      have b1_4_269 : N1 4 269 = ρ1 17 := t1_8
      obtain ⟨rv2, N2, e2, p2, q2⟩ := u_runX ko_r1 (ks := uKs 28 ++ [(4, 262, 20), (4, 264, 0)]) (ex := [[(-1, 6), (1, 7)], [(1, 6), (-1, 7)], [(-1, 6), (1, 8)], [(1, 6), (-1, 8)], [(-1, 1), (1, 9)], [(1, 1), (-1, 9)], [(-1, 2), (1, 10)], [(1, 2), (-1, 10)], [(-1, 3), (1, 11)], [(1, 3), (-1, 11)], [(-1, 4), (1, 12)], [(1, 4), (-1, 12)], [(-1, 5), (1, 13)], [(1, 5), (-1, 13)], [(680, 0), (-1, 6)]]) (o := 91) (bs := [false, false, false, false, false]) (by decide +kernel) s1.1 (fun q hq => by rcases List.mem_append.mp hq with hq | hq; exact s1.2 q hq; simp only [List.mem_cons, List.not_mem_nil, or_false] at hq; rcases hq with rfl | rfl; exact (show N1 4 262 = 20 by omega); exact (show N1 4 264 = 0 by omega)) (as := [x1.toInt, x2.toInt, x3.toInt, x4.toInt, x5.toInt]) ⟨⟨uarg_i _, fun h => nomatch h⟩, ⟨⟨uarg_i _, fun h => nomatch h⟩, ⟨⟨uarg_i _, fun h => nomatch h⟩, ⟨⟨uarg_i _, fun h => nomatch h⟩, ⟨⟨uarg_i _, fun h => nomatch h⟩, trivial⟩⟩⟩⟩⟩ (fun hm f hf => by
          obtain ⟨ρ, hρ⟩ : ∃ ρ, ρ = uRho [x1.toInt, x2.toInt, x3.toInt, x4.toInt, x5.toInt] N1 (cM kc_r1) := ⟨_, rfl⟩
          have o1 : ρ 0 = 1 := by rw [hρ]; rfl
          have a1 : ρ 1 = x1.toInt := by rw [hρ]; exact urho_a (as := [x1.toInt, x2.toInt, x3.toInt, x4.toInt, x5.toInt]) (j := 0) (show (0 : Nat) < 5 from by decide)
          have a2 : ρ 2 = x2.toInt := by rw [hρ]; exact urho_a (as := [x1.toInt, x2.toInt, x3.toInt, x4.toInt, x5.toInt]) (j := 1) (show (1 : Nat) < 5 from by decide)
          have a3 : ρ 3 = x3.toInt := by rw [hρ]; exact urho_a (as := [x1.toInt, x2.toInt, x3.toInt, x4.toInt, x5.toInt]) (j := 2) (show (2 : Nat) < 5 from by decide)
          have a4 : ρ 4 = x4.toInt := by rw [hρ]; exact urho_a (as := [x1.toInt, x2.toInt, x3.toInt, x4.toInt, x5.toInt]) (j := 3) (show (3 : Nat) < 5 from by decide)
          have a5 : ρ 5 = x5.toInt := by rw [hρ]; exact urho_a (as := [x1.toInt, x2.toInt, x3.toInt, x4.toInt, x5.toInt]) (j := 4) (show (4 : Nat) < 5 from by decide)
          rw [← hρ] at hm ⊢
          have m0 : N1 91 2 = 1 * ρ 6 + 0 := hm (91, 2, [(1, 6)]) (List.mem_of_getElem? (i := 0) rfl)
          have m1 : N1 4 261 = 1 * ρ 7 + 0 := hm (4, 261, [(1, 7)]) (List.mem_of_getElem? (i := 1) rfl)
          have m3 : N1 4 263 = 1 * ρ 8 + 0 := hm (4, 263, [(1, 8)]) (List.mem_of_getElem? (i := 3) rfl)
          have m15 : N1 4 265 = 1 * ρ 9 + 0 := hm (4, 265, [(1, 9)]) (List.mem_of_getElem? (i := 15) rfl)
          have m16 : N1 4 266 = 1 * ρ 10 + 0 := hm (4, 266, [(1, 10)]) (List.mem_of_getElem? (i := 16) rfl)
          have m17 : N1 4 267 = 1 * ρ 11 + 0 := hm (4, 267, [(1, 11)]) (List.mem_of_getElem? (i := 17) rfl)
          have m18 : N1 4 268 = 1 * ρ 12 + 0 := hm (4, 268, [(1, 12)]) (List.mem_of_getElem? (i := 18) rfl)
          have m19 : N1 4 269 = 1 * ρ 13 + 0 := hm (4, 269, [(1, 13)]) (List.mem_of_getElem? (i := 19) rfl)
          have hf : f ∈ ([[(-1, 6), (1, 7)], [(1, 6), (-1, 7)], [(-1, 6), (1, 8)], [(1, 6), (-1, 8)], [(-1, 1), (1, 9)], [(1, 1), (-1, 9)], [(-1, 2), (1, 10)], [(1, 2), (-1, 10)], [(-1, 3), (1, 11)], [(1, 3), (-1, 11)], [(-1, 4), (1, 12)], [(1, 4), (-1, 12)], [(-1, 5), (1, 13)], [(1, 5), (-1, 13)], [(680, 0), (-1, 6)]] : List qF) := hf
          simp only [List.mem_cons, List.not_mem_nil, or_false] at hf
          rcases hf with rfl | rfl | rfl | rfl | rfl | rfl | rfl | rfl | rfl | rfl | rfl | rfl | rfl | rfl | rfl
          · show 0 ≤ -1 * ρ 6 + (1 * ρ 7 + 0)
            omega
          · show 0 ≤ 1 * ρ 6 + (-1 * ρ 7 + 0)
            omega
          · show 0 ≤ -1 * ρ 6 + (1 * ρ 8 + 0)
            omega
          · show 0 ≤ 1 * ρ 6 + (-1 * ρ 8 + 0)
            omega
          · show 0 ≤ -1 * ρ 1 + (1 * ρ 9 + 0)
            omega
          · show 0 ≤ 1 * ρ 1 + (-1 * ρ 9 + 0)
            omega
          · show 0 ≤ -1 * ρ 2 + (1 * ρ 10 + 0)
            omega
          · show 0 ≤ 1 * ρ 2 + (-1 * ρ 10 + 0)
            omega
          · show 0 ≤ -1 * ρ 3 + (1 * ρ 11 + 0)
            omega
          · show 0 ≤ 1 * ρ 3 + (-1 * ρ 11 + 0)
            omega
          · show 0 ≤ -1 * ρ 4 + (1 * ρ 12 + 0)
            omega
          · show 0 ≤ 1 * ρ 4 + (-1 * ρ 12 + 0)
            omega
          · show 0 ≤ -1 * ρ 5 + (1 * ρ 13 + 0)
            omega
          · show 0 ≤ 1 * ρ 5 + (-1 * ρ 13 + 0)
            omega
          · show 0 ≤ 680 * ρ 0 + (-1 * ρ 6 + 0)
            omega) J (N := 300) (by decide)
      obtain ⟨ρ2, u2, w2, t2, z2, i2, y2⟩ := up_r1 p2
      have o2 : ρ2 0 = 1 := u2 0 (by decide)
      have a2_1 : ρ2 1 = x1.toInt := (u2 1 (by decide)).trans (urho_a (as := [x1.toInt, x2.toInt, x3.toInt, x4.toInt, x5.toInt]) (j := 0) (show (0 : Nat) < 5 from by decide))
      have a2_2 : ρ2 2 = x2.toInt := (u2 2 (by decide)).trans (urho_a (as := [x1.toInt, x2.toInt, x3.toInt, x4.toInt, x5.toInt]) (j := 1) (show (1 : Nat) < 5 from by decide))
      have a2_3 : ρ2 3 = x3.toInt := (u2 3 (by decide)).trans (urho_a (as := [x1.toInt, x2.toInt, x3.toInt, x4.toInt, x5.toInt]) (j := 2) (show (2 : Nat) < 5 from by decide))
      have a2_4 : ρ2 4 = x4.toInt := (u2 4 (by decide)).trans (urho_a (as := [x1.toInt, x2.toInt, x3.toInt, x4.toInt, x5.toInt]) (j := 3) (show (3 : Nat) < 5 from by decide))
      have a2_5 : ρ2 5 = x5.toInt := (u2 5 (by decide)).trans (urho_a (as := [x1.toInt, x2.toInt, x3.toInt, x4.toInt, x5.toInt]) (j := 4) (show (4 : Nat) < 5 from by decide))
      have m2_91_2 : N1 91 2 = ρ2 6 := by
        have h := q2 (91, 2, [(1, 6)]) (List.mem_of_getElem? (i := 0) rfl)
        have h : N1 91 2 = 1 * uRho [x1.toInt, x2.toInt, x3.toInt, x4.toInt, x5.toInt] N1 (cM kc_r1) 6 + 0 := h
        rw [u2 6 (by decide)]
        omega
      have m2_4_261 : N1 4 261 = ρ2 7 := by
        have h := q2 (4, 261, [(1, 7)]) (List.mem_of_getElem? (i := 1) rfl)
        have h : N1 4 261 = 1 * uRho [x1.toInt, x2.toInt, x3.toInt, x4.toInt, x5.toInt] N1 (cM kc_r1) 7 + 0 := h
        rw [u2 7 (by decide)]
        omega
      have m2_4_263 : N1 4 263 = ρ2 8 := by
        have h := q2 (4, 263, [(1, 8)]) (List.mem_of_getElem? (i := 3) rfl)
        have h : N1 4 263 = 1 * uRho [x1.toInt, x2.toInt, x3.toInt, x4.toInt, x5.toInt] N1 (cM kc_r1) 8 + 0 := h
        rw [u2 8 (by decide)]
        omega
      have m2_4_265 : N1 4 265 = ρ2 9 := by
        have h := q2 (4, 265, [(1, 9)]) (List.mem_of_getElem? (i := 15) rfl)
        have h : N1 4 265 = 1 * uRho [x1.toInt, x2.toInt, x3.toInt, x4.toInt, x5.toInt] N1 (cM kc_r1) 9 + 0 := h
        rw [u2 9 (by decide)]
        omega
      have m2_4_266 : N1 4 266 = ρ2 10 := by
        have h := q2 (4, 266, [(1, 10)]) (List.mem_of_getElem? (i := 16) rfl)
        have h : N1 4 266 = 1 * uRho [x1.toInt, x2.toInt, x3.toInt, x4.toInt, x5.toInt] N1 (cM kc_r1) 10 + 0 := h
        rw [u2 10 (by decide)]
        omega
      have m2_4_267 : N1 4 267 = ρ2 11 := by
        have h := q2 (4, 267, [(1, 11)]) (List.mem_of_getElem? (i := 17) rfl)
        have h : N1 4 267 = 1 * uRho [x1.toInt, x2.toInt, x3.toInt, x4.toInt, x5.toInt] N1 (cM kc_r1) 11 + 0 := h
        rw [u2 11 (by decide)]
        omega
      have m2_4_268 : N1 4 268 = ρ2 12 := by
        have h := q2 (4, 268, [(1, 12)]) (List.mem_of_getElem? (i := 18) rfl)
        have h : N1 4 268 = 1 * uRho [x1.toInt, x2.toInt, x3.toInt, x4.toInt, x5.toInt] N1 (cM kc_r1) 12 + 0 := h
        rw [u2 12 (by decide)]
        omega
      have m2_4_269 : N1 4 269 = ρ2 13 := by
        have h := q2 (4, 269, [(1, 13)]) (List.mem_of_getElem? (i := 19) rfl)
        have h : N1 4 269 = 1 * uRho [x1.toInt, x2.toInt, x3.toInt, x4.toInt, x5.toInt] N1 (cM kc_r1) 13 + 0 := h
        rw [u2 13 (by decide)]
        omega
      obtain ⟨t2_0, t2_1, t2_2, t2_3⟩ := t2
      rw [o2] at z2
      have s2 : uSt 28 N2 := ukeep_ok (c := kc_r1) (r := 28) (by decide +kernel) s1 p2
      have b2_0_1 : N2 0 1 = N1 0 1 := y2 0 1 (by decide +kernel)
      have b2_0_2 : N2 0 2 = N1 0 2 := y2 0 2 (by decide +kernel)
      have b2_0_3 : N2 0 3 = N1 0 3 := y2 0 3 (by decide +kernel)
      have b2_4_261 : N2 4 261 = ρ2 16 := t2_1
      have b2_28_8 : N2 28 8 = N1 28 8 := y2 28 8 (by decide +kernel)
      have b2_28_9 : N2 28 9 = N1 28 9 := y2 28 9 (by decide +kernel)
      have b2_28_10 : N2 28 10 = N1 28 10 := y2 28 10 (by decide +kernel)
      have b2_77_6 : N2 77 6 = N1 77 6 := y2 77 6 (by decide +kernel)
      have b2_91_2 : N2 91 2 = ρ2 15 := t2_0
      have b2_91_33 : N2 91 33 = N1 91 33 := y2 91 33 (by decide +kernel)
      have b2_91_34 : N2 91 34 = N1 91 34 := y2 91 34 (by decide +kernel)
      have b2_91_61 : N2 91 61 = N1 91 61 := y2 91 61 (by decide +kernel)
      have b2_93_0 : N2 93 0 = N1 93 0 := y2 93 0 (by decide +kernel)
      have b2_93_1 : N2 93 1 = N1 93 1 := y2 93 1 (by decide +kernel)
      have b2_93_2 : N2 93 2 = N1 93 2 := y2 93 2 (by decide +kernel)
      have hv : ρ2 14 = ρ1 8 := by omega
      rw [w1] at e1
      rw [w2, hv] at e2
      simp only [List.map_cons, List.map_nil, i32_of] at e1 e2
      exact ⟨Int32.ofInt (ρ1 8), N1, N2, e1, e2, 28, Or.inr rfl, s2, (fun q hq => by
        have hq : q ∈ ([(0, 1, 91, 2), (4, 261, 0, 1), (0, 2, 91, 33), (0, 3, 91, 34), (28, 8, 93, 0), (28, 9, 93, 1), (28, 10, 93, 2), (77, 6, 91, 61)] : List (Nat × Nat × Nat × Nat)) := hq
        simp only [List.mem_cons, List.not_mem_nil, or_false] at hq
        rcases hq with rfl | rfl | rfl | rfl | rfl | rfl | rfl | rfl
        · exact (show N2 0 1 = N2 91 2 by omega)
        · exact (show N2 4 261 = N2 0 1 by omega)
        · exact (show N2 0 2 = N2 91 33 by omega)
        · exact (show N2 0 3 = N2 91 34 by omega)
        · exact (show N2 28 8 = N2 93 0 by omega)
        · exact (show N2 28 9 = N2 93 1 by omega)
        · exact (show N2 28 10 = N2 93 2 by omega)
        · exact (show N2 77 6 = N2 91 61 by omega))⟩
set_option maxHeartbeats 4000000 in
theorem uo_1 {M : sM} (hM : uG M) (J : pHp) (x1 : Int32) : ∃ (v : Int32) (M1 M2 : sM), pEx 300 27 [.ref 0, .int x1] (sHp sLay M ++ J) (some (.int v)) (sHp sLay M1 ++ J) ∧ pEx 300 169 [.ref 91, .int x1] (sHp sLay M1 ++ J) (some (.int v)) (sHp sLay M2 ++ J) ∧ uG M2 := by
  obtain ⟨r, hr, hs, hT⟩ := hM
  have hx1 := uarg_i x1
  rcases hr with rfl | rfl
  · have kM_0 : M 0 1 = M 91 2 := hT (0, 1, 91, 2) (List.mem_of_getElem? (i := 0) rfl)
    have kM_1 : M 4 261 = M 0 1 := hT (4, 261, 0, 1) (List.mem_of_getElem? (i := 1) rfl)
    have kM_2 : M 0 2 = M 91 33 := hT (0, 2, 91, 33) (List.mem_of_getElem? (i := 2) rfl)
    have kM_3 : M 0 3 = M 91 34 := hT (0, 3, 91, 34) (List.mem_of_getElem? (i := 3) rfl)
    have kM_4 : M 2 8 = M 93 0 := hT ((2 : Int).toNat, 8, 93, 0) (List.mem_of_getElem? (i := 4) rfl)
    have kM_5 : M 2 9 = M 93 1 := hT ((2 : Int).toNat, 9, 93, 1) (List.mem_of_getElem? (i := 5) rfl)
    have kM_6 : M 2 10 = M 93 2 := hT ((2 : Int).toNat, 10, 93, 2) (List.mem_of_getElem? (i := 6) rfl)
    have kM_7 : M 77 6 = M 91 61 := hT (77, 6, 91, 61) (List.mem_of_getElem? (i := 7) rfl)
    by_cases hn : x1.toInt ≤ -1
    · obtain ⟨rv1, N1, e1, p1, q1⟩ := u_runX ko_124 (ks := uKs 2) (ex := [[(-1, 0), (-1, 1)]]) (o := 0) (bs := [false]) (by decide +kernel) hs.1 hs.2 (as := [x1.toInt]) ⟨⟨uarg_i _, fun h => nomatch h⟩, trivial⟩ (fun hm f hf => by
          obtain ⟨ρ, hρ⟩ : ∃ ρ, ρ = uRho [x1.toInt] M (cM kc_124) := ⟨_, rfl⟩
          have o1 : ρ 0 = 1 := by rw [hρ]; rfl
          have a1 : ρ 1 = x1.toInt := by rw [hρ]; exact urho_a (as := [x1.toInt]) (j := 0) (show (0 : Nat) < 1 from by decide)
          rw [← hρ] at hm ⊢
          have hf : f ∈ ([[(-1, 0), (-1, 1)]] : List qF) := hf
          simp only [List.mem_cons, List.not_mem_nil, or_false] at hf
          rcases hf with rfl
          · show 0 ≤ -1 * ρ 0 + (-1 * ρ 1 + 0)
            omega) J (N := 300) (by decide)
      obtain ⟨ρ1, u1, w1, t1, z1, i1, y1⟩ := up_124 p1
      have o1 : ρ1 0 = 1 := u1 0 (by decide)
      have a1_1 : ρ1 1 = x1.toInt := (u1 1 (by decide)).trans (urho_a (as := [x1.toInt]) (j := 0) (show (0 : Nat) < 1 from by decide))
      have m1_0_1 : M 0 1 = ρ1 2 := by
        have h := q1 (0, 1, [(1, 2)]) (List.mem_of_getElem? (i := 3) rfl)
        have h : M 0 1 = 1 * uRho [x1.toInt] M (cM kc_124) 2 + 0 := h
        rw [u1 2 (by decide)]
        omega
      obtain ⟨t1_0, t1_1, t1_2, t1_3⟩ := t1
      rw [o1] at z1
      have s1 : uSt 2 N1 := ukeep_ok (c := kc_124) (r := 2) (by decide +kernel) hs p1
      have b1_0_1 : N1 0 1 = ρ1 4 := t1_0
      have b1_0_2 : N1 0 2 = M 0 2 := y1 0 2 (by decide +kernel)
      have b1_0_3 : N1 0 3 = M 0 3 := y1 0 3 (by decide +kernel)
      have b1_2_8 : N1 2 8 = M 2 8 := y1 2 8 (by decide +kernel)
      have b1_2_9 : N1 2 9 = M 2 9 := y1 2 9 (by decide +kernel)
      have b1_2_10 : N1 2 10 = M 2 10 := y1 2 10 (by decide +kernel)
      have b1_4_261 : N1 4 261 = M 4 261 := y1 4 261 (by decide +kernel)
      have b1_77_6 : N1 77 6 = M 77 6 := y1 77 6 (by decide +kernel)
      have b1_91_2 : N1 91 2 = M 91 2 := y1 91 2 (by decide +kernel)
      have b1_91_33 : N1 91 33 = M 91 33 := y1 91 33 (by decide +kernel)
      have b1_91_34 : N1 91 34 = M 91 34 := y1 91 34 (by decide +kernel)
      have b1_91_61 : N1 91 61 = M 91 61 := y1 91 61 (by decide +kernel)
      have b1_93_0 : N1 93 0 = M 93 0 := y1 93 0 (by decide +kernel)
      have b1_93_1 : N1 93 1 = M 93 1 := y1 93 1 (by decide +kernel)
      have b1_93_2 : N1 93 2 = M 93 2 := y1 93 2 (by decide +kernel)
      obtain ⟨rv2, N2, e2, p2, q2⟩ := u_runX ko_r2 (ks := uKs 2) (ex := [[(-1, 0), (-1, 1)]]) (o := 91) (bs := [false]) (by decide +kernel) s1.1 s1.2 (as := [x1.toInt]) ⟨⟨uarg_i _, fun h => nomatch h⟩, trivial⟩ (fun hm f hf => by
          obtain ⟨ρ, hρ⟩ : ∃ ρ, ρ = uRho [x1.toInt] N1 (cM kc_r2) := ⟨_, rfl⟩
          have o1 : ρ 0 = 1 := by rw [hρ]; rfl
          have a1 : ρ 1 = x1.toInt := by rw [hρ]; exact urho_a (as := [x1.toInt]) (j := 0) (show (0 : Nat) < 1 from by decide)
          rw [← hρ] at hm ⊢
          have hf : f ∈ ([[(-1, 0), (-1, 1)]] : List qF) := hf
          simp only [List.mem_cons, List.not_mem_nil, or_false] at hf
          rcases hf with rfl
          · show 0 ≤ -1 * ρ 0 + (-1 * ρ 1 + 0)
            omega) J (N := 300) (by decide)
      obtain ⟨ρ2, u2, w2, t2, z2, i2, y2⟩ := up_r2 p2
      have o2 : ρ2 0 = 1 := u2 0 (by decide)
      have a2_1 : ρ2 1 = x1.toInt := (u2 1 (by decide)).trans (urho_a (as := [x1.toInt]) (j := 0) (show (0 : Nat) < 1 from by decide))
      have m2_91_2 : N1 91 2 = ρ2 2 := by
        have h := q2 (91, 2, [(1, 2)]) (List.mem_of_getElem? (i := 0) rfl)
        have h : N1 91 2 = 1 * uRho [x1.toInt] N1 (cM kc_r2) 2 + 0 := h
        rw [u2 2 (by decide)]
        omega
      have t2_0 := t2
      rw [o2] at z2
      have s2 : uSt 2 N2 := ukeep_ok (c := kc_r2) (r := 2) (by decide +kernel) s1 p2
      have b2_0_1 : N2 0 1 = N1 0 1 := y2 0 1 (by decide +kernel)
      have b2_0_2 : N2 0 2 = N1 0 2 := y2 0 2 (by decide +kernel)
      have b2_0_3 : N2 0 3 = N1 0 3 := y2 0 3 (by decide +kernel)
      have b2_2_8 : N2 2 8 = N1 2 8 := y2 2 8 (by decide +kernel)
      have b2_2_9 : N2 2 9 = N1 2 9 := y2 2 9 (by decide +kernel)
      have b2_2_10 : N2 2 10 = N1 2 10 := y2 2 10 (by decide +kernel)
      have b2_4_261 : N2 4 261 = N1 4 261 := y2 4 261 (by decide +kernel)
      have b2_77_6 : N2 77 6 = N1 77 6 := y2 77 6 (by decide +kernel)
      have b2_91_2 : N2 91 2 = ρ2 4 := t2_0
      have b2_91_33 : N2 91 33 = N1 91 33 := y2 91 33 (by decide +kernel)
      have b2_91_34 : N2 91 34 = N1 91 34 := y2 91 34 (by decide +kernel)
      have b2_91_61 : N2 91 61 = N1 91 61 := y2 91 61 (by decide +kernel)
      have b2_93_0 : N2 93 0 = N1 93 0 := y2 93 0 (by decide +kernel)
      have b2_93_1 : N2 93 1 = N1 93 1 := y2 93 1 (by decide +kernel)
      have b2_93_2 : N2 93 2 = N1 93 2 := y2 93 2 (by decide +kernel)
      have hv : ρ2 3 = ρ1 3 := by omega
      rw [w1] at e1
      rw [w2, hv] at e2
      simp only [List.map_cons, List.map_nil, i32_of] at e1 e2
      exact ⟨Int32.ofInt (ρ1 3), N1, N2, e1, e2, 2, Or.inl rfl, s2, (fun q hq => by
        have hq : q ∈ ([(0, 1, 91, 2), (4, 261, 0, 1), (0, 2, 91, 33), (0, 3, 91, 34), (2, 8, 93, 0), (2, 9, 93, 1), (2, 10, 93, 2), (77, 6, 91, 61)] : List (Nat × Nat × Nat × Nat)) := hq
        simp only [List.mem_cons, List.not_mem_nil, or_false] at hq
        rcases hq with rfl | rfl | rfl | rfl | rfl | rfl | rfl | rfl
        · exact (show N2 0 1 = N2 91 2 by omega)
        · exact (show N2 4 261 = N2 0 1 by omega)
        · exact (show N2 0 2 = N2 91 33 by omega)
        · exact (show N2 0 3 = N2 91 34 by omega)
        · exact (show N2 2 8 = N2 93 0 by omega)
        · exact (show N2 2 9 = N2 93 1 by omega)
        · exact (show N2 2 10 = N2 93 2 by omega)
        · exact (show N2 77 6 = N2 91 61 by omega))⟩
    by_cases hg : M 0 1 + 1 ≤ x1.toInt
    · obtain ⟨rv1, N1, e1, p1, q1⟩ := u_runX ko_125 (ks := uKs 2) (ex := [[(-1, 0), (1, 1), (-1, 2)]]) (o := 0) (bs := [false]) (by decide +kernel) hs.1 hs.2 (as := [x1.toInt]) ⟨⟨uarg_i _, fun h => nomatch h⟩, trivial⟩ (fun hm f hf => by
          obtain ⟨ρ, hρ⟩ : ∃ ρ, ρ = uRho [x1.toInt] M (cM kc_125) := ⟨_, rfl⟩
          have o1 : ρ 0 = 1 := by rw [hρ]; rfl
          have a1 : ρ 1 = x1.toInt := by rw [hρ]; exact urho_a (as := [x1.toInt]) (j := 0) (show (0 : Nat) < 1 from by decide)
          rw [← hρ] at hm ⊢
          have m3 : M 0 1 = 1 * ρ 2 + 0 := hm (0, 1, [(1, 2)]) (List.mem_of_getElem? (i := 3) rfl)
          have hf : f ∈ ([[(-1, 0), (1, 1), (-1, 2)]] : List qF) := hf
          simp only [List.mem_cons, List.not_mem_nil, or_false] at hf
          rcases hf with rfl
          · show 0 ≤ -1 * ρ 0 + (1 * ρ 1 + (-1 * ρ 2 + 0))
            omega) J (N := 300) (by decide)
      obtain ⟨ρ1, u1, w1, t1, z1, i1, y1⟩ := up_125 p1
      have o1 : ρ1 0 = 1 := u1 0 (by decide)
      have a1_1 : ρ1 1 = x1.toInt := (u1 1 (by decide)).trans (urho_a (as := [x1.toInt]) (j := 0) (show (0 : Nat) < 1 from by decide))
      have m1_0_1 : M 0 1 = ρ1 2 := by
        have h := q1 (0, 1, [(1, 2)]) (List.mem_of_getElem? (i := 3) rfl)
        have h : M 0 1 = 1 * uRho [x1.toInt] M (cM kc_125) 2 + 0 := h
        rw [u1 2 (by decide)]
        omega
      obtain ⟨t1_0, t1_1, t1_2, t1_3⟩ := t1
      rw [o1] at z1
      have s1 : uSt 2 N1 := ukeep_ok (c := kc_125) (r := 2) (by decide +kernel) hs p1
      have b1_0_1 : N1 0 1 = ρ1 4 := t1_0
      have b1_0_2 : N1 0 2 = M 0 2 := y1 0 2 (by decide +kernel)
      have b1_0_3 : N1 0 3 = M 0 3 := y1 0 3 (by decide +kernel)
      have b1_2_8 : N1 2 8 = M 2 8 := y1 2 8 (by decide +kernel)
      have b1_2_9 : N1 2 9 = M 2 9 := y1 2 9 (by decide +kernel)
      have b1_2_10 : N1 2 10 = M 2 10 := y1 2 10 (by decide +kernel)
      have b1_4_261 : N1 4 261 = M 4 261 := y1 4 261 (by decide +kernel)
      have b1_77_6 : N1 77 6 = M 77 6 := y1 77 6 (by decide +kernel)
      have b1_91_2 : N1 91 2 = M 91 2 := y1 91 2 (by decide +kernel)
      have b1_91_33 : N1 91 33 = M 91 33 := y1 91 33 (by decide +kernel)
      have b1_91_34 : N1 91 34 = M 91 34 := y1 91 34 (by decide +kernel)
      have b1_91_61 : N1 91 61 = M 91 61 := y1 91 61 (by decide +kernel)
      have b1_93_0 : N1 93 0 = M 93 0 := y1 93 0 (by decide +kernel)
      have b1_93_1 : N1 93 1 = M 93 1 := y1 93 1 (by decide +kernel)
      have b1_93_2 : N1 93 2 = M 93 2 := y1 93 2 (by decide +kernel)
      obtain ⟨rv2, N2, e2, p2, q2⟩ := u_runX ko_r3 (ks := uKs 2) (ex := [[(-1, 0), (1, 1), (-1, 2)]]) (o := 91) (bs := [false]) (by decide +kernel) s1.1 s1.2 (as := [x1.toInt]) ⟨⟨uarg_i _, fun h => nomatch h⟩, trivial⟩ (fun hm f hf => by
          obtain ⟨ρ, hρ⟩ : ∃ ρ, ρ = uRho [x1.toInt] N1 (cM kc_r3) := ⟨_, rfl⟩
          have o1 : ρ 0 = 1 := by rw [hρ]; rfl
          have a1 : ρ 1 = x1.toInt := by rw [hρ]; exact urho_a (as := [x1.toInt]) (j := 0) (show (0 : Nat) < 1 from by decide)
          rw [← hρ] at hm ⊢
          have m1 : N1 91 2 = 1 * ρ 2 + 0 := hm (91, 2, [(1, 2)]) (List.mem_of_getElem? (i := 1) rfl)
          have hf : f ∈ ([[(-1, 0), (1, 1), (-1, 2)]] : List qF) := hf
          simp only [List.mem_cons, List.not_mem_nil, or_false] at hf
          rcases hf with rfl
          · show 0 ≤ -1 * ρ 0 + (1 * ρ 1 + (-1 * ρ 2 + 0))
            omega) J (N := 300) (by decide)
      obtain ⟨ρ2, u2, w2, t2, z2, i2, y2⟩ := up_r3 p2
      have o2 : ρ2 0 = 1 := u2 0 (by decide)
      have a2_1 : ρ2 1 = x1.toInt := (u2 1 (by decide)).trans (urho_a (as := [x1.toInt]) (j := 0) (show (0 : Nat) < 1 from by decide))
      have m2_91_2 : N1 91 2 = ρ2 2 := by
        have h := q2 (91, 2, [(1, 2)]) (List.mem_of_getElem? (i := 1) rfl)
        have h : N1 91 2 = 1 * uRho [x1.toInt] N1 (cM kc_r3) 2 + 0 := h
        rw [u2 2 (by decide)]
        omega
      have t2_0 := t2
      rw [o2] at z2
      have s2 : uSt 2 N2 := ukeep_ok (c := kc_r3) (r := 2) (by decide +kernel) s1 p2
      have b2_0_1 : N2 0 1 = N1 0 1 := y2 0 1 (by decide +kernel)
      have b2_0_2 : N2 0 2 = N1 0 2 := y2 0 2 (by decide +kernel)
      have b2_0_3 : N2 0 3 = N1 0 3 := y2 0 3 (by decide +kernel)
      have b2_2_8 : N2 2 8 = N1 2 8 := y2 2 8 (by decide +kernel)
      have b2_2_9 : N2 2 9 = N1 2 9 := y2 2 9 (by decide +kernel)
      have b2_2_10 : N2 2 10 = N1 2 10 := y2 2 10 (by decide +kernel)
      have b2_4_261 : N2 4 261 = N1 4 261 := y2 4 261 (by decide +kernel)
      have b2_77_6 : N2 77 6 = N1 77 6 := y2 77 6 (by decide +kernel)
      have b2_91_2 : N2 91 2 = ρ2 4 := t2_0
      have b2_91_33 : N2 91 33 = N1 91 33 := y2 91 33 (by decide +kernel)
      have b2_91_34 : N2 91 34 = N1 91 34 := y2 91 34 (by decide +kernel)
      have b2_91_61 : N2 91 61 = N1 91 61 := y2 91 61 (by decide +kernel)
      have b2_93_0 : N2 93 0 = N1 93 0 := y2 93 0 (by decide +kernel)
      have b2_93_1 : N2 93 1 = N1 93 1 := y2 93 1 (by decide +kernel)
      have b2_93_2 : N2 93 2 = N1 93 2 := y2 93 2 (by decide +kernel)
      have hv : ρ2 3 = ρ1 3 := by omega
      rw [w1] at e1
      rw [w2, hv] at e2
      simp only [List.map_cons, List.map_nil, i32_of] at e1 e2
      exact ⟨Int32.ofInt (ρ1 3), N1, N2, e1, e2, 2, Or.inl rfl, s2, (fun q hq => by
        have hq : q ∈ ([(0, 1, 91, 2), (4, 261, 0, 1), (0, 2, 91, 33), (0, 3, 91, 34), (2, 8, 93, 0), (2, 9, 93, 1), (2, 10, 93, 2), (77, 6, 91, 61)] : List (Nat × Nat × Nat × Nat)) := hq
        simp only [List.mem_cons, List.not_mem_nil, or_false] at hq
        rcases hq with rfl | rfl | rfl | rfl | rfl | rfl | rfl | rfl
        · exact (show N2 0 1 = N2 91 2 by omega)
        · exact (show N2 4 261 = N2 0 1 by omega)
        · exact (show N2 0 2 = N2 91 33 by omega)
        · exact (show N2 0 3 = N2 91 34 by omega)
        · exact (show N2 2 8 = N2 93 0 by omega)
        · exact (show N2 2 9 = N2 93 1 by omega)
        · exact (show N2 2 10 = N2 93 2 by omega)
        · exact (show N2 77 6 = N2 91 61 by omega))⟩
    obtain ⟨rv1, N1, e1, p1, q1⟩ := u_runX ko_201 (ks := uKs 2) (ex := [[(1, 1)], [(-1, 1), (1, 2)], [(-1, 2), (1, 3)]]) (o := 0) (bs := [false]) (by decide +kernel) hs.1 hs.2 (as := [x1.toInt]) ⟨⟨uarg_i _, fun h => nomatch h⟩, trivial⟩ (fun hm f hf => by
        obtain ⟨ρ, hρ⟩ : ∃ ρ, ρ = uRho [x1.toInt] M (cM kc_201) := ⟨_, rfl⟩
        have o1 : ρ 0 = 1 := by rw [hρ]; rfl
        have a1 : ρ 1 = x1.toInt := by rw [hρ]; exact urho_a (as := [x1.toInt]) (j := 0) (show (0 : Nat) < 1 from by decide)
        rw [← hρ] at hm ⊢
        have m3 : M 0 1 = 1 * ρ 2 + 0 := hm (0, 1, [(1, 2)]) (List.mem_of_getElem? (i := 3) rfl)
        have m15 : M 4 261 = 1 * ρ 3 + 0 := hm (4, 261, [(1, 3)]) (List.mem_of_getElem? (i := 15) rfl)
        have hf : f ∈ ([[(1, 1)], [(-1, 1), (1, 2)], [(-1, 2), (1, 3)]] : List qF) := hf
        simp only [List.mem_cons, List.not_mem_nil, or_false] at hf
        rcases hf with rfl | rfl | rfl
        · show 0 ≤ 1 * ρ 1 + 0
          omega
        · show 0 ≤ -1 * ρ 1 + (1 * ρ 2 + 0)
          omega
        · show 0 ≤ -1 * ρ 2 + (1 * ρ 3 + 0)
          omega) J (N := 300) (by decide)
    obtain ⟨ρ1, u1, w1, t1, z1, i1, y1⟩ := up_201 p1
    have o1 : ρ1 0 = 1 := u1 0 (by decide)
    have a1_1 : ρ1 1 = x1.toInt := (u1 1 (by decide)).trans (urho_a (as := [x1.toInt]) (j := 0) (show (0 : Nat) < 1 from by decide))
    have m1_0_1 : M 0 1 = ρ1 2 := by
      have h := q1 (0, 1, [(1, 2)]) (List.mem_of_getElem? (i := 3) rfl)
      have h : M 0 1 = 1 * uRho [x1.toInt] M (cM kc_201) 2 + 0 := h
      rw [u1 2 (by decide)]
      omega
    have m1_4_261 : M 4 261 = ρ1 3 := by
      have h := q1 (4, 261, [(1, 3)]) (List.mem_of_getElem? (i := 15) rfl)
      have h : M 4 261 = 1 * uRho [x1.toInt] M (cM kc_201) 3 + 0 := h
      rw [u1 3 (by decide)]
      omega
    have m1_56_5 : M 56 5 = ρ1 4 := by
      have h := q1 (56, 5, [(1, 4)]) (List.mem_of_getElem? (i := 16) rfl)
      have h : M 56 5 = 1 * uRho [x1.toInt] M (cM kc_201) 4 + 0 := h
      rw [u1 4 (by decide)]
      omega
    have m1_91_30 : M 91 30 = ρ1 5 := by
      have h := q1 (91, 30, [(1, 5)]) (List.mem_of_getElem? (i := 17) rfl)
      have h : M 91 30 = 1 * uRho [x1.toInt] M (cM kc_201) 5 + 0 := h
      rw [u1 5 (by decide)]
      omega
    have m1_54_2 : M 54 2 = ρ1 6 := by
      have h := q1 (54, 2, [(1, 6)]) (List.mem_of_getElem? (i := 18) rfl)
      have h : M 54 2 = 1 * uRho [x1.toInt] M (cM kc_201) 6 + 0 := h
      rw [u1 6 (by decide)]
      omega
    have m1_54_3 : M 54 3 = ρ1 7 := by
      have h := q1 (54, 3, [(1, 7)]) (List.mem_of_getElem? (i := 19) rfl)
      have h : M 54 3 = 1 * uRho [x1.toInt] M (cM kc_201) 7 + 0 := h
      rw [u1 7 (by decide)]
      omega
    have m1_54_998 : M 54 998 = ρ1 8 := by
      have h := q1 (54, 998, [(1, 8)]) (List.mem_of_getElem? (i := 20) rfl)
      have h : M 54 998 = 1 * uRho [x1.toInt] M (cM kc_201) 8 + 0 := h
      rw [u1 8 (by decide)]
      omega
    have m1_54_997 : M 54 997 = ρ1 9 := by
      have h := q1 (54, 997, [(1, 9)]) (List.mem_of_getElem? (i := 21) rfl)
      have h : M 54 997 = 1 * uRho [x1.toInt] M (cM kc_201) 9 + 0 := h
      rw [u1 9 (by decide)]
      omega
    have m1_4_276 : M 4 276 = ρ1 10 := by
      have h := q1 (4, 276, [(1, 10)]) (List.mem_of_getElem? (i := 22) rfl)
      have h : M 4 276 = 1 * uRho [x1.toInt] M (cM kc_201) 10 + 0 := h
      rw [u1 10 (by decide)]
      omega
    have m1_4_270 : M 4 270 = ρ1 11 := by
      have h := q1 (4, 270, [(1, 11)]) (List.mem_of_getElem? (i := 23) rfl)
      have h : M 4 270 = 1 * uRho [x1.toInt] M (cM kc_201) 11 + 0 := h
      rw [u1 11 (by decide)]
      omega
    have m1_4_271 : M 4 271 = ρ1 12 := by
      have h := q1 (4, 271, [(1, 12)]) (List.mem_of_getElem? (i := 24) rfl)
      have h : M 4 271 = 1 * uRho [x1.toInt] M (cM kc_201) 12 + 0 := h
      rw [u1 12 (by decide)]
      omega
    have m1_4_272 : M 4 272 = ρ1 13 := by
      have h := q1 (4, 272, [(1, 13)]) (List.mem_of_getElem? (i := 25) rfl)
      have h : M 4 272 = 1 * uRho [x1.toInt] M (cM kc_201) 13 + 0 := h
      rw [u1 13 (by decide)]
      omega
    have m1_4_273 : M 4 273 = ρ1 14 := by
      have h := q1 (4, 273, [(1, 14)]) (List.mem_of_getElem? (i := 26) rfl)
      have h : M 4 273 = 1 * uRho [x1.toInt] M (cM kc_201) 14 + 0 := h
      rw [u1 14 (by decide)]
      omega
    have m1_4_274 : M 4 274 = ρ1 15 := by
      have h := q1 (4, 274, [(1, 15)]) (List.mem_of_getElem? (i := 27) rfl)
      have h : M 4 274 = 1 * uRho [x1.toInt] M (cM kc_201) 15 + 0 := h
      rw [u1 15 (by decide)]
      omega
    have m1_77_6 : M 77 6 = ρ1 16 := by
      have h := q1 (77, 6, [(1, 16)]) (List.mem_of_getElem? (i := 28) rfl)
      have h : M 77 6 = 1 * uRho [x1.toInt] M (cM kc_201) 16 + 0 := h
      rw [u1 16 (by decide)]
      omega
    obtain ⟨t1_0, t1_1, t1_2, t1_3, t1_4, t1_5, t1_6, t1_7, t1_8, t1_9, t1_10, t1_11, t1_12, t1_13, t1_14, t1_15, t1_16, t1_17, t1_18, t1_19, t1_20, t1_21, t1_22, t1_23, t1_24, t1_25, t1_26, t1_27, t1_28, t1_29, t1_30⟩ := t1
    rw [o1] at z1
    have k1 : ∀ q ∈ uKw, N1 q.1 q.2.1 = q.2.2 := ukeepX_ok (ks := uKs 2) (c := kc_201) (by decide +kernel) hs.2 p1
    have b1_0_1 : N1 0 1 = ρ1 18 := t1_0
    have b1_0_2 : N1 0 2 = ρ1 19 := t1_1
    have b1_0_3 : N1 0 3 = ρ1 20 := t1_2
    have b1_0_5 : N1 0 5 = ρ1 46 := t1_28
    have b1_0_6 : N1 0 6 = ρ1 47 := t1_29
    have b1_2_8 : N1 2 8 = M 2 8 := y1 2 8 (by decide +kernel)
    have b1_2_9 : N1 2 9 = M 2 9 := y1 2 9 (by decide +kernel)
    have b1_2_10 : N1 2 10 = M 2 10 := y1 2 10 (by decide +kernel)
    have b1_4_101 : N1 4 101 = ρ1 22 := t1_4
    have b1_4_200 : N1 4 200 = ρ1 27 := t1_9
    have b1_4_201 : N1 4 201 = ρ1 28 := t1_10
    have b1_4_202 : N1 4 202 = ρ1 29 := t1_11
    have b1_4_203 : N1 4 203 = ρ1 30 := t1_12
    have b1_4_204 : N1 4 204 = ρ1 31 := t1_13
    have b1_4_205 : N1 4 205 = ρ1 32 := t1_14
    have b1_4_206 : N1 4 206 = ρ1 33 := t1_15
    have b1_4_208 : N1 4 208 = ρ1 24 := t1_6
    have b1_4_261 : N1 4 261 = M 4 261 := y1 4 261 (by decide +kernel)
    have b1_28_8 : N1 28 8 = ρ1 43 := t1_25
    have b1_28_9 : N1 28 9 = ρ1 44 := t1_26
    have b1_28_10 : N1 28 10 = ρ1 45 := t1_27
    have b1_58_4 : N1 58 4 = ρ1 48 := t1_30
    have b1_77_6 : N1 77 6 = ρ1 42 := t1_24
    have b1_91_2 : N1 91 2 = M 91 2 := y1 91 2 (by decide +kernel)
    have b1_91_30 : N1 91 30 = ρ1 26 := t1_8
    have b1_91_33 : N1 91 33 = M 91 33 := y1 91 33 (by decide +kernel)
    have b1_91_34 : N1 91 34 = M 91 34 := y1 91 34 (by decide +kernel)
    have b1_91_61 : N1 91 61 = M 91 61 := y1 91 61 (by decide +kernel)
    have b1_93_0 : N1 93 0 = M 93 0 := y1 93 0 (by decide +kernel)
    have b1_93_1 : N1 93 1 = M 93 1 := y1 93 1 (by decide +kernel)
    have b1_93_2 : N1 93 2 = M 93 2 := y1 93 2 (by decide +kernel)
    have b200 : N1 4 200 = 1 := by rcases z1 with z1 | z1 <;> omega
    rcases z1 with z1 | z1
    · obtain ⟨rv2, N2, e2, p2, q2⟩ := u_runX ko_r580 (ks := uKw ++ [(4, 200, 1)]) (ex := [[(1, 1)], [(-1, 1), (1, 2)], [(-1, 1), (1, 6)], [(-1, 1), (1, 3)], [(1, 1), (-1, 3)], [(1, 5), (-1, 7)], [(-1, 5), (1, 7)]]) (o := 91) (bs := [false]) (by decide +kernel) i1 (fun q hq => by rcases List.mem_append.mp hq with hq | hq; exact k1 q hq; rw [List.mem_singleton] at hq; rw [hq]; exact b200) (as := [x1.toInt]) ⟨⟨uarg_i _, fun h => nomatch h⟩, trivial⟩ (fun hm f hf => by
          obtain ⟨ρ, hρ⟩ : ∃ ρ, ρ = uRho [x1.toInt] N1 (cM kc_r580) := ⟨_, rfl⟩
          have o1 : ρ 0 = 1 := by rw [hρ]; rfl
          have a1 : ρ 1 = x1.toInt := by rw [hρ]; exact urho_a (as := [x1.toInt]) (j := 0) (show (0 : Nat) < 1 from by decide)
          rw [← hρ] at hm ⊢
          have m0 : N1 91 2 = 1 * ρ 2 + 0 := hm (91, 2, [(1, 2)]) (List.mem_of_getElem? (i := 0) rfl)
          have m12 : N1 4 101 = 1 * ρ 3 + 0 := hm (4, 101, [(1, 3)]) (List.mem_of_getElem? (i := 12) rfl)
          have m14 : N1 4 208 = 1 * ρ 5 + 0 := hm (4, 208, [(1, 5)]) (List.mem_of_getElem? (i := 14) rfl)
          have m15 : N1 4 261 = 1 * ρ 6 + 0 := hm (4, 261, [(1, 6)]) (List.mem_of_getElem? (i := 15) rfl)
          have m16 : N1 91 30 = 1 * ρ 7 + 0 := hm (91, 30, [(1, 7)]) (List.mem_of_getElem? (i := 16) rfl)
          have hf : f ∈ ([[(1, 1)], [(-1, 1), (1, 2)], [(-1, 1), (1, 6)], [(-1, 1), (1, 3)], [(1, 1), (-1, 3)], [(1, 5), (-1, 7)], [(-1, 5), (1, 7)]] : List qF) := hf
          simp only [List.mem_cons, List.not_mem_nil, or_false] at hf
          rcases hf with rfl | rfl | rfl | rfl | rfl | rfl | rfl
          · show 0 ≤ 1 * ρ 1 + 0
            omega
          · show 0 ≤ -1 * ρ 1 + (1 * ρ 2 + 0)
            omega
          · show 0 ≤ -1 * ρ 1 + (1 * ρ 6 + 0)
            omega
          · show 0 ≤ -1 * ρ 1 + (1 * ρ 3 + 0)
            omega
          · show 0 ≤ 1 * ρ 1 + (-1 * ρ 3 + 0)
            omega
          · show 0 ≤ 1 * ρ 5 + (-1 * ρ 7 + 0)
            omega
          · show 0 ≤ -1 * ρ 5 + (1 * ρ 7 + 0)
            omega) J (N := 300) (by decide)
      obtain ⟨ρ2, u2, w2, t2, z2, i2, y2⟩ := up_r580 p2
      have o2 : ρ2 0 = 1 := u2 0 (by decide)
      have a2_1 : ρ2 1 = x1.toInt := (u2 1 (by decide)).trans (urho_a (as := [x1.toInt]) (j := 0) (show (0 : Nat) < 1 from by decide))
      have m2_91_2 : N1 91 2 = ρ2 2 := by
        have h := q2 (91, 2, [(1, 2)]) (List.mem_of_getElem? (i := 0) rfl)
        have h : N1 91 2 = 1 * uRho [x1.toInt] N1 (cM kc_r580) 2 + 0 := h
        rw [u2 2 (by decide)]
        omega
      have m2_4_101 : N1 4 101 = ρ2 3 := by
        have h := q2 (4, 101, [(1, 3)]) (List.mem_of_getElem? (i := 12) rfl)
        have h : N1 4 101 = 1 * uRho [x1.toInt] N1 (cM kc_r580) 3 + 0 := h
        rw [u2 3 (by decide)]
        omega
      have m2_4_207 : N1 4 207 = ρ2 4 := by
        have h := q2 (4, 207, [(1, 4)]) (List.mem_of_getElem? (i := 13) rfl)
        have h : N1 4 207 = 1 * uRho [x1.toInt] N1 (cM kc_r580) 4 + 0 := h
        rw [u2 4 (by decide)]
        omega
      have m2_4_208 : N1 4 208 = ρ2 5 := by
        have h := q2 (4, 208, [(1, 5)]) (List.mem_of_getElem? (i := 14) rfl)
        have h : N1 4 208 = 1 * uRho [x1.toInt] N1 (cM kc_r580) 5 + 0 := h
        rw [u2 5 (by decide)]
        omega
      have m2_4_261 : N1 4 261 = ρ2 6 := by
        have h := q2 (4, 261, [(1, 6)]) (List.mem_of_getElem? (i := 15) rfl)
        have h : N1 4 261 = 1 * uRho [x1.toInt] N1 (cM kc_r580) 6 + 0 := h
        rw [u2 6 (by decide)]
        omega
      have m2_91_30 : N1 91 30 = ρ2 7 := by
        have h := q2 (91, 30, [(1, 7)]) (List.mem_of_getElem? (i := 16) rfl)
        have h : N1 91 30 = 1 * uRho [x1.toInt] N1 (cM kc_r580) 7 + 0 := h
        rw [u2 7 (by decide)]
        omega
      have m2_4_201 : N1 4 201 = ρ2 8 := by
        have h := q2 (4, 201, [(1, 8)]) (List.mem_of_getElem? (i := 17) rfl)
        have h : N1 4 201 = 1 * uRho [x1.toInt] N1 (cM kc_r580) 8 + 0 := h
        rw [u2 8 (by decide)]
        omega
      have m2_4_202 : N1 4 202 = ρ2 9 := by
        have h := q2 (4, 202, [(1, 9)]) (List.mem_of_getElem? (i := 18) rfl)
        have h : N1 4 202 = 1 * uRho [x1.toInt] N1 (cM kc_r580) 9 + 0 := h
        rw [u2 9 (by decide)]
        omega
      have m2_4_203 : N1 4 203 = ρ2 10 := by
        have h := q2 (4, 203, [(1, 10)]) (List.mem_of_getElem? (i := 19) rfl)
        have h : N1 4 203 = 1 * uRho [x1.toInt] N1 (cM kc_r580) 10 + 0 := h
        rw [u2 10 (by decide)]
        omega
      have m2_4_204 : N1 4 204 = ρ2 11 := by
        have h := q2 (4, 204, [(1, 11)]) (List.mem_of_getElem? (i := 20) rfl)
        have h : N1 4 204 = 1 * uRho [x1.toInt] N1 (cM kc_r580) 11 + 0 := h
        rw [u2 11 (by decide)]
        omega
      have m2_4_205 : N1 4 205 = ρ2 12 := by
        have h := q2 (4, 205, [(1, 12)]) (List.mem_of_getElem? (i := 21) rfl)
        have h : N1 4 205 = 1 * uRho [x1.toInt] N1 (cM kc_r580) 12 + 0 := h
        rw [u2 12 (by decide)]
        omega
      have m2_4_206 : N1 4 206 = ρ2 13 := by
        have h := q2 (4, 206, [(1, 13)]) (List.mem_of_getElem? (i := 22) rfl)
        have h : N1 4 206 = 1 * uRho [x1.toInt] N1 (cM kc_r580) 13 + 0 := h
        rw [u2 13 (by decide)]
        omega
      have m2_93_0 : N1 93 0 = ρ2 14 := by
        have h := q2 (93, 0, [(1, 14)]) (List.mem_of_getElem? (i := 23) rfl)
        have h : N1 93 0 = 1 * uRho [x1.toInt] N1 (cM kc_r580) 14 + 0 := h
        rw [u2 14 (by decide)]
        omega
      have m2_93_1 : N1 93 1 = ρ2 15 := by
        have h := q2 (93, 1, [(1, 15)]) (List.mem_of_getElem? (i := 24) rfl)
        have h : N1 93 1 = 1 * uRho [x1.toInt] N1 (cM kc_r580) 15 + 0 := h
        rw [u2 15 (by decide)]
        omega
      have m2_93_2 : N1 93 2 = ρ2 16 := by
        have h := q2 (93, 2, [(1, 16)]) (List.mem_of_getElem? (i := 25) rfl)
        have h : N1 93 2 = 1 * uRho [x1.toInt] N1 (cM kc_r580) 16 + 0 := h
        rw [u2 16 (by decide)]
        omega
      have m2_91_61 : N1 91 61 = ρ2 17 := by
        have h := q2 (91, 61, [(1, 17)]) (List.mem_of_getElem? (i := 26) rfl)
        have h : N1 91 61 = 1 * uRho [x1.toInt] N1 (cM kc_r580) 17 + 0 := h
        rw [u2 17 (by decide)]
        omega
      obtain ⟨t2_0, t2_1, t2_2, t2_3, t2_4, t2_5, t2_6, t2_7, t2_8, t2_9, t2_10, t2_11, t2_12, t2_13, t2_14, t2_15, t2_16, t2_17, t2_18, t2_19, t2_20, t2_21, t2_22, t2_23⟩ := t2
      rw [o2] at z2
      have k2 : ∀ q ∈ uKw ++ [(4, 200, 0)], N2 q.1 q.2.1 = q.2.2 := ukeepX_ok (ks := uKw ++ [(4, 200, 1)]) (c := kc_r580) (by decide +kernel) (fun q hq => by rcases List.mem_append.mp hq with hq | hq; exact k1 q hq; rw [List.mem_singleton] at hq; rw [hq]; exact b200) p2
      have b2_0_1 : N2 0 1 = N1 0 1 := y2 0 1 (by decide +kernel)
      have b2_0_2 : N2 0 2 = N1 0 2 := y2 0 2 (by decide +kernel)
      have b2_0_3 : N2 0 3 = N1 0 3 := y2 0 3 (by decide +kernel)
      have b2_0_5 : N2 0 5 = N1 0 5 := y2 0 5 (by decide +kernel)
      have b2_0_6 : N2 0 6 = N1 0 6 := y2 0 6 (by decide +kernel)
      have b2_2_8 : N2 2 8 = N1 2 8 := y2 2 8 (by decide +kernel)
      have b2_2_9 : N2 2 9 = N1 2 9 := y2 2 9 (by decide +kernel)
      have b2_2_10 : N2 2 10 = N1 2 10 := y2 2 10 (by decide +kernel)
      have b2_4_261 : N2 4 261 = 0 := t2_6
      have b2_58_4 : N2 58 4 = N1 58 4 := y2 58 4 (by decide +kernel)
      have b2_77_6 : N2 77 6 = N1 77 6 := y2 77 6 (by decide +kernel)
      have b2_91_2 : N2 91 2 = ρ2 19 := t2_0
      have b2_91_33 : N2 91 33 = ρ2 20 := t2_1
      have b2_91_34 : N2 91 34 = ρ2 21 := t2_2
      have b2_91_61 : N2 91 61 = ρ2 37 := t2_18
      have b2_93_0 : N2 93 0 = ρ2 34 := t2_15
      have b2_93_1 : N2 93 1 = ρ2 35 := t2_16
      have b2_93_2 : N2 93 2 = ρ2 36 := t2_17
      have s2 : uSt 2 N2 := by
        refine ⟨i2, fun q hq => ?_⟩
        rcases uks_mem q hq with rfl | rfl | rfl | rfl | h
        · exact (show N2 0 5 = 2 by omega)
        · exact (show N2 0 6 = 30 - 2 by omega)
        · exact (show N2 58 4 = 2 by omega)
        · exact k2 _ (List.mem_append.mpr (Or.inr (List.mem_singleton.mpr rfl)))
        · exact k2 q (List.mem_append.mpr (Or.inl h))
      have hv : ρ2 18 = ρ1 17 ∧ N2 0 1 = N2 91 2 ∧ N2 4 261 = N2 0 1 ∧ N2 0 2 = N2 91 33 ∧ N2 0 3 = N2 91 34 ∧ N2 2 8 = N2 93 0 ∧ N2 2 9 = N2 93 1 ∧ N2 2 10 = N2 93 2 ∧ N2 77 6 = N2 91 61 := by
        rcases z2 with z2 | z2 <;> omega
      obtain ⟨hv, hw0, hw1, hw2, hw3, hw4, hw5, hw6, hw7⟩ := hv
      rw [w1] at e1
      rw [w2, hv] at e2
      simp only [List.map_cons, List.map_nil, i32_of] at e1 e2
      exact ⟨Int32.ofInt (ρ1 17), N1, N2, e1, e2, 2, Or.inl rfl, s2, (fun q hq => by
        have hq : q ∈ ([(0, 1, 91, 2), (4, 261, 0, 1), (0, 2, 91, 33), (0, 3, 91, 34), (2, 8, 93, 0), (2, 9, 93, 1), (2, 10, 93, 2), (77, 6, 91, 61)] : List (Nat × Nat × Nat × Nat)) := hq
        simp only [List.mem_cons, List.not_mem_nil, or_false] at hq
        rcases hq with rfl | rfl | rfl | rfl | rfl | rfl | rfl | rfl
        · exact (show N2 0 1 = N2 91 2 by omega)
        · exact (show N2 4 261 = N2 0 1 by omega)
        · exact (show N2 0 2 = N2 91 33 by omega)
        · exact (show N2 0 3 = N2 91 34 by omega)
        · exact (show N2 2 8 = N2 93 0 by omega)
        · exact (show N2 2 9 = N2 93 1 by omega)
        · exact (show N2 2 10 = N2 93 2 by omega)
        · exact (show N2 77 6 = N2 91 61 by omega))⟩
    · obtain ⟨rv2, N2, e2, p2, q2⟩ := u_runX ko_r580 (ks := uKw ++ [(4, 200, 1)]) (ex := [[(1, 1)], [(-1, 1), (1, 2)], [(-1, 1), (1, 6)], [(-1, 1), (1, 3)], [(1, 1), (-1, 3)], [(1, 5), (-1, 7)], [(-1, 5), (1, 7)]]) (o := 91) (bs := [false]) (by decide +kernel) i1 (fun q hq => by rcases List.mem_append.mp hq with hq | hq; exact k1 q hq; rw [List.mem_singleton] at hq; rw [hq]; exact b200) (as := [x1.toInt]) ⟨⟨uarg_i _, fun h => nomatch h⟩, trivial⟩ (fun hm f hf => by
          obtain ⟨ρ, hρ⟩ : ∃ ρ, ρ = uRho [x1.toInt] N1 (cM kc_r580) := ⟨_, rfl⟩
          have o1 : ρ 0 = 1 := by rw [hρ]; rfl
          have a1 : ρ 1 = x1.toInt := by rw [hρ]; exact urho_a (as := [x1.toInt]) (j := 0) (show (0 : Nat) < 1 from by decide)
          rw [← hρ] at hm ⊢
          have m0 : N1 91 2 = 1 * ρ 2 + 0 := hm (91, 2, [(1, 2)]) (List.mem_of_getElem? (i := 0) rfl)
          have m12 : N1 4 101 = 1 * ρ 3 + 0 := hm (4, 101, [(1, 3)]) (List.mem_of_getElem? (i := 12) rfl)
          have m14 : N1 4 208 = 1 * ρ 5 + 0 := hm (4, 208, [(1, 5)]) (List.mem_of_getElem? (i := 14) rfl)
          have m15 : N1 4 261 = 1 * ρ 6 + 0 := hm (4, 261, [(1, 6)]) (List.mem_of_getElem? (i := 15) rfl)
          have m16 : N1 91 30 = 1 * ρ 7 + 0 := hm (91, 30, [(1, 7)]) (List.mem_of_getElem? (i := 16) rfl)
          have hf : f ∈ ([[(1, 1)], [(-1, 1), (1, 2)], [(-1, 1), (1, 6)], [(-1, 1), (1, 3)], [(1, 1), (-1, 3)], [(1, 5), (-1, 7)], [(-1, 5), (1, 7)]] : List qF) := hf
          simp only [List.mem_cons, List.not_mem_nil, or_false] at hf
          rcases hf with rfl | rfl | rfl | rfl | rfl | rfl | rfl
          · show 0 ≤ 1 * ρ 1 + 0
            omega
          · show 0 ≤ -1 * ρ 1 + (1 * ρ 2 + 0)
            omega
          · show 0 ≤ -1 * ρ 1 + (1 * ρ 6 + 0)
            omega
          · show 0 ≤ -1 * ρ 1 + (1 * ρ 3 + 0)
            omega
          · show 0 ≤ 1 * ρ 1 + (-1 * ρ 3 + 0)
            omega
          · show 0 ≤ 1 * ρ 5 + (-1 * ρ 7 + 0)
            omega
          · show 0 ≤ -1 * ρ 5 + (1 * ρ 7 + 0)
            omega) J (N := 300) (by decide)
      obtain ⟨ρ2, u2, w2, t2, z2, i2, y2⟩ := up_r580 p2
      have o2 : ρ2 0 = 1 := u2 0 (by decide)
      have a2_1 : ρ2 1 = x1.toInt := (u2 1 (by decide)).trans (urho_a (as := [x1.toInt]) (j := 0) (show (0 : Nat) < 1 from by decide))
      have m2_91_2 : N1 91 2 = ρ2 2 := by
        have h := q2 (91, 2, [(1, 2)]) (List.mem_of_getElem? (i := 0) rfl)
        have h : N1 91 2 = 1 * uRho [x1.toInt] N1 (cM kc_r580) 2 + 0 := h
        rw [u2 2 (by decide)]
        omega
      have m2_4_101 : N1 4 101 = ρ2 3 := by
        have h := q2 (4, 101, [(1, 3)]) (List.mem_of_getElem? (i := 12) rfl)
        have h : N1 4 101 = 1 * uRho [x1.toInt] N1 (cM kc_r580) 3 + 0 := h
        rw [u2 3 (by decide)]
        omega
      have m2_4_207 : N1 4 207 = ρ2 4 := by
        have h := q2 (4, 207, [(1, 4)]) (List.mem_of_getElem? (i := 13) rfl)
        have h : N1 4 207 = 1 * uRho [x1.toInt] N1 (cM kc_r580) 4 + 0 := h
        rw [u2 4 (by decide)]
        omega
      have m2_4_208 : N1 4 208 = ρ2 5 := by
        have h := q2 (4, 208, [(1, 5)]) (List.mem_of_getElem? (i := 14) rfl)
        have h : N1 4 208 = 1 * uRho [x1.toInt] N1 (cM kc_r580) 5 + 0 := h
        rw [u2 5 (by decide)]
        omega
      have m2_4_261 : N1 4 261 = ρ2 6 := by
        have h := q2 (4, 261, [(1, 6)]) (List.mem_of_getElem? (i := 15) rfl)
        have h : N1 4 261 = 1 * uRho [x1.toInt] N1 (cM kc_r580) 6 + 0 := h
        rw [u2 6 (by decide)]
        omega
      have m2_91_30 : N1 91 30 = ρ2 7 := by
        have h := q2 (91, 30, [(1, 7)]) (List.mem_of_getElem? (i := 16) rfl)
        have h : N1 91 30 = 1 * uRho [x1.toInt] N1 (cM kc_r580) 7 + 0 := h
        rw [u2 7 (by decide)]
        omega
      have m2_4_201 : N1 4 201 = ρ2 8 := by
        have h := q2 (4, 201, [(1, 8)]) (List.mem_of_getElem? (i := 17) rfl)
        have h : N1 4 201 = 1 * uRho [x1.toInt] N1 (cM kc_r580) 8 + 0 := h
        rw [u2 8 (by decide)]
        omega
      have m2_4_202 : N1 4 202 = ρ2 9 := by
        have h := q2 (4, 202, [(1, 9)]) (List.mem_of_getElem? (i := 18) rfl)
        have h : N1 4 202 = 1 * uRho [x1.toInt] N1 (cM kc_r580) 9 + 0 := h
        rw [u2 9 (by decide)]
        omega
      have m2_4_203 : N1 4 203 = ρ2 10 := by
        have h := q2 (4, 203, [(1, 10)]) (List.mem_of_getElem? (i := 19) rfl)
        have h : N1 4 203 = 1 * uRho [x1.toInt] N1 (cM kc_r580) 10 + 0 := h
        rw [u2 10 (by decide)]
        omega
      have m2_4_204 : N1 4 204 = ρ2 11 := by
        have h := q2 (4, 204, [(1, 11)]) (List.mem_of_getElem? (i := 20) rfl)
        have h : N1 4 204 = 1 * uRho [x1.toInt] N1 (cM kc_r580) 11 + 0 := h
        rw [u2 11 (by decide)]
        omega
      have m2_4_205 : N1 4 205 = ρ2 12 := by
        have h := q2 (4, 205, [(1, 12)]) (List.mem_of_getElem? (i := 21) rfl)
        have h : N1 4 205 = 1 * uRho [x1.toInt] N1 (cM kc_r580) 12 + 0 := h
        rw [u2 12 (by decide)]
        omega
      have m2_4_206 : N1 4 206 = ρ2 13 := by
        have h := q2 (4, 206, [(1, 13)]) (List.mem_of_getElem? (i := 22) rfl)
        have h : N1 4 206 = 1 * uRho [x1.toInt] N1 (cM kc_r580) 13 + 0 := h
        rw [u2 13 (by decide)]
        omega
      have m2_93_0 : N1 93 0 = ρ2 14 := by
        have h := q2 (93, 0, [(1, 14)]) (List.mem_of_getElem? (i := 23) rfl)
        have h : N1 93 0 = 1 * uRho [x1.toInt] N1 (cM kc_r580) 14 + 0 := h
        rw [u2 14 (by decide)]
        omega
      have m2_93_1 : N1 93 1 = ρ2 15 := by
        have h := q2 (93, 1, [(1, 15)]) (List.mem_of_getElem? (i := 24) rfl)
        have h : N1 93 1 = 1 * uRho [x1.toInt] N1 (cM kc_r580) 15 + 0 := h
        rw [u2 15 (by decide)]
        omega
      have m2_93_2 : N1 93 2 = ρ2 16 := by
        have h := q2 (93, 2, [(1, 16)]) (List.mem_of_getElem? (i := 25) rfl)
        have h : N1 93 2 = 1 * uRho [x1.toInt] N1 (cM kc_r580) 16 + 0 := h
        rw [u2 16 (by decide)]
        omega
      have m2_91_61 : N1 91 61 = ρ2 17 := by
        have h := q2 (91, 61, [(1, 17)]) (List.mem_of_getElem? (i := 26) rfl)
        have h : N1 91 61 = 1 * uRho [x1.toInt] N1 (cM kc_r580) 17 + 0 := h
        rw [u2 17 (by decide)]
        omega
      obtain ⟨t2_0, t2_1, t2_2, t2_3, t2_4, t2_5, t2_6, t2_7, t2_8, t2_9, t2_10, t2_11, t2_12, t2_13, t2_14, t2_15, t2_16, t2_17, t2_18, t2_19, t2_20, t2_21, t2_22, t2_23⟩ := t2
      rw [o2] at z2
      have k2 : ∀ q ∈ uKw ++ [(4, 200, 0)], N2 q.1 q.2.1 = q.2.2 := ukeepX_ok (ks := uKw ++ [(4, 200, 1)]) (c := kc_r580) (by decide +kernel) (fun q hq => by rcases List.mem_append.mp hq with hq | hq; exact k1 q hq; rw [List.mem_singleton] at hq; rw [hq]; exact b200) p2
      have b2_0_1 : N2 0 1 = N1 0 1 := y2 0 1 (by decide +kernel)
      have b2_0_2 : N2 0 2 = N1 0 2 := y2 0 2 (by decide +kernel)
      have b2_0_3 : N2 0 3 = N1 0 3 := y2 0 3 (by decide +kernel)
      have b2_0_5 : N2 0 5 = N1 0 5 := y2 0 5 (by decide +kernel)
      have b2_0_6 : N2 0 6 = N1 0 6 := y2 0 6 (by decide +kernel)
      have b2_4_261 : N2 4 261 = 0 := t2_6
      have b2_28_8 : N2 28 8 = N1 28 8 := y2 28 8 (by decide +kernel)
      have b2_28_9 : N2 28 9 = N1 28 9 := y2 28 9 (by decide +kernel)
      have b2_28_10 : N2 28 10 = N1 28 10 := y2 28 10 (by decide +kernel)
      have b2_58_4 : N2 58 4 = N1 58 4 := y2 58 4 (by decide +kernel)
      have b2_77_6 : N2 77 6 = N1 77 6 := y2 77 6 (by decide +kernel)
      have b2_91_2 : N2 91 2 = ρ2 19 := t2_0
      have b2_91_33 : N2 91 33 = ρ2 20 := t2_1
      have b2_91_34 : N2 91 34 = ρ2 21 := t2_2
      have b2_91_61 : N2 91 61 = ρ2 37 := t2_18
      have b2_93_0 : N2 93 0 = ρ2 34 := t2_15
      have b2_93_1 : N2 93 1 = ρ2 35 := t2_16
      have b2_93_2 : N2 93 2 = ρ2 36 := t2_17
      have s2 : uSt 28 N2 := by
        refine ⟨i2, fun q hq => ?_⟩
        rcases uks_mem q hq with rfl | rfl | rfl | rfl | h
        · exact (show N2 0 5 = 28 by omega)
        · exact (show N2 0 6 = 30 - 28 by omega)
        · exact (show N2 58 4 = 28 by omega)
        · exact k2 _ (List.mem_append.mpr (Or.inr (List.mem_singleton.mpr rfl)))
        · exact k2 q (List.mem_append.mpr (Or.inl h))
      have hv : ρ2 18 = ρ1 17 ∧ N2 0 1 = N2 91 2 ∧ N2 4 261 = N2 0 1 ∧ N2 0 2 = N2 91 33 ∧ N2 0 3 = N2 91 34 ∧ N2 28 8 = N2 93 0 ∧ N2 28 9 = N2 93 1 ∧ N2 28 10 = N2 93 2 ∧ N2 77 6 = N2 91 61 := by
        rcases z2 with z2 | z2 <;> omega
      obtain ⟨hv, hw0, hw1, hw2, hw3, hw4, hw5, hw6, hw7⟩ := hv
      rw [w1] at e1
      rw [w2, hv] at e2
      simp only [List.map_cons, List.map_nil, i32_of] at e1 e2
      exact ⟨Int32.ofInt (ρ1 17), N1, N2, e1, e2, 28, Or.inr rfl, s2, (fun q hq => by
        have hq : q ∈ ([(0, 1, 91, 2), (4, 261, 0, 1), (0, 2, 91, 33), (0, 3, 91, 34), (28, 8, 93, 0), (28, 9, 93, 1), (28, 10, 93, 2), (77, 6, 91, 61)] : List (Nat × Nat × Nat × Nat)) := hq
        simp only [List.mem_cons, List.not_mem_nil, or_false] at hq
        rcases hq with rfl | rfl | rfl | rfl | rfl | rfl | rfl | rfl
        · exact (show N2 0 1 = N2 91 2 by omega)
        · exact (show N2 4 261 = N2 0 1 by omega)
        · exact (show N2 0 2 = N2 91 33 by omega)
        · exact (show N2 0 3 = N2 91 34 by omega)
        · exact (show N2 28 8 = N2 93 0 by omega)
        · exact (show N2 28 9 = N2 93 1 by omega)
        · exact (show N2 28 10 = N2 93 2 by omega)
        · exact (show N2 77 6 = N2 91 61 by omega))⟩
  · have kM_0 : M 0 1 = M 91 2 := hT (0, 1, 91, 2) (List.mem_of_getElem? (i := 0) rfl)
    have kM_1 : M 4 261 = M 0 1 := hT (4, 261, 0, 1) (List.mem_of_getElem? (i := 1) rfl)
    have kM_2 : M 0 2 = M 91 33 := hT (0, 2, 91, 33) (List.mem_of_getElem? (i := 2) rfl)
    have kM_3 : M 0 3 = M 91 34 := hT (0, 3, 91, 34) (List.mem_of_getElem? (i := 3) rfl)
    have kM_4 : M 28 8 = M 93 0 := hT ((28 : Int).toNat, 8, 93, 0) (List.mem_of_getElem? (i := 4) rfl)
    have kM_5 : M 28 9 = M 93 1 := hT ((28 : Int).toNat, 9, 93, 1) (List.mem_of_getElem? (i := 5) rfl)
    have kM_6 : M 28 10 = M 93 2 := hT ((28 : Int).toNat, 10, 93, 2) (List.mem_of_getElem? (i := 6) rfl)
    have kM_7 : M 77 6 = M 91 61 := hT (77, 6, 91, 61) (List.mem_of_getElem? (i := 7) rfl)
    by_cases hn : x1.toInt ≤ -1
    · obtain ⟨rv1, N1, e1, p1, q1⟩ := u_runX ko_282 (ks := uKs 28) (ex := [[(-1, 0), (-1, 1)]]) (o := 0) (bs := [false]) (by decide +kernel) hs.1 hs.2 (as := [x1.toInt]) ⟨⟨uarg_i _, fun h => nomatch h⟩, trivial⟩ (fun hm f hf => by
          obtain ⟨ρ, hρ⟩ : ∃ ρ, ρ = uRho [x1.toInt] M (cM kc_282) := ⟨_, rfl⟩
          have o1 : ρ 0 = 1 := by rw [hρ]; rfl
          have a1 : ρ 1 = x1.toInt := by rw [hρ]; exact urho_a (as := [x1.toInt]) (j := 0) (show (0 : Nat) < 1 from by decide)
          rw [← hρ] at hm ⊢
          have hf : f ∈ ([[(-1, 0), (-1, 1)]] : List qF) := hf
          simp only [List.mem_cons, List.not_mem_nil, or_false] at hf
          rcases hf with rfl
          · show 0 ≤ -1 * ρ 0 + (-1 * ρ 1 + 0)
            omega) J (N := 300) (by decide)
      obtain ⟨ρ1, u1, w1, t1, z1, i1, y1⟩ := up_282 p1
      have o1 : ρ1 0 = 1 := u1 0 (by decide)
      have a1_1 : ρ1 1 = x1.toInt := (u1 1 (by decide)).trans (urho_a (as := [x1.toInt]) (j := 0) (show (0 : Nat) < 1 from by decide))
      have m1_0_1 : M 0 1 = ρ1 2 := by
        have h := q1 (0, 1, [(1, 2)]) (List.mem_of_getElem? (i := 3) rfl)
        have h : M 0 1 = 1 * uRho [x1.toInt] M (cM kc_282) 2 + 0 := h
        rw [u1 2 (by decide)]
        omega
      obtain ⟨t1_0, t1_1, t1_2, t1_3⟩ := t1
      rw [o1] at z1
      have s1 : uSt 28 N1 := ukeep_ok (c := kc_282) (r := 28) (by decide +kernel) hs p1
      have b1_0_1 : N1 0 1 = ρ1 4 := t1_0
      have b1_0_2 : N1 0 2 = M 0 2 := y1 0 2 (by decide +kernel)
      have b1_0_3 : N1 0 3 = M 0 3 := y1 0 3 (by decide +kernel)
      have b1_4_261 : N1 4 261 = M 4 261 := y1 4 261 (by decide +kernel)
      have b1_28_8 : N1 28 8 = M 28 8 := y1 28 8 (by decide +kernel)
      have b1_28_9 : N1 28 9 = M 28 9 := y1 28 9 (by decide +kernel)
      have b1_28_10 : N1 28 10 = M 28 10 := y1 28 10 (by decide +kernel)
      have b1_77_6 : N1 77 6 = M 77 6 := y1 77 6 (by decide +kernel)
      have b1_91_2 : N1 91 2 = M 91 2 := y1 91 2 (by decide +kernel)
      have b1_91_33 : N1 91 33 = M 91 33 := y1 91 33 (by decide +kernel)
      have b1_91_34 : N1 91 34 = M 91 34 := y1 91 34 (by decide +kernel)
      have b1_91_61 : N1 91 61 = M 91 61 := y1 91 61 (by decide +kernel)
      have b1_93_0 : N1 93 0 = M 93 0 := y1 93 0 (by decide +kernel)
      have b1_93_1 : N1 93 1 = M 93 1 := y1 93 1 (by decide +kernel)
      have b1_93_2 : N1 93 2 = M 93 2 := y1 93 2 (by decide +kernel)
      obtain ⟨rv2, N2, e2, p2, q2⟩ := u_runX ko_r2 (ks := uKs 28) (ex := [[(-1, 0), (-1, 1)]]) (o := 91) (bs := [false]) (by decide +kernel) s1.1 s1.2 (as := [x1.toInt]) ⟨⟨uarg_i _, fun h => nomatch h⟩, trivial⟩ (fun hm f hf => by
          obtain ⟨ρ, hρ⟩ : ∃ ρ, ρ = uRho [x1.toInt] N1 (cM kc_r2) := ⟨_, rfl⟩
          have o1 : ρ 0 = 1 := by rw [hρ]; rfl
          have a1 : ρ 1 = x1.toInt := by rw [hρ]; exact urho_a (as := [x1.toInt]) (j := 0) (show (0 : Nat) < 1 from by decide)
          rw [← hρ] at hm ⊢
          have hf : f ∈ ([[(-1, 0), (-1, 1)]] : List qF) := hf
          simp only [List.mem_cons, List.not_mem_nil, or_false] at hf
          rcases hf with rfl
          · show 0 ≤ -1 * ρ 0 + (-1 * ρ 1 + 0)
            omega) J (N := 300) (by decide)
      obtain ⟨ρ2, u2, w2, t2, z2, i2, y2⟩ := up_r2 p2
      have o2 : ρ2 0 = 1 := u2 0 (by decide)
      have a2_1 : ρ2 1 = x1.toInt := (u2 1 (by decide)).trans (urho_a (as := [x1.toInt]) (j := 0) (show (0 : Nat) < 1 from by decide))
      have m2_91_2 : N1 91 2 = ρ2 2 := by
        have h := q2 (91, 2, [(1, 2)]) (List.mem_of_getElem? (i := 0) rfl)
        have h : N1 91 2 = 1 * uRho [x1.toInt] N1 (cM kc_r2) 2 + 0 := h
        rw [u2 2 (by decide)]
        omega
      have t2_0 := t2
      rw [o2] at z2
      have s2 : uSt 28 N2 := ukeep_ok (c := kc_r2) (r := 28) (by decide +kernel) s1 p2
      have b2_0_1 : N2 0 1 = N1 0 1 := y2 0 1 (by decide +kernel)
      have b2_0_2 : N2 0 2 = N1 0 2 := y2 0 2 (by decide +kernel)
      have b2_0_3 : N2 0 3 = N1 0 3 := y2 0 3 (by decide +kernel)
      have b2_4_261 : N2 4 261 = N1 4 261 := y2 4 261 (by decide +kernel)
      have b2_28_8 : N2 28 8 = N1 28 8 := y2 28 8 (by decide +kernel)
      have b2_28_9 : N2 28 9 = N1 28 9 := y2 28 9 (by decide +kernel)
      have b2_28_10 : N2 28 10 = N1 28 10 := y2 28 10 (by decide +kernel)
      have b2_77_6 : N2 77 6 = N1 77 6 := y2 77 6 (by decide +kernel)
      have b2_91_2 : N2 91 2 = ρ2 4 := t2_0
      have b2_91_33 : N2 91 33 = N1 91 33 := y2 91 33 (by decide +kernel)
      have b2_91_34 : N2 91 34 = N1 91 34 := y2 91 34 (by decide +kernel)
      have b2_91_61 : N2 91 61 = N1 91 61 := y2 91 61 (by decide +kernel)
      have b2_93_0 : N2 93 0 = N1 93 0 := y2 93 0 (by decide +kernel)
      have b2_93_1 : N2 93 1 = N1 93 1 := y2 93 1 (by decide +kernel)
      have b2_93_2 : N2 93 2 = N1 93 2 := y2 93 2 (by decide +kernel)
      have hv : ρ2 3 = ρ1 3 := by omega
      rw [w1] at e1
      rw [w2, hv] at e2
      simp only [List.map_cons, List.map_nil, i32_of] at e1 e2
      exact ⟨Int32.ofInt (ρ1 3), N1, N2, e1, e2, 28, Or.inr rfl, s2, (fun q hq => by
        have hq : q ∈ ([(0, 1, 91, 2), (4, 261, 0, 1), (0, 2, 91, 33), (0, 3, 91, 34), (28, 8, 93, 0), (28, 9, 93, 1), (28, 10, 93, 2), (77, 6, 91, 61)] : List (Nat × Nat × Nat × Nat)) := hq
        simp only [List.mem_cons, List.not_mem_nil, or_false] at hq
        rcases hq with rfl | rfl | rfl | rfl | rfl | rfl | rfl | rfl
        · exact (show N2 0 1 = N2 91 2 by omega)
        · exact (show N2 4 261 = N2 0 1 by omega)
        · exact (show N2 0 2 = N2 91 33 by omega)
        · exact (show N2 0 3 = N2 91 34 by omega)
        · exact (show N2 28 8 = N2 93 0 by omega)
        · exact (show N2 28 9 = N2 93 1 by omega)
        · exact (show N2 28 10 = N2 93 2 by omega)
        · exact (show N2 77 6 = N2 91 61 by omega))⟩
    by_cases hg : M 0 1 + 1 ≤ x1.toInt
    · obtain ⟨rv1, N1, e1, p1, q1⟩ := u_runX ko_283 (ks := uKs 28) (ex := [[(-1, 0), (1, 1), (-1, 2)]]) (o := 0) (bs := [false]) (by decide +kernel) hs.1 hs.2 (as := [x1.toInt]) ⟨⟨uarg_i _, fun h => nomatch h⟩, trivial⟩ (fun hm f hf => by
          obtain ⟨ρ, hρ⟩ : ∃ ρ, ρ = uRho [x1.toInt] M (cM kc_283) := ⟨_, rfl⟩
          have o1 : ρ 0 = 1 := by rw [hρ]; rfl
          have a1 : ρ 1 = x1.toInt := by rw [hρ]; exact urho_a (as := [x1.toInt]) (j := 0) (show (0 : Nat) < 1 from by decide)
          rw [← hρ] at hm ⊢
          have m3 : M 0 1 = 1 * ρ 2 + 0 := hm (0, 1, [(1, 2)]) (List.mem_of_getElem? (i := 3) rfl)
          have hf : f ∈ ([[(-1, 0), (1, 1), (-1, 2)]] : List qF) := hf
          simp only [List.mem_cons, List.not_mem_nil, or_false] at hf
          rcases hf with rfl
          · show 0 ≤ -1 * ρ 0 + (1 * ρ 1 + (-1 * ρ 2 + 0))
            omega) J (N := 300) (by decide)
      obtain ⟨ρ1, u1, w1, t1, z1, i1, y1⟩ := up_283 p1
      have o1 : ρ1 0 = 1 := u1 0 (by decide)
      have a1_1 : ρ1 1 = x1.toInt := (u1 1 (by decide)).trans (urho_a (as := [x1.toInt]) (j := 0) (show (0 : Nat) < 1 from by decide))
      have m1_0_1 : M 0 1 = ρ1 2 := by
        have h := q1 (0, 1, [(1, 2)]) (List.mem_of_getElem? (i := 3) rfl)
        have h : M 0 1 = 1 * uRho [x1.toInt] M (cM kc_283) 2 + 0 := h
        rw [u1 2 (by decide)]
        omega
      obtain ⟨t1_0, t1_1, t1_2, t1_3⟩ := t1
      rw [o1] at z1
      have s1 : uSt 28 N1 := ukeep_ok (c := kc_283) (r := 28) (by decide +kernel) hs p1
      have b1_0_1 : N1 0 1 = ρ1 4 := t1_0
      have b1_0_2 : N1 0 2 = M 0 2 := y1 0 2 (by decide +kernel)
      have b1_0_3 : N1 0 3 = M 0 3 := y1 0 3 (by decide +kernel)
      have b1_4_261 : N1 4 261 = M 4 261 := y1 4 261 (by decide +kernel)
      have b1_28_8 : N1 28 8 = M 28 8 := y1 28 8 (by decide +kernel)
      have b1_28_9 : N1 28 9 = M 28 9 := y1 28 9 (by decide +kernel)
      have b1_28_10 : N1 28 10 = M 28 10 := y1 28 10 (by decide +kernel)
      have b1_77_6 : N1 77 6 = M 77 6 := y1 77 6 (by decide +kernel)
      have b1_91_2 : N1 91 2 = M 91 2 := y1 91 2 (by decide +kernel)
      have b1_91_33 : N1 91 33 = M 91 33 := y1 91 33 (by decide +kernel)
      have b1_91_34 : N1 91 34 = M 91 34 := y1 91 34 (by decide +kernel)
      have b1_91_61 : N1 91 61 = M 91 61 := y1 91 61 (by decide +kernel)
      have b1_93_0 : N1 93 0 = M 93 0 := y1 93 0 (by decide +kernel)
      have b1_93_1 : N1 93 1 = M 93 1 := y1 93 1 (by decide +kernel)
      have b1_93_2 : N1 93 2 = M 93 2 := y1 93 2 (by decide +kernel)
      obtain ⟨rv2, N2, e2, p2, q2⟩ := u_runX ko_r3 (ks := uKs 28) (ex := [[(-1, 0), (1, 1), (-1, 2)]]) (o := 91) (bs := [false]) (by decide +kernel) s1.1 s1.2 (as := [x1.toInt]) ⟨⟨uarg_i _, fun h => nomatch h⟩, trivial⟩ (fun hm f hf => by
          obtain ⟨ρ, hρ⟩ : ∃ ρ, ρ = uRho [x1.toInt] N1 (cM kc_r3) := ⟨_, rfl⟩
          have o1 : ρ 0 = 1 := by rw [hρ]; rfl
          have a1 : ρ 1 = x1.toInt := by rw [hρ]; exact urho_a (as := [x1.toInt]) (j := 0) (show (0 : Nat) < 1 from by decide)
          rw [← hρ] at hm ⊢
          have m1 : N1 91 2 = 1 * ρ 2 + 0 := hm (91, 2, [(1, 2)]) (List.mem_of_getElem? (i := 1) rfl)
          have hf : f ∈ ([[(-1, 0), (1, 1), (-1, 2)]] : List qF) := hf
          simp only [List.mem_cons, List.not_mem_nil, or_false] at hf
          rcases hf with rfl
          · show 0 ≤ -1 * ρ 0 + (1 * ρ 1 + (-1 * ρ 2 + 0))
            omega) J (N := 300) (by decide)
      obtain ⟨ρ2, u2, w2, t2, z2, i2, y2⟩ := up_r3 p2
      have o2 : ρ2 0 = 1 := u2 0 (by decide)
      have a2_1 : ρ2 1 = x1.toInt := (u2 1 (by decide)).trans (urho_a (as := [x1.toInt]) (j := 0) (show (0 : Nat) < 1 from by decide))
      have m2_91_2 : N1 91 2 = ρ2 2 := by
        have h := q2 (91, 2, [(1, 2)]) (List.mem_of_getElem? (i := 1) rfl)
        have h : N1 91 2 = 1 * uRho [x1.toInt] N1 (cM kc_r3) 2 + 0 := h
        rw [u2 2 (by decide)]
        omega
      have t2_0 := t2
      rw [o2] at z2
      have s2 : uSt 28 N2 := ukeep_ok (c := kc_r3) (r := 28) (by decide +kernel) s1 p2
      have b2_0_1 : N2 0 1 = N1 0 1 := y2 0 1 (by decide +kernel)
      have b2_0_2 : N2 0 2 = N1 0 2 := y2 0 2 (by decide +kernel)
      have b2_0_3 : N2 0 3 = N1 0 3 := y2 0 3 (by decide +kernel)
      have b2_4_261 : N2 4 261 = N1 4 261 := y2 4 261 (by decide +kernel)
      have b2_28_8 : N2 28 8 = N1 28 8 := y2 28 8 (by decide +kernel)
      have b2_28_9 : N2 28 9 = N1 28 9 := y2 28 9 (by decide +kernel)
      have b2_28_10 : N2 28 10 = N1 28 10 := y2 28 10 (by decide +kernel)
      have b2_77_6 : N2 77 6 = N1 77 6 := y2 77 6 (by decide +kernel)
      have b2_91_2 : N2 91 2 = ρ2 4 := t2_0
      have b2_91_33 : N2 91 33 = N1 91 33 := y2 91 33 (by decide +kernel)
      have b2_91_34 : N2 91 34 = N1 91 34 := y2 91 34 (by decide +kernel)
      have b2_91_61 : N2 91 61 = N1 91 61 := y2 91 61 (by decide +kernel)
      have b2_93_0 : N2 93 0 = N1 93 0 := y2 93 0 (by decide +kernel)
      have b2_93_1 : N2 93 1 = N1 93 1 := y2 93 1 (by decide +kernel)
      have b2_93_2 : N2 93 2 = N1 93 2 := y2 93 2 (by decide +kernel)
      have hv : ρ2 3 = ρ1 3 := by omega
      rw [w1] at e1
      rw [w2, hv] at e2
      simp only [List.map_cons, List.map_nil, i32_of] at e1 e2
      exact ⟨Int32.ofInt (ρ1 3), N1, N2, e1, e2, 28, Or.inr rfl, s2, (fun q hq => by
        have hq : q ∈ ([(0, 1, 91, 2), (4, 261, 0, 1), (0, 2, 91, 33), (0, 3, 91, 34), (28, 8, 93, 0), (28, 9, 93, 1), (28, 10, 93, 2), (77, 6, 91, 61)] : List (Nat × Nat × Nat × Nat)) := hq
        simp only [List.mem_cons, List.not_mem_nil, or_false] at hq
        rcases hq with rfl | rfl | rfl | rfl | rfl | rfl | rfl | rfl
        · exact (show N2 0 1 = N2 91 2 by omega)
        · exact (show N2 4 261 = N2 0 1 by omega)
        · exact (show N2 0 2 = N2 91 33 by omega)
        · exact (show N2 0 3 = N2 91 34 by omega)
        · exact (show N2 28 8 = N2 93 0 by omega)
        · exact (show N2 28 9 = N2 93 1 by omega)
        · exact (show N2 28 10 = N2 93 2 by omega)
        · exact (show N2 77 6 = N2 91 61 by omega))⟩
    obtain ⟨rv1, N1, e1, p1, q1⟩ := u_runX ko_329 (ks := uKs 28) (ex := [[(1, 1)], [(-1, 1), (1, 2)], [(-1, 2), (1, 3)]]) (o := 0) (bs := [false]) (by decide +kernel) hs.1 hs.2 (as := [x1.toInt]) ⟨⟨uarg_i _, fun h => nomatch h⟩, trivial⟩ (fun hm f hf => by
        obtain ⟨ρ, hρ⟩ : ∃ ρ, ρ = uRho [x1.toInt] M (cM kc_329) := ⟨_, rfl⟩
        have o1 : ρ 0 = 1 := by rw [hρ]; rfl
        have a1 : ρ 1 = x1.toInt := by rw [hρ]; exact urho_a (as := [x1.toInt]) (j := 0) (show (0 : Nat) < 1 from by decide)
        rw [← hρ] at hm ⊢
        have m3 : M 0 1 = 1 * ρ 2 + 0 := hm (0, 1, [(1, 2)]) (List.mem_of_getElem? (i := 3) rfl)
        have m15 : M 4 261 = 1 * ρ 3 + 0 := hm (4, 261, [(1, 3)]) (List.mem_of_getElem? (i := 15) rfl)
        have hf : f ∈ ([[(1, 1)], [(-1, 1), (1, 2)], [(-1, 2), (1, 3)]] : List qF) := hf
        simp only [List.mem_cons, List.not_mem_nil, or_false] at hf
        rcases hf with rfl | rfl | rfl
        · show 0 ≤ 1 * ρ 1 + 0
          omega
        · show 0 ≤ -1 * ρ 1 + (1 * ρ 2 + 0)
          omega
        · show 0 ≤ -1 * ρ 2 + (1 * ρ 3 + 0)
          omega) J (N := 300) (by decide)
    obtain ⟨ρ1, u1, w1, t1, z1, i1, y1⟩ := up_329 p1
    have o1 : ρ1 0 = 1 := u1 0 (by decide)
    have a1_1 : ρ1 1 = x1.toInt := (u1 1 (by decide)).trans (urho_a (as := [x1.toInt]) (j := 0) (show (0 : Nat) < 1 from by decide))
    have m1_0_1 : M 0 1 = ρ1 2 := by
      have h := q1 (0, 1, [(1, 2)]) (List.mem_of_getElem? (i := 3) rfl)
      have h : M 0 1 = 1 * uRho [x1.toInt] M (cM kc_329) 2 + 0 := h
      rw [u1 2 (by decide)]
      omega
    have m1_4_261 : M 4 261 = ρ1 3 := by
      have h := q1 (4, 261, [(1, 3)]) (List.mem_of_getElem? (i := 15) rfl)
      have h : M 4 261 = 1 * uRho [x1.toInt] M (cM kc_329) 3 + 0 := h
      rw [u1 3 (by decide)]
      omega
    have m1_56_5 : M 56 5 = ρ1 4 := by
      have h := q1 (56, 5, [(1, 4)]) (List.mem_of_getElem? (i := 16) rfl)
      have h : M 56 5 = 1 * uRho [x1.toInt] M (cM kc_329) 4 + 0 := h
      rw [u1 4 (by decide)]
      omega
    have m1_91_30 : M 91 30 = ρ1 5 := by
      have h := q1 (91, 30, [(1, 5)]) (List.mem_of_getElem? (i := 17) rfl)
      have h : M 91 30 = 1 * uRho [x1.toInt] M (cM kc_329) 5 + 0 := h
      rw [u1 5 (by decide)]
      omega
    have m1_54_2 : M 54 2 = ρ1 6 := by
      have h := q1 (54, 2, [(1, 6)]) (List.mem_of_getElem? (i := 18) rfl)
      have h : M 54 2 = 1 * uRho [x1.toInt] M (cM kc_329) 6 + 0 := h
      rw [u1 6 (by decide)]
      omega
    have m1_54_3 : M 54 3 = ρ1 7 := by
      have h := q1 (54, 3, [(1, 7)]) (List.mem_of_getElem? (i := 19) rfl)
      have h : M 54 3 = 1 * uRho [x1.toInt] M (cM kc_329) 7 + 0 := h
      rw [u1 7 (by decide)]
      omega
    have m1_54_998 : M 54 998 = ρ1 8 := by
      have h := q1 (54, 998, [(1, 8)]) (List.mem_of_getElem? (i := 20) rfl)
      have h : M 54 998 = 1 * uRho [x1.toInt] M (cM kc_329) 8 + 0 := h
      rw [u1 8 (by decide)]
      omega
    have m1_54_997 : M 54 997 = ρ1 9 := by
      have h := q1 (54, 997, [(1, 9)]) (List.mem_of_getElem? (i := 21) rfl)
      have h : M 54 997 = 1 * uRho [x1.toInt] M (cM kc_329) 9 + 0 := h
      rw [u1 9 (by decide)]
      omega
    have m1_4_276 : M 4 276 = ρ1 10 := by
      have h := q1 (4, 276, [(1, 10)]) (List.mem_of_getElem? (i := 22) rfl)
      have h : M 4 276 = 1 * uRho [x1.toInt] M (cM kc_329) 10 + 0 := h
      rw [u1 10 (by decide)]
      omega
    have m1_4_270 : M 4 270 = ρ1 11 := by
      have h := q1 (4, 270, [(1, 11)]) (List.mem_of_getElem? (i := 23) rfl)
      have h : M 4 270 = 1 * uRho [x1.toInt] M (cM kc_329) 11 + 0 := h
      rw [u1 11 (by decide)]
      omega
    have m1_4_271 : M 4 271 = ρ1 12 := by
      have h := q1 (4, 271, [(1, 12)]) (List.mem_of_getElem? (i := 24) rfl)
      have h : M 4 271 = 1 * uRho [x1.toInt] M (cM kc_329) 12 + 0 := h
      rw [u1 12 (by decide)]
      omega
    have m1_4_272 : M 4 272 = ρ1 13 := by
      have h := q1 (4, 272, [(1, 13)]) (List.mem_of_getElem? (i := 25) rfl)
      have h : M 4 272 = 1 * uRho [x1.toInt] M (cM kc_329) 13 + 0 := h
      rw [u1 13 (by decide)]
      omega
    have m1_4_273 : M 4 273 = ρ1 14 := by
      have h := q1 (4, 273, [(1, 14)]) (List.mem_of_getElem? (i := 26) rfl)
      have h : M 4 273 = 1 * uRho [x1.toInt] M (cM kc_329) 14 + 0 := h
      rw [u1 14 (by decide)]
      omega
    have m1_4_274 : M 4 274 = ρ1 15 := by
      have h := q1 (4, 274, [(1, 15)]) (List.mem_of_getElem? (i := 27) rfl)
      have h : M 4 274 = 1 * uRho [x1.toInt] M (cM kc_329) 15 + 0 := h
      rw [u1 15 (by decide)]
      omega
    have m1_77_6 : M 77 6 = ρ1 16 := by
      have h := q1 (77, 6, [(1, 16)]) (List.mem_of_getElem? (i := 28) rfl)
      have h : M 77 6 = 1 * uRho [x1.toInt] M (cM kc_329) 16 + 0 := h
      rw [u1 16 (by decide)]
      omega
    obtain ⟨t1_0, t1_1, t1_2, t1_3, t1_4, t1_5, t1_6, t1_7, t1_8, t1_9, t1_10, t1_11, t1_12, t1_13, t1_14, t1_15, t1_16, t1_17, t1_18, t1_19, t1_20, t1_21, t1_22, t1_23, t1_24, t1_25, t1_26, t1_27, t1_28, t1_29, t1_30⟩ := t1
    rw [o1] at z1
    have k1 : ∀ q ∈ uKw, N1 q.1 q.2.1 = q.2.2 := ukeepX_ok (ks := uKs 28) (c := kc_329) (by decide +kernel) hs.2 p1
    have b1_0_1 : N1 0 1 = ρ1 18 := t1_0
    have b1_0_2 : N1 0 2 = ρ1 19 := t1_1
    have b1_0_3 : N1 0 3 = ρ1 20 := t1_2
    have b1_0_5 : N1 0 5 = ρ1 46 := t1_28
    have b1_0_6 : N1 0 6 = ρ1 47 := t1_29
    have b1_2_8 : N1 2 8 = ρ1 43 := t1_25
    have b1_2_9 : N1 2 9 = ρ1 44 := t1_26
    have b1_2_10 : N1 2 10 = ρ1 45 := t1_27
    have b1_4_101 : N1 4 101 = ρ1 22 := t1_4
    have b1_4_200 : N1 4 200 = ρ1 27 := t1_9
    have b1_4_201 : N1 4 201 = ρ1 28 := t1_10
    have b1_4_202 : N1 4 202 = ρ1 29 := t1_11
    have b1_4_203 : N1 4 203 = ρ1 30 := t1_12
    have b1_4_204 : N1 4 204 = ρ1 31 := t1_13
    have b1_4_205 : N1 4 205 = ρ1 32 := t1_14
    have b1_4_206 : N1 4 206 = ρ1 33 := t1_15
    have b1_4_208 : N1 4 208 = ρ1 24 := t1_6
    have b1_4_261 : N1 4 261 = M 4 261 := y1 4 261 (by decide +kernel)
    have b1_28_8 : N1 28 8 = M 28 8 := y1 28 8 (by decide +kernel)
    have b1_28_9 : N1 28 9 = M 28 9 := y1 28 9 (by decide +kernel)
    have b1_28_10 : N1 28 10 = M 28 10 := y1 28 10 (by decide +kernel)
    have b1_58_4 : N1 58 4 = ρ1 48 := t1_30
    have b1_77_6 : N1 77 6 = ρ1 42 := t1_24
    have b1_91_2 : N1 91 2 = M 91 2 := y1 91 2 (by decide +kernel)
    have b1_91_30 : N1 91 30 = ρ1 26 := t1_8
    have b1_91_33 : N1 91 33 = M 91 33 := y1 91 33 (by decide +kernel)
    have b1_91_34 : N1 91 34 = M 91 34 := y1 91 34 (by decide +kernel)
    have b1_91_61 : N1 91 61 = M 91 61 := y1 91 61 (by decide +kernel)
    have b1_93_0 : N1 93 0 = M 93 0 := y1 93 0 (by decide +kernel)
    have b1_93_1 : N1 93 1 = M 93 1 := y1 93 1 (by decide +kernel)
    have b1_93_2 : N1 93 2 = M 93 2 := y1 93 2 (by decide +kernel)
    have b200 : N1 4 200 = 1 := by rcases z1 with z1 | z1 <;> omega
    rcases z1 with z1 | z1
    · obtain ⟨rv2, N2, e2, p2, q2⟩ := u_runX ko_r580 (ks := uKw ++ [(4, 200, 1)]) (ex := [[(1, 1)], [(-1, 1), (1, 2)], [(-1, 1), (1, 6)], [(-1, 1), (1, 3)], [(1, 1), (-1, 3)], [(1, 5), (-1, 7)], [(-1, 5), (1, 7)]]) (o := 91) (bs := [false]) (by decide +kernel) i1 (fun q hq => by rcases List.mem_append.mp hq with hq | hq; exact k1 q hq; rw [List.mem_singleton] at hq; rw [hq]; exact b200) (as := [x1.toInt]) ⟨⟨uarg_i _, fun h => nomatch h⟩, trivial⟩ (fun hm f hf => by
          obtain ⟨ρ, hρ⟩ : ∃ ρ, ρ = uRho [x1.toInt] N1 (cM kc_r580) := ⟨_, rfl⟩
          have o1 : ρ 0 = 1 := by rw [hρ]; rfl
          have a1 : ρ 1 = x1.toInt := by rw [hρ]; exact urho_a (as := [x1.toInt]) (j := 0) (show (0 : Nat) < 1 from by decide)
          rw [← hρ] at hm ⊢
          have m0 : N1 91 2 = 1 * ρ 2 + 0 := hm (91, 2, [(1, 2)]) (List.mem_of_getElem? (i := 0) rfl)
          have m12 : N1 4 101 = 1 * ρ 3 + 0 := hm (4, 101, [(1, 3)]) (List.mem_of_getElem? (i := 12) rfl)
          have m14 : N1 4 208 = 1 * ρ 5 + 0 := hm (4, 208, [(1, 5)]) (List.mem_of_getElem? (i := 14) rfl)
          have m15 : N1 4 261 = 1 * ρ 6 + 0 := hm (4, 261, [(1, 6)]) (List.mem_of_getElem? (i := 15) rfl)
          have m16 : N1 91 30 = 1 * ρ 7 + 0 := hm (91, 30, [(1, 7)]) (List.mem_of_getElem? (i := 16) rfl)
          have hf : f ∈ ([[(1, 1)], [(-1, 1), (1, 2)], [(-1, 1), (1, 6)], [(-1, 1), (1, 3)], [(1, 1), (-1, 3)], [(1, 5), (-1, 7)], [(-1, 5), (1, 7)]] : List qF) := hf
          simp only [List.mem_cons, List.not_mem_nil, or_false] at hf
          rcases hf with rfl | rfl | rfl | rfl | rfl | rfl | rfl
          · show 0 ≤ 1 * ρ 1 + 0
            omega
          · show 0 ≤ -1 * ρ 1 + (1 * ρ 2 + 0)
            omega
          · show 0 ≤ -1 * ρ 1 + (1 * ρ 6 + 0)
            omega
          · show 0 ≤ -1 * ρ 1 + (1 * ρ 3 + 0)
            omega
          · show 0 ≤ 1 * ρ 1 + (-1 * ρ 3 + 0)
            omega
          · show 0 ≤ 1 * ρ 5 + (-1 * ρ 7 + 0)
            omega
          · show 0 ≤ -1 * ρ 5 + (1 * ρ 7 + 0)
            omega) J (N := 300) (by decide)
      obtain ⟨ρ2, u2, w2, t2, z2, i2, y2⟩ := up_r580 p2
      have o2 : ρ2 0 = 1 := u2 0 (by decide)
      have a2_1 : ρ2 1 = x1.toInt := (u2 1 (by decide)).trans (urho_a (as := [x1.toInt]) (j := 0) (show (0 : Nat) < 1 from by decide))
      have m2_91_2 : N1 91 2 = ρ2 2 := by
        have h := q2 (91, 2, [(1, 2)]) (List.mem_of_getElem? (i := 0) rfl)
        have h : N1 91 2 = 1 * uRho [x1.toInt] N1 (cM kc_r580) 2 + 0 := h
        rw [u2 2 (by decide)]
        omega
      have m2_4_101 : N1 4 101 = ρ2 3 := by
        have h := q2 (4, 101, [(1, 3)]) (List.mem_of_getElem? (i := 12) rfl)
        have h : N1 4 101 = 1 * uRho [x1.toInt] N1 (cM kc_r580) 3 + 0 := h
        rw [u2 3 (by decide)]
        omega
      have m2_4_207 : N1 4 207 = ρ2 4 := by
        have h := q2 (4, 207, [(1, 4)]) (List.mem_of_getElem? (i := 13) rfl)
        have h : N1 4 207 = 1 * uRho [x1.toInt] N1 (cM kc_r580) 4 + 0 := h
        rw [u2 4 (by decide)]
        omega
      have m2_4_208 : N1 4 208 = ρ2 5 := by
        have h := q2 (4, 208, [(1, 5)]) (List.mem_of_getElem? (i := 14) rfl)
        have h : N1 4 208 = 1 * uRho [x1.toInt] N1 (cM kc_r580) 5 + 0 := h
        rw [u2 5 (by decide)]
        omega
      have m2_4_261 : N1 4 261 = ρ2 6 := by
        have h := q2 (4, 261, [(1, 6)]) (List.mem_of_getElem? (i := 15) rfl)
        have h : N1 4 261 = 1 * uRho [x1.toInt] N1 (cM kc_r580) 6 + 0 := h
        rw [u2 6 (by decide)]
        omega
      have m2_91_30 : N1 91 30 = ρ2 7 := by
        have h := q2 (91, 30, [(1, 7)]) (List.mem_of_getElem? (i := 16) rfl)
        have h : N1 91 30 = 1 * uRho [x1.toInt] N1 (cM kc_r580) 7 + 0 := h
        rw [u2 7 (by decide)]
        omega
      have m2_4_201 : N1 4 201 = ρ2 8 := by
        have h := q2 (4, 201, [(1, 8)]) (List.mem_of_getElem? (i := 17) rfl)
        have h : N1 4 201 = 1 * uRho [x1.toInt] N1 (cM kc_r580) 8 + 0 := h
        rw [u2 8 (by decide)]
        omega
      have m2_4_202 : N1 4 202 = ρ2 9 := by
        have h := q2 (4, 202, [(1, 9)]) (List.mem_of_getElem? (i := 18) rfl)
        have h : N1 4 202 = 1 * uRho [x1.toInt] N1 (cM kc_r580) 9 + 0 := h
        rw [u2 9 (by decide)]
        omega
      have m2_4_203 : N1 4 203 = ρ2 10 := by
        have h := q2 (4, 203, [(1, 10)]) (List.mem_of_getElem? (i := 19) rfl)
        have h : N1 4 203 = 1 * uRho [x1.toInt] N1 (cM kc_r580) 10 + 0 := h
        rw [u2 10 (by decide)]
        omega
      have m2_4_204 : N1 4 204 = ρ2 11 := by
        have h := q2 (4, 204, [(1, 11)]) (List.mem_of_getElem? (i := 20) rfl)
        have h : N1 4 204 = 1 * uRho [x1.toInt] N1 (cM kc_r580) 11 + 0 := h
        rw [u2 11 (by decide)]
        omega
      have m2_4_205 : N1 4 205 = ρ2 12 := by
        have h := q2 (4, 205, [(1, 12)]) (List.mem_of_getElem? (i := 21) rfl)
        have h : N1 4 205 = 1 * uRho [x1.toInt] N1 (cM kc_r580) 12 + 0 := h
        rw [u2 12 (by decide)]
        omega
      have m2_4_206 : N1 4 206 = ρ2 13 := by
        have h := q2 (4, 206, [(1, 13)]) (List.mem_of_getElem? (i := 22) rfl)
        have h : N1 4 206 = 1 * uRho [x1.toInt] N1 (cM kc_r580) 13 + 0 := h
        rw [u2 13 (by decide)]
        omega
      have m2_93_0 : N1 93 0 = ρ2 14 := by
        have h := q2 (93, 0, [(1, 14)]) (List.mem_of_getElem? (i := 23) rfl)
        have h : N1 93 0 = 1 * uRho [x1.toInt] N1 (cM kc_r580) 14 + 0 := h
        rw [u2 14 (by decide)]
        omega
      have m2_93_1 : N1 93 1 = ρ2 15 := by
        have h := q2 (93, 1, [(1, 15)]) (List.mem_of_getElem? (i := 24) rfl)
        have h : N1 93 1 = 1 * uRho [x1.toInt] N1 (cM kc_r580) 15 + 0 := h
        rw [u2 15 (by decide)]
        omega
      have m2_93_2 : N1 93 2 = ρ2 16 := by
        have h := q2 (93, 2, [(1, 16)]) (List.mem_of_getElem? (i := 25) rfl)
        have h : N1 93 2 = 1 * uRho [x1.toInt] N1 (cM kc_r580) 16 + 0 := h
        rw [u2 16 (by decide)]
        omega
      have m2_91_61 : N1 91 61 = ρ2 17 := by
        have h := q2 (91, 61, [(1, 17)]) (List.mem_of_getElem? (i := 26) rfl)
        have h : N1 91 61 = 1 * uRho [x1.toInt] N1 (cM kc_r580) 17 + 0 := h
        rw [u2 17 (by decide)]
        omega
      obtain ⟨t2_0, t2_1, t2_2, t2_3, t2_4, t2_5, t2_6, t2_7, t2_8, t2_9, t2_10, t2_11, t2_12, t2_13, t2_14, t2_15, t2_16, t2_17, t2_18, t2_19, t2_20, t2_21, t2_22, t2_23⟩ := t2
      rw [o2] at z2
      have k2 : ∀ q ∈ uKw ++ [(4, 200, 0)], N2 q.1 q.2.1 = q.2.2 := ukeepX_ok (ks := uKw ++ [(4, 200, 1)]) (c := kc_r580) (by decide +kernel) (fun q hq => by rcases List.mem_append.mp hq with hq | hq; exact k1 q hq; rw [List.mem_singleton] at hq; rw [hq]; exact b200) p2
      have b2_0_1 : N2 0 1 = N1 0 1 := y2 0 1 (by decide +kernel)
      have b2_0_2 : N2 0 2 = N1 0 2 := y2 0 2 (by decide +kernel)
      have b2_0_3 : N2 0 3 = N1 0 3 := y2 0 3 (by decide +kernel)
      have b2_0_5 : N2 0 5 = N1 0 5 := y2 0 5 (by decide +kernel)
      have b2_0_6 : N2 0 6 = N1 0 6 := y2 0 6 (by decide +kernel)
      have b2_4_261 : N2 4 261 = 0 := t2_6
      have b2_28_8 : N2 28 8 = N1 28 8 := y2 28 8 (by decide +kernel)
      have b2_28_9 : N2 28 9 = N1 28 9 := y2 28 9 (by decide +kernel)
      have b2_28_10 : N2 28 10 = N1 28 10 := y2 28 10 (by decide +kernel)
      have b2_58_4 : N2 58 4 = N1 58 4 := y2 58 4 (by decide +kernel)
      have b2_77_6 : N2 77 6 = N1 77 6 := y2 77 6 (by decide +kernel)
      have b2_91_2 : N2 91 2 = ρ2 19 := t2_0
      have b2_91_33 : N2 91 33 = ρ2 20 := t2_1
      have b2_91_34 : N2 91 34 = ρ2 21 := t2_2
      have b2_91_61 : N2 91 61 = ρ2 37 := t2_18
      have b2_93_0 : N2 93 0 = ρ2 34 := t2_15
      have b2_93_1 : N2 93 1 = ρ2 35 := t2_16
      have b2_93_2 : N2 93 2 = ρ2 36 := t2_17
      have s2 : uSt 28 N2 := by
        refine ⟨i2, fun q hq => ?_⟩
        rcases uks_mem q hq with rfl | rfl | rfl | rfl | h
        · exact (show N2 0 5 = 28 by omega)
        · exact (show N2 0 6 = 30 - 28 by omega)
        · exact (show N2 58 4 = 28 by omega)
        · exact k2 _ (List.mem_append.mpr (Or.inr (List.mem_singleton.mpr rfl)))
        · exact k2 q (List.mem_append.mpr (Or.inl h))
      have hv : ρ2 18 = ρ1 17 ∧ N2 0 1 = N2 91 2 ∧ N2 4 261 = N2 0 1 ∧ N2 0 2 = N2 91 33 ∧ N2 0 3 = N2 91 34 ∧ N2 28 8 = N2 93 0 ∧ N2 28 9 = N2 93 1 ∧ N2 28 10 = N2 93 2 ∧ N2 77 6 = N2 91 61 := by
        rcases z2 with z2 | z2 <;> omega
      obtain ⟨hv, hw0, hw1, hw2, hw3, hw4, hw5, hw6, hw7⟩ := hv
      rw [w1] at e1
      rw [w2, hv] at e2
      simp only [List.map_cons, List.map_nil, i32_of] at e1 e2
      exact ⟨Int32.ofInt (ρ1 17), N1, N2, e1, e2, 28, Or.inr rfl, s2, (fun q hq => by
        have hq : q ∈ ([(0, 1, 91, 2), (4, 261, 0, 1), (0, 2, 91, 33), (0, 3, 91, 34), (28, 8, 93, 0), (28, 9, 93, 1), (28, 10, 93, 2), (77, 6, 91, 61)] : List (Nat × Nat × Nat × Nat)) := hq
        simp only [List.mem_cons, List.not_mem_nil, or_false] at hq
        rcases hq with rfl | rfl | rfl | rfl | rfl | rfl | rfl | rfl
        · exact (show N2 0 1 = N2 91 2 by omega)
        · exact (show N2 4 261 = N2 0 1 by omega)
        · exact (show N2 0 2 = N2 91 33 by omega)
        · exact (show N2 0 3 = N2 91 34 by omega)
        · exact (show N2 28 8 = N2 93 0 by omega)
        · exact (show N2 28 9 = N2 93 1 by omega)
        · exact (show N2 28 10 = N2 93 2 by omega)
        · exact (show N2 77 6 = N2 91 61 by omega))⟩
    · obtain ⟨rv2, N2, e2, p2, q2⟩ := u_runX ko_r580 (ks := uKw ++ [(4, 200, 1)]) (ex := [[(1, 1)], [(-1, 1), (1, 2)], [(-1, 1), (1, 6)], [(-1, 1), (1, 3)], [(1, 1), (-1, 3)], [(1, 5), (-1, 7)], [(-1, 5), (1, 7)]]) (o := 91) (bs := [false]) (by decide +kernel) i1 (fun q hq => by rcases List.mem_append.mp hq with hq | hq; exact k1 q hq; rw [List.mem_singleton] at hq; rw [hq]; exact b200) (as := [x1.toInt]) ⟨⟨uarg_i _, fun h => nomatch h⟩, trivial⟩ (fun hm f hf => by
          obtain ⟨ρ, hρ⟩ : ∃ ρ, ρ = uRho [x1.toInt] N1 (cM kc_r580) := ⟨_, rfl⟩
          have o1 : ρ 0 = 1 := by rw [hρ]; rfl
          have a1 : ρ 1 = x1.toInt := by rw [hρ]; exact urho_a (as := [x1.toInt]) (j := 0) (show (0 : Nat) < 1 from by decide)
          rw [← hρ] at hm ⊢
          have m0 : N1 91 2 = 1 * ρ 2 + 0 := hm (91, 2, [(1, 2)]) (List.mem_of_getElem? (i := 0) rfl)
          have m12 : N1 4 101 = 1 * ρ 3 + 0 := hm (4, 101, [(1, 3)]) (List.mem_of_getElem? (i := 12) rfl)
          have m14 : N1 4 208 = 1 * ρ 5 + 0 := hm (4, 208, [(1, 5)]) (List.mem_of_getElem? (i := 14) rfl)
          have m15 : N1 4 261 = 1 * ρ 6 + 0 := hm (4, 261, [(1, 6)]) (List.mem_of_getElem? (i := 15) rfl)
          have m16 : N1 91 30 = 1 * ρ 7 + 0 := hm (91, 30, [(1, 7)]) (List.mem_of_getElem? (i := 16) rfl)
          have hf : f ∈ ([[(1, 1)], [(-1, 1), (1, 2)], [(-1, 1), (1, 6)], [(-1, 1), (1, 3)], [(1, 1), (-1, 3)], [(1, 5), (-1, 7)], [(-1, 5), (1, 7)]] : List qF) := hf
          simp only [List.mem_cons, List.not_mem_nil, or_false] at hf
          rcases hf with rfl | rfl | rfl | rfl | rfl | rfl | rfl
          · show 0 ≤ 1 * ρ 1 + 0
            omega
          · show 0 ≤ -1 * ρ 1 + (1 * ρ 2 + 0)
            omega
          · show 0 ≤ -1 * ρ 1 + (1 * ρ 6 + 0)
            omega
          · show 0 ≤ -1 * ρ 1 + (1 * ρ 3 + 0)
            omega
          · show 0 ≤ 1 * ρ 1 + (-1 * ρ 3 + 0)
            omega
          · show 0 ≤ 1 * ρ 5 + (-1 * ρ 7 + 0)
            omega
          · show 0 ≤ -1 * ρ 5 + (1 * ρ 7 + 0)
            omega) J (N := 300) (by decide)
      obtain ⟨ρ2, u2, w2, t2, z2, i2, y2⟩ := up_r580 p2
      have o2 : ρ2 0 = 1 := u2 0 (by decide)
      have a2_1 : ρ2 1 = x1.toInt := (u2 1 (by decide)).trans (urho_a (as := [x1.toInt]) (j := 0) (show (0 : Nat) < 1 from by decide))
      have m2_91_2 : N1 91 2 = ρ2 2 := by
        have h := q2 (91, 2, [(1, 2)]) (List.mem_of_getElem? (i := 0) rfl)
        have h : N1 91 2 = 1 * uRho [x1.toInt] N1 (cM kc_r580) 2 + 0 := h
        rw [u2 2 (by decide)]
        omega
      have m2_4_101 : N1 4 101 = ρ2 3 := by
        have h := q2 (4, 101, [(1, 3)]) (List.mem_of_getElem? (i := 12) rfl)
        have h : N1 4 101 = 1 * uRho [x1.toInt] N1 (cM kc_r580) 3 + 0 := h
        rw [u2 3 (by decide)]
        omega
      have m2_4_207 : N1 4 207 = ρ2 4 := by
        have h := q2 (4, 207, [(1, 4)]) (List.mem_of_getElem? (i := 13) rfl)
        have h : N1 4 207 = 1 * uRho [x1.toInt] N1 (cM kc_r580) 4 + 0 := h
        rw [u2 4 (by decide)]
        omega
      have m2_4_208 : N1 4 208 = ρ2 5 := by
        have h := q2 (4, 208, [(1, 5)]) (List.mem_of_getElem? (i := 14) rfl)
        have h : N1 4 208 = 1 * uRho [x1.toInt] N1 (cM kc_r580) 5 + 0 := h
        rw [u2 5 (by decide)]
        omega
      have m2_4_261 : N1 4 261 = ρ2 6 := by
        have h := q2 (4, 261, [(1, 6)]) (List.mem_of_getElem? (i := 15) rfl)
        have h : N1 4 261 = 1 * uRho [x1.toInt] N1 (cM kc_r580) 6 + 0 := h
        rw [u2 6 (by decide)]
        omega
      have m2_91_30 : N1 91 30 = ρ2 7 := by
        have h := q2 (91, 30, [(1, 7)]) (List.mem_of_getElem? (i := 16) rfl)
        have h : N1 91 30 = 1 * uRho [x1.toInt] N1 (cM kc_r580) 7 + 0 := h
        rw [u2 7 (by decide)]
        omega
      have m2_4_201 : N1 4 201 = ρ2 8 := by
        have h := q2 (4, 201, [(1, 8)]) (List.mem_of_getElem? (i := 17) rfl)
        have h : N1 4 201 = 1 * uRho [x1.toInt] N1 (cM kc_r580) 8 + 0 := h
        rw [u2 8 (by decide)]
        omega
      have m2_4_202 : N1 4 202 = ρ2 9 := by
        have h := q2 (4, 202, [(1, 9)]) (List.mem_of_getElem? (i := 18) rfl)
        have h : N1 4 202 = 1 * uRho [x1.toInt] N1 (cM kc_r580) 9 + 0 := h
        rw [u2 9 (by decide)]
        omega
      have m2_4_203 : N1 4 203 = ρ2 10 := by
        have h := q2 (4, 203, [(1, 10)]) (List.mem_of_getElem? (i := 19) rfl)
        have h : N1 4 203 = 1 * uRho [x1.toInt] N1 (cM kc_r580) 10 + 0 := h
        rw [u2 10 (by decide)]
        omega
      have m2_4_204 : N1 4 204 = ρ2 11 := by
        have h := q2 (4, 204, [(1, 11)]) (List.mem_of_getElem? (i := 20) rfl)
        have h : N1 4 204 = 1 * uRho [x1.toInt] N1 (cM kc_r580) 11 + 0 := h
        rw [u2 11 (by decide)]
        omega
      have m2_4_205 : N1 4 205 = ρ2 12 := by
        have h := q2 (4, 205, [(1, 12)]) (List.mem_of_getElem? (i := 21) rfl)
        have h : N1 4 205 = 1 * uRho [x1.toInt] N1 (cM kc_r580) 12 + 0 := h
        rw [u2 12 (by decide)]
        omega
      have m2_4_206 : N1 4 206 = ρ2 13 := by
        have h := q2 (4, 206, [(1, 13)]) (List.mem_of_getElem? (i := 22) rfl)
        have h : N1 4 206 = 1 * uRho [x1.toInt] N1 (cM kc_r580) 13 + 0 := h
        rw [u2 13 (by decide)]
        omega
      have m2_93_0 : N1 93 0 = ρ2 14 := by
        have h := q2 (93, 0, [(1, 14)]) (List.mem_of_getElem? (i := 23) rfl)
        have h : N1 93 0 = 1 * uRho [x1.toInt] N1 (cM kc_r580) 14 + 0 := h
        rw [u2 14 (by decide)]
        omega
      have m2_93_1 : N1 93 1 = ρ2 15 := by
        have h := q2 (93, 1, [(1, 15)]) (List.mem_of_getElem? (i := 24) rfl)
        have h : N1 93 1 = 1 * uRho [x1.toInt] N1 (cM kc_r580) 15 + 0 := h
        rw [u2 15 (by decide)]
        omega
      have m2_93_2 : N1 93 2 = ρ2 16 := by
        have h := q2 (93, 2, [(1, 16)]) (List.mem_of_getElem? (i := 25) rfl)
        have h : N1 93 2 = 1 * uRho [x1.toInt] N1 (cM kc_r580) 16 + 0 := h
        rw [u2 16 (by decide)]
        omega
      have m2_91_61 : N1 91 61 = ρ2 17 := by
        have h := q2 (91, 61, [(1, 17)]) (List.mem_of_getElem? (i := 26) rfl)
        have h : N1 91 61 = 1 * uRho [x1.toInt] N1 (cM kc_r580) 17 + 0 := h
        rw [u2 17 (by decide)]
        omega
      obtain ⟨t2_0, t2_1, t2_2, t2_3, t2_4, t2_5, t2_6, t2_7, t2_8, t2_9, t2_10, t2_11, t2_12, t2_13, t2_14, t2_15, t2_16, t2_17, t2_18, t2_19, t2_20, t2_21, t2_22, t2_23⟩ := t2
      rw [o2] at z2
      have k2 : ∀ q ∈ uKw ++ [(4, 200, 0)], N2 q.1 q.2.1 = q.2.2 := ukeepX_ok (ks := uKw ++ [(4, 200, 1)]) (c := kc_r580) (by decide +kernel) (fun q hq => by rcases List.mem_append.mp hq with hq | hq; exact k1 q hq; rw [List.mem_singleton] at hq; rw [hq]; exact b200) p2
      have b2_0_1 : N2 0 1 = N1 0 1 := y2 0 1 (by decide +kernel)
      have b2_0_2 : N2 0 2 = N1 0 2 := y2 0 2 (by decide +kernel)
      have b2_0_3 : N2 0 3 = N1 0 3 := y2 0 3 (by decide +kernel)
      have b2_0_5 : N2 0 5 = N1 0 5 := y2 0 5 (by decide +kernel)
      have b2_0_6 : N2 0 6 = N1 0 6 := y2 0 6 (by decide +kernel)
      have b2_2_8 : N2 2 8 = N1 2 8 := y2 2 8 (by decide +kernel)
      have b2_2_9 : N2 2 9 = N1 2 9 := y2 2 9 (by decide +kernel)
      have b2_2_10 : N2 2 10 = N1 2 10 := y2 2 10 (by decide +kernel)
      have b2_4_261 : N2 4 261 = 0 := t2_6
      have b2_58_4 : N2 58 4 = N1 58 4 := y2 58 4 (by decide +kernel)
      have b2_77_6 : N2 77 6 = N1 77 6 := y2 77 6 (by decide +kernel)
      have b2_91_2 : N2 91 2 = ρ2 19 := t2_0
      have b2_91_33 : N2 91 33 = ρ2 20 := t2_1
      have b2_91_34 : N2 91 34 = ρ2 21 := t2_2
      have b2_91_61 : N2 91 61 = ρ2 37 := t2_18
      have b2_93_0 : N2 93 0 = ρ2 34 := t2_15
      have b2_93_1 : N2 93 1 = ρ2 35 := t2_16
      have b2_93_2 : N2 93 2 = ρ2 36 := t2_17
      have s2 : uSt 2 N2 := by
        refine ⟨i2, fun q hq => ?_⟩
        rcases uks_mem q hq with rfl | rfl | rfl | rfl | h
        · exact (show N2 0 5 = 2 by omega)
        · exact (show N2 0 6 = 30 - 2 by omega)
        · exact (show N2 58 4 = 2 by omega)
        · exact k2 _ (List.mem_append.mpr (Or.inr (List.mem_singleton.mpr rfl)))
        · exact k2 q (List.mem_append.mpr (Or.inl h))
      have hv : ρ2 18 = ρ1 17 ∧ N2 0 1 = N2 91 2 ∧ N2 4 261 = N2 0 1 ∧ N2 0 2 = N2 91 33 ∧ N2 0 3 = N2 91 34 ∧ N2 2 8 = N2 93 0 ∧ N2 2 9 = N2 93 1 ∧ N2 2 10 = N2 93 2 ∧ N2 77 6 = N2 91 61 := by
        rcases z2 with z2 | z2 <;> omega
      obtain ⟨hv, hw0, hw1, hw2, hw3, hw4, hw5, hw6, hw7⟩ := hv
      rw [w1] at e1
      rw [w2, hv] at e2
      simp only [List.map_cons, List.map_nil, i32_of] at e1 e2
      exact ⟨Int32.ofInt (ρ1 17), N1, N2, e1, e2, 2, Or.inl rfl, s2, (fun q hq => by
        have hq : q ∈ ([(0, 1, 91, 2), (4, 261, 0, 1), (0, 2, 91, 33), (0, 3, 91, 34), (2, 8, 93, 0), (2, 9, 93, 1), (2, 10, 93, 2), (77, 6, 91, 61)] : List (Nat × Nat × Nat × Nat)) := hq
        simp only [List.mem_cons, List.not_mem_nil, or_false] at hq
        rcases hq with rfl | rfl | rfl | rfl | rfl | rfl | rfl | rfl
        · exact (show N2 0 1 = N2 91 2 by omega)
        · exact (show N2 4 261 = N2 0 1 by omega)
        · exact (show N2 0 2 = N2 91 33 by omega)
        · exact (show N2 0 3 = N2 91 34 by omega)
        · exact (show N2 2 8 = N2 93 0 by omega)
        · exact (show N2 2 9 = N2 93 1 by omega)
        · exact (show N2 2 10 = N2 93 2 by omega)
        · exact (show N2 77 6 = N2 91 61 by omega))⟩
