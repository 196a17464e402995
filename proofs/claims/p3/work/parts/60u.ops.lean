/-! THE OPERATIONS on both objects (by program, wip/p2/mku.py). -/
theorem ub01 {x : Int32} (h : x = 0 ∨ x = 1) : 0 ≤ x.toInt ∧ x.toInt ≤ 1 := by
  rcases h with rfl | rfl <;> decide
theorem uo_2 {M : sM} (hM : uG M) (J : pHp) (x1 : Int32) : ∃ (v1 : Int32) (M1 : sM) (v2 : Int32) (M2 : sM), pEx 300 70 [.ref 0, .int x1] (sHp sLay M ++ J) (some (.int v1)) (sHp sLay M1 ++ J) ∧ pEx 300 201 [.ref 91, .int x1] (sHp sLay M1 ++ J) (some (.int v2)) (sHp sLay M2 ++ J) ∧ uG M2 := by
  obtain ⟨z1, M1, z2, M2, e1, e2, e3⟩ := u_two ko_6 ko_6 ko_r581 (bs := [false]) (by decide +kernel) hM (as := [x1.toInt]) ⟨⟨uarg_i _, fun h => nomatch h⟩, trivial⟩ J
  simp only [List.map_cons, List.map_nil, i32_of] at e1 e2
  exact ⟨Int32.ofInt z1, M1, Int32.ofInt z2, M2, e1, e2, e3⟩
theorem uo_3 {M : sM} (hM : uG M) (J : pHp) (x1 : Int32) (x2 : Int32) : ∃ (v1 : Int32) (M1 : sM) (v2 : Int32) (M2 : sM), pEx 300 71 [.ref 0, .int x1, .int x2] (sHp sLay M ++ J) (some (.int v1)) (sHp sLay M1 ++ J) ∧ pEx 300 202 [.ref 91, .int x1, .int x2] (sHp sLay M1 ++ J) (some (.int v2)) (sHp sLay M2 ++ J) ∧ uG M2 := by
  obtain ⟨z1, M1, z2, M2, e1, e2, e3⟩ := u_two ko_10 ko_205 ko_r585 (bs := [false, false]) (by decide +kernel) hM (as := [x1.toInt, x2.toInt]) ⟨⟨uarg_i _, fun h => nomatch h⟩, ⟨⟨uarg_i _, fun h => nomatch h⟩, trivial⟩⟩ J
  simp only [List.map_cons, List.map_nil, i32_of] at e1 e2
  exact ⟨Int32.ofInt z1, M1, Int32.ofInt z2, M2, e1, e2, e3⟩
theorem uo_5 {M : sM} (hM : uG M) (J : pHp) (x1 : Int32) (x2 : Int32) : ∃ (v1 : Int32) (M1 : sM) (v2 : Int32) (M2 : sM), pEx 300 72 [.ref 0, .int x1, .int x2] (sHp sLay M ++ J) (some (.int v1)) (sHp sLay M1 ++ J) ∧ pEx 300 206 [.ref 91, .int x1, .int x2] (sHp sLay M1 ++ J) (some (.int v2)) (sHp sLay M2 ++ J) ∧ uG M2 := by
  obtain ⟨z1, M1, z2, M2, e1, e2, e3⟩ := u_two ko_12 ko_207 ko_r591 (bs := [false, false]) (by decide +kernel) hM (as := [x1.toInt, x2.toInt]) ⟨⟨uarg_i _, fun h => nomatch h⟩, ⟨⟨uarg_i _, fun h => nomatch h⟩, trivial⟩⟩ J
  simp only [List.map_cons, List.map_nil, i32_of] at e1 e2
  exact ⟨Int32.ofInt z1, M1, Int32.ofInt z2, M2, e1, e2, e3⟩
theorem uo_6 {M : sM} (hM : uG M) (J : pHp) (x1 : Int32) (x2 : Int32) : ∃ (v1 : Int32) (M1 : sM) (v2 : Int32) (M2 : sM), pEx 300 74 [.ref 0, .int x1, .int x2] (sHp sLay M ++ J) (some (.int v1)) (sHp sLay M1 ++ J) ∧ pEx 300 208 [.ref 91, .int x1, .int x2] (sHp sLay M1 ++ J) (some (.int v2)) (sHp sLay M2 ++ J) ∧ uG M2 := by
  obtain ⟨z1, M1, z2, M2, e1, e2, e3⟩ := u_two ko_14 ko_209 ko_r593 (bs := [false, false]) (by decide +kernel) hM (as := [x1.toInt, x2.toInt]) ⟨⟨uarg_i _, fun h => nomatch h⟩, ⟨⟨uarg_i _, fun h => nomatch h⟩, trivial⟩⟩ J
  simp only [List.map_cons, List.map_nil, i32_of] at e1 e2
  exact ⟨Int32.ofInt z1, M1, Int32.ofInt z2, M2, e1, e2, e3⟩
theorem uo_7 {M : sM} (hM : uG M) (J : pHp) (x1 : Int32) (x2 : Int32) (x3 : Int32) : ∃ (v1 : Int32) (M1 : sM) (v2 : Int32) (M2 : sM), pEx 300 76 [.ref 0, .int x1, .int x2, .int x3] (sHp sLay M ++ J) (some (.int v1)) (sHp sLay M1 ++ J) ∧ pEx 300 210 [.ref 91, .int x1, .int x2, .int x3] (sHp sLay M1 ++ J) (some (.int v2)) (sHp sLay M2 ++ J) ∧ uG M2 := by
  obtain ⟨z1, M1, z2, M2, e1, e2, e3⟩ := u_two ko_26 ko_215 ko_r606 (bs := [false, false, false]) (by decide +kernel) hM (as := [x1.toInt, x2.toInt, x3.toInt]) ⟨⟨uarg_i _, fun h => nomatch h⟩, ⟨⟨uarg_i _, fun h => nomatch h⟩, ⟨⟨uarg_i _, fun h => nomatch h⟩, trivial⟩⟩⟩ J
  simp only [List.map_cons, List.map_nil, i32_of] at e1 e2
  exact ⟨Int32.ofInt z1, M1, Int32.ofInt z2, M2, e1, e2, e3⟩
theorem uo_8 {M : sM} (hM : uG M) (J : pHp) (x1 : Int32) (x2 : Int32) : ∃ (v1 : Int32) (M1 : sM) (v2 : Int32) (M2 : sM), pEx 300 88 [.ref 0, .int x1, .int x2] (sHp sLay M ++ J) (some (.int v1)) (sHp sLay M1 ++ J) ∧ pEx 300 220 [.ref 91, .int x1, .int x2] (sHp sLay M1 ++ J) (some (.int v2)) (sHp sLay M2 ++ J) ∧ uG M2 := by
  obtain ⟨z1, M1, z2, M2, e1, e2, e3⟩ := u_two ko_30 ko_219 ko_r611 (bs := [false, false]) (by decide +kernel) hM (as := [x1.toInt, x2.toInt]) ⟨⟨uarg_i _, fun h => nomatch h⟩, ⟨⟨uarg_i _, fun h => nomatch h⟩, trivial⟩⟩ J
  simp only [List.map_cons, List.map_nil, i32_of] at e1 e2
  exact ⟨Int32.ofInt z1, M1, Int32.ofInt z2, M2, e1, e2, e3⟩
theorem uo_9 {M : sM} (hM : uG M) (J : pHp) (x1 : Int32) (x2 : Int32) : ∃ (v1 : Int32) (M1 : sM) (v2 : Int32) (M2 : sM), pEx 300 90 [.ref 0, .int x1, .int x2] (sHp sLay M ++ J) (some (.int v1)) (sHp sLay M1 ++ J) ∧ pEx 300 223 [.ref 91, .int x1, .int x2] (sHp sLay M1 ++ J) (some (.int v2)) (sHp sLay M2 ++ J) ∧ uG M2 := by
  obtain ⟨z1, M1, z2, M2, e1, e2, e3⟩ := u_two ko_34 ko_223 ko_r614 (bs := [false, false]) (by decide +kernel) hM (as := [x1.toInt, x2.toInt]) ⟨⟨uarg_i _, fun h => nomatch h⟩, ⟨⟨uarg_i _, fun h => nomatch h⟩, trivial⟩⟩ J
  simp only [List.map_cons, List.map_nil, i32_of] at e1 e2
  exact ⟨Int32.ofInt z1, M1, Int32.ofInt z2, M2, e1, e2, e3⟩
theorem uo_10 {M : sM} (hM : uG M) (J : pHp) (x1 : Int32) (x2 : Int32) (x3 : Int32) (x4 : Int32) : ∃ (v1 : Int64) (M1 : sM) (v2 : Int64) (M2 : sM), pEx 300 94 [.ref 0, .int x1, .int x2, .int x3, .int x4] (sHp sLay M ++ J) (some (.long v1)) (sHp sLay M1 ++ J) ∧ pEx 300 226 [.ref 91, .int x1, .int x2, .int x3, .int x4] (sHp sLay M1 ++ J) (some (.long v2)) (sHp sLay M2 ++ J) ∧ uG M2 := by
  obtain ⟨z1, M1, z2, M2, e1, e2, e3⟩ := u_two ko_37 ko_224 ko_r615 (bs := [false, false, false, false]) (by decide +kernel) hM (as := [x1.toInt, x2.toInt, x3.toInt, x4.toInt]) ⟨⟨uarg_i _, fun h => nomatch h⟩, ⟨⟨uarg_i _, fun h => nomatch h⟩, ⟨⟨uarg_i _, fun h => nomatch h⟩, ⟨⟨uarg_i _, fun h => nomatch h⟩, trivial⟩⟩⟩⟩ J
  simp only [List.map_cons, List.map_nil, i32_of] at e1 e2
  exact ⟨Int64.ofInt z1, M1, Int64.ofInt z2, M2, e1, e2, e3⟩
theorem uo_11 {M : sM} (hM : uG M) (J : pHp) (x1 : Int32) (x2 : Int32) (hb2 : x2 = 0 ∨ x2 = 1) : ∃ (v1 : Int32) (M1 : sM) (v2 : Int32) (M2 : sM), pEx 300 95 [.ref 0, .int x1, .int x2] (sHp sLay M ++ J) (some (.int v1)) (sHp sLay M1 ++ J) ∧ pEx 300 227 [.ref 91, .int x1, .int x2] (sHp sLay M1 ++ J) (some (.int v2)) (sHp sLay M2 ++ J) ∧ uG M2 := by
  obtain ⟨z1, M1, z2, M2, e1, e2, e3⟩ := u_two ko_40 ko_225 ko_r620 (bs := [false, true]) (by decide +kernel) hM (as := [x1.toInt, x2.toInt]) ⟨⟨uarg_i _, fun h => nomatch h⟩, ⟨⟨uarg_i _, fun _ => ub01 hb2⟩, trivial⟩⟩ J
  simp only [List.map_cons, List.map_nil, i32_of] at e1 e2
  exact ⟨Int32.ofInt z1, M1, Int32.ofInt z2, M2, e1, e2, e3⟩
theorem uo_12 {M : sM} (hM : uG M) (J : pHp) (x1 : Int32) (x2 : Int32) : ∃ (v1 : Int32) (M1 : sM) (v2 : Int32) (M2 : sM), pEx 300 98 [.ref 0, .int x1, .int x2] (sHp sLay M ++ J) (some (.int v1)) (sHp sLay M1 ++ J) ∧ pEx 300 231 [.ref 91, .int x1, .int x2] (sHp sLay M1 ++ J) (some (.int v2)) (sHp sLay M2 ++ J) ∧ uG M2 := by
  obtain ⟨z1, M1, z2, M2, e1, e2, e3⟩ := u_two ko_41 ko_226 ko_r621 (bs := [false, false]) (by decide +kernel) hM (as := [x1.toInt, x2.toInt]) ⟨⟨uarg_i _, fun h => nomatch h⟩, ⟨⟨uarg_i _, fun h => nomatch h⟩, trivial⟩⟩ J
  simp only [List.map_cons, List.map_nil, i32_of] at e1 e2
  exact ⟨Int32.ofInt z1, M1, Int32.ofInt z2, M2, e1, e2, e3⟩
theorem uo_13 {M : sM} (hM : uG M) (J : pHp) (x1 : Int32) : ∃ (v1 : Int32) (M1 : sM) (v2 : Int32) (M2 : sM), pEx 300 99 [.ref 0, .int x1] (sHp sLay M ++ J) (some (.int v1)) (sHp sLay M1 ++ J) ∧ pEx 300 232 [.ref 91, .int x1] (sHp sLay M1 ++ J) (some (.int v2)) (sHp sLay M2 ++ J) ∧ uG M2 := by
  obtain ⟨z1, M1, z2, M2, e1, e2, e3⟩ := u_two ko_42 ko_42 ko_r622 (bs := [false]) (by decide +kernel) hM (as := [x1.toInt]) ⟨⟨uarg_i _, fun h => nomatch h⟩, trivial⟩ J
  simp only [List.map_cons, List.map_nil, i32_of] at e1 e2
  exact ⟨Int32.ofInt z1, M1, Int32.ofInt z2, M2, e1, e2, e3⟩
theorem uo_14 {M : sM} (hM : uG M) (J : pHp) (x1 : Int32) : ∃ (v1 : Int32) (M1 : sM) (v2 : Int32) (M2 : sM), pEx 300 100 [.ref 0, .int x1] (sHp sLay M ++ J) (some (.int v1)) (sHp sLay M1 ++ J) ∧ pEx 300 233 [.ref 91, .int x1] (sHp sLay M1 ++ J) (some (.int v2)) (sHp sLay M2 ++ J) ∧ uG M2 := by
  obtain ⟨z1, M1, z2, M2, e1, e2, e3⟩ := u_two ko_43 ko_43 ko_r623 (bs := [false]) (by decide +kernel) hM (as := [x1.toInt]) ⟨⟨uarg_i _, fun h => nomatch h⟩, trivial⟩ J
  simp only [List.map_cons, List.map_nil, i32_of] at e1 e2
  exact ⟨Int32.ofInt z1, M1, Int32.ofInt z2, M2, e1, e2, e3⟩
theorem uo_15 {M : sM} (hM : uG M) (J : pHp) (x1 : Int32) : ∃ (v1 : Int32) (M1 : sM) (v2 : Int32) (M2 : sM), pEx 300 101 [.ref 0, .int x1] (sHp sLay M ++ J) (some (.int v1)) (sHp sLay M1 ++ J) ∧ pEx 300 234 [.ref 91, .int x1] (sHp sLay M1 ++ J) (some (.int v2)) (sHp sLay M2 ++ J) ∧ uG M2 := by
  obtain ⟨z1, M1, z2, M2, e1, e2, e3⟩ := u_two ko_47 ko_229 ko_r628 (bs := [false]) (by decide +kernel) hM (as := [x1.toInt]) ⟨⟨uarg_i _, fun h => nomatch h⟩, trivial⟩ J
  simp only [List.map_cons, List.map_nil, i32_of] at e1 e2
  exact ⟨Int32.ofInt z1, M1, Int32.ofInt z2, M2, e1, e2, e3⟩
theorem uo_16 {M : sM} (hM : uG M) (J : pHp) (x1 : Int32) : ∃ (v1 : Int32) (M1 : sM) (v2 : Int32) (M2 : sM), pEx 300 105 [.ref 0, .int x1] (sHp sLay M ++ J) (some (.int v1)) (sHp sLay M1 ++ J) ∧ pEx 300 239 [.ref 91, .int x1] (sHp sLay M1 ++ J) (some (.int v2)) (sHp sLay M2 ++ J) ∧ uG M2 := by
  obtain ⟨z1, M1, z2, M2, e1, e2, e3⟩ := u_two ko_49 ko_49 ko_r629 (bs := [false]) (by decide +kernel) hM (as := [x1.toInt]) ⟨⟨uarg_i _, fun h => nomatch h⟩, trivial⟩ J
  simp only [List.map_cons, List.map_nil, i32_of] at e1 e2
  exact ⟨Int32.ofInt z1, M1, Int32.ofInt z2, M2, e1, e2, e3⟩
theorem uo_17 {M : sM} (hM : uG M) (J : pHp) (x1 : Int32) (x2 : Int32) : ∃ (v1 : Int32) (M1 : sM) (v2 : Int32) (M2 : sM), pEx 300 106 [.ref 0, .int x1, .int x2] (sHp sLay M ++ J) (some (.int v1)) (sHp sLay M1 ++ J) ∧ pEx 300 240 [.ref 91, .int x1, .int x2] (sHp sLay M1 ++ J) (some (.int v2)) (sHp sLay M2 ++ J) ∧ uG M2 := by
  obtain ⟨z1, M1, z2, M2, e1, e2, e3⟩ := u_two ko_51 ko_231 ko_r633 (bs := [false, false]) (by decide +kernel) hM (as := [x1.toInt, x2.toInt]) ⟨⟨uarg_i _, fun h => nomatch h⟩, ⟨⟨uarg_i _, fun h => nomatch h⟩, trivial⟩⟩ J
  simp only [List.map_cons, List.map_nil, i32_of] at e1 e2
  exact ⟨Int32.ofInt z1, M1, Int32.ofInt z2, M2, e1, e2, e3⟩
theorem uo_18 {M : sM} (hM : uG M) (J : pHp)  : ∃ (v1 : Int32) (M1 : sM) (v2 : Int32) (M2 : sM), pEx 300 108 [.ref 0] (sHp sLay M ++ J) (some (.int v1)) (sHp sLay M1 ++ J) ∧ pEx 300 244 [.ref 91] (sHp sLay M1 ++ J) (some (.int v2)) (sHp sLay M2 ++ J) ∧ uG M2 := by
  obtain ⟨z1, M1, z2, M2, e1, e2, e3⟩ := u_two ko_53 ko_233 ko_r635 (bs := []) (by decide +kernel) hM (as := []) trivial J
  simp only [List.map_cons, List.map_nil, i32_of] at e1 e2
  exact ⟨Int32.ofInt z1, M1, Int32.ofInt z2, M2, e1, e2, e3⟩
theorem uo_19 {M : sM} (hM : uG M) (J : pHp) (x1 : Int32) : ∃ (v1 : Int32) (M1 : sM) (v2 : Int32) (M2 : sM), pEx 300 110 [.ref 0, .int x1] (sHp sLay M ++ J) (some (.int v1)) (sHp sLay M1 ++ J) ∧ pEx 300 246 [.ref 91, .int x1] (sHp sLay M1 ++ J) (some (.int v2)) (sHp sLay M2 ++ J) ∧ uG M2 := by
  obtain ⟨z1, M1, z2, M2, e1, e2, e3⟩ := u_two ko_55 ko_234 ko_r636 (bs := [false]) (by decide +kernel) hM (as := [x1.toInt]) ⟨⟨uarg_i _, fun h => nomatch h⟩, trivial⟩ J
  simp only [List.map_cons, List.map_nil, i32_of] at e1 e2
  exact ⟨Int32.ofInt z1, M1, Int32.ofInt z2, M2, e1, e2, e3⟩
theorem uo_20 {M : sM} (hM : uG M) (J : pHp) (x1 : Int32) (x2 : Int32) : ∃ (v1 : Int32) (M1 : sM) (v2 : Int32) (M2 : sM), pEx 300 112 [.ref 0, .int x1, .int x2] (sHp sLay M ++ J) (some (.int v1)) (sHp sLay M1 ++ J) ∧ pEx 300 247 [.ref 91, .int x1, .int x2] (sHp sLay M1 ++ J) (some (.int v2)) (sHp sLay M2 ++ J) ∧ uG M2 := by
  obtain ⟨z1, M1, z2, M2, e1, e2, e3⟩ := u_two ko_69 ko_245 ko_r641 (bs := [false, false]) (by decide +kernel) hM (as := [x1.toInt, x2.toInt]) ⟨⟨uarg_i _, fun h => nomatch h⟩, ⟨⟨uarg_i _, fun h => nomatch h⟩, trivial⟩⟩ J
  simp only [List.map_cons, List.map_nil, i32_of] at e1 e2
  exact ⟨Int32.ofInt z1, M1, Int32.ofInt z2, M2, e1, e2, e3⟩
theorem uo_21 {M : sM} (hM : uG M) (J : pHp) (x1 : Int32) : ∃ (v1 : Int32) (M1 : sM) (v2 : Int32) (M2 : sM), pEx 300 125 [.ref 0, .int x1] (sHp sLay M ++ J) (some (.int v1)) (sHp sLay M1 ++ J) ∧ pEx 300 253 [.ref 91, .int x1] (sHp sLay M1 ++ J) (some (.int v2)) (sHp sLay M2 ++ J) ∧ uG M2 := by
  obtain ⟨z1, M1, z2, M2, e1, e2, e3⟩ := u_two ko_75 ko_248 ko_r648 (bs := [false]) (by decide +kernel) hM (as := [x1.toInt]) ⟨⟨uarg_i _, fun h => nomatch h⟩, trivial⟩ J
  simp only [List.map_cons, List.map_nil, i32_of] at e1 e2
  exact ⟨Int32.ofInt z1, M1, Int32.ofInt z2, M2, e1, e2, e3⟩
theorem uo_22 {M : sM} (hM : uG M) (J : pHp) (x1 : Int32) (x2 : Int32) : ∃ (v1 : Int32) (M1 : sM) (v2 : Int32) (M2 : sM), pEx 300 131 [.ref 0, .int x1, .int x2] (sHp sLay M ++ J) (some (.int v1)) (sHp sLay M1 ++ J) ∧ pEx 300 258 [.ref 91, .int x1, .int x2] (sHp sLay M1 ++ J) (some (.int v2)) (sHp sLay M2 ++ J) ∧ uG M2 := by
  obtain ⟨z1, M1, z2, M2, e1, e2, e3⟩ := u_two ko_76 ko_249 ko_r649 (bs := [false, false]) (by decide +kernel) hM (as := [x1.toInt, x2.toInt]) ⟨⟨uarg_i _, fun h => nomatch h⟩, ⟨⟨uarg_i _, fun h => nomatch h⟩, trivial⟩⟩ J
  simp only [List.map_cons, List.map_nil, i32_of] at e1 e2
  exact ⟨Int32.ofInt z1, M1, Int32.ofInt z2, M2, e1, e2, e3⟩
theorem uo_23 {M : sM} (hM : uG M) (J : pHp) (x1 : Int32) : ∃ (v1 : Int32) (M1 : sM) (v2 : Int32) (M2 : sM), pEx 300 132 [.ref 0, .int x1] (sHp sLay M ++ J) (some (.int v1)) (sHp sLay M1 ++ J) ∧ pEx 300 259 [.ref 91, .int x1] (sHp sLay M1 ++ J) (some (.int v2)) (sHp sLay M2 ++ J) ∧ uG M2 := by
  obtain ⟨z1, M1, z2, M2, e1, e2, e3⟩ := u_two ko_77 ko_250 ko_r651 (bs := [false]) (by decide +kernel) hM (as := [x1.toInt]) ⟨⟨uarg_i _, fun h => nomatch h⟩, trivial⟩ J
  simp only [List.map_cons, List.map_nil, i32_of] at e1 e2
  exact ⟨Int32.ofInt z1, M1, Int32.ofInt z2, M2, e1, e2, e3⟩
theorem uo_24 {M : sM} (hM : uG M) (J : pHp) (x1 : Int32) (x2 : Int32) (x3 : Int32) : ∃ (v1 : Int32) (M1 : sM) (v2 : Int32) (M2 : sM), pEx 300 133 [.ref 0, .int x1, .int x2, .int x3] (sHp sLay M ++ J) (some (.int v1)) (sHp sLay M1 ++ J) ∧ pEx 300 260 [.ref 91, .int x1, .int x2, .int x3] (sHp sLay M1 ++ J) (some (.int v2)) (sHp sLay M2 ++ J) ∧ uG M2 := by
  obtain ⟨z1, M1, z2, M2, e1, e2, e3⟩ := u_two ko_79 ko_252 ko_r654 (bs := [false, false, false]) (by decide +kernel) hM (as := [x1.toInt, x2.toInt, x3.toInt]) ⟨⟨uarg_i _, fun h => nomatch h⟩, ⟨⟨uarg_i _, fun h => nomatch h⟩, ⟨⟨uarg_i _, fun h => nomatch h⟩, trivial⟩⟩⟩ J
  simp only [List.map_cons, List.map_nil, i32_of] at e1 e2
  exact ⟨Int32.ofInt z1, M1, Int32.ofInt z2, M2, e1, e2, e3⟩
theorem uo_25 {M : sM} (hM : uG M) (J : pHp) (x1 : Int32) (x2 : Int32) : ∃ (v1 : Int32) (M1 : sM) (v2 : Int32) (M2 : sM), pEx 300 135 [.ref 0, .int x1, .int x2] (sHp sLay M ++ J) (some (.int v1)) (sHp sLay M1 ++ J) ∧ pEx 300 263 [.ref 91, .int x1, .int x2] (sHp sLay M1 ++ J) (some (.int v2)) (sHp sLay M2 ++ J) ∧ uG M2 := by
  obtain ⟨z1, M1, z2, M2, e1, e2, e3⟩ := u_two ko_80 ko_253 ko_r655 (bs := [false, false]) (by decide +kernel) hM (as := [x1.toInt, x2.toInt]) ⟨⟨uarg_i _, fun h => nomatch h⟩, ⟨⟨uarg_i _, fun h => nomatch h⟩, trivial⟩⟩ J
  simp only [List.map_cons, List.map_nil, i32_of] at e1 e2
  exact ⟨Int32.ofInt z1, M1, Int32.ofInt z2, M2, e1, e2, e3⟩
theorem uo_26 {M : sM} (hM : uG M) (J : pHp) (x1 : Int32) (x2 : Int32) : ∃ (v1 : Int32) (M1 : sM) (v2 : Int32) (M2 : sM), pEx 300 136 [.ref 0, .int x1, .int x2] (sHp sLay M ++ J) (some (.int v1)) (sHp sLay M1 ++ J) ∧ pEx 300 264 [.ref 91, .int x1, .int x2] (sHp sLay M1 ++ J) (some (.int v2)) (sHp sLay M2 ++ J) ∧ uG M2 := by
  obtain ⟨z1, M1, z2, M2, e1, e2, e3⟩ := u_two ko_81 ko_254 ko_r656 (bs := [false, false]) (by decide +kernel) hM (as := [x1.toInt, x2.toInt]) ⟨⟨uarg_i _, fun h => nomatch h⟩, ⟨⟨uarg_i _, fun h => nomatch h⟩, trivial⟩⟩ J
  simp only [List.map_cons, List.map_nil, i32_of] at e1 e2
  exact ⟨Int32.ofInt z1, M1, Int32.ofInt z2, M2, e1, e2, e3⟩
theorem uo_27 {M : sM} (hM : uG M) (J : pHp) (x1 : Int32) : ∃ (v1 : Int32) (M1 : sM) (v2 : Int32) (M2 : sM), pEx 300 137 [.ref 0, .int x1] (sHp sLay M ++ J) (some (.int v1)) (sHp sLay M1 ++ J) ∧ pEx 300 252 [.ref 91, .int x1] (sHp sLay M1 ++ J) (some (.int v2)) (sHp sLay M2 ++ J) ∧ uG M2 := by
  obtain ⟨z1, M1, z2, M2, e1, e2, e3⟩ := u_two ko_84 ko_257 ko_r657 (bs := [false]) (by decide +kernel) hM (as := [x1.toInt]) ⟨⟨uarg_i _, fun h => nomatch h⟩, trivial⟩ J
  simp only [List.map_cons, List.map_nil, i32_of] at e1 e2
  exact ⟨Int32.ofInt z1, M1, Int32.ofInt z2, M2, e1, e2, e3⟩
theorem uo_28 {M : sM} (hM : uG M) (J : pHp) (x1 : Int32) : ∃ (v1 : Int32) (M1 : sM) (v2 : Int32) (M2 : sM), pEx 300 140 [.ref 0, .int x1] (sHp sLay M ++ J) (some (.int v1)) (sHp sLay M1 ++ J) ∧ pEx 300 265 [.ref 91, .int x1] (sHp sLay M1 ++ J) (some (.int v2)) (sHp sLay M2 ++ J) ∧ uG M2 := by
  obtain ⟨z1, M1, z2, M2, e1, e2, e3⟩ := u_two ko_86 ko_259 ko_r658 (bs := [false]) (by decide +kernel) hM (as := [x1.toInt]) ⟨⟨uarg_i _, fun h => nomatch h⟩, trivial⟩ J
  simp only [List.map_cons, List.map_nil, i32_of] at e1 e2
  exact ⟨Int32.ofInt z1, M1, Int32.ofInt z2, M2, e1, e2, e3⟩
theorem uo_29 {M : sM} (hM : uG M) (J : pHp) (x1 : Int32) (x2 : Int32) (x3 : Int32) (x4 : Int32) : ∃ (v1 : Int32) (M1 : sM) (v2 : Int32) (M2 : sM), pEx 300 142 [.ref 0, .int x1, .int x2, .int x3, .int x4] (sHp sLay M ++ J) (some (.int v1)) (sHp sLay M1 ++ J) ∧ pEx 300 266 [.ref 91, .int x1, .int x2, .int x3, .int x4] (sHp sLay M1 ++ J) (some (.int v2)) (sHp sLay M2 ++ J) ∧ uG M2 := by
  obtain ⟨z1, M1, z2, M2, e1, e2, e3⟩ := u_two ko_88 ko_260 ko_r659 (bs := [false, false, false, false]) (by decide +kernel) hM (as := [x1.toInt, x2.toInt, x3.toInt, x4.toInt]) ⟨⟨uarg_i _, fun h => nomatch h⟩, ⟨⟨uarg_i _, fun h => nomatch h⟩, ⟨⟨uarg_i _, fun h => nomatch h⟩, ⟨⟨uarg_i _, fun h => nomatch h⟩, trivial⟩⟩⟩⟩ J
  simp only [List.map_cons, List.map_nil, i32_of] at e1 e2
  exact ⟨Int32.ofInt z1, M1, Int32.ofInt z2, M2, e1, e2, e3⟩
theorem uo_30 {M : sM} (hM : uG M) (J : pHp) (x1 : Int32) : ∃ (v1 : Int32) (M1 : sM) (v2 : Int32) (M2 : sM), pEx 300 144 [.ref 0, .int x1] (sHp sLay M ++ J) (some (.int v1)) (sHp sLay M1 ++ J) ∧ pEx 300 267 [.ref 91, .int x1] (sHp sLay M1 ++ J) (some (.int v2)) (sHp sLay M2 ++ J) ∧ uG M2 := by
  obtain ⟨z1, M1, z2, M2, e1, e2, e3⟩ := u_two ko_90 ko_90 ko_r660 (bs := [false]) (by decide +kernel) hM (as := [x1.toInt]) ⟨⟨uarg_i _, fun h => nomatch h⟩, trivial⟩ J
  simp only [List.map_cons, List.map_nil, i32_of] at e1 e2
  exact ⟨Int32.ofInt z1, M1, Int32.ofInt z2, M2, e1, e2, e3⟩
theorem uo_31 {M : sM} (hM : uG M) (J : pHp) (x1 : Int32) : ∃ (v1 : Int32) (M1 : sM) (v2 : Int32) (M2 : sM), pEx 300 146 [.ref 0, .int x1] (sHp sLay M ++ J) (some (.int v1)) (sHp sLay M1 ++ J) ∧ pEx 300 268 [.ref 91, .int x1] (sHp sLay M1 ++ J) (some (.int v2)) (sHp sLay M2 ++ J) ∧ uG M2 := by
  obtain ⟨z1, M1, z2, M2, e1, e2, e3⟩ := u_two ko_91 ko_91 ko_r661 (bs := [false]) (by decide +kernel) hM (as := [x1.toInt]) ⟨⟨uarg_i _, fun h => nomatch h⟩, trivial⟩ J
  simp only [List.map_cons, List.map_nil, i32_of] at e1 e2
  exact ⟨Int32.ofInt z1, M1, Int32.ofInt z2, M2, e1, e2, e3⟩
theorem uo_32 {M : sM} (hM : uG M) (J : pHp)  : ∃ (v1 : Int32) (M1 : sM) (v2 : Int32) (M2 : sM), pEx 300 147 [.ref 0] (sHp sLay M ++ J) (some (.int v1)) (sHp sLay M1 ++ J) ∧ pEx 300 269 [.ref 91] (sHp sLay M1 ++ J) (some (.int v2)) (sHp sLay M2 ++ J) ∧ uG M2 := by
  obtain ⟨z1, M1, z2, M2, e1, e2, e3⟩ := u_two ko_97 ko_263 ko_r666 (bs := []) (by decide +kernel) hM (as := []) trivial J
  simp only [List.map_cons, List.map_nil, i32_of] at e1 e2
  exact ⟨Int32.ofInt z1, M1, Int32.ofInt z2, M2, e1, e2, e3⟩
theorem uo_33 {M : sM} (hM : uG M) (J : pHp) (x1 : Int32) (x2 : Int32) : ∃ (v1 : Int32) (M1 : sM) (v2 : Int32) (M2 : sM), pEx 300 153 [.ref 0, .int x1, .int x2] (sHp sLay M ++ J) (some (.int v1)) (sHp sLay M1 ++ J) ∧ pEx 300 274 [.ref 91, .int x1, .int x2] (sHp sLay M1 ++ J) (some (.int v2)) (sHp sLay M2 ++ J) ∧ uG M2 := by
  obtain ⟨z1, M1, z2, M2, e1, e2, e3⟩ := u_two ko_99 ko_265 ko_r667 (bs := [false, false]) (by decide +kernel) hM (as := [x1.toInt, x2.toInt]) ⟨⟨uarg_i _, fun h => nomatch h⟩, ⟨⟨uarg_i _, fun h => nomatch h⟩, trivial⟩⟩ J
  simp only [List.map_cons, List.map_nil, i32_of] at e1 e2
  exact ⟨Int32.ofInt z1, M1, Int32.ofInt z2, M2, e1, e2, e3⟩
theorem uo_34 {M : sM} (hM : uG M) (J : pHp) (x1 : Int32) : ∃ (v1 : Int32) (M1 : sM) (v2 : Int32) (M2 : sM), pEx 300 155 [.ref 0, .int x1] (sHp sLay M ++ J) (some (.int v1)) (sHp sLay M1 ++ J) ∧ pEx 300 275 [.ref 91, .int x1] (sHp sLay M1 ++ J) (some (.int v2)) (sHp sLay M2 ++ J) ∧ uG M2 := by
  obtain ⟨z1, M1, z2, M2, e1, e2, e3⟩ := u_two ko_100 ko_266 ko_r668 (bs := [false]) (by decide +kernel) hM (as := [x1.toInt]) ⟨⟨uarg_i _, fun h => nomatch h⟩, trivial⟩ J
  simp only [List.map_cons, List.map_nil, i32_of] at e1 e2
  exact ⟨Int32.ofInt z1, M1, Int32.ofInt z2, M2, e1, e2, e3⟩
theorem uo_35 {M : sM} (hM : uG M) (J : pHp) (x1 : Int32) : ∃ (v1 : Int32) (M1 : sM) (v2 : Int32) (M2 : sM), pEx 300 156 [.ref 0, .int x1] (sHp sLay M ++ J) (some (.int v1)) (sHp sLay M1 ++ J) ∧ pEx 300 276 [.ref 91, .int x1] (sHp sLay M1 ++ J) (some (.int v2)) (sHp sLay M2 ++ J) ∧ uG M2 := by
  obtain ⟨z1, M1, z2, M2, e1, e2, e3⟩ := u_two ko_105 ko_269 ko_r673 (bs := [false]) (by decide +kernel) hM (as := [x1.toInt]) ⟨⟨uarg_i _, fun h => nomatch h⟩, trivial⟩ J
  simp only [List.map_cons, List.map_nil, i32_of] at e1 e2
  exact ⟨Int32.ofInt z1, M1, Int32.ofInt z2, M2, e1, e2, e3⟩
theorem uo_36 {M : sM} (hM : uG M) (J : pHp) (x1 : Int32) (x2 : Int32) (x3 : Int32) : ∃ (v1 : Int32) (M1 : sM) (v2 : Int32) (M2 : sM), pEx 300 158 [.ref 0, .int x1, .int x2, .int x3] (sHp sLay M ++ J) (some (.int v1)) (sHp sLay M1 ++ J) ∧ pEx 300 277 [.ref 91, .int x1, .int x2, .int x3] (sHp sLay M1 ++ J) (some (.int v2)) (sHp sLay M2 ++ J) ∧ uG M2 := by
  obtain ⟨z1, M1, z2, M2, e1, e2, e3⟩ := u_two ko_116 ko_280 ko_r674 (bs := [false, false, false]) (by decide +kernel) hM (as := [x1.toInt, x2.toInt, x3.toInt]) ⟨⟨uarg_i _, fun h => nomatch h⟩, ⟨⟨uarg_i _, fun h => nomatch h⟩, ⟨⟨uarg_i _, fun h => nomatch h⟩, trivial⟩⟩⟩ J
  simp only [List.map_cons, List.map_nil, i32_of] at e1 e2
  exact ⟨Int32.ofInt z1, M1, Int32.ofInt z2, M2, e1, e2, e3⟩
theorem uo_37 {M : sM} (hM : uG M) (J : pHp)  : ∃ (v1 : Int32) (M1 : sM) (v2 : Int32) (M2 : sM), pEx 300 160 [.ref 0] (sHp sLay M ++ J) (some (.int v1)) (sHp sLay M1 ++ J) ∧ pEx 300 278 [.ref 91] (sHp sLay M1 ++ J) (some (.int v2)) (sHp sLay M2 ++ J) ∧ uG M2 := by
  obtain ⟨z1, M1, z2, M2, e1, e2, e3⟩ := u_two ko_117 ko_117 ko_r676 (bs := []) (by decide +kernel) hM (as := []) trivial J
  simp only [List.map_cons, List.map_nil, i32_of] at e1 e2
  exact ⟨Int32.ofInt z1, M1, Int32.ofInt z2, M2, e1, e2, e3⟩
theorem uo_38 {M : sM} (hM : uG M) (J : pHp)  : ∃ (v1 : Int32) (M1 : sM) (v2 : Int32) (M2 : sM), pEx 300 161 [.ref 0] (sHp sLay M ++ J) (some (.int v1)) (sHp sLay M1 ++ J) ∧ pEx 300 279 [.ref 91] (sHp sLay M1 ++ J) (some (.int v2)) (sHp sLay M2 ++ J) ∧ uG M2 := by
  obtain ⟨z1, M1, z2, M2, e1, e2, e3⟩ := u_two ko_119 ko_119 ko_r677 (bs := []) (by decide +kernel) hM (as := []) trivial J
  simp only [List.map_cons, List.map_nil, i32_of] at e1 e2
  exact ⟨Int32.ofInt z1, M1, Int32.ofInt z2, M2, e1, e2, e3⟩
theorem uo_39 {M : sM} (hM : uG M) (J : pHp)  : ∃ (v1 : Int32) (M1 : sM) (v2 : Int32) (M2 : sM), pEx 300 162 [.ref 0] (sHp sLay M ++ J) (some (.int v1)) (sHp sLay M1 ++ J) ∧ pEx 300 280 [.ref 91] (sHp sLay M1 ++ J) (some (.int v2)) (sHp sLay M2 ++ J) ∧ uG M2 := by
  obtain ⟨z1, M1, z2, M2, e1, e2, e3⟩ := u_two ko_121 ko_121 ko_r678 (bs := []) (by decide +kernel) hM (as := []) trivial J
  simp only [List.map_cons, List.map_nil, i32_of] at e1 e2
  exact ⟨Int32.ofInt z1, M1, Int32.ofInt z2, M2, e1, e2, e3⟩
theorem uo_40 {M : sM} (hM : uG M) (J : pHp) (x1 : Int32) : ∃ (v1 : Int32) (M1 : sM) (v2 : Int32) (M2 : sM), pEx 300 163 [.ref 0, .int x1] (sHp sLay M ++ J) (some (.int v1)) (sHp sLay M1 ++ J) ∧ pEx 300 281 [.ref 91, .int x1] (sHp sLay M1 ++ J) (some (.int v2)) (sHp sLay M2 ++ J) ∧ uG M2 := by
  obtain ⟨z1, M1, z2, M2, e1, e2, e3⟩ := u_two ko_123 ko_281 ko_r679 (bs := [false]) (by decide +kernel) hM (as := [x1.toInt]) ⟨⟨uarg_i _, fun h => nomatch h⟩, trivial⟩ J
  simp only [List.map_cons, List.map_nil, i32_of] at e1 e2
  exact ⟨Int32.ofInt z1, M1, Int32.ofInt z2, M2, e1, e2, e3⟩
