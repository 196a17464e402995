/-! THE OPERATIONS on both objects (by program, wip/p2/mku.py). -/
theorem ub01 {x : Int32} (h : x = 0 ∨ x = 1) : 0 ≤ x.toInt ∧ x.toInt ≤ 1 := by
  rcases h with rfl | rfl <;> decide
theorem uo_2 {M : sM} (hM : uG M) (J : pHp) (x1 : Int32) : ∃ (v1 : Int32) (M1 : sM) (v2 : Int32) (M2 : sM), pEx 300 70 [.ref 0, .int x1] (sHp sLay M ++ J) (some (.int v1)) (sHp sLay M1 ++ J) ∧ pEx 300 201 [.ref 91, .int x1] (sHp sLay M1 ++ J) (some (.int v2)) (sHp sLay M2 ++ J) ∧ uG M2 := by
  obtain ⟨z1, M1, z2, M2, e1, e2, e3⟩ := u_two ko_6 ko_6 ko_r581 (bs := [false]) (by decide +kernel) hM (as := [x1.toInt]) ⟨⟨uarg_i _, fun h => nomatch h⟩, trivial⟩ J
  simp only [List.map_cons, List.map_nil, i32_of] at e1 e2
  exact ⟨Int32.ofInt z1, M1, Int32.ofInt z2, M2, e1, e2, e3⟩
theorem uo_3 {M : sM} (hM : uG M) (J : pHp) (x1 : Int32) (x2 : Int32) : ∃ (v1 : Int32) (M1 : sM) (v2 : Int32) (M2 : sM), pEx 300 71 [.ref 0, .int x1, .int x2] (sHp sLay M ++ J) (some (.int v1)) (sHp sLay M1 ++ J) ∧ pEx 300 202 [.ref 91, .int x1, .int x2] (sHp sLay M1 ++ J) (some (.int v2)) (sHp sLay M2 ++ J) ∧ uG M2 := by
  obtain ⟨z1, M1, z2, M2, e1, e2, e3⟩ := u_two ko_10 ko_205 ko_r585 (bs := [false, false]) (by decide +kernel) hM (as := [x1.toInt, x2.toInt]) ⟨⟨uarg_i _, fun h => nomatch h⟩, ⟨⟨uarg_i _, fun h => nomatch h⟩, trivial⟩⟩ J
  simp only [List.map_cons, List.map_nil, i32_of] at e1 e2
  exact ⟨Int32.ofInt z1, M1, Int32.ofInt z2, M2, e1, e2, e3⟩
theorem uo_5 {M : sM} (hM : uG M) (J : pHp) (x1 : Int32) (x2 : Int32) : ∃ (v1 : Int32) (M1 : sM) (v2 : Int32) (M2 : sM), pEx 300 72 [.ref 0, .int x1, .int x2] (sHp sLay M ++ J) (some (.int v1)) (sHp sLay M1 ++ J) ∧ pEx 300 206 [.ref 91, .int x1, .int x2] (sHp sLay M1 ++ J) (some (.int v2)) (sHp sLay M2 ++ J) ∧ uG M2 := by
  obtain ⟨z1, M1, z2, M2, e1, e2, e3⟩ := u_two ko_12 ko_207 ko_r591 (bs := [false, false]) (by decide +kernel) hM (as := [x1.toInt, x2.toInt]) ⟨⟨uarg_i _, fun h => nomatch h⟩, ⟨⟨uarg_i _, fun h => nomatch h⟩, trivial⟩⟩ J
  simp only [List.map_cons, List.map_nil, i32_of] at e1 e2
  exact ⟨Int32.ofInt z1, M1, Int32.ofInt z2, M2, e1, e2, e3⟩
theorem uo_6 {M : sM} (hM : uG M) (J : pHp) (x1 : Int32) (x2 : Int32) : ∃ (v1 : Int32) (M1 : sM) (v2 : Int32) (M2 : sM), pEx 300 74 [.ref 0, .int x1, .int x2] (sHp sLay M ++ J) (some (.int v1)) (sHp sLay M1 ++ J) ∧ pEx 300 208 [.ref 91, .int x1, .int x2] (sHp sLay M1 ++ J) (some (.int v2)) (sHp sLay M2 ++ J) ∧ uG M2 := by
  obtain ⟨z1, M1, z2, M2, e1, e2, e3⟩ := u_two ko_14 ko_209 ko_r593 (bs := [false, false]) (by decide +kernel) hM (as := [x1.toInt, x2.toInt]) ⟨⟨uarg_i _, fun h => nomatch h⟩, ⟨⟨uarg_i _, fun h => nomatch h⟩, trivial⟩⟩ J
  simp only [List.map_cons, List.map_nil, i32_of] at e1 e2
  exact ⟨Int32.ofInt z1, M1, Int32.ofInt z2, M2, e1, e2, e3⟩
theorem uo_7 {M : sM} (hM : uG M) (J : pHp) (x1 : Int32) (x2 : Int32) (x3 : Int32) : ∃ (v1 : Int32) (M1 : sM) (v2 : Int32) (M2 : sM), pEx 300 76 [.ref 0, .int x1, .int x2, .int x3] (sHp sLay M ++ J) (some (.int v1)) (sHp sLay M1 ++ J) ∧ pEx 300 210 [.ref 91, .int x1, .int x2, .int x3] (sHp sLay M1 ++ J) (some (.int v2)) (sHp sLay M2 ++ J) ∧ uG M2 := by
  obtain ⟨z1, M1, z2, M2, e1, e2, e3⟩ := u_two ko_26 ko_215 ko_r606 (bs := [false, false, false]) (by decide +kernel) hM (as := [x1.toInt, x2.toInt, x3.toInt]) ⟨⟨uarg_i _, fun h => nomatch h⟩, ⟨⟨uarg_i _, fun h => nomatch h⟩, ⟨⟨uarg_i _, fun h => nomatch h⟩, trivial⟩⟩⟩ J
  simp only [List.map_cons, List.map_nil, i32_of] at e1 e2
  exact ⟨Int32.ofInt z1, M1, Int32.ofInt z2, M2, e1, e2, e3⟩
theorem uo_8 {M : sM} (hM : uG M) (J : pHp) (x1 : Int32) (x2 : Int32) : ∃ (v1 : Int32) (M1 : sM) (v2 : Int32) (M2 : sM), pEx 300 88 [.ref 0, .int x1, .int x2] (sHp sLay M ++ J) (some (.int v1)) (sHp sLay M1 ++ J) ∧ pEx 300 220 [.ref 91, .int x1, .int x2] (sHp sLay M1 ++ J) (some (.int v2)) (sHp sLay M2 ++ J) ∧ uG M2 := by
  obtain ⟨z1, M1, z2, M2, e1, e2, e3⟩ := u_two ko_30 ko_219 ko_r611 (bs := [false, false]) (by decide +kernel) hM (as := [x1.toInt, x2.toInt]) ⟨⟨uarg_i _, fun h => nomatch h⟩, ⟨⟨uarg_i _, fun h => nomatch h⟩, trivial⟩⟩ J
  simp only [List.map_cons, List.map_nil, i32_of] at e1 e2
  exact ⟨Int32.ofInt z1, M1, Int32.ofInt z2, M2, e1, e2, e3⟩
theorem uo_9 {M : sM} (hM : uG M) (J : pHp) (x1 : Int32) (x2 : Int32) : ∃ (v1 : Int32) (M1 : sM) (v2 : Int32) (M2 : sM), pEx 300 90 [.ref 0, .int x1, .int x2] (sHp sLay M ++ J) (some (.int v1)) (sHp sLay M1 ++ J) ∧ pEx 300 223 [.ref 91, .int x1, .int x2] (sHp sLay M1 ++ J) (some (.int v2)) (sHp sLay M2 ++ J) ∧ uG M2 := by
  obtain ⟨z1, M1, z2, M2, e1, e2, e3⟩ := u_two ko_34 ko_223 ko_r614 (bs := [false, false]) (by decide +kernel) hM (as := [x1.toInt, x2.toInt]) ⟨⟨uarg_i _, fun h => nomatch h⟩, ⟨⟨uarg_i _, fun h => nomatch h⟩, trivial⟩⟩ J
  simp only [List.map_cons, List.map_nil, i32_of] at e1 e2
  exact ⟨Int32.ofInt z1, M1, Int32.ofInt z2, M2, e1, e2, e3⟩
theorem uo_10 {M : sM} (hM : uG M) (J : pHp) (x1 : Int32) (x2 : Int32) (x3 : Int32) (x4 : Int32) : ∃ (v1 : Int64) (M1 : sM) (v2 : Int64) (M2 : sM), pEx 300 94 [.ref 0, .int x1, .int x2, .int x3, .int x4] (sHp sLay M ++ J) (some (.long v1)) (sHp sLay M1 ++ J) ∧ pEx 300 226 [.ref 91, .int x1, .int x2, .int x3, .int x4] (sHp sLay M1 ++ J) (some (.long v2)) (sHp sLay M2 ++ J) ∧ uG M2 := by
  obtain ⟨z1, M1, z2, M2, e1, e2, e3⟩ := u_two ko_37 ko_224 ko_r615 (bs := [false, false, false, false]) (by decide +kernel) hM (as := [x1.toInt, x2.toInt, x3.toInt, x4.toInt]) ⟨⟨uarg_i _, fun h => nomatch h⟩, ⟨⟨uarg_i _, fun h => nomatch h⟩, ⟨⟨uarg_i _, fun h => nomatch h⟩, ⟨⟨uarg_i _, fun h => nomatch h⟩, trivial⟩⟩⟩⟩ J
  simp only [List.map_cons, List.map_nil, i32_of] at e1 e2
  exact ⟨Int64.ofInt z1, M1, Int64.ofInt z2, M2, e1, e2, e3⟩
theorem uo_11 {M : sM} (hM : uG M) (J : pHp) (x1 : Int32) (x2 : Int32) (hb2 : x2 = 0 ∨ x2 = 1) : ∃ (v1 : Int32) (M1 : sM) (v2 : Int32) (M2 : sM), pEx 300 95 [.ref 0, .int x1, .int x2] (sHp sLay M ++ J) (some (.int v1)) (sHp sLay M1 ++ J) ∧ pEx 300 227 [.ref 91, .int x1, .int x2] (sHp sLay M1 ++ J) (some (.int v2)) (sHp sLay M2 ++ J) ∧ uG M2 := by
  obtain ⟨z1, M1, z2, M2, e1, e2, e3⟩ := u_two ko_40 ko_225 ko_r620 (bs := [false, true]) (by decide +kernel) hM (as := [x1.toInt, x2.toInt]) ⟨⟨uarg_i _, fun h => nomatch h⟩, ⟨⟨uarg_i _, fun _ => ub01 hb2⟩, trivial⟩⟩ J
  simp only [List.map_cons, List.map_nil, i32_of] at e1 e2
  exact ⟨Int32.ofInt z1, M1, Int32.ofInt z2, M2, e1, e2, e3⟩
theorem uo_12 {M : sM} (hM : uG M) (J : pHp) (x1 : Int32) (x2 : Int32) : ∃ (v1 : Int32) (M1 : sM) (v2 : Int32) (M2 : sM), pEx 300 98 [.ref 0, .int x1, .int x2] (sHp sLay M ++ J) (some (.int v1)) (sHp sLay M1 ++ J) ∧ pEx 300 231 [.ref 91, .int x1, .int x2] (sHp sLay M1 ++ J) (some (.int v2)) (sHp sLay M2 ++ J) ∧ uG M2 := by
  obtain ⟨z1, M1, z2, M2, e1, e2, e3⟩ := u_two ko_41 ko_226 ko_r621 (bs := [false, false]) (by decide +kernel) hM (as := [x1.toInt, x2.toInt]) ⟨⟨uarg_i _, fun h => nomatch h⟩, ⟨⟨uarg_i _, fun h => nomatch h⟩, trivial⟩⟩ J
  simp only [List.map_cons, List.map_nil, i32_of] at e1 e2
  exact ⟨Int32.ofInt z1, M1, Int32.ofInt z2, M2, e1, e2, e3⟩
theorem uo_13 {M : sM} (hM : uG M) (J : pHp) (x1 : Int32) : ∃ (v1 : Int32) (M1 : sM) (v2 : Int32) (M2 : sM), pEx 300 99 [.ref 0, .int x1] (sHp sLay M ++ J) (some (.int v1)) (sHp sLay M1 ++ J) ∧ pEx 300 232 [.ref 91, .int x1] (sHp sLay M1 ++ J) (some (.int v2)) (sHp sLay M2 ++ J) ∧ uG M2 := by
  obtain ⟨z1, M1, z2, M2, e1, e2, e3⟩ := u_two ko_42 ko_42 ko_r622 (bs := [false]) (by decide +kernel) hM (as := [x1.toInt]) ⟨⟨uarg_i _, fun h => nomatch h⟩, trivial⟩ J
  simp only [List.map_cons, List.map_nil, i32_of] at e1 e2
  exact ⟨Int32.ofInt z1, M1, Int32.ofInt z2, M2, e1, e2, e3⟩
theorem uo_14 {M : sM} (hM : uG M) (J : pHp) (x1 : Int32) : ∃ (v1 : Int32) (M1 : sM) (v2 : Int32) (M2 : sM), pEx 300 100 [.ref 0, .int x1] (sHp sLay M ++ J) (some (.int v1)) (sHp sLay M1 ++ J) ∧ pEx 300 233 [.ref 91, .int x1] (sHp sLay M1 ++ J) (some (.int v2)) (sHp sLay M2 ++ J) ∧ uG M2 := by
  obtain ⟨z1, M1, z2, M2, e1, e2, e3⟩ := u_two ko_43 ko_43 ko_r623 (bs := [false]) (by decide +kernel) hM (as := [x1.toInt]) ⟨⟨uarg_i _, fun h => nomatch h⟩, trivial⟩ J
  simp only [List.map_cons, List.map_nil, i32_of] at e1 e2
  exact ⟨Int32.ofInt z1, M1, Int32.ofInt z2, M2, e1, e2, e3⟩
theorem uo_15 {M : sM} (hM : uG M) (J : pHp) (x1 : Int32) : ∃ (v1 : Int32) (M1 : sM) (v2 : Int32) (M2 : sM), pEx 300 101 [.ref 0, .int x1] (sHp sLay M ++ J) (some (.int v1)) (sHp sLay M1 ++ J) ∧ pEx 300 234 [.ref 91, .int x1] (sHp sLay M1 ++ J) (some (.int v2)) (sHp sLay M2 ++ J) ∧ uG M2 := by
  obtain ⟨z1, M1, z2, M2, e1, e2, e3⟩ := u_two ko_47 ko_229 ko_r628 (bs := [false]) (by decide +kernel) hM (as := [x1.toInt]) ⟨⟨uarg_i _, fun h => nomatch h⟩, trivial⟩ J
  simp only [List.map_cons, List.map_nil, i32_of] at e1 e2
  exact ⟨Int32.ofInt z1, M1, Int32.ofInt z2, M2, e1, e2, e3⟩
theorem uo_16 {M : sM} (hM : uG M) (J : pHp) (x1 : Int32) : ∃ (v1 : Int32) (M1 : sM) (v2 : Int32) (M2 : sM), pEx 300 105 [.ref 0, .int x1] (sHp sLay M ++ J) (some (.int v1)) (sHp sLay M1 ++ J) ∧ pEx 300 239 [.ref 91, .int x1] (sHp sLay M1 ++ J) (some (.int v2)) (sHp sLay M2 ++ J) ∧ uG M2 := by
  obtain ⟨z1, M1, z2, M2, e1, e2, e3⟩ := u_two ko_49 ko_49 ko_r629 (bs := [false]) (by decide +kernel) hM (as := [x1.toInt]) ⟨⟨uarg_i _, fun h => nomatch h⟩, trivial⟩ J
  simp only [List.map_cons, List.map_nil, i32_of] at e1 e2
  exact ⟨Int32.ofInt z1, M1, Int32.ofInt z2, M2, e1, e2, e3⟩
theorem uo_17 {M : sM} (hM : uG M) (J : pHp) (x1 : Int32) (x2 : Int32) : ∃ (v1 : Int32) (M1 : sM) (v2 : Int32) (M2 : sM), pEx 300 106 [.ref 0, .int x1, .int x2] (sHp sLay M ++ J) (some (.int v1)) (sHp sLay M1 ++ J) ∧ pEx 300 240 [.ref 91, .int x1, .int x2] (sHp sLay M1 ++ J) (some (.int v2)) (sHp sLay M2 ++ J) ∧ uG M2 := by
  obtain ⟨z1, M1, z2, M2, e1, e2, e3⟩ := u_two ko_51 ko_231 ko_r633 (bs := [false, false]) (by decide +kernel) hM (as := [x1.toInt, x2.toInt]) ⟨⟨uarg_i _, fun h => nomatch h⟩, ⟨⟨uarg_i _, fun h => nomatch h⟩, trivial⟩⟩ J
  simp only [List.map_cons, List.map_nil, i32_of] at e1 e2
  exact ⟨Int32.ofInt z1, M1, Int32.ofInt z2, M2, e1, e2, e3⟩
theorem uo_18 {M : sM} (hM : uG M) (J : pHp)  : ∃ (v1 : Int32) (M1 : sM) (v2 : Int32) (M2 : sM), pEx 300 108 [.ref 0] (sHp sLay M ++ J) (some (.int v1)) (sHp sLay M1 ++ J) ∧ pEx 300 244 [.ref 91] (sHp sLay M1 ++ J) (some (.int v2)) (sHp sLay M2 ++ J) ∧ uG M2 := by
  obtain ⟨z1, M1, z2, M2, e1, e2, e3⟩ := u_two ko_53 ko_233 ko_r635 (bs := []) (by decide +kernel) hM (as := []) trivial J
  simp only [List.map_cons, List.map_nil, i32_of] at e1 e2
  exact ⟨Int32.ofInt z1, M1, Int32.ofInt z2, M2, e1, e2, e3⟩
theorem uo_19 {M : sM} (hM : uG M) (J : pHp) (x1 : Int32) : ∃ (v1 : Int32) (M1 : sM) (v2 : Int32) (M2 : sM), pEx 300 110 [.ref 0, .int x1] (sHp sLay M ++ J) (some (.int v1)) (sHp sLay M1 ++ J) ∧ pEx 300 246 [.ref 91, .int x1] (sHp sLay M1 ++ J) (some (.int v2)) (sHp sLay M2 ++ J) ∧ uG M2 := by
  obtain ⟨z1, M1, z2, M2, e1, e2, e3⟩ := u_two ko_55 ko_234 ko_r636 (bs := [false]) (by decide +kernel) hM (as := [x1.toInt]) ⟨⟨uarg_i _, fun h => nomatch h⟩, trivial⟩ J
  simp only [List.map_cons, List.map_nil, i32_of] at e1 e2
  exact ⟨Int32.ofInt z1, M1, Int32.ofInt z2, M2, e1, e2, e3⟩
theorem uo_20 {M : sM} (hM : uG M) (J : pHp) (x1 : Int32) (x2 : Int32) : ∃ (v1 : Int32) (M1 : sM) (v2 : Int32) (M2 : sM), pEx 300 112 [.ref 0, .int x1, .int x2] (sHp sLay M ++ J) (some (.int v1)) (sHp sLay M1 ++ J) ∧ pEx 300 247 [.ref 91, .int x1, .int x2] (sHp sLay M1 ++ J) (some (.int v2)) (sHp sLay M2 ++ J) ∧ uG M2 := by
  obtain ⟨z1, M1, z2, M2, e1, e2, e3⟩ := u_two ko_69 ko_245 ko_r641 (bs := [false, false]) (by decide +kernel) hM (as := [x1.toInt, x2.toInt]) ⟨⟨uarg_i _, fun h => nomatch h⟩, ⟨⟨uarg_i _, fun h => nomatch h⟩, trivial⟩⟩ J
  simp only [List.map_cons, List.map_nil, i32_of] at e1 e2
  exact ⟨Int32.ofInt z1, M1, Int32.ofInt z2, M2, e1, e2, e3⟩
theorem uo_21 {M : sM} (hM : uG M) (J : pHp) (x1 : Int32) : ∃ (v1 : Int32) (M1 : sM) (v2 : Int32) (M2 : sM), pEx 300 125 [.ref 0, .int x1] (sHp sLay M ++ J) (some (.int v1)) (sHp sLay M1 ++ J) ∧ pEx 300 253 [.ref 91, .int x1] (sHp sLay M1 ++ J) (some (.int v2)) (sHp sLay M2 ++ J) ∧ uG M2 := by
  obtain ⟨z1, M1, z2, M2, e1, e2, e3⟩ := u_two ko_75 ko_248 ko_r648 (bs := [false]) (by decide +kernel) hM (as := [x1.toInt]) ⟨⟨uarg_i _, fun h => nomatch h⟩, trivial⟩ J
  simp only [List.map_cons, List.map_nil, i32_of] at e1 e2
  exact ⟨Int32.ofInt z1, M1, Int32.ofInt z2, M2, e1, e2, e3⟩
theorem uo_22 {M : sM} (hM : uG M) (J : pHp) (x1 : Int32) (x2 : Int32) : ∃ (v1 : Int32) (M1 : sM) (v2 : Int32) (M2 : sM), pEx 300 131 [.ref 0, .int x1, .int x2] (sHp sLay M ++ J) (some (.int v1)) (sHp sLay M1 ++ J) ∧ pEx 300 258 [.ref 91, .int x1, .int x2] (sHp sLay M1 ++ J) (some (.int v2)) (sHp sLay M2 ++ J) ∧ uG M2 := by
  obtain ⟨z1, M1, z2, M2, e1, e2, e3⟩ := u_two ko_76 ko_249 ko_r649 (bs := [false, false]) (by decide +kernel) hM (as := [x1.toInt, x2.toInt]) ⟨⟨uarg_i _, fun h => nomatch h⟩, ⟨⟨uarg_i _, fun h => nomatch h⟩, trivial⟩⟩ J
  simp only [List.map_cons, List.map_nil, i32_of] at e1 e2
  exact ⟨Int32.ofInt z1, M1, Int32.ofInt z2, M2, e1, e2, e3⟩
theorem uo_23 {M : sM} (hM : uG M) (J : pHp) (x1 : Int32) : ∃ (v1 : Int32) (M1 : sM) (v2 : Int32) (M2 : sM), pEx 300 132 [.ref 0, .int x1] (sHp sLay M ++ J) (some (.int v1)) (sHp sLay M1 ++ J) ∧ pEx 300 259 [.ref 91, .int x1] (sHp sLay M1 ++ J) (some (.int v2)) (sHp sLay M2 ++ J) ∧ uG M2 := by
  obtain ⟨z1, M1, z2, M2, e1, e2, e3⟩ := u_two ko_77 ko_250 ko_r651 (bs := [false]) (by decide +kernel) hM (as := [x1.toInt]) ⟨⟨uarg_i _, fun h => nomatch h⟩, trivial⟩ J
  simp only [List.map_cons, List.map_nil, i32_of] at e1 e2
  exact ⟨Int32.ofInt z1, M1, Int32.ofInt z2, M2, e1, e2, e3⟩
theorem uo_24 {M : sM} (hM : uG M) (J : pHp) (x1 : Int32) (x2 : Int32) (x3 : Int32) : ∃ (v1 : Int32) (M1 : sM) (v2 : Int32) (M2 : sM), pEx 300 133 [.ref 0, .int x1, .int x2, .int x3] (sHp sLay M ++ J) (some (.int v1)) (sHp sLay M1 ++ J) ∧ pEx 300 260 [.ref 91, .int x1, .int x2, .int x3] (sHp sLay M1 ++ J) (some (.int v2)) (sHp sLay M2 ++ J) ∧ uG M2 := by
  obtain ⟨z1, M1, z2, M2, e1, e2, e3⟩ := u_two ko_79 ko_252 ko_r654 (bs := [false, false, false]) (by decide +kernel) hM (as := [x1.toInt, x2.toInt, x3.toInt]) ⟨⟨uarg_i _, fun h => nomatch h⟩, ⟨⟨uarg_i _, fun h => nomatch h⟩, ⟨⟨uarg_i _, fun h => nomatch h⟩, trivial⟩⟩⟩ J
  simp only [List.map_cons, List.map_nil, i32_of] at e1 e2
  exact ⟨Int32.ofInt z1, M1, Int32.ofInt z2, M2, e1, e2, e3⟩
theorem uo_25 {M : sM} (hM : uG M) (J : pHp) (x1 : Int32) (x2 : Int32) : ∃ (v1 : Int32) (M1 : sM) (v2 : Int32) (M2 : sM), pEx 300 135 [.ref 0, .int x1, .int x2] (sHp sLay M ++ J) (some (.int v1)) (sHp sLay M1 ++ J) ∧ pEx 300 263 [.ref 91, .int x1, .int x2] (sHp sLay M1 ++ J) (some (.int v2)) (sHp sLay M2 ++ J) ∧ uG M2 := by
  obtain ⟨z1, M1, z2, M2, e1, e2, e3⟩ := u_two ko_80 ko_253 ko_r655 (bs := [false, false]) (by decide +kernel) hM (as := [x1.toInt, x2.toInt]) ⟨⟨uarg_i _, fun h => nomatch h⟩, ⟨⟨uarg_i _, fun h => nomatch h⟩, trivial⟩⟩ J
  simp only [List.map_cons, List.map_nil, i32_of] at e1 e2
  exact ⟨Int32.ofInt z1, M1, Int32.ofInt z2, M2, e1, e2, e3⟩
theorem uo_26 {M : sM} (hM : uG M) (J : pHp) (x1 : Int32) (x2 : Int32) : ∃ (v1 : Int32) (M1 : sM) (v2 : Int32) (M2 : sM), pEx 300 136 [.ref 0, .int x1, .int x2] (sHp sLay M ++ J) (some (.int v1)) (sHp sLay M1 ++ J) ∧ pEx 300 264 [.ref 91, .int x1, .int x2] (sHp sLay M1 ++ J) (some (.int v2)) (sHp sLay M2 ++ J) ∧ uG M2 := by
  obtain ⟨z1, M1, z2, M2, e1, e2, e3⟩ := u_two ko_81 ko_254 ko_r656 (bs := [false, false]) (by decide +kernel) hM (as := [x1.toInt, x2.toInt]) ⟨⟨uarg_i _, fun h => nomatch h⟩, ⟨⟨uarg_i _, fun h => nomatch h⟩, trivial⟩⟩ J
  simp only [List.map_cons, List.map_nil, i32_of] at e1 e2
  exact ⟨Int32.ofInt z1, M1, Int32.ofInt z2, M2, e1, e2, e3⟩
theorem uo_27 {M : sM} (hM : uG M) (J : pHp) (x1 : Int32) : ∃ (v1 : Int32) (M1 : sM) (v2 : Int32) (M2 : sM), pEx 300 137 [.ref 0, .int x1] (sHp sLay M ++ J) (some (.int v1)) (sHp sLay M1 ++ J) ∧ pEx 300 252 [.ref 91, .int x1] (sHp sLay M1 ++ J) (some (.int v2)) (sHp sLay M2 ++ J) ∧ uG M2 := by
  obtain ⟨z1, M1, z2, M2, e1, e2, e3⟩ := u_two ko_84 ko_257 ko_r657 (bs := [false]) (by decide +kernel) hM (as := [x1.toInt]) ⟨⟨uarg_i _, fun h => nomatch h⟩, trivial⟩ J
  simp only [List.map_cons, List.map_nil, i32_of] at e1 e2
  exact ⟨Int32.ofInt z1, M1, Int32.ofInt z2, M2, e1, e2, e3⟩
theorem uo_28 {M : sM} (hM : uG M) (J : pHp) (x1 : Int32) : ∃ (v1 : Int32) (M1 : sM) (v2 : Int32) (M2 : sM), pEx 300 140 [.ref 0, .int x1] (sHp sLay M ++ J) (some (.int v1)) (sHp sLay M1 ++ J) ∧ pEx 300 265 [.ref 91, .int x1] (sHp sLay M1 ++ J) (some (.int v2)) (sHp sLay M2 ++ J) ∧ uG M2 := by
  obtain ⟨z1, M1, z2, M2, e1, e2, e3⟩ := u_two ko_86 ko_259 ko_r658 (bs := [false]) (by decide +kernel) hM (as := [x1.toInt]) ⟨⟨uarg_i _, fun h => nomatch h⟩, trivial⟩ J
  simp only [List.map_cons, List.map_nil, i32_of] at e1 e2
  exact ⟨Int32.ofInt z1, M1, Int32.ofInt z2, M2, e1, e2, e3⟩
theorem up_88 {ρ : Nat → Int} {M M' : sM} {rv : Option sV} (h : qPost kc_88 ρ M rv M') : ∃ ρ' : Nat → Int, (∀ a, a < 7 → ρ' a = ρ a) ∧ rv = qRv 0 (ρ' 7) ∧ (M' 77 6 = ρ' 8) ∧ ((0 ≤ 1 * ρ' 0 + (1 * ρ' 7 + 0) ∧ 0 ≤ -1 * ρ' 0 + (-1 * ρ' 7 + 0) ∧ 0 ≤ -1 * ρ' 6 + (1 * ρ' 8 + 0) ∧ 0 ≤ 1 * ρ' 6 + (-1 * ρ' 8 + 0) ∧ 0 ≤ -1 * ρ' 0 + (-1 * ρ' 1 + 0) ∧ 0 ≤ 1 * ρ' 8 + 0 ∧ 0 ≤ 24 * ρ' 0 + (-1 * ρ' 8 + 0)) ∨ (0 ≤ 1 * ρ' 0 + (1 * ρ' 7 + 0) ∧ 0 ≤ -1 * ρ' 0 + (-1 * ρ' 7 + 0) ∧ 0 ≤ -1 * ρ' 6 + (1 * ρ' 8 + 0) ∧ 0 ≤ 1 * ρ' 6 + (-1 * ρ' 8 + 0) ∧ 0 ≤ 1 * ρ' 1 + (-1 * ρ' 5 + 0) ∧ 0 ≤ 1 * ρ' 8 + 0 ∧ 0 ≤ 24 * ρ' 0 + (-1 * ρ' 8 + 0)) ∨ (0 ≤ 1 * ρ' 0 + (1 * ρ' 7 + 0) ∧ 0 ≤ -1 * ρ' 0 + (-1 * ρ' 7 + 0) ∧ 0 ≤ -1 * ρ' 6 + (1 * ρ' 8 + 0) ∧ 0 ≤ 1 * ρ' 6 + (-1 * ρ' 8 + 0) ∧ 0 ≤ -1 * ρ' 0 + (-1 * ρ' 2 + 0) ∧ 0 ≤ 1 * ρ' 8 + 0 ∧ 0 ≤ 24 * ρ' 0 + (-1 * ρ' 8 + 0)) ∨ (0 ≤ 1 * ρ' 0 + (1 * ρ' 7 + 0) ∧ 0 ≤ -1 * ρ' 0 + (-1 * ρ' 7 + 0) ∧ 0 ≤ -1 * ρ' 6 + (1 * ρ' 8 + 0) ∧ 0 ≤ 1 * ρ' 6 + (-1 * ρ' 8 + 0) ∧ 0 ≤ -24 * ρ' 0 + (1 * ρ' 2 + 0) ∧ 0 ≤ 1 * ρ' 8 + 0 ∧ 0 ≤ 24 * ρ' 0 + (-1 * ρ' 8 + 0)) ∨ (0 ≤ 1 * ρ' 0 + (1 * ρ' 7 + 0) ∧ 0 ≤ -1 * ρ' 0 + (-1 * ρ' 7 + 0) ∧ 0 ≤ -1 * ρ' 6 + (1 * ρ' 8 + 0) ∧ 0 ≤ 1 * ρ' 6 + (-1 * ρ' 8 + 0) ∧ 0 ≤ -10000 * ρ' 0 + (-1 * ρ' 3 + 0) ∧ 0 ≤ 1 * ρ' 8 + 0 ∧ 0 ≤ 24 * ρ' 0 + (-1 * ρ' 8 + 0)) ∨ (0 ≤ 1 * ρ' 0 + (1 * ρ' 7 + 0) ∧ 0 ≤ -1 * ρ' 0 + (-1 * ρ' 7 + 0) ∧ 0 ≤ -1 * ρ' 6 + (1 * ρ' 8 + 0) ∧ 0 ≤ 1 * ρ' 6 + (-1 * ρ' 8 + 0) ∧ 0 ≤ -10000 * ρ' 0 + (1 * ρ' 4 + 0) ∧ 0 ≤ 1 * ρ' 8 + 0 ∧ 0 ≤ 24 * ρ' 0 + (-1 * ρ' 8 + 0)) ∨ (0 ≤ 1 * ρ' 0 + (1 * ρ' 7 + 0) ∧ 0 ≤ -1 * ρ' 0 + (-1 * ρ' 7 + 0) ∧ 0 ≤ -1 * ρ' 6 + (1 * ρ' 8 + 0) ∧ 0 ≤ 1 * ρ' 6 + (-1 * ρ' 8 + 0) ∧ 0 ≤ -1 * ρ' 0 + (1 * ρ' 3 + (-1 * ρ' 4 + 0)) ∧ 0 ≤ 1 * ρ' 8 + 0 ∧ 0 ≤ 24 * ρ' 0 + (-1 * ρ' 8 + 0)) ∨ (0 ≤ 1 * ρ' 0 + (1 * ρ' 7 + 0) ∧ 0 ≤ -1 * ρ' 0 + (-1 * ρ' 7 + 0) ∧ 0 ≤ -1 * ρ' 6 + (1 * ρ' 8 + 0) ∧ 0 ≤ 1 * ρ' 6 + (-1 * ρ' 8 + 0) ∧ 0 ≤ -24 * ρ' 0 + (1 * ρ' 6 + 0) ∧ 0 ≤ 1 * ρ' 8 + 0 ∧ 0 ≤ 24 * ρ' 0 + (-1 * ρ' 8 + 0)) ∨ (0 ≤ -1 * ρ' 6 + (1 * ρ' 7 + 0) ∧ 0 ≤ 1 * ρ' 6 + (-1 * ρ' 7 + 0) ∧ 0 ≤ -1 * ρ' 0 + (-1 * ρ' 6 + (1 * ρ' 8 + 0)) ∧ 0 ≤ 1 * ρ' 0 + (1 * ρ' 6 + (-1 * ρ' 8 + 0)) ∧ 0 ≤ 1 * ρ' 1 + 0 ∧ 0 ≤ -1 * ρ' 0 + (-1 * ρ' 1 + (1 * ρ' 5 + 0)) ∧ 0 ≤ 1 * ρ' 2 + 0 ∧ 0 ≤ 23 * ρ' 0 + (-1 * ρ' 2 + 0) ∧ 0 ≤ 9999 * ρ' 0 + (1 * ρ' 3 + 0) ∧ 0 ≤ 9999 * ρ' 0 + (-1 * ρ' 4 + 0) ∧ 0 ≤ -1 * ρ' 3 + (1 * ρ' 4 + 0) ∧ 0 ≤ 23 * ρ' 0 + (-1 * ρ' 6 + 0) ∧ 0 ≤ 1 * ρ' 8 + 0 ∧ 0 ≤ 24 * ρ' 0 + (-1 * ρ' 8 + 0))) ∧ sI M' ∧ sF (cS kc_88) M M' := by
  obtain ⟨ρ', h1, h2, ⟨al, hal, hf⟩, h3, h4, h5⟩ := h
  refine ⟨ρ', h1, h2, h3 (77, 6, 8) (List.mem_of_getElem? (i := 0) rfl), ?_, h4, h5⟩
  have hal : al ∈ ([[[(1, 0), (1, 7)], [(-1, 0), (-1, 7)], [(-1, 6), (1, 8)], [(1, 6), (-1, 8)], [(-1, 0), (-1, 1)], [(1, 8)], [(24, 0), (-1, 8)]], [[(1, 0), (1, 7)], [(-1, 0), (-1, 7)], [(-1, 6), (1, 8)], [(1, 6), (-1, 8)], [(1, 1), (-1, 5)], [(1, 8)], [(24, 0), (-1, 8)]], [[(1, 0), (1, 7)], [(-1, 0), (-1, 7)], [(-1, 6), (1, 8)], [(1, 6), (-1, 8)], [(-1, 0), (-1, 2)], [(1, 8)], [(24, 0), (-1, 8)]], [[(1, 0), (1, 7)], [(-1, 0), (-1, 7)], [(-1, 6), (1, 8)], [(1, 6), (-1, 8)], [(-24, 0), (1, 2)], [(1, 8)], [(24, 0), (-1, 8)]], [[(1, 0), (1, 7)], [(-1, 0), (-1, 7)], [(-1, 6), (1, 8)], [(1, 6), (-1, 8)], [(-10000, 0), (-1, 3)], [(1, 8)], [(24, 0), (-1, 8)]], [[(1, 0), (1, 7)], [(-1, 0), (-1, 7)], [(-1, 6), (1, 8)], [(1, 6), (-1, 8)], [(-10000, 0), (1, 4)], [(1, 8)], [(24, 0), (-1, 8)]], [[(1, 0), (1, 7)], [(-1, 0), (-1, 7)], [(-1, 6), (1, 8)], [(1, 6), (-1, 8)], [(-1, 0), (1, 3), (-1, 4)], [(1, 8)], [(24, 0), (-1, 8)]], [[(1, 0), (1, 7)], [(-1, 0), (-1, 7)], [(-1, 6), (1, 8)], [(1, 6), (-1, 8)], [(-24, 0), (1, 6)], [(1, 8)], [(24, 0), (-1, 8)]], [[(-1, 6), (1, 7)], [(1, 6), (-1, 7)], [(-1, 0), (-1, 6), (1, 8)], [(1, 0), (1, 6), (-1, 8)], [(1, 1)], [(-1, 0), (-1, 1), (1, 5)], [(1, 2)], [(23, 0), (-1, 2)], [(9999, 0), (1, 3)], [(9999, 0), (-1, 4)], [(-1, 3), (1, 4)], [(23, 0), (-1, 6)], [(1, 8)], [(24, 0), (-1, 8)]]] : List (List qF)) := hal
  simp only [List.mem_cons, List.not_mem_nil, or_false] at hal
  rcases hal with rfl | rfl | rfl | rfl | rfl | rfl | rfl | rfl | rfl
  · exact Or.inl ⟨hf [(1, 0), (1, 7)] (List.mem_of_getElem? (i := 0) rfl), hf [(-1, 0), (-1, 7)] (List.mem_of_getElem? (i := 1) rfl), hf [(-1, 6), (1, 8)] (List.mem_of_getElem? (i := 2) rfl), hf [(1, 6), (-1, 8)] (List.mem_of_getElem? (i := 3) rfl), hf [(-1, 0), (-1, 1)] (List.mem_of_getElem? (i := 4) rfl), hf [(1, 8)] (List.mem_of_getElem? (i := 5) rfl), hf [(24, 0), (-1, 8)] (List.mem_of_getElem? (i := 6) rfl)⟩
  · exact Or.inr (Or.inl ⟨hf [(1, 0), (1, 7)] (List.mem_of_getElem? (i := 0) rfl), hf [(-1, 0), (-1, 7)] (List.mem_of_getElem? (i := 1) rfl), hf [(-1, 6), (1, 8)] (List.mem_of_getElem? (i := 2) rfl), hf [(1, 6), (-1, 8)] (List.mem_of_getElem? (i := 3) rfl), hf [(1, 1), (-1, 5)] (List.mem_of_getElem? (i := 4) rfl), hf [(1, 8)] (List.mem_of_getElem? (i := 5) rfl), hf [(24, 0), (-1, 8)] (List.mem_of_getElem? (i := 6) rfl)⟩)
  · exact Or.inr (Or.inr (Or.inl ⟨hf [(1, 0), (1, 7)] (List.mem_of_getElem? (i := 0) rfl), hf [(-1, 0), (-1, 7)] (List.mem_of_getElem? (i := 1) rfl), hf [(-1, 6), (1, 8)] (List.mem_of_getElem? (i := 2) rfl), hf [(1, 6), (-1, 8)] (List.mem_of_getElem? (i := 3) rfl), hf [(-1, 0), (-1, 2)] (List.mem_of_getElem? (i := 4) rfl), hf [(1, 8)] (List.mem_of_getElem? (i := 5) rfl), hf [(24, 0), (-1, 8)] (List.mem_of_getElem? (i := 6) rfl)⟩))
  · exact Or.inr (Or.inr (Or.inr (Or.inl ⟨hf [(1, 0), (1, 7)] (List.mem_of_getElem? (i := 0) rfl), hf [(-1, 0), (-1, 7)] (List.mem_of_getElem? (i := 1) rfl), hf [(-1, 6), (1, 8)] (List.mem_of_getElem? (i := 2) rfl), hf [(1, 6), (-1, 8)] (List.mem_of_getElem? (i := 3) rfl), hf [(-24, 0), (1, 2)] (List.mem_of_getElem? (i := 4) rfl), hf [(1, 8)] (List.mem_of_getElem? (i := 5) rfl), hf [(24, 0), (-1, 8)] (List.mem_of_getElem? (i := 6) rfl)⟩)))
  · exact Or.inr (Or.inr (Or.inr (Or.inr (Or.inl ⟨hf [(1, 0), (1, 7)] (List.mem_of_getElem? (i := 0) rfl), hf [(-1, 0), (-1, 7)] (List.mem_of_getElem? (i := 1) rfl), hf [(-1, 6), (1, 8)] (List.mem_of_getElem? (i := 2) rfl), hf [(1, 6), (-1, 8)] (List.mem_of_getElem? (i := 3) rfl), hf [(-10000, 0), (-1, 3)] (List.mem_of_getElem? (i := 4) rfl), hf [(1, 8)] (List.mem_of_getElem? (i := 5) rfl), hf [(24, 0), (-1, 8)] (List.mem_of_getElem? (i := 6) rfl)⟩))))
  · exact Or.inr (Or.inr (Or.inr (Or.inr (Or.inr (Or.inl ⟨hf [(1, 0), (1, 7)] (List.mem_of_getElem? (i := 0) rfl), hf [(-1, 0), (-1, 7)] (List.mem_of_getElem? (i := 1) rfl), hf [(-1, 6), (1, 8)] (List.mem_of_getElem? (i := 2) rfl), hf [(1, 6), (-1, 8)] (List.mem_of_getElem? (i := 3) rfl), hf [(-10000, 0), (1, 4)] (List.mem_of_getElem? (i := 4) rfl), hf [(1, 8)] (List.mem_of_getElem? (i := 5) rfl), hf [(24, 0), (-1, 8)] (List.mem_of_getElem? (i := 6) rfl)⟩)))))
  · exact Or.inr (Or.inr (Or.inr (Or.inr (Or.inr (Or.inr (Or.inl ⟨hf [(1, 0), (1, 7)] (List.mem_of_getElem? (i := 0) rfl), hf [(-1, 0), (-1, 7)] (List.mem_of_getElem? (i := 1) rfl), hf [(-1, 6), (1, 8)] (List.mem_of_getElem? (i := 2) rfl), hf [(1, 6), (-1, 8)] (List.mem_of_getElem? (i := 3) rfl), hf [(-1, 0), (1, 3), (-1, 4)] (List.mem_of_getElem? (i := 4) rfl), hf [(1, 8)] (List.mem_of_getElem? (i := 5) rfl), hf [(24, 0), (-1, 8)] (List.mem_of_getElem? (i := 6) rfl)⟩))))))
  · exact Or.inr (Or.inr (Or.inr (Or.inr (Or.inr (Or.inr (Or.inr (Or.inl ⟨hf [(1, 0), (1, 7)] (List.mem_of_getElem? (i := 0) rfl), hf [(-1, 0), (-1, 7)] (List.mem_of_getElem? (i := 1) rfl), hf [(-1, 6), (1, 8)] (List.mem_of_getElem? (i := 2) rfl), hf [(1, 6), (-1, 8)] (List.mem_of_getElem? (i := 3) rfl), hf [(-24, 0), (1, 6)] (List.mem_of_getElem? (i := 4) rfl), hf [(1, 8)] (List.mem_of_getElem? (i := 5) rfl), hf [(24, 0), (-1, 8)] (List.mem_of_getElem? (i := 6) rfl)⟩)))))))
  · exact Or.inr (Or.inr (Or.inr (Or.inr (Or.inr (Or.inr (Or.inr (Or.inr (⟨hf [(-1, 6), (1, 7)] (List.mem_of_getElem? (i := 0) rfl), hf [(1, 6), (-1, 7)] (List.mem_of_getElem? (i := 1) rfl), hf [(-1, 0), (-1, 6), (1, 8)] (List.mem_of_getElem? (i := 2) rfl), hf [(1, 0), (1, 6), (-1, 8)] (List.mem_of_getElem? (i := 3) rfl), hf [(1, 1)] (List.mem_of_getElem? (i := 4) rfl), hf [(-1, 0), (-1, 1), (1, 5)] (List.mem_of_getElem? (i := 5) rfl), hf [(1, 2)] (List.mem_of_getElem? (i := 6) rfl), hf [(23, 0), (-1, 2)] (List.mem_of_getElem? (i := 7) rfl), hf [(9999, 0), (1, 3)] (List.mem_of_getElem? (i := 8) rfl), hf [(9999, 0), (-1, 4)] (List.mem_of_getElem? (i := 9) rfl), hf [(-1, 3), (1, 4)] (List.mem_of_getElem? (i := 10) rfl), hf [(23, 0), (-1, 6)] (List.mem_of_getElem? (i := 11) rfl), hf [(1, 8)] (List.mem_of_getElem? (i := 12) rfl), hf [(24, 0), (-1, 8)] (List.mem_of_getElem? (i := 13) rfl)⟩))))))))
theorem up_260 {ρ : Nat → Int} {M M' : sM} {rv : Option sV} (h : qPost kc_260 ρ M rv M') : ∃ ρ' : Nat → Int, (∀ a, a < 7 → ρ' a = ρ a) ∧ rv = qRv 0 (ρ' 7) ∧ (M' 77 6 = ρ' 8) ∧ ((0 ≤ 1 * ρ' 0 + (1 * ρ' 7 + 0) ∧ 0 ≤ -1 * ρ' 0 + (-1 * ρ' 7 + 0) ∧ 0 ≤ -1 * ρ' 6 + (1 * ρ' 8 + 0) ∧ 0 ≤ 1 * ρ' 6 + (-1 * ρ' 8 + 0) ∧ 0 ≤ -1 * ρ' 0 + (-1 * ρ' 1 + 0) ∧ 0 ≤ 1 * ρ' 8 + 0 ∧ 0 ≤ 24 * ρ' 0 + (-1 * ρ' 8 + 0)) ∨ (0 ≤ 1 * ρ' 0 + (1 * ρ' 7 + 0) ∧ 0 ≤ -1 * ρ' 0 + (-1 * ρ' 7 + 0) ∧ 0 ≤ -1 * ρ' 6 + (1 * ρ' 8 + 0) ∧ 0 ≤ 1 * ρ' 6 + (-1 * ρ' 8 + 0) ∧ 0 ≤ 1 * ρ' 1 + (-1 * ρ' 5 + 0) ∧ 0 ≤ 1 * ρ' 8 + 0 ∧ 0 ≤ 24 * ρ' 0 + (-1 * ρ' 8 + 0)) ∨ (0 ≤ 1 * ρ' 0 + (1 * ρ' 7 + 0) ∧ 0 ≤ -1 * ρ' 0 + (-1 * ρ' 7 + 0) ∧ 0 ≤ -1 * ρ' 6 + (1 * ρ' 8 + 0) ∧ 0 ≤ 1 * ρ' 6 + (-1 * ρ' 8 + 0) ∧ 0 ≤ -1 * ρ' 0 + (-1 * ρ' 2 + 0) ∧ 0 ≤ 1 * ρ' 8 + 0 ∧ 0 ≤ 24 * ρ' 0 + (-1 * ρ' 8 + 0)) ∨ (0 ≤ 1 * ρ' 0 + (1 * ρ' 7 + 0) ∧ 0 ≤ -1 * ρ' 0 + (-1 * ρ' 7 + 0) ∧ 0 ≤ -1 * ρ' 6 + (1 * ρ' 8 + 0) ∧ 0 ≤ 1 * ρ' 6 + (-1 * ρ' 8 + 0) ∧ 0 ≤ -24 * ρ' 0 + (1 * ρ' 2 + 0) ∧ 0 ≤ 1 * ρ' 8 + 0 ∧ 0 ≤ 24 * ρ' 0 + (-1 * ρ' 8 + 0)) ∨ (0 ≤ 1 * ρ' 0 + (1 * ρ' 7 + 0) ∧ 0 ≤ -1 * ρ' 0 + (-1 * ρ' 7 + 0) ∧ 0 ≤ -1 * ρ' 6 + (1 * ρ' 8 + 0) ∧ 0 ≤ 1 * ρ' 6 + (-1 * ρ' 8 + 0) ∧ 0 ≤ -10000 * ρ' 0 + (-1 * ρ' 3 + 0) ∧ 0 ≤ 1 * ρ' 8 + 0 ∧ 0 ≤ 24 * ρ' 0 + (-1 * ρ' 8 + 0)) ∨ (0 ≤ 1 * ρ' 0 + (1 * ρ' 7 + 0) ∧ 0 ≤ -1 * ρ' 0 + (-1 * ρ' 7 + 0) ∧ 0 ≤ -1 * ρ' 6 + (1 * ρ' 8 + 0) ∧ 0 ≤ 1 * ρ' 6 + (-1 * ρ' 8 + 0) ∧ 0 ≤ -10000 * ρ' 0 + (1 * ρ' 4 + 0) ∧ 0 ≤ 1 * ρ' 8 + 0 ∧ 0 ≤ 24 * ρ' 0 + (-1 * ρ' 8 + 0)) ∨ (0 ≤ 1 * ρ' 0 + (1 * ρ' 7 + 0) ∧ 0 ≤ -1 * ρ' 0 + (-1 * ρ' 7 + 0) ∧ 0 ≤ -1 * ρ' 6 + (1 * ρ' 8 + 0) ∧ 0 ≤ 1 * ρ' 6 + (-1 * ρ' 8 + 0) ∧ 0 ≤ -1 * ρ' 0 + (1 * ρ' 3 + (-1 * ρ' 4 + 0)) ∧ 0 ≤ 1 * ρ' 8 + 0 ∧ 0 ≤ 24 * ρ' 0 + (-1 * ρ' 8 + 0)) ∨ (0 ≤ 1 * ρ' 0 + (1 * ρ' 7 + 0) ∧ 0 ≤ -1 * ρ' 0 + (-1 * ρ' 7 + 0) ∧ 0 ≤ -1 * ρ' 6 + (1 * ρ' 8 + 0) ∧ 0 ≤ 1 * ρ' 6 + (-1 * ρ' 8 + 0) ∧ 0 ≤ -24 * ρ' 0 + (1 * ρ' 6 + 0) ∧ 0 ≤ 1 * ρ' 8 + 0 ∧ 0 ≤ 24 * ρ' 0 + (-1 * ρ' 8 + 0)) ∨ (0 ≤ -1 * ρ' 6 + (1 * ρ' 7 + 0) ∧ 0 ≤ 1 * ρ' 6 + (-1 * ρ' 7 + 0) ∧ 0 ≤ -1 * ρ' 0 + (-1 * ρ' 6 + (1 * ρ' 8 + 0)) ∧ 0 ≤ 1 * ρ' 0 + (1 * ρ' 6 + (-1 * ρ' 8 + 0)) ∧ 0 ≤ 1 * ρ' 1 + 0 ∧ 0 ≤ -1 * ρ' 0 + (-1 * ρ' 1 + (1 * ρ' 5 + 0)) ∧ 0 ≤ 1 * ρ' 2 + 0 ∧ 0 ≤ 23 * ρ' 0 + (-1 * ρ' 2 + 0) ∧ 0 ≤ 9999 * ρ' 0 + (1 * ρ' 3 + 0) ∧ 0 ≤ 9999 * ρ' 0 + (-1 * ρ' 4 + 0) ∧ 0 ≤ -1 * ρ' 3 + (1 * ρ' 4 + 0) ∧ 0 ≤ 23 * ρ' 0 + (-1 * ρ' 6 + 0) ∧ 0 ≤ 1 * ρ' 8 + 0 ∧ 0 ≤ 24 * ρ' 0 + (-1 * ρ' 8 + 0))) ∧ sI M' ∧ sF (cS kc_260) M M' := by
  obtain ⟨ρ', h1, h2, ⟨al, hal, hf⟩, h3, h4, h5⟩ := h
  refine ⟨ρ', h1, h2, h3 (77, 6, 8) (List.mem_of_getElem? (i := 0) rfl), ?_, h4, h5⟩
  have hal : al ∈ ([[[(1, 0), (1, 7)], [(-1, 0), (-1, 7)], [(-1, 6), (1, 8)], [(1, 6), (-1, 8)], [(-1, 0), (-1, 1)], [(1, 8)], [(24, 0), (-1, 8)]], [[(1, 0), (1, 7)], [(-1, 0), (-1, 7)], [(-1, 6), (1, 8)], [(1, 6), (-1, 8)], [(1, 1), (-1, 5)], [(1, 8)], [(24, 0), (-1, 8)]], [[(1, 0), (1, 7)], [(-1, 0), (-1, 7)], [(-1, 6), (1, 8)], [(1, 6), (-1, 8)], [(-1, 0), (-1, 2)], [(1, 8)], [(24, 0), (-1, 8)]], [[(1, 0), (1, 7)], [(-1, 0), (-1, 7)], [(-1, 6), (1, 8)], [(1, 6), (-1, 8)], [(-24, 0), (1, 2)], [(1, 8)], [(24, 0), (-1, 8)]], [[(1, 0), (1, 7)], [(-1, 0), (-1, 7)], [(-1, 6), (1, 8)], [(1, 6), (-1, 8)], [(-10000, 0), (-1, 3)], [(1, 8)], [(24, 0), (-1, 8)]], [[(1, 0), (1, 7)], [(-1, 0), (-1, 7)], [(-1, 6), (1, 8)], [(1, 6), (-1, 8)], [(-10000, 0), (1, 4)], [(1, 8)], [(24, 0), (-1, 8)]], [[(1, 0), (1, 7)], [(-1, 0), (-1, 7)], [(-1, 6), (1, 8)], [(1, 6), (-1, 8)], [(-1, 0), (1, 3), (-1, 4)], [(1, 8)], [(24, 0), (-1, 8)]], [[(1, 0), (1, 7)], [(-1, 0), (-1, 7)], [(-1, 6), (1, 8)], [(1, 6), (-1, 8)], [(-24, 0), (1, 6)], [(1, 8)], [(24, 0), (-1, 8)]], [[(-1, 6), (1, 7)], [(1, 6), (-1, 7)], [(-1, 0), (-1, 6), (1, 8)], [(1, 0), (1, 6), (-1, 8)], [(1, 1)], [(-1, 0), (-1, 1), (1, 5)], [(1, 2)], [(23, 0), (-1, 2)], [(9999, 0), (1, 3)], [(9999, 0), (-1, 4)], [(-1, 3), (1, 4)], [(23, 0), (-1, 6)], [(1, 8)], [(24, 0), (-1, 8)]]] : List (List qF)) := hal
  simp only [List.mem_cons, List.not_mem_nil, or_false] at hal
  rcases hal with rfl | rfl | rfl | rfl | rfl | rfl | rfl | rfl | rfl
  · exact Or.inl ⟨hf [(1, 0), (1, 7)] (List.mem_of_getElem? (i := 0) rfl), hf [(-1, 0), (-1, 7)] (List.mem_of_getElem? (i := 1) rfl), hf [(-1, 6), (1, 8)] (List.mem_of_getElem? (i := 2) rfl), hf [(1, 6), (-1, 8)] (List.mem_of_getElem? (i := 3) rfl), hf [(-1, 0), (-1, 1)] (List.mem_of_getElem? (i := 4) rfl), hf [(1, 8)] (List.mem_of_getElem? (i := 5) rfl), hf [(24, 0), (-1, 8)] (List.mem_of_getElem? (i := 6) rfl)⟩
  · exact Or.inr (Or.inl ⟨hf [(1, 0), (1, 7)] (List.mem_of_getElem? (i := 0) rfl), hf [(-1, 0), (-1, 7)] (List.mem_of_getElem? (i := 1) rfl), hf [(-1, 6), (1, 8)] (List.mem_of_getElem? (i := 2) rfl), hf [(1, 6), (-1, 8)] (List.mem_of_getElem? (i := 3) rfl), hf [(1, 1), (-1, 5)] (List.mem_of_getElem? (i := 4) rfl), hf [(1, 8)] (List.mem_of_getElem? (i := 5) rfl), hf [(24, 0), (-1, 8)] (List.mem_of_getElem? (i := 6) rfl)⟩)
  · exact Or.inr (Or.inr (Or.inl ⟨hf [(1, 0), (1, 7)] (List.mem_of_getElem? (i := 0) rfl), hf [(-1, 0), (-1, 7)] (List.mem_of_getElem? (i := 1) rfl), hf [(-1, 6), (1, 8)] (List.mem_of_getElem? (i := 2) rfl), hf [(1, 6), (-1, 8)] (List.mem_of_getElem? (i := 3) rfl), hf [(-1, 0), (-1, 2)] (List.mem_of_getElem? (i := 4) rfl), hf [(1, 8)] (List.mem_of_getElem? (i := 5) rfl), hf [(24, 0), (-1, 8)] (List.mem_of_getElem? (i := 6) rfl)⟩))
  · exact Or.inr (Or.inr (Or.inr (Or.inl ⟨hf [(1, 0), (1, 7)] (List.mem_of_getElem? (i := 0) rfl), hf [(-1, 0), (-1, 7)] (List.mem_of_getElem? (i := 1) rfl), hf [(-1, 6), (1, 8)] (List.mem_of_getElem? (i := 2) rfl), hf [(1, 6), (-1, 8)] (List.mem_of_getElem? (i := 3) rfl), hf [(-24, 0), (1, 2)] (List.mem_of_getElem? (i := 4) rfl), hf [(1, 8)] (List.mem_of_getElem? (i := 5) rfl), hf [(24, 0), (-1, 8)] (List.mem_of_getElem? (i := 6) rfl)⟩)))
  · exact Or.inr (Or.inr (Or.inr (Or.inr (Or.inl ⟨hf [(1, 0), (1, 7)] (List.mem_of_getElem? (i := 0) rfl), hf [(-1, 0), (-1, 7)] (List.mem_of_getElem? (i := 1) rfl), hf [(-1, 6), (1, 8)] (List.mem_of_getElem? (i := 2) rfl), hf [(1, 6), (-1, 8)] (List.mem_of_getElem? (i := 3) rfl), hf [(-10000, 0), (-1, 3)] (List.mem_of_getElem? (i := 4) rfl), hf [(1, 8)] (List.mem_of_getElem? (i := 5) rfl), hf [(24, 0), (-1, 8)] (List.mem_of_getElem? (i := 6) rfl)⟩))))
  · exact Or.inr (Or.inr (Or.inr (Or.inr (Or.inr (Or.inl ⟨hf [(1, 0), (1, 7)] (List.mem_of_getElem? (i := 0) rfl), hf [(-1, 0), (-1, 7)] (List.mem_of_getElem? (i := 1) rfl), hf [(-1, 6), (1, 8)] (List.mem_of_getElem? (i := 2) rfl), hf [(1, 6), (-1, 8)] (List.mem_of_getElem? (i := 3) rfl), hf [(-10000, 0), (1, 4)] (List.mem_of_getElem? (i := 4) rfl), hf [(1, 8)] (List.mem_of_getElem? (i := 5) rfl), hf [(24, 0), (-1, 8)] (List.mem_of_getElem? (i := 6) rfl)⟩)))))
  · exact Or.inr (Or.inr (Or.inr (Or.inr (Or.inr (Or.inr (Or.inl ⟨hf [(1, 0), (1, 7)] (List.mem_of_getElem? (i := 0) rfl), hf [(-1, 0), (-1, 7)] (List.mem_of_getElem? (i := 1) rfl), hf [(-1, 6), (1, 8)] (List.mem_of_getElem? (i := 2) rfl), hf [(1, 6), (-1, 8)] (List.mem_of_getElem? (i := 3) rfl), hf [(-1, 0), (1, 3), (-1, 4)] (List.mem_of_getElem? (i := 4) rfl), hf [(1, 8)] (List.mem_of_getElem? (i := 5) rfl), hf [(24, 0), (-1, 8)] (List.mem_of_getElem? (i := 6) rfl)⟩))))))
  · exact Or.inr (Or.inr (Or.inr (Or.inr (Or.inr (Or.inr (Or.inr (Or.inl ⟨hf [(1, 0), (1, 7)] (List.mem_of_getElem? (i := 0) rfl), hf [(-1, 0), (-1, 7)] (List.mem_of_getElem? (i := 1) rfl), hf [(-1, 6), (1, 8)] (List.mem_of_getElem? (i := 2) rfl), hf [(1, 6), (-1, 8)] (List.mem_of_getElem? (i := 3) rfl), hf [(-24, 0), (1, 6)] (List.mem_of_getElem? (i := 4) rfl), hf [(1, 8)] (List.mem_of_getElem? (i := 5) rfl), hf [(24, 0), (-1, 8)] (List.mem_of_getElem? (i := 6) rfl)⟩)))))))
  · exact Or.inr (Or.inr (Or.inr (Or.inr (Or.inr (Or.inr (Or.inr (Or.inr (⟨hf [(-1, 6), (1, 7)] (List.mem_of_getElem? (i := 0) rfl), hf [(1, 6), (-1, 7)] (List.mem_of_getElem? (i := 1) rfl), hf [(-1, 0), (-1, 6), (1, 8)] (List.mem_of_getElem? (i := 2) rfl), hf [(1, 0), (1, 6), (-1, 8)] (List.mem_of_getElem? (i := 3) rfl), hf [(1, 1)] (List.mem_of_getElem? (i := 4) rfl), hf [(-1, 0), (-1, 1), (1, 5)] (List.mem_of_getElem? (i := 5) rfl), hf [(1, 2)] (List.mem_of_getElem? (i := 6) rfl), hf [(23, 0), (-1, 2)] (List.mem_of_getElem? (i := 7) rfl), hf [(9999, 0), (1, 3)] (List.mem_of_getElem? (i := 8) rfl), hf [(9999, 0), (-1, 4)] (List.mem_of_getElem? (i := 9) rfl), hf [(-1, 3), (1, 4)] (List.mem_of_getElem? (i := 10) rfl), hf [(23, 0), (-1, 6)] (List.mem_of_getElem? (i := 11) rfl), hf [(1, 8)] (List.mem_of_getElem? (i := 12) rfl), hf [(24, 0), (-1, 8)] (List.mem_of_getElem? (i := 13) rfl)⟩))))))))
theorem up_r659 {ρ : Nat → Int} {M M' : sM} {rv : Option sV} (h : qPost kc_r659 ρ M rv M') : ∃ ρ' : Nat → Int, (∀ a, a < 7 → ρ' a = ρ a) ∧ rv = qRv 0 (ρ' 7) ∧ (M' 91 61 = ρ' 8) ∧ ((0 ≤ 1 * ρ' 0 + (1 * ρ' 7 + 0) ∧ 0 ≤ -1 * ρ' 0 + (-1 * ρ' 7 + 0) ∧ 0 ≤ -1 * ρ' 6 + (1 * ρ' 8 + 0) ∧ 0 ≤ 1 * ρ' 6 + (-1 * ρ' 8 + 0) ∧ 0 ≤ -1 * ρ' 0 + (-1 * ρ' 1 + 0) ∧ 0 ≤ 1 * ρ' 8 + 0 ∧ 0 ≤ 24 * ρ' 0 + (-1 * ρ' 8 + 0)) ∨ (0 ≤ 1 * ρ' 0 + (1 * ρ' 7 + 0) ∧ 0 ≤ -1 * ρ' 0 + (-1 * ρ' 7 + 0) ∧ 0 ≤ -1 * ρ' 6 + (1 * ρ' 8 + 0) ∧ 0 ≤ 1 * ρ' 6 + (-1 * ρ' 8 + 0) ∧ 0 ≤ 1 * ρ' 1 + (-1 * ρ' 5 + 0) ∧ 0 ≤ 1 * ρ' 8 + 0 ∧ 0 ≤ 24 * ρ' 0 + (-1 * ρ' 8 + 0)) ∨ (0 ≤ 1 * ρ' 0 + (1 * ρ' 7 + 0) ∧ 0 ≤ -1 * ρ' 0 + (-1 * ρ' 7 + 0) ∧ 0 ≤ -1 * ρ' 6 + (1 * ρ' 8 + 0) ∧ 0 ≤ 1 * ρ' 6 + (-1 * ρ' 8 + 0) ∧ 0 ≤ -1 * ρ' 0 + (-1 * ρ' 2 + 0) ∧ 0 ≤ 1 * ρ' 8 + 0 ∧ 0 ≤ 24 * ρ' 0 + (-1 * ρ' 8 + 0)) ∨ (0 ≤ 1 * ρ' 0 + (1 * ρ' 7 + 0) ∧ 0 ≤ -1 * ρ' 0 + (-1 * ρ' 7 + 0) ∧ 0 ≤ -1 * ρ' 6 + (1 * ρ' 8 + 0) ∧ 0 ≤ 1 * ρ' 6 + (-1 * ρ' 8 + 0) ∧ 0 ≤ -24 * ρ' 0 + (1 * ρ' 2 + 0) ∧ 0 ≤ 1 * ρ' 8 + 0 ∧ 0 ≤ 24 * ρ' 0 + (-1 * ρ' 8 + 0)) ∨ (0 ≤ 1 * ρ' 0 + (1 * ρ' 7 + 0) ∧ 0 ≤ -1 * ρ' 0 + (-1 * ρ' 7 + 0) ∧ 0 ≤ -1 * ρ' 6 + (1 * ρ' 8 + 0) ∧ 0 ≤ 1 * ρ' 6 + (-1 * ρ' 8 + 0) ∧ 0 ≤ -10000 * ρ' 0 + (-1 * ρ' 3 + 0) ∧ 0 ≤ 1 * ρ' 8 + 0 ∧ 0 ≤ 24 * ρ' 0 + (-1 * ρ' 8 + 0)) ∨ (0 ≤ 1 * ρ' 0 + (1 * ρ' 7 + 0) ∧ 0 ≤ -1 * ρ' 0 + (-1 * ρ' 7 + 0) ∧ 0 ≤ -1 * ρ' 6 + (1 * ρ' 8 + 0) ∧ 0 ≤ 1 * ρ' 6 + (-1 * ρ' 8 + 0) ∧ 0 ≤ -10000 * ρ' 0 + (1 * ρ' 4 + 0) ∧ 0 ≤ 1 * ρ' 8 + 0 ∧ 0 ≤ 24 * ρ' 0 + (-1 * ρ' 8 + 0)) ∨ (0 ≤ 1 * ρ' 0 + (1 * ρ' 7 + 0) ∧ 0 ≤ -1 * ρ' 0 + (-1 * ρ' 7 + 0) ∧ 0 ≤ -1 * ρ' 6 + (1 * ρ' 8 + 0) ∧ 0 ≤ 1 * ρ' 6 + (-1 * ρ' 8 + 0) ∧ 0 ≤ -1 * ρ' 0 + (1 * ρ' 3 + (-1 * ρ' 4 + 0)) ∧ 0 ≤ 1 * ρ' 8 + 0 ∧ 0 ≤ 24 * ρ' 0 + (-1 * ρ' 8 + 0)) ∨ (0 ≤ 1 * ρ' 0 + (1 * ρ' 7 + 0) ∧ 0 ≤ -1 * ρ' 0 + (-1 * ρ' 7 + 0) ∧ 0 ≤ -1 * ρ' 6 + (1 * ρ' 8 + 0) ∧ 0 ≤ 1 * ρ' 6 + (-1 * ρ' 8 + 0) ∧ 0 ≤ -24 * ρ' 0 + (1 * ρ' 6 + 0) ∧ 0 ≤ 1 * ρ' 8 + 0 ∧ 0 ≤ 24 * ρ' 0 + (-1 * ρ' 8 + 0)) ∨ (0 ≤ -1 * ρ' 6 + (1 * ρ' 7 + 0) ∧ 0 ≤ 1 * ρ' 6 + (-1 * ρ' 7 + 0) ∧ 0 ≤ -1 * ρ' 0 + (-1 * ρ' 6 + (1 * ρ' 8 + 0)) ∧ 0 ≤ 1 * ρ' 0 + (1 * ρ' 6 + (-1 * ρ' 8 + 0)) ∧ 0 ≤ 1 * ρ' 1 + 0 ∧ 0 ≤ -1 * ρ' 0 + (-1 * ρ' 1 + (1 * ρ' 5 + 0)) ∧ 0 ≤ 1 * ρ' 2 + 0 ∧ 0 ≤ 23 * ρ' 0 + (-1 * ρ' 2 + 0) ∧ 0 ≤ 9999 * ρ' 0 + (1 * ρ' 3 + 0) ∧ 0 ≤ 9999 * ρ' 0 + (-1 * ρ' 4 + 0) ∧ 0 ≤ -1 * ρ' 3 + (1 * ρ' 4 + 0) ∧ 0 ≤ 23 * ρ' 0 + (-1 * ρ' 6 + 0) ∧ 0 ≤ 1 * ρ' 8 + 0 ∧ 0 ≤ 24 * ρ' 0 + (-1 * ρ' 8 + 0))) ∧ sI M' ∧ sF (cS kc_r659) M M' := by
  obtain ⟨ρ', h1, h2, ⟨al, hal, hf⟩, h3, h4, h5⟩ := h
  refine ⟨ρ', h1, h2, h3 (91, 61, 8) (List.mem_of_getElem? (i := 0) rfl), ?_, h4, h5⟩
  have hal : al ∈ ([[[(1, 0), (1, 7)], [(-1, 0), (-1, 7)], [(-1, 6), (1, 8)], [(1, 6), (-1, 8)], [(-1, 0), (-1, 1)], [(1, 8)], [(24, 0), (-1, 8)]], [[(1, 0), (1, 7)], [(-1, 0), (-1, 7)], [(-1, 6), (1, 8)], [(1, 6), (-1, 8)], [(1, 1), (-1, 5)], [(1, 8)], [(24, 0), (-1, 8)]], [[(1, 0), (1, 7)], [(-1, 0), (-1, 7)], [(-1, 6), (1, 8)], [(1, 6), (-1, 8)], [(-1, 0), (-1, 2)], [(1, 8)], [(24, 0), (-1, 8)]], [[(1, 0), (1, 7)], [(-1, 0), (-1, 7)], [(-1, 6), (1, 8)], [(1, 6), (-1, 8)], [(-24, 0), (1, 2)], [(1, 8)], [(24, 0), (-1, 8)]], [[(1, 0), (1, 7)], [(-1, 0), (-1, 7)], [(-1, 6), (1, 8)], [(1, 6), (-1, 8)], [(-10000, 0), (-1, 3)], [(1, 8)], [(24, 0), (-1, 8)]], [[(1, 0), (1, 7)], [(-1, 0), (-1, 7)], [(-1, 6), (1, 8)], [(1, 6), (-1, 8)], [(-10000, 0), (1, 4)], [(1, 8)], [(24, 0), (-1, 8)]], [[(1, 0), (1, 7)], [(-1, 0), (-1, 7)], [(-1, 6), (1, 8)], [(1, 6), (-1, 8)], [(-1, 0), (1, 3), (-1, 4)], [(1, 8)], [(24, 0), (-1, 8)]], [[(1, 0), (1, 7)], [(-1, 0), (-1, 7)], [(-1, 6), (1, 8)], [(1, 6), (-1, 8)], [(-24, 0), (1, 6)], [(1, 8)], [(24, 0), (-1, 8)]], [[(-1, 6), (1, 7)], [(1, 6), (-1, 7)], [(-1, 0), (-1, 6), (1, 8)], [(1, 0), (1, 6), (-1, 8)], [(1, 1)], [(-1, 0), (-1, 1), (1, 5)], [(1, 2)], [(23, 0), (-1, 2)], [(9999, 0), (1, 3)], [(9999, 0), (-1, 4)], [(-1, 3), (1, 4)], [(23, 0), (-1, 6)], [(1, 8)], [(24, 0), (-1, 8)]]] : List (List qF)) := hal
  simp only [List.mem_cons, List.not_mem_nil, or_false] at hal
  rcases hal with rfl | rfl | rfl | rfl | rfl | rfl | rfl | rfl | rfl
  · exact Or.inl ⟨hf [(1, 0), (1, 7)] (List.mem_of_getElem? (i := 0) rfl), hf [(-1, 0), (-1, 7)] (List.mem_of_getElem? (i := 1) rfl), hf [(-1, 6), (1, 8)] (List.mem_of_getElem? (i := 2) rfl), hf [(1, 6), (-1, 8)] (List.mem_of_getElem? (i := 3) rfl), hf [(-1, 0), (-1, 1)] (List.mem_of_getElem? (i := 4) rfl), hf [(1, 8)] (List.mem_of_getElem? (i := 5) rfl), hf [(24, 0), (-1, 8)] (List.mem_of_getElem? (i := 6) rfl)⟩
  · exact Or.inr (Or.inl ⟨hf [(1, 0), (1, 7)] (List.mem_of_getElem? (i := 0) rfl), hf [(-1, 0), (-1, 7)] (List.mem_of_getElem? (i := 1) rfl), hf [(-1, 6), (1, 8)] (List.mem_of_getElem? (i := 2) rfl), hf [(1, 6), (-1, 8)] (List.mem_of_getElem? (i := 3) rfl), hf [(1, 1), (-1, 5)] (List.mem_of_getElem? (i := 4) rfl), hf [(1, 8)] (List.mem_of_getElem? (i := 5) rfl), hf [(24, 0), (-1, 8)] (List.mem_of_getElem? (i := 6) rfl)⟩)
  · exact Or.inr (Or.inr (Or.inl ⟨hf [(1, 0), (1, 7)] (List.mem_of_getElem? (i := 0) rfl), hf [(-1, 0), (-1, 7)] (List.mem_of_getElem? (i := 1) rfl), hf [(-1, 6), (1, 8)] (List.mem_of_getElem? (i := 2) rfl), hf [(1, 6), (-1, 8)] (List.mem_of_getElem? (i := 3) rfl), hf [(-1, 0), (-1, 2)] (List.mem_of_getElem? (i := 4) rfl), hf [(1, 8)] (List.mem_of_getElem? (i := 5) rfl), hf [(24, 0), (-1, 8)] (List.mem_of_getElem? (i := 6) rfl)⟩))
  · exact Or.inr (Or.inr (Or.inr (Or.inl ⟨hf [(1, 0), (1, 7)] (List.mem_of_getElem? (i := 0) rfl), hf [(-1, 0), (-1, 7)] (List.mem_of_getElem? (i := 1) rfl), hf [(-1, 6), (1, 8)] (List.mem_of_getElem? (i := 2) rfl), hf [(1, 6), (-1, 8)] (List.mem_of_getElem? (i := 3) rfl), hf [(-24, 0), (1, 2)] (List.mem_of_getElem? (i := 4) rfl), hf [(1, 8)] (List.mem_of_getElem? (i := 5) rfl), hf [(24, 0), (-1, 8)] (List.mem_of_getElem? (i := 6) rfl)⟩)))
  · exact Or.inr (Or.inr (Or.inr (Or.inr (Or.inl ⟨hf [(1, 0), (1, 7)] (List.mem_of_getElem? (i := 0) rfl), hf [(-1, 0), (-1, 7)] (List.mem_of_getElem? (i := 1) rfl), hf [(-1, 6), (1, 8)] (List.mem_of_getElem? (i := 2) rfl), hf [(1, 6), (-1, 8)] (List.mem_of_getElem? (i := 3) rfl), hf [(-10000, 0), (-1, 3)] (List.mem_of_getElem? (i := 4) rfl), hf [(1, 8)] (List.mem_of_getElem? (i := 5) rfl), hf [(24, 0), (-1, 8)] (List.mem_of_getElem? (i := 6) rfl)⟩))))
  · exact Or.inr (Or.inr (Or.inr (Or.inr (Or.inr (Or.inl ⟨hf [(1, 0), (1, 7)] (List.mem_of_getElem? (i := 0) rfl), hf [(-1, 0), (-1, 7)] (List.mem_of_getElem? (i := 1) rfl), hf [(-1, 6), (1, 8)] (List.mem_of_getElem? (i := 2) rfl), hf [(1, 6), (-1, 8)] (List.mem_of_getElem? (i := 3) rfl), hf [(-10000, 0), (1, 4)] (List.mem_of_getElem? (i := 4) rfl), hf [(1, 8)] (List.mem_of_getElem? (i := 5) rfl), hf [(24, 0), (-1, 8)] (List.mem_of_getElem? (i := 6) rfl)⟩)))))
  · exact Or.inr (Or.inr (Or.inr (Or.inr (Or.inr (Or.inr (Or.inl ⟨hf [(1, 0), (1, 7)] (List.mem_of_getElem? (i := 0) rfl), hf [(-1, 0), (-1, 7)] (List.mem_of_getElem? (i := 1) rfl), hf [(-1, 6), (1, 8)] (List.mem_of_getElem? (i := 2) rfl), hf [(1, 6), (-1, 8)] (List.mem_of_getElem? (i := 3) rfl), hf [(-1, 0), (1, 3), (-1, 4)] (List.mem_of_getElem? (i := 4) rfl), hf [(1, 8)] (List.mem_of_getElem? (i := 5) rfl), hf [(24, 0), (-1, 8)] (List.mem_of_getElem? (i := 6) rfl)⟩))))))
  · exact Or.inr (Or.inr (Or.inr (Or.inr (Or.inr (Or.inr (Or.inr (Or.inl ⟨hf [(1, 0), (1, 7)] (List.mem_of_getElem? (i := 0) rfl), hf [(-1, 0), (-1, 7)] (List.mem_of_getElem? (i := 1) rfl), hf [(-1, 6), (1, 8)] (List.mem_of_getElem? (i := 2) rfl), hf [(1, 6), (-1, 8)] (List.mem_of_getElem? (i := 3) rfl), hf [(-24, 0), (1, 6)] (List.mem_of_getElem? (i := 4) rfl), hf [(1, 8)] (List.mem_of_getElem? (i := 5) rfl), hf [(24, 0), (-1, 8)] (List.mem_of_getElem? (i := 6) rfl)⟩)))))))
  · exact Or.inr (Or.inr (Or.inr (Or.inr (Or.inr (Or.inr (Or.inr (Or.inr (⟨hf [(-1, 6), (1, 7)] (List.mem_of_getElem? (i := 0) rfl), hf [(1, 6), (-1, 7)] (List.mem_of_getElem? (i := 1) rfl), hf [(-1, 0), (-1, 6), (1, 8)] (List.mem_of_getElem? (i := 2) rfl), hf [(1, 0), (1, 6), (-1, 8)] (List.mem_of_getElem? (i := 3) rfl), hf [(1, 1)] (List.mem_of_getElem? (i := 4) rfl), hf [(-1, 0), (-1, 1), (1, 5)] (List.mem_of_getElem? (i := 5) rfl), hf [(1, 2)] (List.mem_of_getElem? (i := 6) rfl), hf [(23, 0), (-1, 2)] (List.mem_of_getElem? (i := 7) rfl), hf [(9999, 0), (1, 3)] (List.mem_of_getElem? (i := 8) rfl), hf [(9999, 0), (-1, 4)] (List.mem_of_getElem? (i := 9) rfl), hf [(-1, 3), (1, 4)] (List.mem_of_getElem? (i := 10) rfl), hf [(23, 0), (-1, 6)] (List.mem_of_getElem? (i := 11) rfl), hf [(1, 8)] (List.mem_of_getElem? (i := 12) rfl), hf [(24, 0), (-1, 8)] (List.mem_of_getElem? (i := 13) rfl)⟩))))))))
set_option maxHeartbeats 4000000 in
theorem uo_29 {M : sM} (hM : uG M) (J : pHp) (x1 : Int32) (x2 : Int32) (x3 : Int32) (x4 : Int32) : ∃ (v : Int32) (M1 M2 : sM), pEx 300 142 [.ref 0, .int x1, .int x2, .int x3, .int x4] (sHp sLay M ++ J) (some (.int v)) (sHp sLay M1 ++ J) ∧ pEx 300 266 [.ref 91, .int x1, .int x2, .int x3, .int x4] (sHp sLay M1 ++ J) (some (.int v)) (sHp sLay M2 ++ J) ∧ uG M2 := by
  obtain ⟨r, hr, hs, hT⟩ := hM
  rcases hr with rfl | rfl
  · have kM_0 : M 0 1 = M 91 2 := hT (0, 1, 91, 2) (List.mem_of_getElem? (i := 0) rfl)
    have kM_1 : M 4 261 = M 0 1 := hT (4, 261, 0, 1) (List.mem_of_getElem? (i := 1) rfl)
    have kM_2 : M 0 2 = M 91 33 := hT (0, 2, 91, 33) (List.mem_of_getElem? (i := 2) rfl)
    have kM_3 : M 0 3 = M 91 34 := hT (0, 3, 91, 34) (List.mem_of_getElem? (i := 3) rfl)
    have kM_4 : M 2 8 = M 93 0 := hT ((2 : Int).toNat, 8, 93, 0) (List.mem_of_getElem? (i := 4) rfl)
    have kM_5 : M 2 9 = M 93 1 := hT ((2 : Int).toNat, 9, 93, 1) (List.mem_of_getElem? (i := 5) rfl)
    have kM_6 : M 2 10 = M 93 2 := hT ((2 : Int).toNat, 10, 93, 2) (List.mem_of_getElem? (i := 6) rfl)
    have kM_7 : M 77 6 = M 91 61 := hT (77, 6, 91, 61) (List.mem_of_getElem? (i := 7) rfl)
    obtain ⟨rv1, N1, e1, p1, q1⟩ := u_runX ko_88 (ks := uKs 2) (ex := []) (o := 0) (bs := [false, false, false, false]) (by decide +kernel) hs.1 hs.2 (as := [x1.toInt, x2.toInt, x3.toInt, x4.toInt]) ⟨⟨uarg_i _, fun h => nomatch h⟩, ⟨⟨uarg_i _, fun h => nomatch h⟩, ⟨⟨uarg_i _, fun h => nomatch h⟩, ⟨⟨uarg_i _, fun h => nomatch h⟩, trivial⟩⟩⟩⟩ (fun _ f hf => nomatch hf) J (N := 300) (by decide)
    obtain ⟨ρ1, u1, w1, t1, z1, i1, y1⟩ := up_88 p1
    have o1 : ρ1 0 = 1 := u1 0 (by decide)
    have a1_1 : ρ1 1 = x1.toInt := (u1 1 (by decide)).trans (urho_a (as := [x1.toInt, x2.toInt, x3.toInt, x4.toInt]) (j := 0) (show (0 : Nat) < 4 from by decide))
    have a1_2 : ρ1 2 = x2.toInt := (u1 2 (by decide)).trans (urho_a (as := [x1.toInt, x2.toInt, x3.toInt, x4.toInt]) (j := 1) (show (1 : Nat) < 4 from by decide))
    have a1_3 : ρ1 3 = x3.toInt := (u1 3 (by decide)).trans (urho_a (as := [x1.toInt, x2.toInt, x3.toInt, x4.toInt]) (j := 2) (show (2 : Nat) < 4 from by decide))
    have a1_4 : ρ1 4 = x4.toInt := (u1 4 (by decide)).trans (urho_a (as := [x1.toInt, x2.toInt, x3.toInt, x4.toInt]) (j := 3) (show (3 : Nat) < 4 from by decide))
    have m1_2_8 : M 2 8 = ρ1 5 := by
      have h := q1 (2, 8, [(1, 5)]) (List.mem_of_getElem? (i := 0) rfl)
      have h : M 2 8 = 1 * uRho [x1.toInt, x2.toInt, x3.toInt, x4.toInt] M (cM kc_88) 5 + 0 := h
      rw [u1 5 (by decide)]
      omega
    have m1_77_6 : M 77 6 = ρ1 6 := by
      have h := q1 (77, 6, [(1, 6)]) (List.mem_of_getElem? (i := 1) rfl)
      have h : M 77 6 = 1 * uRho [x1.toInt, x2.toInt, x3.toInt, x4.toInt] M (cM kc_88) 6 + 0 := h
      rw [u1 6 (by decide)]
      omega
    have t1_0 := t1
    rw [o1] at z1
    have s1 : uSt 2 N1 := ukeep_ok (c := kc_88) (r := 2) (by decide +kernel) hs p1
    have b1_0_1 : N1 0 1 = M 0 1 := y1 0 1 (by decide +kernel)
    have b1_0_2 : N1 0 2 = M 0 2 := y1 0 2 (by decide +kernel)
    have b1_0_3 : N1 0 3 = M 0 3 := y1 0 3 (by decide +kernel)
    have b1_2_8 : N1 2 8 = M 2 8 := y1 2 8 (by decide +kernel)
    have b1_2_9 : N1 2 9 = M 2 9 := y1 2 9 (by decide +kernel)
    have b1_2_10 : N1 2 10 = M 2 10 := y1 2 10 (by decide +kernel)
    have b1_4_261 : N1 4 261 = M 4 261 := y1 4 261 (by decide +kernel)
    have b1_77_6 : N1 77 6 = ρ1 8 := t1_0
    have b1_91_2 : N1 91 2 = M 91 2 := y1 91 2 (by decide +kernel)
    have b1_91_33 : N1 91 33 = M 91 33 := y1 91 33 (by decide +kernel)
    have b1_91_34 : N1 91 34 = M 91 34 := y1 91 34 (by decide +kernel)
    have b1_91_61 : N1 91 61 = M 91 61 := y1 91 61 (by decide +kernel)
    have b1_93_0 : N1 93 0 = M 93 0 := y1 93 0 (by decide +kernel)
    have b1_93_1 : N1 93 1 = M 93 1 := y1 93 1 (by decide +kernel)
    have b1_93_2 : N1 93 2 = M 93 2 := y1 93 2 (by decide +kernel)
    obtain ⟨rv2, N2, e2, p2, q2⟩ := u_runX ko_r659 (ks := uKs 2) (ex := []) (o := 91) (bs := [false, false, false, false]) (by decide +kernel) s1.1 s1.2 (as := [x1.toInt, x2.toInt, x3.toInt, x4.toInt]) ⟨⟨uarg_i _, fun h => nomatch h⟩, ⟨⟨uarg_i _, fun h => nomatch h⟩, ⟨⟨uarg_i _, fun h => nomatch h⟩, ⟨⟨uarg_i _, fun h => nomatch h⟩, trivial⟩⟩⟩⟩ (fun _ f hf => nomatch hf) J (N := 300) (by decide)
    obtain ⟨ρ2, u2, w2, t2, z2, i2, y2⟩ := up_r659 p2
    have o2 : ρ2 0 = 1 := u2 0 (by decide)
    have a2_1 : ρ2 1 = x1.toInt := (u2 1 (by decide)).trans (urho_a (as := [x1.toInt, x2.toInt, x3.toInt, x4.toInt]) (j := 0) (show (0 : Nat) < 4 from by decide))
    have a2_2 : ρ2 2 = x2.toInt := (u2 2 (by decide)).trans (urho_a (as := [x1.toInt, x2.toInt, x3.toInt, x4.toInt]) (j := 1) (show (1 : Nat) < 4 from by decide))
    have a2_3 : ρ2 3 = x3.toInt := (u2 3 (by decide)).trans (urho_a (as := [x1.toInt, x2.toInt, x3.toInt, x4.toInt]) (j := 2) (show (2 : Nat) < 4 from by decide))
    have a2_4 : ρ2 4 = x4.toInt := (u2 4 (by decide)).trans (urho_a (as := [x1.toInt, x2.toInt, x3.toInt, x4.toInt]) (j := 3) (show (3 : Nat) < 4 from by decide))
    have m2_93_0 : N1 93 0 = ρ2 5 := by
      have h := q2 (93, 0, [(1, 5)]) (List.mem_of_getElem? (i := 0) rfl)
      have h : N1 93 0 = 1 * uRho [x1.toInt, x2.toInt, x3.toInt, x4.toInt] N1 (cM kc_r659) 5 + 0 := h
      rw [u2 5 (by decide)]
      omega
    have m2_91_61 : N1 91 61 = ρ2 6 := by
      have h := q2 (91, 61, [(1, 6)]) (List.mem_of_getElem? (i := 1) rfl)
      have h : N1 91 61 = 1 * uRho [x1.toInt, x2.toInt, x3.toInt, x4.toInt] N1 (cM kc_r659) 6 + 0 := h
      rw [u2 6 (by decide)]
      omega
    have t2_0 := t2
    rw [o2] at z2
    have s2 : uSt 2 N2 := ukeep_ok (c := kc_r659) (r := 2) (by decide +kernel) s1 p2
    have b2_0_1 : N2 0 1 = N1 0 1 := y2 0 1 (by decide +kernel)
    have b2_0_2 : N2 0 2 = N1 0 2 := y2 0 2 (by decide +kernel)
    have b2_0_3 : N2 0 3 = N1 0 3 := y2 0 3 (by decide +kernel)
    have b2_2_8 : N2 2 8 = N1 2 8 := y2 2 8 (by decide +kernel)
    have b2_2_9 : N2 2 9 = N1 2 9 := y2 2 9 (by decide +kernel)
    have b2_2_10 : N2 2 10 = N1 2 10 := y2 2 10 (by decide +kernel)
    have b2_4_261 : N2 4 261 = N1 4 261 := y2 4 261 (by decide +kernel)
    have b2_77_6 : N2 77 6 = N1 77 6 := y2 77 6 (by decide +kernel)
    have b2_91_2 : N2 91 2 = N1 91 2 := y2 91 2 (by decide +kernel)
    have b2_91_33 : N2 91 33 = N1 91 33 := y2 91 33 (by decide +kernel)
    have b2_91_34 : N2 91 34 = N1 91 34 := y2 91 34 (by decide +kernel)
    have b2_91_61 : N2 91 61 = ρ2 8 := t2_0
    have b2_93_0 : N2 93 0 = N1 93 0 := y2 93 0 (by decide +kernel)
    have b2_93_1 : N2 93 1 = N1 93 1 := y2 93 1 (by decide +kernel)
    have b2_93_2 : N2 93 2 = N1 93 2 := y2 93 2 (by decide +kernel)
    have hv : ρ2 7 = ρ1 7 ∧ N2 77 6 = N2 91 61 := by
      clear hT hs s1 s2 i1 i2 y1 y2 u1 u2 q1 q2 p1 p2
      rcases z1 with z1 | z1 | z1 | z1 | z1 | z1 | z1 | z1 | z1 <;> rcases z2 with z2 | z2 | z2 | z2 | z2 | z2 | z2 | z2 | z2 <;> omega
    obtain ⟨hv, hw0⟩ := hv
    clear z1 z2
    rw [w1] at e1
    rw [w2, hv] at e2
    simp only [List.map_cons, List.map_nil, i32_of] at e1 e2
    exact ⟨Int32.ofInt (ρ1 7), N1, N2, e1, e2, 2, Or.inl rfl, s2, (fun q hq => by
      have hq : q ∈ ([(0, 1, 91, 2), (4, 261, 0, 1), (0, 2, 91, 33), (0, 3, 91, 34), (2, 8, 93, 0), (2, 9, 93, 1), (2, 10, 93, 2), (77, 6, 91, 61)] : List (Nat × Nat × Nat × Nat)) := hq
      simp only [List.mem_cons, List.not_mem_nil, or_false] at hq
      rcases hq with rfl | rfl | rfl | rfl | rfl | rfl | rfl | rfl
      · exact (show N2 0 1 = N2 91 2 by omega)
      · exact (show N2 4 261 = N2 0 1 by omega)
      · exact (show N2 0 2 = N2 91 33 by omega)
      · exact (show N2 0 3 = N2 91 34 by omega)
      · exact (show N2 2 8 = N2 93 0 by omega)
      · exact (show N2 2 9 = N2 93 1 by omega)
      · exact (show N2 2 10 = N2 93 2 by omega)
      · exact (show N2 77 6 = N2 91 61 by omega))⟩
  · have kM_0 : M 0 1 = M 91 2 := hT (0, 1, 91, 2) (List.mem_of_getElem? (i := 0) rfl)
    have kM_1 : M 4 261 = M 0 1 := hT (4, 261, 0, 1) (List.mem_of_getElem? (i := 1) rfl)
    have kM_2 : M 0 2 = M 91 33 := hT (0, 2, 91, 33) (List.mem_of_getElem? (i := 2) rfl)
    have kM_3 : M 0 3 = M 91 34 := hT (0, 3, 91, 34) (List.mem_of_getElem? (i := 3) rfl)
    have kM_4 : M 28 8 = M 93 0 := hT ((28 : Int).toNat, 8, 93, 0) (List.mem_of_getElem? (i := 4) rfl)
    have kM_5 : M 28 9 = M 93 1 := hT ((28 : Int).toNat, 9, 93, 1) (List.mem_of_getElem? (i := 5) rfl)
    have kM_6 : M 28 10 = M 93 2 := hT ((28 : Int).toNat, 10, 93, 2) (List.mem_of_getElem? (i := 6) rfl)
    have kM_7 : M 77 6 = M 91 61 := hT (77, 6, 91, 61) (List.mem_of_getElem? (i := 7) rfl)
    obtain ⟨rv1, N1, e1, p1, q1⟩ := u_runX ko_260 (ks := uKs 28) (ex := []) (o := 0) (bs := [false, false, false, false]) (by decide +kernel) hs.1 hs.2 (as := [x1.toInt, x2.toInt, x3.toInt, x4.toInt]) ⟨⟨uarg_i _, fun h => nomatch h⟩, ⟨⟨uarg_i _, fun h => nomatch h⟩, ⟨⟨uarg_i _, fun h => nomatch h⟩, ⟨⟨uarg_i _, fun h => nomatch h⟩, trivial⟩⟩⟩⟩ (fun _ f hf => nomatch hf) J (N := 300) (by decide)
    obtain ⟨ρ1, u1, w1, t1, z1, i1, y1⟩ := up_260 p1
    have o1 : ρ1 0 = 1 := u1 0 (by decide)
    have a1_1 : ρ1 1 = x1.toInt := (u1 1 (by decide)).trans (urho_a (as := [x1.toInt, x2.toInt, x3.toInt, x4.toInt]) (j := 0) (show (0 : Nat) < 4 from by decide))
    have a1_2 : ρ1 2 = x2.toInt := (u1 2 (by decide)).trans (urho_a (as := [x1.toInt, x2.toInt, x3.toInt, x4.toInt]) (j := 1) (show (1 : Nat) < 4 from by decide))
    have a1_3 : ρ1 3 = x3.toInt := (u1 3 (by decide)).trans (urho_a (as := [x1.toInt, x2.toInt, x3.toInt, x4.toInt]) (j := 2) (show (2 : Nat) < 4 from by decide))
    have a1_4 : ρ1 4 = x4.toInt := (u1 4 (by decide)).trans (urho_a (as := [x1.toInt, x2.toInt, x3.toInt, x4.toInt]) (j := 3) (show (3 : Nat) < 4 from by decide))
    have m1_28_8 : M 28 8 = ρ1 5 := by
      have h := q1 (28, 8, [(1, 5)]) (List.mem_of_getElem? (i := 0) rfl)
      have h : M 28 8 = 1 * uRho [x1.toInt, x2.toInt, x3.toInt, x4.toInt] M (cM kc_260) 5 + 0 := h
      rw [u1 5 (by decide)]
      omega
    have m1_77_6 : M 77 6 = ρ1 6 := by
      have h := q1 (77, 6, [(1, 6)]) (List.mem_of_getElem? (i := 1) rfl)
      have h : M 77 6 = 1 * uRho [x1.toInt, x2.toInt, x3.toInt, x4.toInt] M (cM kc_260) 6 + 0 := h
      rw [u1 6 (by decide)]
      omega
    have t1_0 := t1
    rw [o1] at z1
    have s1 : uSt 28 N1 := ukeep_ok (c := kc_260) (r := 28) (by decide +kernel) hs p1
    have b1_0_1 : N1 0 1 = M 0 1 := y1 0 1 (by decide +kernel)
    have b1_0_2 : N1 0 2 = M 0 2 := y1 0 2 (by decide +kernel)
    have b1_0_3 : N1 0 3 = M 0 3 := y1 0 3 (by decide +kernel)
    have b1_4_261 : N1 4 261 = M 4 261 := y1 4 261 (by decide +kernel)
    have b1_28_8 : N1 28 8 = M 28 8 := y1 28 8 (by decide +kernel)
    have b1_28_9 : N1 28 9 = M 28 9 := y1 28 9 (by decide +kernel)
    have b1_28_10 : N1 28 10 = M 28 10 := y1 28 10 (by decide +kernel)
    have b1_77_6 : N1 77 6 = ρ1 8 := t1_0
    have b1_91_2 : N1 91 2 = M 91 2 := y1 91 2 (by decide +kernel)
    have b1_91_33 : N1 91 33 = M 91 33 := y1 91 33 (by decide +kernel)
    have b1_91_34 : N1 91 34 = M 91 34 := y1 91 34 (by decide +kernel)
    have b1_91_61 : N1 91 61 = M 91 61 := y1 91 61 (by decide +kernel)
    have b1_93_0 : N1 93 0 = M 93 0 := y1 93 0 (by decide +kernel)
    have b1_93_1 : N1 93 1 = M 93 1 := y1 93 1 (by decide +kernel)
    have b1_93_2 : N1 93 2 = M 93 2 := y1 93 2 (by decide +kernel)
    obtain ⟨rv2, N2, e2, p2, q2⟩ := u_runX ko_r659 (ks := uKs 28) (ex := []) (o := 91) (bs := [false, false, false, false]) (by decide +kernel) s1.1 s1.2 (as := [x1.toInt, x2.toInt, x3.toInt, x4.toInt]) ⟨⟨uarg_i _, fun h => nomatch h⟩, ⟨⟨uarg_i _, fun h => nomatch h⟩, ⟨⟨uarg_i _, fun h => nomatch h⟩, ⟨⟨uarg_i _, fun h => nomatch h⟩, trivial⟩⟩⟩⟩ (fun _ f hf => nomatch hf) J (N := 300) (by decide)
    obtain ⟨ρ2, u2, w2, t2, z2, i2, y2⟩ := up_r659 p2
    have o2 : ρ2 0 = 1 := u2 0 (by decide)
    have a2_1 : ρ2 1 = x1.toInt := (u2 1 (by decide)).trans (urho_a (as := [x1.toInt, x2.toInt, x3.toInt, x4.toInt]) (j := 0) (show (0 : Nat) < 4 from by decide))
    have a2_2 : ρ2 2 = x2.toInt := (u2 2 (by decide)).trans (urho_a (as := [x1.toInt, x2.toInt, x3.toInt, x4.toInt]) (j := 1) (show (1 : Nat) < 4 from by decide))
    have a2_3 : ρ2 3 = x3.toInt := (u2 3 (by decide)).trans (urho_a (as := [x1.toInt, x2.toInt, x3.toInt, x4.toInt]) (j := 2) (show (2 : Nat) < 4 from by decide))
    have a2_4 : ρ2 4 = x4.toInt := (u2 4 (by decide)).trans (urho_a (as := [x1.toInt, x2.toInt, x3.toInt, x4.toInt]) (j := 3) (show (3 : Nat) < 4 from by decide))
    have m2_93_0 : N1 93 0 = ρ2 5 := by
      have h := q2 (93, 0, [(1, 5)]) (List.mem_of_getElem? (i := 0) rfl)
      have h : N1 93 0 = 1 * uRho [x1.toInt, x2.toInt, x3.toInt, x4.toInt] N1 (cM kc_r659) 5 + 0 := h
      rw [u2 5 (by decide)]
      omega
    have m2_91_61 : N1 91 61 = ρ2 6 := by
      have h := q2 (91, 61, [(1, 6)]) (List.mem_of_getElem? (i := 1) rfl)
      have h : N1 91 61 = 1 * uRho [x1.toInt, x2.toInt, x3.toInt, x4.toInt] N1 (cM kc_r659) 6 + 0 := h
      rw [u2 6 (by decide)]
      omega
    have t2_0 := t2
    rw [o2] at z2
    have s2 : uSt 28 N2 := ukeep_ok (c := kc_r659) (r := 28) (by decide +kernel) s1 p2
    have b2_0_1 : N2 0 1 = N1 0 1 := y2 0 1 (by decide +kernel)
    have b2_0_2 : N2 0 2 = N1 0 2 := y2 0 2 (by decide +kernel)
    have b2_0_3 : N2 0 3 = N1 0 3 := y2 0 3 (by decide +kernel)
    have b2_4_261 : N2 4 261 = N1 4 261 := y2 4 261 (by decide +kernel)
    have b2_28_8 : N2 28 8 = N1 28 8 := y2 28 8 (by decide +kernel)
    have b2_28_9 : N2 28 9 = N1 28 9 := y2 28 9 (by decide +kernel)
    have b2_28_10 : N2 28 10 = N1 28 10 := y2 28 10 (by decide +kernel)
    have b2_77_6 : N2 77 6 = N1 77 6 := y2 77 6 (by decide +kernel)
    have b2_91_2 : N2 91 2 = N1 91 2 := y2 91 2 (by decide +kernel)
    have b2_91_33 : N2 91 33 = N1 91 33 := y2 91 33 (by decide +kernel)
    have b2_91_34 : N2 91 34 = N1 91 34 := y2 91 34 (by decide +kernel)
    have b2_91_61 : N2 91 61 = ρ2 8 := t2_0
    have b2_93_0 : N2 93 0 = N1 93 0 := y2 93 0 (by decide +kernel)
    have b2_93_1 : N2 93 1 = N1 93 1 := y2 93 1 (by decide +kernel)
    have b2_93_2 : N2 93 2 = N1 93 2 := y2 93 2 (by decide +kernel)
    have hv : ρ2 7 = ρ1 7 ∧ N2 77 6 = N2 91 61 := by
      clear hT hs s1 s2 i1 i2 y1 y2 u1 u2 q1 q2 p1 p2
      rcases z1 with z1 | z1 | z1 | z1 | z1 | z1 | z1 | z1 | z1 <;> rcases z2 with z2 | z2 | z2 | z2 | z2 | z2 | z2 | z2 | z2 <;> omega
    obtain ⟨hv, hw0⟩ := hv
    clear z1 z2
    rw [w1] at e1
    rw [w2, hv] at e2
    simp only [List.map_cons, List.map_nil, i32_of] at e1 e2
    exact ⟨Int32.ofInt (ρ1 7), N1, N2, e1, e2, 28, Or.inr rfl, s2, (fun q hq => by
      have hq : q ∈ ([(0, 1, 91, 2), (4, 261, 0, 1), (0, 2, 91, 33), (0, 3, 91, 34), (28, 8, 93, 0), (28, 9, 93, 1), (28, 10, 93, 2), (77, 6, 91, 61)] : List (Nat × Nat × Nat × Nat)) := hq
      simp only [List.mem_cons, List.not_mem_nil, or_false] at hq
      rcases hq with rfl | rfl | rfl | rfl | rfl | rfl | rfl | rfl
      · exact (show N2 0 1 = N2 91 2 by omega)
      · exact (show N2 4 261 = N2 0 1 by omega)
      · exact (show N2 0 2 = N2 91 33 by omega)
      · exact (show N2 0 3 = N2 91 34 by omega)
      · exact (show N2 28 8 = N2 93 0 by omega)
      · exact (show N2 28 9 = N2 93 1 by omega)
      · exact (show N2 28 10 = N2 93 2 by omega)
      · exact (show N2 77 6 = N2 91 61 by omega))⟩
theorem up_90 {ρ : Nat → Int} {M M' : sM} {rv : Option sV} (h : qPost kc_90 ρ M rv M') : ∃ ρ' : Nat → Int, (∀ a, a < 3 → ρ' a = ρ a) ∧ rv = qRv 0 (ρ' 3) ∧ (M' 77 6 = ρ' 4) ∧ ((0 ≤ 1 * ρ' 0 + (1 * ρ' 3 + 0) ∧ 0 ≤ -1 * ρ' 0 + (-1 * ρ' 3 + 0) ∧ 0 ≤ -1 * ρ' 2 + (1 * ρ' 4 + 0) ∧ 0 ≤ 1 * ρ' 2 + (-1 * ρ' 4 + 0) ∧ 0 ≤ -1 * ρ' 0 + (-1 * ρ' 1 + 0) ∧ 0 ≤ 1 * ρ' 4 + 0 ∧ 0 ≤ 24 * ρ' 0 + (-1 * ρ' 4 + 0)) ∨ (0 ≤ 1 * ρ' 0 + (1 * ρ' 3 + 0) ∧ 0 ≤ -1 * ρ' 0 + (-1 * ρ' 3 + 0) ∧ 0 ≤ -1 * ρ' 2 + (1 * ρ' 4 + 0) ∧ 0 ≤ 1 * ρ' 2 + (-1 * ρ' 4 + 0) ∧ 0 ≤ 1 * ρ' 1 + (-1 * ρ' 2 + 0) ∧ 0 ≤ 1 * ρ' 4 + 0 ∧ 0 ≤ 24 * ρ' 0 + (-1 * ρ' 4 + 0)) ∨ (0 ≤ 1 * ρ' 0 + (1 * ρ' 3 + 0) ∧ 0 ≤ -1 * ρ' 0 + (-1 * ρ' 3 + 0) ∧ 0 ≤ -1 * ρ' 2 + (1 * ρ' 4 + 0) ∧ 0 ≤ 1 * ρ' 2 + (-1 * ρ' 4 + 0) ∧ 0 ≤ -24 * ρ' 0 + (1 * ρ' 2 + 0) ∧ 0 ≤ 1 * ρ' 4 + 0 ∧ 0 ≤ 24 * ρ' 0 + (-1 * ρ' 4 + 0)) ∨ (0 ≤ -1 * ρ' 2 + (1 * ρ' 3 + 0) ∧ 0 ≤ 1 * ρ' 2 + (-1 * ρ' 3 + 0) ∧ 0 ≤ -1 * ρ' 0 + (-1 * ρ' 2 + (1 * ρ' 4 + 0)) ∧ 0 ≤ 1 * ρ' 0 + (1 * ρ' 2 + (-1 * ρ' 4 + 0)) ∧ 0 ≤ 1 * ρ' 1 + 0 ∧ 0 ≤ -1 * ρ' 0 + (-1 * ρ' 1 + (1 * ρ' 2 + 0)) ∧ 0 ≤ 23 * ρ' 0 + (-1 * ρ' 2 + 0) ∧ 0 ≤ 1 * ρ' 4 + 0 ∧ 0 ≤ 24 * ρ' 0 + (-1 * ρ' 4 + 0))) ∧ sI M' ∧ sF (cS kc_90) M M' := by
  obtain ⟨ρ', h1, h2, ⟨al, hal, hf⟩, h3, h4, h5⟩ := h
  refine ⟨ρ', h1, h2, h3 (77, 6, 4) (List.mem_of_getElem? (i := 0) rfl), ?_, h4, h5⟩
  have hal : al ∈ ([[[(1, 0), (1, 3)], [(-1, 0), (-1, 3)], [(-1, 2), (1, 4)], [(1, 2), (-1, 4)], [(-1, 0), (-1, 1)], [(1, 4)], [(24, 0), (-1, 4)]], [[(1, 0), (1, 3)], [(-1, 0), (-1, 3)], [(-1, 2), (1, 4)], [(1, 2), (-1, 4)], [(1, 1), (-1, 2)], [(1, 4)], [(24, 0), (-1, 4)]], [[(1, 0), (1, 3)], [(-1, 0), (-1, 3)], [(-1, 2), (1, 4)], [(1, 2), (-1, 4)], [(-24, 0), (1, 2)], [(1, 4)], [(24, 0), (-1, 4)]], [[(-1, 2), (1, 3)], [(1, 2), (-1, 3)], [(-1, 0), (-1, 2), (1, 4)], [(1, 0), (1, 2), (-1, 4)], [(1, 1)], [(-1, 0), (-1, 1), (1, 2)], [(23, 0), (-1, 2)], [(1, 4)], [(24, 0), (-1, 4)]]] : List (List qF)) := hal
  simp only [List.mem_cons, List.not_mem_nil, or_false] at hal
  rcases hal with rfl | rfl | rfl | rfl
  · exact Or.inl ⟨hf [(1, 0), (1, 3)] (List.mem_of_getElem? (i := 0) rfl), hf [(-1, 0), (-1, 3)] (List.mem_of_getElem? (i := 1) rfl), hf [(-1, 2), (1, 4)] (List.mem_of_getElem? (i := 2) rfl), hf [(1, 2), (-1, 4)] (List.mem_of_getElem? (i := 3) rfl), hf [(-1, 0), (-1, 1)] (List.mem_of_getElem? (i := 4) rfl), hf [(1, 4)] (List.mem_of_getElem? (i := 5) rfl), hf [(24, 0), (-1, 4)] (List.mem_of_getElem? (i := 6) rfl)⟩
  · exact Or.inr (Or.inl ⟨hf [(1, 0), (1, 3)] (List.mem_of_getElem? (i := 0) rfl), hf [(-1, 0), (-1, 3)] (List.mem_of_getElem? (i := 1) rfl), hf [(-1, 2), (1, 4)] (List.mem_of_getElem? (i := 2) rfl), hf [(1, 2), (-1, 4)] (List.mem_of_getElem? (i := 3) rfl), hf [(1, 1), (-1, 2)] (List.mem_of_getElem? (i := 4) rfl), hf [(1, 4)] (List.mem_of_getElem? (i := 5) rfl), hf [(24, 0), (-1, 4)] (List.mem_of_getElem? (i := 6) rfl)⟩)
  · exact Or.inr (Or.inr (Or.inl ⟨hf [(1, 0), (1, 3)] (List.mem_of_getElem? (i := 0) rfl), hf [(-1, 0), (-1, 3)] (List.mem_of_getElem? (i := 1) rfl), hf [(-1, 2), (1, 4)] (List.mem_of_getElem? (i := 2) rfl), hf [(1, 2), (-1, 4)] (List.mem_of_getElem? (i := 3) rfl), hf [(-24, 0), (1, 2)] (List.mem_of_getElem? (i := 4) rfl), hf [(1, 4)] (List.mem_of_getElem? (i := 5) rfl), hf [(24, 0), (-1, 4)] (List.mem_of_getElem? (i := 6) rfl)⟩))
  · exact Or.inr (Or.inr (Or.inr (⟨hf [(-1, 2), (1, 3)] (List.mem_of_getElem? (i := 0) rfl), hf [(1, 2), (-1, 3)] (List.mem_of_getElem? (i := 1) rfl), hf [(-1, 0), (-1, 2), (1, 4)] (List.mem_of_getElem? (i := 2) rfl), hf [(1, 0), (1, 2), (-1, 4)] (List.mem_of_getElem? (i := 3) rfl), hf [(1, 1)] (List.mem_of_getElem? (i := 4) rfl), hf [(-1, 0), (-1, 1), (1, 2)] (List.mem_of_getElem? (i := 5) rfl), hf [(23, 0), (-1, 2)] (List.mem_of_getElem? (i := 6) rfl), hf [(1, 4)] (List.mem_of_getElem? (i := 7) rfl), hf [(24, 0), (-1, 4)] (List.mem_of_getElem? (i := 8) rfl)⟩)))
theorem up_r660 {ρ : Nat → Int} {M M' : sM} {rv : Option sV} (h : qPost kc_r660 ρ M rv M') : ∃ ρ' : Nat → Int, (∀ a, a < 3 → ρ' a = ρ a) ∧ rv = qRv 0 (ρ' 3) ∧ (M' 91 61 = ρ' 4) ∧ ((0 ≤ 1 * ρ' 0 + (1 * ρ' 3 + 0) ∧ 0 ≤ -1 * ρ' 0 + (-1 * ρ' 3 + 0) ∧ 0 ≤ -1 * ρ' 2 + (1 * ρ' 4 + 0) ∧ 0 ≤ 1 * ρ' 2 + (-1 * ρ' 4 + 0) ∧ 0 ≤ -1 * ρ' 0 + (-1 * ρ' 1 + 0) ∧ 0 ≤ 1 * ρ' 4 + 0 ∧ 0 ≤ 24 * ρ' 0 + (-1 * ρ' 4 + 0)) ∨ (0 ≤ 1 * ρ' 0 + (1 * ρ' 3 + 0) ∧ 0 ≤ -1 * ρ' 0 + (-1 * ρ' 3 + 0) ∧ 0 ≤ -1 * ρ' 2 + (1 * ρ' 4 + 0) ∧ 0 ≤ 1 * ρ' 2 + (-1 * ρ' 4 + 0) ∧ 0 ≤ 1 * ρ' 1 + (-1 * ρ' 2 + 0) ∧ 0 ≤ 1 * ρ' 4 + 0 ∧ 0 ≤ 24 * ρ' 0 + (-1 * ρ' 4 + 0)) ∨ (0 ≤ 1 * ρ' 0 + (1 * ρ' 3 + 0) ∧ 0 ≤ -1 * ρ' 0 + (-1 * ρ' 3 + 0) ∧ 0 ≤ -1 * ρ' 2 + (1 * ρ' 4 + 0) ∧ 0 ≤ 1 * ρ' 2 + (-1 * ρ' 4 + 0) ∧ 0 ≤ -24 * ρ' 0 + (1 * ρ' 2 + 0) ∧ 0 ≤ 1 * ρ' 4 + 0 ∧ 0 ≤ 24 * ρ' 0 + (-1 * ρ' 4 + 0)) ∨ (0 ≤ -1 * ρ' 2 + (1 * ρ' 3 + 0) ∧ 0 ≤ 1 * ρ' 2 + (-1 * ρ' 3 + 0) ∧ 0 ≤ -1 * ρ' 0 + (-1 * ρ' 2 + (1 * ρ' 4 + 0)) ∧ 0 ≤ 1 * ρ' 0 + (1 * ρ' 2 + (-1 * ρ' 4 + 0)) ∧ 0 ≤ 1 * ρ' 1 + 0 ∧ 0 ≤ -1 * ρ' 0 + (-1 * ρ' 1 + (1 * ρ' 2 + 0)) ∧ 0 ≤ 23 * ρ' 0 + (-1 * ρ' 2 + 0) ∧ 0 ≤ 1 * ρ' 4 + 0 ∧ 0 ≤ 24 * ρ' 0 + (-1 * ρ' 4 + 0))) ∧ sI M' ∧ sF (cS kc_r660) M M' := by
  obtain ⟨ρ', h1, h2, ⟨al, hal, hf⟩, h3, h4, h5⟩ := h
  refine ⟨ρ', h1, h2, h3 (91, 61, 4) (List.mem_of_getElem? (i := 0) rfl), ?_, h4, h5⟩
  have hal : al ∈ ([[[(1, 0), (1, 3)], [(-1, 0), (-1, 3)], [(-1, 2), (1, 4)], [(1, 2), (-1, 4)], [(-1, 0), (-1, 1)], [(1, 4)], [(24, 0), (-1, 4)]], [[(1, 0), (1, 3)], [(-1, 0), (-1, 3)], [(-1, 2), (1, 4)], [(1, 2), (-1, 4)], [(1, 1), (-1, 2)], [(1, 4)], [(24, 0), (-1, 4)]], [[(1, 0), (1, 3)], [(-1, 0), (-1, 3)], [(-1, 2), (1, 4)], [(1, 2), (-1, 4)], [(-24, 0), (1, 2)], [(1, 4)], [(24, 0), (-1, 4)]], [[(-1, 2), (1, 3)], [(1, 2), (-1, 3)], [(-1, 0), (-1, 2), (1, 4)], [(1, 0), (1, 2), (-1, 4)], [(1, 1)], [(-1, 0), (-1, 1), (1, 2)], [(23, 0), (-1, 2)], [(1, 4)], [(24, 0), (-1, 4)]]] : List (List qF)) := hal
  simp only [List.mem_cons, List.not_mem_nil, or_false] at hal
  rcases hal with rfl | rfl | rfl | rfl
  · exact Or.inl ⟨hf [(1, 0), (1, 3)] (List.mem_of_getElem? (i := 0) rfl), hf [(-1, 0), (-1, 3)] (List.mem_of_getElem? (i := 1) rfl), hf [(-1, 2), (1, 4)] (List.mem_of_getElem? (i := 2) rfl), hf [(1, 2), (-1, 4)] (List.mem_of_getElem? (i := 3) rfl), hf [(-1, 0), (-1, 1)] (List.mem_of_getElem? (i := 4) rfl), hf [(1, 4)] (List.mem_of_getElem? (i := 5) rfl), hf [(24, 0), (-1, 4)] (List.mem_of_getElem? (i := 6) rfl)⟩
  · exact Or.inr (Or.inl ⟨hf [(1, 0), (1, 3)] (List.mem_of_getElem? (i := 0) rfl), hf [(-1, 0), (-1, 3)] (List.mem_of_getElem? (i := 1) rfl), hf [(-1, 2), (1, 4)] (List.mem_of_getElem? (i := 2) rfl), hf [(1, 2), (-1, 4)] (List.mem_of_getElem? (i := 3) rfl), hf [(1, 1), (-1, 2)] (List.mem_of_getElem? (i := 4) rfl), hf [(1, 4)] (List.mem_of_getElem? (i := 5) rfl), hf [(24, 0), (-1, 4)] (List.mem_of_getElem? (i := 6) rfl)⟩)
  · exact Or.inr (Or.inr (Or.inl ⟨hf [(1, 0), (1, 3)] (List.mem_of_getElem? (i := 0) rfl), hf [(-1, 0), (-1, 3)] (List.mem_of_getElem? (i := 1) rfl), hf [(-1, 2), (1, 4)] (List.mem_of_getElem? (i := 2) rfl), hf [(1, 2), (-1, 4)] (List.mem_of_getElem? (i := 3) rfl), hf [(-24, 0), (1, 2)] (List.mem_of_getElem? (i := 4) rfl), hf [(1, 4)] (List.mem_of_getElem? (i := 5) rfl), hf [(24, 0), (-1, 4)] (List.mem_of_getElem? (i := 6) rfl)⟩))
  · exact Or.inr (Or.inr (Or.inr (⟨hf [(-1, 2), (1, 3)] (List.mem_of_getElem? (i := 0) rfl), hf [(1, 2), (-1, 3)] (List.mem_of_getElem? (i := 1) rfl), hf [(-1, 0), (-1, 2), (1, 4)] (List.mem_of_getElem? (i := 2) rfl), hf [(1, 0), (1, 2), (-1, 4)] (List.mem_of_getElem? (i := 3) rfl), hf [(1, 1)] (List.mem_of_getElem? (i := 4) rfl), hf [(-1, 0), (-1, 1), (1, 2)] (List.mem_of_getElem? (i := 5) rfl), hf [(23, 0), (-1, 2)] (List.mem_of_getElem? (i := 6) rfl), hf [(1, 4)] (List.mem_of_getElem? (i := 7) rfl), hf [(24, 0), (-1, 4)] (List.mem_of_getElem? (i := 8) rfl)⟩)))
set_option maxHeartbeats 4000000 in
theorem uo_30 {M : sM} (hM : uG M) (J : pHp) (x1 : Int32) : ∃ (v : Int32) (M1 M2 : sM), pEx 300 144 [.ref 0, .int x1] (sHp sLay M ++ J) (some (.int v)) (sHp sLay M1 ++ J) ∧ pEx 300 267 [.ref 91, .int x1] (sHp sLay M1 ++ J) (some (.int v)) (sHp sLay M2 ++ J) ∧ uG M2 := by
  obtain ⟨r, hr, hs, hT⟩ := hM
  rcases hr with rfl | rfl
  · have kM_0 : M 0 1 = M 91 2 := hT (0, 1, 91, 2) (List.mem_of_getElem? (i := 0) rfl)
    have kM_1 : M 4 261 = M 0 1 := hT (4, 261, 0, 1) (List.mem_of_getElem? (i := 1) rfl)
    have kM_2 : M 0 2 = M 91 33 := hT (0, 2, 91, 33) (List.mem_of_getElem? (i := 2) rfl)
    have kM_3 : M 0 3 = M 91 34 := hT (0, 3, 91, 34) (List.mem_of_getElem? (i := 3) rfl)
    have kM_4 : M 2 8 = M 93 0 := hT ((2 : Int).toNat, 8, 93, 0) (List.mem_of_getElem? (i := 4) rfl)
    have kM_5 : M 2 9 = M 93 1 := hT ((2 : Int).toNat, 9, 93, 1) (List.mem_of_getElem? (i := 5) rfl)
    have kM_6 : M 2 10 = M 93 2 := hT ((2 : Int).toNat, 10, 93, 2) (List.mem_of_getElem? (i := 6) rfl)
    have kM_7 : M 77 6 = M 91 61 := hT (77, 6, 91, 61) (List.mem_of_getElem? (i := 7) rfl)
    obtain ⟨rv1, N1, e1, p1, q1⟩ := u_runX ko_90 (ks := uKs 2) (ex := []) (o := 0) (bs := [false]) (by decide +kernel) hs.1 hs.2 (as := [x1.toInt]) ⟨⟨uarg_i _, fun h => nomatch h⟩, trivial⟩ (fun _ f hf => nomatch hf) J (N := 300) (by decide)
    obtain ⟨ρ1, u1, w1, t1, z1, i1, y1⟩ := up_90 p1
    have o1 : ρ1 0 = 1 := u1 0 (by decide)
    have a1_1 : ρ1 1 = x1.toInt := (u1 1 (by decide)).trans (urho_a (as := [x1.toInt]) (j := 0) (show (0 : Nat) < 1 from by decide))
    have m1_77_6 : M 77 6 = ρ1 2 := by
      have h := q1 (77, 6, [(1, 2)]) (List.mem_of_getElem? (i := 0) rfl)
      have h : M 77 6 = 1 * uRho [x1.toInt] M (cM kc_90) 2 + 0 := h
      rw [u1 2 (by decide)]
      omega
    have t1_0 := t1
    rw [o1] at z1
    have s1 : uSt 2 N1 := ukeep_ok (c := kc_90) (r := 2) (by decide +kernel) hs p1
    have b1_0_1 : N1 0 1 = M 0 1 := y1 0 1 (by decide +kernel)
    have b1_0_2 : N1 0 2 = M 0 2 := y1 0 2 (by decide +kernel)
    have b1_0_3 : N1 0 3 = M 0 3 := y1 0 3 (by decide +kernel)
    have b1_2_8 : N1 2 8 = M 2 8 := y1 2 8 (by decide +kernel)
    have b1_2_9 : N1 2 9 = M 2 9 := y1 2 9 (by decide +kernel)
    have b1_2_10 : N1 2 10 = M 2 10 := y1 2 10 (by decide +kernel)
    have b1_4_261 : N1 4 261 = M 4 261 := y1 4 261 (by decide +kernel)
    have b1_77_6 : N1 77 6 = ρ1 4 := t1_0
    have b1_91_2 : N1 91 2 = M 91 2 := y1 91 2 (by decide +kernel)
    have b1_91_33 : N1 91 33 = M 91 33 := y1 91 33 (by decide +kernel)
    have b1_91_34 : N1 91 34 = M 91 34 := y1 91 34 (by decide +kernel)
    have b1_91_61 : N1 91 61 = M 91 61 := y1 91 61 (by decide +kernel)
    have b1_93_0 : N1 93 0 = M 93 0 := y1 93 0 (by decide +kernel)
    have b1_93_1 : N1 93 1 = M 93 1 := y1 93 1 (by decide +kernel)
    have b1_93_2 : N1 93 2 = M 93 2 := y1 93 2 (by decide +kernel)
    obtain ⟨rv2, N2, e2, p2, q2⟩ := u_runX ko_r660 (ks := uKs 2) (ex := []) (o := 91) (bs := [false]) (by decide +kernel) s1.1 s1.2 (as := [x1.toInt]) ⟨⟨uarg_i _, fun h => nomatch h⟩, trivial⟩ (fun _ f hf => nomatch hf) J (N := 300) (by decide)
    obtain ⟨ρ2, u2, w2, t2, z2, i2, y2⟩ := up_r660 p2
    have o2 : ρ2 0 = 1 := u2 0 (by decide)
    have a2_1 : ρ2 1 = x1.toInt := (u2 1 (by decide)).trans (urho_a (as := [x1.toInt]) (j := 0) (show (0 : Nat) < 1 from by decide))
    have m2_91_61 : N1 91 61 = ρ2 2 := by
      have h := q2 (91, 61, [(1, 2)]) (List.mem_of_getElem? (i := 0) rfl)
      have h : N1 91 61 = 1 * uRho [x1.toInt] N1 (cM kc_r660) 2 + 0 := h
      rw [u2 2 (by decide)]
      omega
    have t2_0 := t2
    rw [o2] at z2
    have s2 : uSt 2 N2 := ukeep_ok (c := kc_r660) (r := 2) (by decide +kernel) s1 p2
    have b2_0_1 : N2 0 1 = N1 0 1 := y2 0 1 (by decide +kernel)
    have b2_0_2 : N2 0 2 = N1 0 2 := y2 0 2 (by decide +kernel)
    have b2_0_3 : N2 0 3 = N1 0 3 := y2 0 3 (by decide +kernel)
    have b2_2_8 : N2 2 8 = N1 2 8 := y2 2 8 (by decide +kernel)
    have b2_2_9 : N2 2 9 = N1 2 9 := y2 2 9 (by decide +kernel)
    have b2_2_10 : N2 2 10 = N1 2 10 := y2 2 10 (by decide +kernel)
    have b2_4_261 : N2 4 261 = N1 4 261 := y2 4 261 (by decide +kernel)
    have b2_77_6 : N2 77 6 = N1 77 6 := y2 77 6 (by decide +kernel)
    have b2_91_2 : N2 91 2 = N1 91 2 := y2 91 2 (by decide +kernel)
    have b2_91_33 : N2 91 33 = N1 91 33 := y2 91 33 (by decide +kernel)
    have b2_91_34 : N2 91 34 = N1 91 34 := y2 91 34 (by decide +kernel)
    have b2_91_61 : N2 91 61 = ρ2 4 := t2_0
    have b2_93_0 : N2 93 0 = N1 93 0 := y2 93 0 (by decide +kernel)
    have b2_93_1 : N2 93 1 = N1 93 1 := y2 93 1 (by decide +kernel)
    have b2_93_2 : N2 93 2 = N1 93 2 := y2 93 2 (by decide +kernel)
    have hv : ρ2 3 = ρ1 3 ∧ N2 77 6 = N2 91 61 := by
      clear hT hs s1 s2 i1 i2 y1 y2 u1 u2 q1 q2 p1 p2
      rcases z1 with z1 | z1 | z1 | z1 <;> rcases z2 with z2 | z2 | z2 | z2 <;> omega
    obtain ⟨hv, hw0⟩ := hv
    clear z1 z2
    rw [w1] at e1
    rw [w2, hv] at e2
    simp only [List.map_cons, List.map_nil, i32_of] at e1 e2
    exact ⟨Int32.ofInt (ρ1 3), N1, N2, e1, e2, 2, Or.inl rfl, s2, (fun q hq => by
      have hq : q ∈ ([(0, 1, 91, 2), (4, 261, 0, 1), (0, 2, 91, 33), (0, 3, 91, 34), (2, 8, 93, 0), (2, 9, 93, 1), (2, 10, 93, 2), (77, 6, 91, 61)] : List (Nat × Nat × Nat × Nat)) := hq
      simp only [List.mem_cons, List.not_mem_nil, or_false] at hq
      rcases hq with rfl | rfl | rfl | rfl | rfl | rfl | rfl | rfl
      · exact (show N2 0 1 = N2 91 2 by omega)
      · exact (show N2 4 261 = N2 0 1 by omega)
      · exact (show N2 0 2 = N2 91 33 by omega)
      · exact (show N2 0 3 = N2 91 34 by omega)
      · exact (show N2 2 8 = N2 93 0 by omega)
      · exact (show N2 2 9 = N2 93 1 by omega)
      · exact (show N2 2 10 = N2 93 2 by omega)
      · exact (show N2 77 6 = N2 91 61 by omega))⟩
  · have kM_0 : M 0 1 = M 91 2 := hT (0, 1, 91, 2) (List.mem_of_getElem? (i := 0) rfl)
    have kM_1 : M 4 261 = M 0 1 := hT (4, 261, 0, 1) (List.mem_of_getElem? (i := 1) rfl)
    have kM_2 : M 0 2 = M 91 33 := hT (0, 2, 91, 33) (List.mem_of_getElem? (i := 2) rfl)
    have kM_3 : M 0 3 = M 91 34 := hT (0, 3, 91, 34) (List.mem_of_getElem? (i := 3) rfl)
    have kM_4 : M 28 8 = M 93 0 := hT ((28 : Int).toNat, 8, 93, 0) (List.mem_of_getElem? (i := 4) rfl)
    have kM_5 : M 28 9 = M 93 1 := hT ((28 : Int).toNat, 9, 93, 1) (List.mem_of_getElem? (i := 5) rfl)
    have kM_6 : M 28 10 = M 93 2 := hT ((28 : Int).toNat, 10, 93, 2) (List.mem_of_getElem? (i := 6) rfl)
    have kM_7 : M 77 6 = M 91 61 := hT (77, 6, 91, 61) (List.mem_of_getElem? (i := 7) rfl)
    obtain ⟨rv1, N1, e1, p1, q1⟩ := u_runX ko_90 (ks := uKs 28) (ex := []) (o := 0) (bs := [false]) (by decide +kernel) hs.1 hs.2 (as := [x1.toInt]) ⟨⟨uarg_i _, fun h => nomatch h⟩, trivial⟩ (fun _ f hf => nomatch hf) J (N := 300) (by decide)
    obtain ⟨ρ1, u1, w1, t1, z1, i1, y1⟩ := up_90 p1
    have o1 : ρ1 0 = 1 := u1 0 (by decide)
    have a1_1 : ρ1 1 = x1.toInt := (u1 1 (by decide)).trans (urho_a (as := [x1.toInt]) (j := 0) (show (0 : Nat) < 1 from by decide))
    have m1_77_6 : M 77 6 = ρ1 2 := by
      have h := q1 (77, 6, [(1, 2)]) (List.mem_of_getElem? (i := 0) rfl)
      have h : M 77 6 = 1 * uRho [x1.toInt] M (cM kc_90) 2 + 0 := h
      rw [u1 2 (by decide)]
      omega
    have t1_0 := t1
    rw [o1] at z1
    have s1 : uSt 28 N1 := ukeep_ok (c := kc_90) (r := 28) (by decide +kernel) hs p1
    have b1_0_1 : N1 0 1 = M 0 1 := y1 0 1 (by decide +kernel)
    have b1_0_2 : N1 0 2 = M 0 2 := y1 0 2 (by decide +kernel)
    have b1_0_3 : N1 0 3 = M 0 3 := y1 0 3 (by decide +kernel)
    have b1_4_261 : N1 4 261 = M 4 261 := y1 4 261 (by decide +kernel)
    have b1_28_8 : N1 28 8 = M 28 8 := y1 28 8 (by decide +kernel)
    have b1_28_9 : N1 28 9 = M 28 9 := y1 28 9 (by decide +kernel)
    have b1_28_10 : N1 28 10 = M 28 10 := y1 28 10 (by decide +kernel)
    have b1_77_6 : N1 77 6 = ρ1 4 := t1_0
    have b1_91_2 : N1 91 2 = M 91 2 := y1 91 2 (by decide +kernel)
    have b1_91_33 : N1 91 33 = M 91 33 := y1 91 33 (by decide +kernel)
    have b1_91_34 : N1 91 34 = M 91 34 := y1 91 34 (by decide +kernel)
    have b1_91_61 : N1 91 61 = M 91 61 := y1 91 61 (by decide +kernel)
    have b1_93_0 : N1 93 0 = M 93 0 := y1 93 0 (by decide +kernel)
    have b1_93_1 : N1 93 1 = M 93 1 := y1 93 1 (by decide +kernel)
    have b1_93_2 : N1 93 2 = M 93 2 := y1 93 2 (by decide +kernel)
    obtain ⟨rv2, N2, e2, p2, q2⟩ := u_runX ko_r660 (ks := uKs 28) (ex := []) (o := 91) (bs := [false]) (by decide +kernel) s1.1 s1.2 (as := [x1.toInt]) ⟨⟨uarg_i _, fun h => nomatch h⟩, trivial⟩ (fun _ f hf => nomatch hf) J (N := 300) (by decide)
    obtain ⟨ρ2, u2, w2, t2, z2, i2, y2⟩ := up_r660 p2
    have o2 : ρ2 0 = 1 := u2 0 (by decide)
    have a2_1 : ρ2 1 = x1.toInt := (u2 1 (by decide)).trans (urho_a (as := [x1.toInt]) (j := 0) (show (0 : Nat) < 1 from by decide))
    have m2_91_61 : N1 91 61 = ρ2 2 := by
      have h := q2 (91, 61, [(1, 2)]) (List.mem_of_getElem? (i := 0) rfl)
      have h : N1 91 61 = 1 * uRho [x1.toInt] N1 (cM kc_r660) 2 + 0 := h
      rw [u2 2 (by decide)]
      omega
    have t2_0 := t2
    rw [o2] at z2
    have s2 : uSt 28 N2 := ukeep_ok (c := kc_r660) (r := 28) (by decide +kernel) s1 p2
    have b2_0_1 : N2 0 1 = N1 0 1 := y2 0 1 (by decide +kernel)
    have b2_0_2 : N2 0 2 = N1 0 2 := y2 0 2 (by decide +kernel)
    have b2_0_3 : N2 0 3 = N1 0 3 := y2 0 3 (by decide +kernel)
    have b2_4_261 : N2 4 261 = N1 4 261 := y2 4 261 (by decide +kernel)
    have b2_28_8 : N2 28 8 = N1 28 8 := y2 28 8 (by decide +kernel)
    have b2_28_9 : N2 28 9 = N1 28 9 := y2 28 9 (by decide +kernel)
    have b2_28_10 : N2 28 10 = N1 28 10 := y2 28 10 (by decide +kernel)
    have b2_77_6 : N2 77 6 = N1 77 6 := y2 77 6 (by decide +kernel)
    have b2_91_2 : N2 91 2 = N1 91 2 := y2 91 2 (by decide +kernel)
    have b2_91_33 : N2 91 33 = N1 91 33 := y2 91 33 (by decide +kernel)
    have b2_91_34 : N2 91 34 = N1 91 34 := y2 91 34 (by decide +kernel)
    have b2_91_61 : N2 91 61 = ρ2 4 := t2_0
    have b2_93_0 : N2 93 0 = N1 93 0 := y2 93 0 (by decide +kernel)
    have b2_93_1 : N2 93 1 = N1 93 1 := y2 93 1 (by decide +kernel)
    have b2_93_2 : N2 93 2 = N1 93 2 := y2 93 2 (by decide +kernel)
    have hv : ρ2 3 = ρ1 3 ∧ N2 77 6 = N2 91 61 := by
      clear hT hs s1 s2 i1 i2 y1 y2 u1 u2 q1 q2 p1 p2
      rcases z1 with z1 | z1 | z1 | z1 <;> rcases z2 with z2 | z2 | z2 | z2 <;> omega
    obtain ⟨hv, hw0⟩ := hv
    clear z1 z2
    rw [w1] at e1
    rw [w2, hv] at e2
    simp only [List.map_cons, List.map_nil, i32_of] at e1 e2
    exact ⟨Int32.ofInt (ρ1 3), N1, N2, e1, e2, 28, Or.inr rfl, s2, (fun q hq => by
      have hq : q ∈ ([(0, 1, 91, 2), (4, 261, 0, 1), (0, 2, 91, 33), (0, 3, 91, 34), (28, 8, 93, 0), (28, 9, 93, 1), (28, 10, 93, 2), (77, 6, 91, 61)] : List (Nat × Nat × Nat × Nat)) := hq
      simp only [List.mem_cons, List.not_mem_nil, or_false] at hq
      rcases hq with rfl | rfl | rfl | rfl | rfl | rfl | rfl | rfl
      · exact (show N2 0 1 = N2 91 2 by omega)
      · exact (show N2 4 261 = N2 0 1 by omega)
      · exact (show N2 0 2 = N2 91 33 by omega)
      · exact (show N2 0 3 = N2 91 34 by omega)
      · exact (show N2 28 8 = N2 93 0 by omega)
      · exact (show N2 28 9 = N2 93 1 by omega)
      · exact (show N2 28 10 = N2 93 2 by omega)
      · exact (show N2 77 6 = N2 91 61 by omega))⟩
theorem uo_31 {M : sM} (hM : uG M) (J : pHp) (x1 : Int32) : ∃ (v1 : Int32) (M1 : sM) (v2 : Int32) (M2 : sM), pEx 300 146 [.ref 0, .int x1] (sHp sLay M ++ J) (some (.int v1)) (sHp sLay M1 ++ J) ∧ pEx 300 268 [.ref 91, .int x1] (sHp sLay M1 ++ J) (some (.int v2)) (sHp sLay M2 ++ J) ∧ uG M2 := by
  obtain ⟨z1, M1, z2, M2, e1, e2, e3⟩ := u_two ko_91 ko_91 ko_r661 (bs := [false]) (by decide +kernel) hM (as := [x1.toInt]) ⟨⟨uarg_i _, fun h => nomatch h⟩, trivial⟩ J
  simp only [List.map_cons, List.map_nil, i32_of] at e1 e2
  exact ⟨Int32.ofInt z1, M1, Int32.ofInt z2, M2, e1, e2, e3⟩
theorem uo_32 {M : sM} (hM : uG M) (J : pHp)  : ∃ (v1 : Int32) (M1 : sM) (v2 : Int32) (M2 : sM), pEx 300 147 [.ref 0] (sHp sLay M ++ J) (some (.int v1)) (sHp sLay M1 ++ J) ∧ pEx 300 269 [.ref 91] (sHp sLay M1 ++ J) (some (.int v2)) (sHp sLay M2 ++ J) ∧ uG M2 := by
  obtain ⟨z1, M1, z2, M2, e1, e2, e3⟩ := u_two ko_97 ko_263 ko_r666 (bs := []) (by decide +kernel) hM (as := []) trivial J
  simp only [List.map_cons, List.map_nil, i32_of] at e1 e2
  exact ⟨Int32.ofInt z1, M1, Int32.ofInt z2, M2, e1, e2, e3⟩
theorem uo_33 {M : sM} (hM : uG M) (J : pHp) (x1 : Int32) (x2 : Int32) : ∃ (v1 : Int32) (M1 : sM) (v2 : Int32) (M2 : sM), pEx 300 153 [.ref 0, .int x1, .int x2] (sHp sLay M ++ J) (some (.int v1)) (sHp sLay M1 ++ J) ∧ pEx 300 274 [.ref 91, .int x1, .int x2] (sHp sLay M1 ++ J) (some (.int v2)) (sHp sLay M2 ++ J) ∧ uG M2 := by
  obtain ⟨z1, M1, z2, M2, e1, e2, e3⟩ := u_two ko_99 ko_265 ko_r667 (bs := [false, false]) (by decide +kernel) hM (as := [x1.toInt, x2.toInt]) ⟨⟨uarg_i _, fun h => nomatch h⟩, ⟨⟨uarg_i _, fun h => nomatch h⟩, trivial⟩⟩ J
  simp only [List.map_cons, List.map_nil, i32_of] at e1 e2
  exact ⟨Int32.ofInt z1, M1, Int32.ofInt z2, M2, e1, e2, e3⟩
theorem uo_34 {M : sM} (hM : uG M) (J : pHp) (x1 : Int32) : ∃ (v1 : Int32) (M1 : sM) (v2 : Int32) (M2 : sM), pEx 300 155 [.ref 0, .int x1] (sHp sLay M ++ J) (some (.int v1)) (sHp sLay M1 ++ J) ∧ pEx 300 275 [.ref 91, .int x1] (sHp sLay M1 ++ J) (some (.int v2)) (sHp sLay M2 ++ J) ∧ uG M2 := by
  obtain ⟨z1, M1, z2, M2, e1, e2, e3⟩ := u_two ko_100 ko_266 ko_r668 (bs := [false]) (by decide +kernel) hM (as := [x1.toInt]) ⟨⟨uarg_i _, fun h => nomatch h⟩, trivial⟩ J
  simp only [List.map_cons, List.map_nil, i32_of] at e1 e2
  exact ⟨Int32.ofInt z1, M1, Int32.ofInt z2, M2, e1, e2, e3⟩
theorem uo_35 {M : sM} (hM : uG M) (J : pHp) (x1 : Int32) : ∃ (v1 : Int32) (M1 : sM) (v2 : Int32) (M2 : sM), pEx 300 156 [.ref 0, .int x1] (sHp sLay M ++ J) (some (.int v1)) (sHp sLay M1 ++ J) ∧ pEx 300 276 [.ref 91, .int x1] (sHp sLay M1 ++ J) (some (.int v2)) (sHp sLay M2 ++ J) ∧ uG M2 := by
  obtain ⟨z1, M1, z2, M2, e1, e2, e3⟩ := u_two ko_105 ko_269 ko_r673 (bs := [false]) (by decide +kernel) hM (as := [x1.toInt]) ⟨⟨uarg_i _, fun h => nomatch h⟩, trivial⟩ J
  simp only [List.map_cons, List.map_nil, i32_of] at e1 e2
  exact ⟨Int32.ofInt z1, M1, Int32.ofInt z2, M2, e1, e2, e3⟩
theorem uo_36 {M : sM} (hM : uG M) (J : pHp) (x1 : Int32) (x2 : Int32) (x3 : Int32) : ∃ (v1 : Int32) (M1 : sM) (v2 : Int32) (M2 : sM), pEx 300 158 [.ref 0, .int x1, .int x2, .int x3] (sHp sLay M ++ J) (some (.int v1)) (sHp sLay M1 ++ J) ∧ pEx 300 277 [.ref 91, .int x1, .int x2, .int x3] (sHp sLay M1 ++ J) (some (.int v2)) (sHp sLay M2 ++ J) ∧ uG M2 := by
  obtain ⟨z1, M1, z2, M2, e1, e2, e3⟩ := u_two ko_116 ko_280 ko_r674 (bs := [false, false, false]) (by decide +kernel) hM (as := [x1.toInt, x2.toInt, x3.toInt]) ⟨⟨uarg_i _, fun h => nomatch h⟩, ⟨⟨uarg_i _, fun h => nomatch h⟩, ⟨⟨uarg_i _, fun h => nomatch h⟩, trivial⟩⟩⟩ J
  simp only [List.map_cons, List.map_nil, i32_of] at e1 e2
  exact ⟨Int32.ofInt z1, M1, Int32.ofInt z2, M2, e1, e2, e3⟩
theorem uo_37 {M : sM} (hM : uG M) (J : pHp)  : ∃ (v1 : Int32) (M1 : sM) (v2 : Int32) (M2 : sM), pEx 300 160 [.ref 0] (sHp sLay M ++ J) (some (.int v1)) (sHp sLay M1 ++ J) ∧ pEx 300 278 [.ref 91] (sHp sLay M1 ++ J) (some (.int v2)) (sHp sLay M2 ++ J) ∧ uG M2 := by
  obtain ⟨z1, M1, z2, M2, e1, e2, e3⟩ := u_two ko_117 ko_117 ko_r676 (bs := []) (by decide +kernel) hM (as := []) trivial J
  simp only [List.map_cons, List.map_nil, i32_of] at e1 e2
  exact ⟨Int32.ofInt z1, M1, Int32.ofInt z2, M2, e1, e2, e3⟩
theorem uo_38 {M : sM} (hM : uG M) (J : pHp)  : ∃ (v1 : Int32) (M1 : sM) (v2 : Int32) (M2 : sM), pEx 300 161 [.ref 0] (sHp sLay M ++ J) (some (.int v1)) (sHp sLay M1 ++ J) ∧ pEx 300 279 [.ref 91] (sHp sLay M1 ++ J) (some (.int v2)) (sHp sLay M2 ++ J) ∧ uG M2 := by
  obtain ⟨z1, M1, z2, M2, e1, e2, e3⟩ := u_two ko_119 ko_119 ko_r677 (bs := []) (by decide +kernel) hM (as := []) trivial J
  simp only [List.map_cons, List.map_nil, i32_of] at e1 e2
  exact ⟨Int32.ofInt z1, M1, Int32.ofInt z2, M2, e1, e2, e3⟩
theorem uo_39 {M : sM} (hM : uG M) (J : pHp)  : ∃ (v1 : Int32) (M1 : sM) (v2 : Int32) (M2 : sM), pEx 300 162 [.ref 0] (sHp sLay M ++ J) (some (.int v1)) (sHp sLay M1 ++ J) ∧ pEx 300 280 [.ref 91] (sHp sLay M1 ++ J) (some (.int v2)) (sHp sLay M2 ++ J) ∧ uG M2 := by
  obtain ⟨z1, M1, z2, M2, e1, e2, e3⟩ := u_two ko_121 ko_121 ko_r678 (bs := []) (by decide +kernel) hM (as := []) trivial J
  simp only [List.map_cons, List.map_nil, i32_of] at e1 e2
  exact ⟨Int32.ofInt z1, M1, Int32.ofInt z2, M2, e1, e2, e3⟩
theorem uo_40 {M : sM} (hM : uG M) (J : pHp) (x1 : Int32) : ∃ (v1 : Int32) (M1 : sM) (v2 : Int32) (M2 : sM), pEx 300 163 [.ref 0, .int x1] (sHp sLay M ++ J) (some (.int v1)) (sHp sLay M1 ++ J) ∧ pEx 300 281 [.ref 91, .int x1] (sHp sLay M1 ++ J) (some (.int v2)) (sHp sLay M2 ++ J) ∧ uG M2 := by
  obtain ⟨z1, M1, z2, M2, e1, e2, e3⟩ := u_two ko_123 ko_281 ko_r679 (bs := [false]) (by decide +kernel) hM (as := [x1.toInt]) ⟨⟨uarg_i _, fun h => nomatch h⟩, trivial⟩ J
  simp only [List.map_cons, List.map_nil, i32_of] at e1 e2
  exact ⟨Int32.ofInt z1, M1, Int32.ofInt z2, M2, e1, e2, e3⟩
