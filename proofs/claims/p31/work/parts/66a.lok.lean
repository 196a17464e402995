/-! LOOK: what the class does. -/
theorem up_l0 {ρ : Nat → Int} {M M' : sM} {rv : Option sV} (h : qPost kc_l0 ρ M rv M') : ∃ ρ' : Nat → Int, (∀ a, a < 3 → ρ' a = ρ a) ∧ rv = qRv 0 (ρ' 3) ∧ (True) ∧ ((0 ≤ -1 * ρ' 0 + (1 * ρ' 3 + 0) ∧ 0 ≤ 1 * ρ' 0 + (-1 * ρ' 3 + 0) ∧ 0 ≤ 1 * ρ' 1 + 0 ∧ 0 ≤ -1 * ρ' 0 + (-1 * ρ' 1 + (1 * ρ' 2 + 0))) ∨ (0 ≤ 1 * ρ' 3 + 0 ∧ 0 ≤ -1 * ρ' 3 + 0 ∧ 0 ≤ -1 * ρ' 0 + (-1 * ρ' 1 + 0)) ∨ (0 ≤ 1 * ρ' 3 + 0 ∧ 0 ≤ -1 * ρ' 3 + 0 ∧ 0 ≤ 1 * ρ' 1 + (-1 * ρ' 2 + 0))) ∧ sI M' ∧ sF (cS kc_l0) M M' := by
  obtain ⟨ρ', h1, h2, ⟨al, hal, hf⟩, h3, h4, h5⟩ := h
  refine ⟨ρ', h1, h2, trivial, ?_, h4, h5⟩
  have hal : al ∈ ([[[(-1, 0), (1, 3)], [(1, 0), (-1, 3)], [(1, 1)], [(-1, 0), (-1, 1), (1, 2)]], [[(1, 3)], [(-1, 3)], [(-1, 0), (-1, 1)]], [[(1, 3)], [(-1, 3)], [(1, 1), (-1, 2)]]] : List (List qF)) := hal
  simp only [List.mem_cons, List.not_mem_nil, or_false] at hal
  rcases hal with rfl | rfl | rfl
  · exact Or.inl ⟨hf [(-1, 0), (1, 3)] (List.mem_of_getElem? (i := 0) rfl), hf [(1, 0), (-1, 3)] (List.mem_of_getElem? (i := 1) rfl), hf [(1, 1)] (List.mem_of_getElem? (i := 2) rfl), hf [(-1, 0), (-1, 1), (1, 2)] (List.mem_of_getElem? (i := 3) rfl)⟩
  · exact Or.inr (Or.inl ⟨hf [(1, 3)] (List.mem_of_getElem? (i := 0) rfl), hf [(-1, 3)] (List.mem_of_getElem? (i := 1) rfl), hf [(-1, 0), (-1, 1)] (List.mem_of_getElem? (i := 2) rfl)⟩)
  · exact Or.inr (Or.inr (⟨hf [(1, 3)] (List.mem_of_getElem? (i := 0) rfl), hf [(-1, 3)] (List.mem_of_getElem? (i := 1) rfl), hf [(1, 1), (-1, 2)] (List.mem_of_getElem? (i := 2) rfl)⟩))
theorem up_l4 {ρ : Nat → Int} {M M' : sM} {rv : Option sV} (h : qPost kc_l4 ρ M rv M') : ∃ ρ' : Nat → Int, (∀ a, a < 3 → ρ' a = ρ a) ∧ rv = qRv 0 (ρ' 3) ∧ (True) ∧ ((0 ≤ -1 * ρ' 0 + (1 * ρ' 3 + 0) ∧ 0 ≤ 1 * ρ' 0 + (-1 * ρ' 3 + 0) ∧ 0 ≤ 1 * ρ' 1 + 0 ∧ 0 ≤ -1 * ρ' 0 + (-1 * ρ' 1 + (1 * ρ' 2 + 0))) ∨ (0 ≤ 1 * ρ' 3 + 0 ∧ 0 ≤ -1 * ρ' 3 + 0 ∧ 0 ≤ -1 * ρ' 0 + (-1 * ρ' 1 + 0)) ∨ (0 ≤ 1 * ρ' 3 + 0 ∧ 0 ≤ -1 * ρ' 3 + 0 ∧ 0 ≤ 1 * ρ' 1 + (-1 * ρ' 2 + 0))) ∧ sI M' ∧ sF (cS kc_l4) M M' := by
  obtain ⟨ρ', h1, h2, ⟨al, hal, hf⟩, h3, h4, h5⟩ := h
  refine ⟨ρ', h1, h2, trivial, ?_, h4, h5⟩
  have hal : al ∈ ([[[(-1, 0), (1, 3)], [(1, 0), (-1, 3)], [(1, 1)], [(-1, 0), (-1, 1), (1, 2)]], [[(1, 3)], [(-1, 3)], [(-1, 0), (-1, 1)]], [[(1, 3)], [(-1, 3)], [(1, 1), (-1, 2)]]] : List (List qF)) := hal
  simp only [List.mem_cons, List.not_mem_nil, or_false] at hal
  rcases hal with rfl | rfl | rfl
  · exact Or.inl ⟨hf [(-1, 0), (1, 3)] (List.mem_of_getElem? (i := 0) rfl), hf [(1, 0), (-1, 3)] (List.mem_of_getElem? (i := 1) rfl), hf [(1, 1)] (List.mem_of_getElem? (i := 2) rfl), hf [(-1, 0), (-1, 1), (1, 2)] (List.mem_of_getElem? (i := 3) rfl)⟩
  · exact Or.inr (Or.inl ⟨hf [(1, 3)] (List.mem_of_getElem? (i := 0) rfl), hf [(-1, 3)] (List.mem_of_getElem? (i := 1) rfl), hf [(-1, 0), (-1, 1)] (List.mem_of_getElem? (i := 2) rfl)⟩)
  · exact Or.inr (Or.inr (⟨hf [(1, 3)] (List.mem_of_getElem? (i := 0) rfl), hf [(-1, 3)] (List.mem_of_getElem? (i := 1) rfl), hf [(1, 1), (-1, 2)] (List.mem_of_getElem? (i := 2) rfl)⟩))
set_option maxRecDepth 100000 in
theorem ulk {M : sM} (hM : uG M) (J : pHp) (x0 x1 : Int32) : pEx 299 77 [.ref 0, .int x0] (sHp sLay M ++ J) (some (.int 0)) (sHp sLay M ++ J) ∨ (∃ v : Int32, pEx 300 165 [.ref 0, .int x0, .int x1] (sHp sLay M ++ J) (some (.int v)) (sHp sLay M ++ J)) ∨ (pEx 299 77 [.ref 0, .int x0] (sHp sLay M ++ J) (some (.int 1)) (sHp sLay M ++ J) ∧ (x1.toInt < 0 ∨ 5 < x1.toInt) ∧ ∃ o1 o2 o3 : Nat, pMem false (pMt 165).1 ((pMt 165).2.1.name == "<init>") (.getfield 22) 1105 [.ref 0] (sHp sLay M ++ J) = some (3, [.ref o1], (sHp sLay M ++ J)) ∧ pMem false (pMt 165).1 ((pMt 165).2.1.name == "<init>") (.getfield 148) 800 [.ref o1] (sHp sLay M ++ J) = some (3, [.ref o2], (sHp sLay M ++ J)) ∧ pMem false (pMt 165).1 ((pMt 165).2.1.name == "<init>") .aaload 0 [.int x0, .ref o2] (sHp sLay M ++ J) = some (1, [.ref o3], (sHp sLay M ++ J))) := by
  obtain ⟨r, hr, hs, -⟩ := hM
  rcases hr with rfl | rfl
  · obtain ⟨rv, M', e1, p1, q1⟩ := u_run ko_l0 (r := 2) (o := 0) (bs := [false]) (by decide +kernel) hs (as := [x0.toInt]) ⟨⟨uarg_i _, fun h => nomatch h⟩, trivial⟩ J (N := 299) (by decide)
    obtain ⟨ρ', u1, w1, -, z, -, y⟩ := up_l0 p1
    have hMM : M' = M := funext fun o => funext fun k => y o k rfl
    have g0 : M 2 8 = _ := q1 _ (List.mem_of_getElem? (i := 0) rfl)
    rw [qd_at] at g0
    have o0 : ρ' 0 = 1 := u1 0 (by decide)
    have o1 : ρ' 1 = x0.toInt := u1 1 (by decide)
    have o2 := u1 2 (by decide)
    rw [o0, o1, o2] at z
    rw [hMM, w1] at e1
    simp only [List.map_cons, List.map_nil, i32_of] at e1
    have h05 : M 0 5 = 2 := hs.2 (0, 5, 2) List.mem_cons_self
    have hn : (0 : Int) ≤ M 2 8 ∧ M 2 8 ≤ 9 := hs.1.1 2 8 (0, 9) rfl
    by_cases hz : ρ' 3 = 0
    · rw [hz] at e1
      exact Or.inl e1
    have hz1 : ρ' 3 = 1 := by omega
    have hx0 : 0 ≤ x0.toInt ∧ x0.toInt ≤ M 2 8 - 1 := by omega
    rw [hz1] at e1
    by_cases hx1 : x1.toInt < 0 ∨ 5 < x1.toInt
    · refine Or.inr (Or.inr ⟨e1, hx1, 2, 3, 13 + x0.toInt.toNat, ?_, ?_, ?_⟩)
      · have g := zm_get (lay := sLay) (M := M) (J := J) (c := (pMt 165).1) (ini := (pMt 165).2.1.name == "<init>") (ix := 22) (rest := []) (o := 0) (a := 1105) (c1 := sLay[0]) (p := (3, 0)) rfl ⟨rfl, by decide, by decide⟩ rfl
        rw [show M 0 (1105 % 100) = 2 from h05] at g
        exact g
      · exact zm_get (lay := sLay) (M := M) (J := J) (c := (pMt 165).1) (ini := (pMt 165).2.1.name == "<init>") (ix := 148) (rest := []) (o := 2) (a := 800) (c1 := sLay[2]) (p := (2, 3)) rfl ⟨rfl, by decide, by decide⟩ rfl
      · have g := zm_ald (lay := sLay) (M := M) (J := J) (c := (pMt 165).1) (ini := (pMt 165).2.1.name == "<init>") (a := 0) (rest := []) (o := 3) (t := 24) (b := 13) (m := 9) (x := x0.toInt) (Or.inl rfl) rfl hx0.1 (by omega) (by decide)
        rw [i32_of] at g
        exact g
    · have hp : ∀ f ∈ cP kc_l3, 0 ≤ qD (fun a => match a with | 0 => 1 | 1 => x0.toInt | 2 => x1.toInt | 3 => M 2 8 | _ => 0 : Nat → Int) f := by
        intro f hf
        have hf : f ∈ ([[(1, 1)], [(8, 0), (-1, 1)], [(1, 2)], [(5, 0), (-1, 2)], [(1, 3)], [(9, 0), (-1, 3)], [(-1, 0), (-1, 1), (1, 3)]] : List qF) := hf
        simp only [List.mem_cons, List.not_mem_nil, or_false] at hf
        rcases hf with rfl | rfl | rfl | rfl | rfl | rfl | rfl
        · show 0 ≤ 1 * x0.toInt + 0
          omega
        · show 0 ≤ 8 * 1 + (-1 * x0.toInt + 0)
          omega
        · show 0 ≤ 1 * x1.toInt + 0
          omega
        · show 0 ≤ 5 * 1 + (-1 * x1.toInt + 0)
          omega
        · show 0 ≤ 1 * M 2 8 + 0
          omega
        · show 0 ≤ 9 * 1 + (-1 * M 2 8 + 0)
          omega
        · show 0 ≤ -1 * 1 + (-1 * x0.toInt + (1 * M 2 8 + 0))
          omega
      have hm : ∀ q ∈ cM kc_l3, M q.1 q.2.1 = qD (fun a => match a with | 0 => 1 | 1 => x0.toInt | 2 => x1.toInt | 3 => M 2 8 | _ => 0 : Nat → Int) q.2.2 := by
        intro q hq
        have hq : q ∈ ([(2, 8, [(1, 3)]), (0, 5, [(2, 0)])] : qMm) := hq
        simp only [List.mem_cons, List.not_mem_nil, or_false] at hq
        rcases hq with rfl | rfl
        · show M 2 8 = 1 * M 2 8 + 0
          omega
        · show M 0 5 = 2 * 1 + 0
          omega
      obtain ⟨rv2, M2, e2, ρ2, -, w2, -, -, -, y2⟩ := ko_l3 300 J _ M rfl hp hm hs.1 (by show (3 : Int) + 0 ≤ (300 : Nat); decide)
      have hMM2 : M2 = M := funext fun o => funext fun k => y2 o k rfl
      rw [hMM2, w2] at e2
      have e3 : pEx 300 165 [.ref 0, .int (Int32.ofInt (1 * x0.toInt + 0)), .int (Int32.ofInt (1 * x1.toInt + 0))] (sHp sLay M ++ J) (some (.int (Int32.ofInt (ρ2 4)))) (sHp sLay M ++ J) := e2
      rw [x10, x10, i32_of, i32_of] at e3
      exact Or.inr (Or.inl ⟨_, e3⟩)
  · obtain ⟨rv, M', e1, p1, q1⟩ := u_run ko_l4 (r := 28) (o := 0) (bs := [false]) (by decide +kernel) hs (as := [x0.toInt]) ⟨⟨uarg_i _, fun h => nomatch h⟩, trivial⟩ J (N := 299) (by decide)
    obtain ⟨ρ', u1, w1, -, z, -, y⟩ := up_l4 p1
    have hMM : M' = M := funext fun o => funext fun k => y o k rfl
    have g0 : M 28 8 = _ := q1 _ (List.mem_of_getElem? (i := 0) rfl)
    rw [qd_at] at g0
    have o0 : ρ' 0 = 1 := u1 0 (by decide)
    have o1 : ρ' 1 = x0.toInt := u1 1 (by decide)
    have o2 := u1 2 (by decide)
    rw [o0, o1, o2] at z
    rw [hMM, w1] at e1
    simp only [List.map_cons, List.map_nil, i32_of] at e1
    have h05 : M 0 5 = 28 := hs.2 (0, 5, 28) List.mem_cons_self
    have hn : (0 : Int) ≤ M 28 8 ∧ M 28 8 ≤ 9 := hs.1.1 28 8 (0, 9) rfl
    by_cases hz : ρ' 3 = 0
    · rw [hz] at e1
      exact Or.inl e1
    have hz1 : ρ' 3 = 1 := by omega
    have hx0 : 0 ≤ x0.toInt ∧ x0.toInt ≤ M 28 8 - 1 := by omega
    rw [hz1] at e1
    by_cases hx1 : x1.toInt < 0 ∨ 5 < x1.toInt
    · refine Or.inr (Or.inr ⟨e1, hx1, 28, 29, 39 + x0.toInt.toNat, ?_, ?_, ?_⟩)
      · have g := zm_get (lay := sLay) (M := M) (J := J) (c := (pMt 165).1) (ini := (pMt 165).2.1.name == "<init>") (ix := 22) (rest := []) (o := 0) (a := 1105) (c1 := sLay[0]) (p := (3, 0)) rfl ⟨rfl, by decide, by decide⟩ rfl
        rw [show M 0 (1105 % 100) = 28 from h05] at g
        exact g
      · exact zm_get (lay := sLay) (M := M) (J := J) (c := (pMt 165).1) (ini := (pMt 165).2.1.name == "<init>") (ix := 148) (rest := []) (o := 28) (a := 800) (c1 := sLay[28]) (p := (2, 29)) rfl ⟨rfl, by decide, by decide⟩ rfl
      · have g := zm_ald (lay := sLay) (M := M) (J := J) (c := (pMt 165).1) (ini := (pMt 165).2.1.name == "<init>") (a := 0) (rest := []) (o := 29) (t := 24) (b := 39) (m := 9) (x := x0.toInt) (Or.inl rfl) rfl hx0.1 (by omega) (by decide)
        rw [i32_of] at g
        exact g
    · have hp : ∀ f ∈ cP kc_l6, 0 ≤ qD (fun a => match a with | 0 => 1 | 1 => x0.toInt | 2 => x1.toInt | 3 => M 28 8 | _ => 0 : Nat → Int) f := by
        intro f hf
        have hf : f ∈ ([[(1, 1)], [(8, 0), (-1, 1)], [(1, 2)], [(5, 0), (-1, 2)], [(1, 3)], [(9, 0), (-1, 3)], [(-1, 0), (-1, 1), (1, 3)]] : List qF) := hf
        simp only [List.mem_cons, List.not_mem_nil, or_false] at hf
        rcases hf with rfl | rfl | rfl | rfl | rfl | rfl | rfl
        · show 0 ≤ 1 * x0.toInt + 0
          omega
        · show 0 ≤ 8 * 1 + (-1 * x0.toInt + 0)
          omega
        · show 0 ≤ 1 * x1.toInt + 0
          omega
        · show 0 ≤ 5 * 1 + (-1 * x1.toInt + 0)
          omega
        · show 0 ≤ 1 * M 28 8 + 0
          omega
        · show 0 ≤ 9 * 1 + (-1 * M 28 8 + 0)
          omega
        · show 0 ≤ -1 * 1 + (-1 * x0.toInt + (1 * M 28 8 + 0))
          omega
      have hm : ∀ q ∈ cM kc_l6, M q.1 q.2.1 = qD (fun a => match a with | 0 => 1 | 1 => x0.toInt | 2 => x1.toInt | 3 => M 28 8 | _ => 0 : Nat → Int) q.2.2 := by
        intro q hq
        have hq : q ∈ ([(28, 8, [(1, 3)]), (0, 5, [(28, 0)])] : qMm) := hq
        simp only [List.mem_cons, List.not_mem_nil, or_false] at hq
        rcases hq with rfl | rfl
        · show M 28 8 = 1 * M 28 8 + 0
          omega
        · show M 0 5 = 28 * 1 + 0
          omega
      obtain ⟨rv2, M2, e2, ρ2, -, w2, -, -, -, y2⟩ := ko_l6 300 J _ M rfl hp hm hs.1 (by show (3 : Int) + 0 ≤ (300 : Nat); decide)
      have hMM2 : M2 = M := funext fun o => funext fun k => y2 o k rfl
      rw [hMM2, w2] at e2
      have e3 : pEx 300 165 [.ref 0, .int (Int32.ofInt (1 * x0.toInt + 0)), .int (Int32.ofInt (1 * x1.toInt + 0))] (sHp sLay M ++ J) (some (.int (Int32.ofInt (ρ2 4)))) (sHp sLay M ++ J) := e2
      rw [x10, x10, i32_of, i32_of] at e3
      exact Or.inr (Or.inl ⟨_, e3⟩)
theorem uo_4 {M : sM} (hM : uG M) (J : pHp) (x1 x2 : Int32) : ∃ (v : Int32) (M2 : sM), pEx 300 203 [.ref 91, .int x1, .int x2] (sHp sLay M ++ J) (some (.int v)) (sHp sLay M2 ++ J) ∧ uG M2 := by
  obtain ⟨r, hr, hs, hf⟩ := hM
  rcases hr with rfl | rfl
  · obtain ⟨z, M2, e1, e2, e3⟩ := u_plain ko_r589 (r := 2) (o := 91) (bs := [false, false]) (by decide +kernel) hs hf (as := [x1.toInt, x2.toInt]) ⟨⟨uarg_i _, fun h => nomatch h⟩, ⟨⟨uarg_i _, fun h => nomatch h⟩, trivial⟩⟩ J
    simp only [List.map_cons, List.map_nil, i32_of] at e1
    exact ⟨Int32.ofInt z, M2, e1, 2, Or.inl rfl, e2, e3⟩
  · obtain ⟨z, M2, e1, e2, e3⟩ := u_plain ko_r589 (r := 28) (o := 91) (bs := [false, false]) (by decide +kernel) hs hf (as := [x1.toInt, x2.toInt]) ⟨⟨uarg_i _, fun h => nomatch h⟩, ⟨⟨uarg_i _, fun h => nomatch h⟩, trivial⟩⟩ J
    simp only [List.map_cons, List.map_nil, i32_of] at e1
    exact ⟨Int32.ofInt z, M2, e1, 28, Or.inr rfl, e2, e3⟩
theorem ug_131 {M : sM} (hM : uG M) (v : Int) : uG (sU M 131 0 v) := by
  obtain ⟨r, hr, hs, hf⟩ := hM
  refine ⟨r, hr, ⟨si_u hs.1 (by decide) (fun r hr => by cases hr), fun q hq => ?_⟩, ?_⟩
  · rw [sU_ne (fun z => ?_)]
    · exact hs.2 q hq
    · simp only [uKs, List.mem_cons, List.not_mem_nil, or_false] at hq
      rcases hq with rfl | rfl | rfl | rfl | rfl | rfl | rfl | rfl | rfl | rfl | rfl | rfl | rfl | rfl | rfl | rfl | rfl | rfl | rfl | rfl <;> exact absurd z.1 (by simp)
  · intro q hq
    have hq1 : q.1 ≠ 131 ∧ q.2.2.1 ≠ 131 := by
      have hb : ∀ q ∈ uEq r, q.1 ≠ 131 ∧ q.2.2.1 ≠ 131 := by rcases hr with rfl | rfl <;> decide +kernel
      exact hb q hq
    rw [sU_ne (fun z => hq1.1 z.1), sU_ne (fun z => hq1.2 z.1)]
    exact hf q hq
theorem u_arg0 {L : pHp} (x0 : Int32) (h : (L[0]?).map (fun q => q.1) = some 11) : lk_arg x0 L := by
  have hn : (pMt 77).2.2.2.2.2 = 1 := by decide +kernel
  have hc : (pMt 77).1 = 11 := by decide +kernel
  have hp : 77 < pMs.length := by decide +kernel
  unfold lk_arg pArg
  simp only [Nat.reduceMod, hn, hc]
  rw [if_pos ⟨trivial, by decide, hp, by simp⟩]
  simp [h, Value.category]
theorem u_tag0 (M : sM) (J : pHp) : ((sHp sLay M ++ J)[0]?).map (fun q => q.1) = some 11 := by
  obtain ⟨c, h0, h1⟩ : ∃ c, sLay[0]? = some c ∧ c.1 = 11 := ⟨_, rfl, rfl⟩
  rw [zm_cls h0, h1]
theorem u_arg {M : sM} {J : pHp} (x0 : Int32) : lk_arg x0 (sHp sLay M ++ J) := u_arg0 x0 (u_tag0 M J)
