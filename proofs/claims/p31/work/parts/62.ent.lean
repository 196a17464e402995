/-! WHAT HOLDS AT THE LAW'S ENTRY (by program, wip/p1/mke.py). -/
def enB : List Int32 := [98, 101, 110, 100, 32, 103, 111, 111, 100, 115, 32, 98, 97, 103, 32, 100, 101, 112, 111, 116, 32, 116, 104, 105, 101, 102, 32, 119, 97, 114, 109, 32, 104, 111, 114, 115, 101, 32, 114, 111, 112, 101, 32, 115, 116, 111, 110, 101, 32, 115, 101, 101, 100, 32, 108, 97, 119, 32, 119, 105, 100, 101, 32, 119, 105, 110, 100, 32, 108, 105, 102, 116, 32, 112, 117, 108, 108, 32, 111, 114, 32, 97, 110, 100, 32, 110, 111, 116, 32, 115, 105, 122, 101, 32, 104, 101, 105, 103, 104, 116, 32, 97, 105, 114, 32, 104, 111, 117, 114, 32, 103, 117, 115, 116, 32, 115, 108, 111, 112, 101, 32]
theorem enB_eq : pLang = enB.map Value.int := rfl
theorem enB_len : enB.length = 121 := rfl
theorem en_get {j : Nat} (h : j < 121) : Value.int (enB.getD j 0) = pLang.getD j .null := by
  rw [enB_eq]
  have h2 : j < enB.length := h
  rw [List.getD_eq_getElem?_getD, List.getD_eq_getElem?_getD, List.getElem?_map, List.getElem?_eq_getElem h2]
  rfl
def enV : Term := .field (.string "UphillCarts$Tokens" 19) "java/lang/String" "value" "[B"
def enE (j : Nat) : Cond := .eq (.elem enV (.int (Int32.ofNat j))) (.int (enB.getD j 0))
set_option maxRecDepth 100000 in
theorem en_els : ((flatC narrow_1).drop 73).take 121 = (List.range 121).map enE := by decide +kernel
theorem en_el {j : Nat} (h : j < 121) : enE j ∈ flatC narrow_1 := by
  have hm : enE j ∈ (List.range 121).map enE := List.mem_map_of_mem (List.mem_range.mpr h)
  rw [← en_els] at hm
  exact List.mem_of_mem_drop (List.mem_of_mem_take hm)
theorem en_arr {A : Array Value} {s : State} {ty : FieldType} (h : (Cond.arrayClass ty).before A s = true) : ∃ c : ClassId, ArrOfT s c ty ∧ s.vm.findClass ("[" ++ ty.toString) = some c := by
  obtain ⟨c, k, comp, h1, h2, h3⟩ := Cond.arrayClass_spec (args := A) (first := s) (o := none) (s := s) (idx := []) h
  exact ⟨c, fun n z => ⟨fun k => nofun, k, h2, comp, h3⟩, h1⟩
theorem en_obj {A : Array Value} {s : State} {C : String} (h : (Cond.arrayOver (.object C)).before A s = true) : ∃ c : ClassId, ArrOfT s c (.object C) ∧ va_RA s c (.object C) := by
  obtain ⟨comp, c, k, h1, h2, h3, h4, h5⟩ := Cond.arrayOver_spec (args := A) (first := s) (o := none) (s := s) (idx := []) h
  exact ⟨c, fun n z => ⟨fun k => nofun, k, h3, comp, h4⟩, k, comp, h3, h4, h1, h5⟩
theorem en_isref {A : Array Value} {s : State} {t : Term} (h : (Cond.isRef t).before A s = true) : ∃ v : Value, t.eval A s none [] s = some v ∧ v.category = 1 := by
  cases hv : t.eval A s none [] s with
  | none => simp [Cond.before, Cond.holds, Cond.value, hv] at h
  | some w =>
    simp only [Cond.before, Cond.holds, Cond.value, hv] at h
    cases w with
    | null => exact ⟨_, rfl, rfl⟩
    | ref t => exact ⟨_, rfl, rfl⟩
    | _ => simp at h
theorem en_eqr {A : Array Value} {s : State} {t u : Term} {a : Nat} (ht : t.eval A s none [] s = some (.ref a)) (h : (Cond.eq t u).before A s = true) : u.eval A s none [] s = some (.ref a) := by
  cases hu : u.eval A s none [] s with
  | none => simp [Cond.before, Cond.holds, Cond.value, ht, hu] at h
  | some w =>
    cases w with
    | ref c =>
      simp [Cond.before, Cond.holds, Cond.value, ht, hu] at h
      rw [h]
    | _ => simp [Cond.before, Cond.holds, Cond.value, ht, hu] at h
theorem en_G {b : Nat} {s : State} (hts : ∀ w ∈ lw_tbl, w.before #[Value.ref b] s = true) (hgv : (Jvm.Cond.and given_1 narrow_1).before #[Value.ref b] s = true) : ∃ G : pG, pB G = s.heap.size ∧ G.2.2.2.2 = s.heap ∧ pKk G s := by
  have hn : ∀ c ∈ flatC narrow_1, c.before #[Value.ref b] s = true := fun c hc => flat_of_before _ hgv c (List.mem_append_right _ hc)
  have hall : ∀ w ∈ pAll, w.before #[Value.ref b] s = true := fun w hw => hts w (pAll_good w hw).1
  have hA : ∀ a : Nat, a < s.heap.size → ¬ s.heap.size ≤ a := fun a h1 h2 => absurd h1 (by omega)
  have hc : ∀ ci : Nat, ∃ q : ClassId × (Nat → Nat), ci < 13 → u_Kn s (pR ci) (pT ci) (pN ci) q.1 q.2 := by
    intro ci
    by_cases h : ci < 13
    · obtain ⟨cC, iS, hk⟩ := u_known (ws := pAll) hall (pLay_in h) (n := pN ci) (hall _ (pa_i (pIz_all ci h)))
      exact ⟨(cC, iS), fun _ => hk⟩
    · exact ⟨(0, fun _ => 0), fun g => absurd g h⟩
  obtain ⟨cf, hcf⟩ := Classical.axiomOfChoice hc
  obtain ⟨c_int, a_int, f_int⟩ := en_arr (ty := .int) (hts _ (pt_1 _ (List.mem_of_getElem? (i := 58) rfl)))
  obtain ⟨c_byte, a_byte, f_byte⟩ := en_arr (ty := .byte) (hts _ (pt_1 _ (List.mem_of_getElem? (i := 57) rfl)))
  obtain ⟨c_boolean, a_boolean, f_boolean⟩ := en_arr (ty := .boolean) (hts _ (pt_3 _ (List.mem_of_getElem? (i := 4) rfl)))
  obtain ⟨c_long, a_long, f_long⟩ := en_arr (ty := .long) (hts _ (pt_2 _ (List.mem_of_getElem? (i := 148) rfl)))
  have o_X1 : (Cond.arrayOver (.object RX1)).before #[Value.ref b] s = true := hts _ (pt_1 _ (List.mem_of_getElem? (i := 40) rfl))
  obtain ⟨c_X1, a_X1, f_X1⟩ := en_obj o_X1
  have o_X4 : (Cond.arrayOver (.object RX4)).before #[Value.ref b] s = true := hts _ (pt_1 _ (List.mem_of_getElem? (i := 42) rfl))
  obtain ⟨c_X4, a_X4, f_X4⟩ := en_obj o_X4
  have e1 : (Term.static RJ0 "COMPACT_STRINGS" "Z").eval #[Value.ref b] s none [] s = some (.int 1) := va_eqi (hn _ (List.mem_of_getElem? (i := 2) rfl))
  obtain ⟨v2, e2, k2⟩ := en_isref (A := #[Value.ref b]) (s := s) (t := .static RJ3 "SIOOBE_FORMATTER" "Ljava/util/function/BiFunction;") (hn _ (List.mem_of_getElem? (i := 3) rfl))
  obtain ⟨adK, adV, hS, hev⟩ := vk_Sof (args := #[Value.ref b]) (s := s) (N := 1) (tm := fun _ => .string "UphillCarts$Tokens" 19) (len := [121]) (byt := [enB]) (A := fun q => s.heap.size ≤ q)
    (fun i hi => by rcases Nat.lt_one_iff.mp hi with rfl; decide)
    (fun i _ => hn _ (List.mem_of_getElem? (i := 69) rfl)) (fun i _ => hn _ (List.mem_of_getElem? (i := 70) rfl)) (fun i _ => hn _ (List.mem_of_getElem? (i := 71) rfl))
    (fun i hi => by rcases Nat.lt_one_iff.mp hi with rfl; exact hn _ (List.mem_of_getElem? (i := 72) rfl))
    (fun i hi j hj => by rcases Nat.lt_one_iff.mp hi with rfl; exact hn _ (en_el hj))
    (fun i j hi hj hij => absurd ((Nat.lt_one_iff.mp hi).trans (Nat.lt_one_iff.mp hj).symm) hij) hA
  obtain ⟨s1, s2, s3, s4⟩ := hS.1 0 Nat.one_pos
  have v1 : (Term.string RX10 19).eval #[Value.ref b] s none [] s = some (.ref (adK 0)) := hev 0 Nat.one_pos
  have q2 : (Term.string RX12 187).eval #[Value.ref b] s none [] s = some (.ref (adK 0)) := by
    have h : (Cond.eq (.string RX10 19) (.string RX12 187)).before #[Value.ref b] s = true := hn _ (List.mem_of_getElem? (i := 354) rfl)
    exact en_eqr v1 h
  refine ⟨(fun c => (cf c).1, fun c => (cf c).2, fun t => match t with | 20 => c_int | 21 => c_byte | 22 => c_boolean | 23 => c_long | 24 => c_X1 | _ => c_X4, (s.heap.size, adK 0, adV 0, v2), s.heap), rfl, rfl, ?_⟩
  refine ⟨⟨fun c q hq => ?_, fun k q hk => ?_⟩, ?_, va_AO.of o_X1, va_AO.of o_X4, k2, vk_R.of (A := #[Value.ref b]) (hts _ (pt_2 _ (List.mem_of_getElem? (i := 4) rfl))) v1, vk_R.of (A := #[Value.ref b]) (hts _ (pt_7 _ (List.mem_of_getElem? (i := 118) rfl))) q2, s1, s2, s3, ?_, va_Zof (hts _ (pt_2 _ (List.mem_of_getElem? (i := 14) rfl))) (hts _ (pt_1 _ (List.mem_of_getElem? (i := 8) rfl))) e1 hA, va_Zof (hts _ (pt_2 _ (List.mem_of_getElem? (i := 30) rfl))) (hts _ (pt_1 _ (List.mem_of_getElem? (i := 10) rfl))) e2 hA⟩
  · have hlt : c < 13 := (List.getElem?_eq_some_iff.mp hq).1
    rw [pCl_at c hlt] at hq
    cases hq
    exact hcf c hlt
  · match k, hk with
    | 0, hk => cases hk; exact ⟨a_int, f_int⟩
    | 1, hk => cases hk; exact ⟨a_byte, f_byte⟩
    | 2, hk => cases hk; exact ⟨a_boolean, f_boolean⟩
    | 3, hk => cases hk; exact ⟨a_long, f_long⟩
    | 4, hk => cases hk; exact ⟨a_X1, f_X1⟩
    | 5, hk => cases hk; exact ⟨a_X4, f_X4⟩
    | n + 6, hk => exact absurd hk (by nofun)
  · intro q hq
    rcases List.mem_cons.mp hq with rfl | hq
    · exact va_Nw.of rfl (A := #[Value.ref b]) (hts _ (pt_1 _ (List.mem_of_getElem? (i := 45) rfl)))
    rcases List.mem_cons.mp hq with rfl | hq
    · exact va_Nw.of rfl (A := #[Value.ref b]) (hts _ (pt_1 _ (List.mem_of_getElem? (i := 60) rfl)))
    rcases List.mem_cons.mp hq with rfl | hq
    · exact va_Nw.of rfl (A := #[Value.ref b]) (hts _ (pt_1 _ (List.mem_of_getElem? (i := 95) rfl)))
    rcases List.mem_cons.mp hq with rfl | hq
    · exact va_Nw.of rfl (A := #[Value.ref b]) (hts _ (pt_2 _ (List.mem_of_getElem? (i := 188) rfl)))
    rcases List.mem_cons.mp hq with rfl | hq
    · exact va_Nw.of rfl (A := #[Value.ref b]) (hts _ (pt_2 _ (List.mem_of_getElem? (i := 208) rfl)))
    rcases List.mem_cons.mp hq with rfl | hq
    · exact va_Nw.of rfl (A := #[Value.ref b]) (hts _ (pt_3 _ (List.mem_of_getElem? (i := 7) rfl)))
    · exact absurd hq List.not_mem_nil
  · obtain ⟨cell, t1, t2, t3, t4, t5, t6, t7⟩ := s4
    exact ⟨cell, t1, t2, t3, t4, t5, fun j hj => (t6 j hj).trans (congrArg some (en_get hj)), t7⟩
theorem en_H {G : pG} {s : State} (h1 : pB G = s.heap.size) (h2 : G.2.2.2.2 = s.heap) : pH G [] s.heap := ⟨fun q _ => by rw [h2], by rw [h1]; rfl, fun k o h => by cases h⟩
