/-! WHAT AN UNKNOWN STANDS FOR: relations between states with unknowns and states without. -/
def vR (ρ : Nat → Int32) (v w : Value) : Prop := match v with
  | .float u => if u.toNat < 8 then w = .float u else if u.toNat = 4294967295 then ∃ x, w = .int x else w = .int (ρ (u.toNat - 8))
  | .int x => w = .int x
  | .long x => w = .long x
  | .ref x => w = .ref x
  | .null => w = .null
  | v => w = v
def vL (ρ : Nat → Int32) : List Value → List Value → Prop
  | [], m => m = []
  | a :: l, m => ∃ b m', m = b :: m' ∧ vR ρ a b ∧ vL ρ l m'
def vV (ρ : Nat → Int32) : pLv → pLv → Prop
  | [], m => m = []
  | a :: l, m => ∃ b m', m = (a.1, b) :: m' ∧ vR ρ a.2 b ∧ vV ρ l m'
def vH (ρ : Nat → Int32) : pHp → pHp → Prop
  | [], m => m = []
  | a :: l, m => ∃ es m', m = (a.1, es) :: m' ∧ vL ρ a.2 es ∧ vH ρ l m'
def vO (ρ : Nat → Int32) (r w : Option Value) : Prop := match r with
  | none => w = none
  | some v => ∃ x, w = some x ∧ vR ρ v x
def aEn (ρ : Nat → Int32) (env : aEv) : Prop := ∀ (k : Nat) (q : Int × Int), env[k]? = some q → q.1 ≤ (ρ k).toInt ∧ (ρ k).toInt ≤ q.2
section REL
variable {ρ : Nat → Int32}
theorem vR_cat {v w : Value} (h : vR ρ v w) : w.category = v.category := by
  cases v with
  | float u =>
    have h : (if u.toNat < 8 then w = .float u else if u.toNat = 4294967295 then ∃ x, w = .int x else w = .int (ρ (u.toNat - 8))) := h
    by_cases h1 : u.toNat < 8
    · rw [if_pos h1] at h; rw [h]
    · rw [if_neg h1] at h
      by_cases h2 : u.toNat = 4294967295
      · rw [if_pos h2] at h; obtain ⟨x, rfl⟩ := h; rfl
      · rw [if_neg h2] at h; rw [h]; rfl
  | _ => have h : w = _ := h; rw [h]
theorem vR_int {v w : Value} (h : vR ρ v w) (hi : pInt true v = true) : ∃ x, w = .int x := by
  cases v with
  | int x => exact ⟨x, h⟩
  | float u =>
    have h : (if u.toNat < 8 then w = .float u else if u.toNat = 4294967295 then ∃ x, w = .int x else w = .int (ρ (u.toNat - 8))) := h
    have hu : 8 ≤ u.toNat := by simpa [pInt] using hi
    rw [if_neg (by omega)] at h
    by_cases h2 : u.toNat = 4294967295
    · rw [if_pos h2] at h; exact h
    · rw [if_neg h2] at h; exact ⟨_, h⟩
  | _ => cases hi
theorem vR_low {u : UInt32} {w : Value} (h : vR ρ (.float u) w) (hu : u.toNat < 8) : w = .float u := by
  have h : (if u.toNat < 8 then w = .float u else if u.toNat = 4294967295 then ∃ x, w = .int x else w = .int (ρ (u.toNat - 8))) := h
  rw [if_pos hu] at h
  exact h
theorem vR_ref {v w : Value} (h : vR ρ v w) (hr : pRef v = true) : w = v := by
  cases v with
  | ref a => exact h
  | float u =>
    have hu : u.toNat < 2 := by simpa [pRef, pOut] using hr
    exact vR_low h (by omega)
  | _ => cases hr
theorem vR_nof {v w : Value} (h : vR ρ v w) (hn : pNoF v = true) : w = v := by
  cases v with
  | float u => cases hn
  | _ => exact h
theorem vR_top (x : Int32) : vR ρ aTop (.int x) := ⟨x, rfl⟩
theorem vR_aV {env : aEv} (he : aEn ρ env) {v w : Value} (h : vR ρ v w) : vR ρ (aV env v) w := by
  cases v with
  | float u =>
    unfold aV
    simp only
    split
    · rename_i hu
      split
      · rename_i q hq
        split
        · rename_i hlh
          have hb := he _ _ hq
          have h : (if u.toNat < 8 then w = .float u else if u.toNat = 4294967295 then ∃ x, w = .int x else w = .int (ρ (u.toNat - 8))) := h
          have hx : (ρ (u.toNat - 8)) = Int32.ofInt q.1 := by
            have : (ρ (u.toNat - 8)).toInt = q.1 := by omega
            rw [← this, Int32.ofInt_toInt]
          rw [if_neg (by omega), if_neg (by omega), hx] at h
          exact h
        · exact h
      · exact h
    · exact h
  | _ => exact h
theorem vL_aV {env : aEv} (he : aEn ρ env) : ∀ {l m : List Value}, vL ρ l m → vL ρ (l.map (aV env)) m
  | [], _, h => h
  | _ :: _, _, ⟨b, m', h1, h2, h3⟩ => ⟨b, m', h1, vR_aV he h2, vL_aV he h3⟩
theorem vL_len : ∀ {l m : List Value}, vL ρ l m → m.length = l.length
  | [], _, h => by rw [show _ = [] from h]
  | _ :: _, _, ⟨b, m', h1, _, h3⟩ => by rw [h1, List.length_cons, List.length_cons, vL_len h3]
theorem vL_get : ∀ {l m : List Value} {j : Nat} {v : Value}, vL ρ l m → l[j]? = some v → ∃ w, m[j]? = some w ∧ vR ρ v w
  | [], _, j, v, _, hj => by simp at hj
  | a :: l, _, 0, v, ⟨b, m', h1, h2, h3⟩, hj => by
    cases hj
    exact ⟨b, by rw [h1]; rfl, h2⟩
  | a :: l, _, j + 1, v, ⟨b, m', h1, h2, h3⟩, hj => by
    obtain ⟨w, g1, g2⟩ := vL_get h3 (by simpa using hj)
    exact ⟨w, by rw [h1]; simpa using g1, g2⟩
theorem vL_set : ∀ {l m : List Value} {j : Nat} {v w : Value}, vL ρ l m → vR ρ v w → vL ρ (l.set j v) (m.set j w)
  | [], _, _, _, _, h, _ => by rw [show _ = [] from h]; rfl
  | a :: l, _, 0, v, w, ⟨b, m', h1, h2, h3⟩, hw => ⟨w, m', by rw [h1]; rfl, hw, h3⟩
  | a :: l, _, j + 1, v, w, ⟨b, m', h1, h2, h3⟩, hw => ⟨b, m'.set j w, by rw [h1]; rfl, h2, vL_set h3 hw⟩
theorem vL_app : ∀ {l m l2 m2 : List Value}, vL ρ l m → vL ρ l2 m2 → vL ρ (l ++ l2) (m ++ m2)
  | [], _, _, _, h, h2 => by rw [show _ = [] from h]; exact h2
  | a :: l, _, l2, m2, ⟨b, m', h1, h2, h3⟩, hw => ⟨b, m' ++ m2, by rw [h1]; rfl, h2, vL_app h3 hw⟩
theorem vL_take : ∀ {l m : List Value} (n : Nat), vL ρ l m → vL ρ (l.take n) (m.take n)
  | [], _, n, h => by rw [show _ = [] from h]; simp [vL]
  | a :: l, _, 0, _ => rfl
  | a :: l, _, n + 1, ⟨b, m', h1, h2, h3⟩ => ⟨b, m'.take n, by rw [h1]; rfl, h2, vL_take n h3⟩
theorem vL_drop : ∀ {l m : List Value} (n : Nat), vL ρ l m → vL ρ (l.drop n) (m.drop n)
  | [], _, n, h => by rw [show _ = [] from h]; simp [vL]
  | a :: l, _, 0, h => h
  | a :: l, _, n + 1, ⟨b, m', h1, h2, h3⟩ => by rw [h1]; exact vL_drop n h3
theorem vL_rev : ∀ {l m : List Value}, vL ρ l m → vL ρ l.reverse m.reverse
  | [], _, h => by rw [show _ = [] from h]; rfl
  | a :: l, _, ⟨b, m', h1, h2, h3⟩ => by
    rw [h1, List.reverse_cons, List.reverse_cons]
    exact vL_app (vL_rev h3) ⟨b, [], rfl, h2, rfl⟩
theorem vL_cats : ∀ {l m : List Value}, vL ρ l m → (m.map fun v => v.category) = l.map fun v => v.category
  | [], _, h => by rw [show _ = [] from h]
  | a :: l, _, ⟨b, m', h1, h2, h3⟩ => by rw [h1, List.map_cons, List.map_cons, vR_cat h2, vL_cats h3]
theorem vL_ints : ∀ {l m : List Value}, vL ρ l m → l.all (pInt true) = true → m.all (pInt false) = true
  | [], _, h, _ => by rw [show _ = [] from h]; rfl
  | a :: l, _, ⟨b, m', h1, h2, h3⟩, hi => by
    rw [List.all_cons, Bool.and_eq_true] at hi
    obtain ⟨x, rfl⟩ := vR_int h2 hi.1
    rw [h1, List.all_cons, vL_ints h3 hi.2]
    rfl
theorem vV_get : ∀ {l m : pLv} {i : Nat} {v : Value}, vV ρ l m → pGet l i = some v → ∃ w, pGet m i = some w ∧ vR ρ v w
  | [], _, _, _, _, hj => by cases hj
  | a :: l, _, i, v, ⟨b, m', h1, h2, h3⟩, hj => by
    rw [pGet] at hj
    rw [h1, pGet]
    by_cases hi : a.1 = i
    · rw [if_pos hi] at hj
      cases hj
      exact ⟨b, by rw [if_pos hi], h2⟩
    · rw [if_neg hi] at hj
      obtain ⟨w, g1, g2⟩ := vV_get h3 hj
      exact ⟨w, by rw [if_neg hi]; exact g1, g2⟩
theorem vV_fil {f : Nat → Nat → Bool} : ∀ {l m : pLv}, vV ρ l m → vV ρ (l.filter (fun q => f q.1 q.2.category)) (m.filter (fun q => f q.1 q.2.category))
  | [], _, h => by rw [show _ = [] from h]; rfl
  | a :: l, _, ⟨b, m', h1, h2, h3⟩ => by
    rw [h1, List.filter_cons, List.filter_cons]
    simp only [vR_cat h2]
    by_cases hf : f a.1 a.2.category = true
    · rw [if_pos hf, if_pos hf]
      exact ⟨b, _, rfl, h2, vV_fil h3⟩
    · rw [if_neg hf, if_neg hf]
      exact vV_fil h3
theorem vV_put1 {l m : pLv} {i : Nat} {v w : Value} (h : vV ρ l m) (hw : vR ρ v w) : vV ρ (pPut1 l i v) (pPut1 m i w) := ⟨w, _, rfl, hw, vV_fil (f := fun a c => !(a == i) && !(a + 1 == i && c == 2)) h⟩
theorem vV_put2 {l m : pLv} {i : Nat} {v w : Value} (h : vV ρ l m) (hw : vR ρ v w) : vV ρ (pPut2 l i v) (pPut2 m i w) := ⟨w, _, rfl, hw, vV_fil (f := fun a c => !(a == i) && (!(a == i + 1) && !(a + 1 == i && c == 2))) h⟩
theorem vV_args : ∀ {l m : List Value} {i : Nat}, vL ρ l m → vV ρ (lv_args i l) (lv_args i m)
  | [], _, _, h => by rw [show _ = [] from h]; rfl
  | a :: l, _, i, ⟨b, m', h1, h2, h3⟩ => by
    rw [h1]
    refine ⟨b, _, rfl, h2, ?_⟩
    rw [vR_cat h2]
    exact vV_args h3
theorem vL_sl : ∀ {l m : List Value}, vL ρ l m → (lg_sl m).length = (lg_sl l).length
  | [], _, h => by rw [show _ = [] from h]
  | a :: l, _, ⟨b, m', h1, h2, h3⟩ => by
    have ih := vL_sl h3
    rw [h1]
    simp only [lg_sl, List.flatMap_cons, List.length_append, vR_cat h2] at ih ⊢
    rw [ih]
    by_cases hc : a.category = 2
    · simp [hc]
    · simp [hc]
theorem vH_get : ∀ {l m : pHp} {j : Nat} {q : pOb}, vH ρ l m → l[j]? = some q → ∃ es, m[j]? = some (q.1, es) ∧ vL ρ q.2 es
  | [], _, j, v, _, hj => by simp at hj
  | a :: l, _, 0, v, ⟨b, m', h1, h2, h3⟩, hj => by
    cases hj
    exact ⟨b, by rw [h1]; rfl, h2⟩
  | a :: l, _, j + 1, v, ⟨b, m', h1, h2, h3⟩, hj => by
    obtain ⟨w, g1, g2⟩ := vH_get h3 (by simpa using hj)
    exact ⟨w, by rw [h1]; simpa using g1, g2⟩
theorem vH_set : ∀ {l m : pHp} {j t : Nat} {es fs : List Value}, vH ρ l m → vL ρ es fs → vH ρ (l.set j (t, es)) (m.set j (t, fs))
  | [], _, _, _, _, _, h, _ => by rw [show _ = [] from h]; rfl
  | a :: l, _, 0, t, es, fs, ⟨b, m', h1, h2, h3⟩, hw => ⟨fs, m', by rw [h1]; rfl, hw, h3⟩
  | a :: l, _, j + 1, t, es, fs, ⟨b, m', h1, h2, h3⟩, hw => ⟨b, m'.set j (t, fs), by rw [h1]; rfl, h2, vH_set h3 hw⟩
theorem vH_push : ∀ {l m : pHp} {t : Nat} {es fs : List Value}, vH ρ l m → vL ρ es fs → vH ρ (l ++ [(t, es)]) (m ++ [(t, fs)])
  | [], _, _, _, _, h, h2 => by rw [show _ = [] from h]; exact ⟨_, [], rfl, h2, rfl⟩
  | a :: l, _, t, es, fs, ⟨b, m', h1, h2, h3⟩, hw => ⟨b, m' ++ [(t, fs)], by rw [h1]; rfl, h2, vH_push h3 hw⟩
theorem vH_len : ∀ {l m : pHp}, vH ρ l m → m.length = l.length
  | [], _, h => by rw [show _ = [] from h]
  | _ :: _, _, ⟨b, m', h1, _, h3⟩ => by rw [h1, List.length_cons, List.length_cons, vH_len h3]
theorem vL_self {l : List Value} (h : l.all pNoF = true) : vL ρ l l := by
  induction l with
  | nil => rfl
  | cons a l ih =>
    rw [List.all_cons, Bool.and_eq_true] at h
    refine ⟨a, l, rfl, ?_, ih h.2⟩
    cases a with
    | float u => exact absurd h.1 (by simp [pNoF])
    | _ => rfl
theorem aEn_set {env : aEv} (he : aEn ρ env) {k : Nat} {q : Int × Int} (hq : q.1 ≤ (ρ k).toInt ∧ (ρ k).toInt ≤ q.2) : aEn ρ (env.set k q) := by
  intro j z hz
  by_cases hj : j = k
  · subst hj
    have hl : j < env.length := by
      have := (List.getElem?_eq_some_iff.mp hz).1
      rwa [List.length_set] at this
    rw [List.getElem?_set_self hl] at hz
    cases hz
    exact hq
  · rw [List.getElem?_set_ne (Ne.symm hj)] at hz
    exact he j z hz
end REL
theorem pcmp_neg (c : Jvm.ClassFile.Cond) (x y : Int32) : pCmp (aNeg c) x y = !(pCmp c x y) := by
  cases c with
  | eq => simp [pCmp, aNeg]
  | ne => simp [pCmp, aNeg]
  | lt => show decide (y ≤ x) = !decide (x < y); rw [← decide_not, decide_eq_decide, Int32.not_lt]
  | ge => show decide (x < y) = !decide (y ≤ x); rw [← decide_not, decide_eq_decide, Int32.not_le]
  | gt => show decide (x ≤ y) = !decide (y < x); rw [← decide_not, decide_eq_decide, Int32.not_lt]
  | le => show decide (y < x) = !decide (x ≤ y); rw [← decide_not, decide_eq_decide, Int32.not_le]
theorem pcmp_swp (c : Jvm.ClassFile.Cond) (x y : Int32) : pCmp (aSwp c) y x = pCmp c x y := by
  cases c <;> simp [pCmp, aSwp, eq_comm]
theorem arng_ok {c : Jvm.ClassFile.Cond} {x y : Int32} {q : Int × Int} (h : pCmp c x y = true) (hq : q.1 ≤ x.toInt ∧ x.toInt ≤ q.2) : ∃ r ∈ aRng c q y.toInt, r.1 ≤ x.toInt ∧ x.toInt ≤ r.2 := by
  cases c with
  | eq =>
    have h : x = y := of_decide_eq_true h
    subst h
    refine ⟨_, List.mem_cons_self, ?_⟩
    simp only
    rw [if_pos hq.1, if_pos hq.2]
    exact ⟨Int.le_refl _, Int.le_refl _⟩
  | ne =>
    have h : ¬ x = y := of_decide_eq_true h
    have hne : x.toInt ≠ y.toInt := fun z => h (Int32.toInt_inj.mp z)
    by_cases hlt : x.toInt < y.toInt
    · refine ⟨_, List.mem_cons_self, hq.1, ?_⟩
      simp only
      split <;> omega
    · refine ⟨_, List.mem_cons_of_mem _ List.mem_cons_self, ?_, hq.2⟩
      simp only
      split <;> omega
  | lt =>
    have h : x < y := of_decide_eq_true h
    rw [Int32.lt_iff_toInt_lt] at h
    refine ⟨_, List.mem_cons_self, hq.1, ?_⟩
    simp only
    split <;> omega
  | ge =>
    have h : y ≤ x := of_decide_eq_true h
    rw [Int32.le_iff_toInt_le] at h
    refine ⟨_, List.mem_cons_self, ?_, hq.2⟩
    simp only
    split <;> omega
  | gt =>
    have h : y < x := of_decide_eq_true h
    rw [Int32.lt_iff_toInt_lt] at h
    refine ⟨_, List.mem_cons_self, ?_, hq.2⟩
    simp only
    split <;> omega
  | le =>
    have h : x ≤ y := of_decide_eq_true h
    rw [Int32.le_iff_toInt_le] at h
    refine ⟨_, List.mem_cons_self, hq.1, ?_⟩
    simp only
    split <;> omega
theorem afk_ok {ρ : Nat → Int32} {env : aEv} (he : aEn ρ env) {u : Value} {x : Int32} (hu : vR ρ u (.int x)) (c : Jvm.ClassFile.Cond) (y : Int32) : ∃ q ∈ aFk env u c y, q.1 = pCmp c x y ∧ aEn ρ q.2 := by
  have both : ∃ q ∈ ([(true, env), (false, env)] : List (Bool × aEv)), q.1 = pCmp c x y ∧ aEn ρ q.2 := by
    cases hc : pCmp c x y with
    | true => exact ⟨(true, env), List.mem_cons_self, rfl, he⟩
    | false => exact ⟨(false, env), List.mem_cons_of_mem _ List.mem_cons_self, rfl, he⟩
  cases u with
  | float w =>
    unfold aFk
    simp only
    split
    · exact both
    · rename_i hw
      split
      · rename_i q hq
        have hb := he _ _ hq
        have h : (if w.toNat < 8 then Value.int x = .float w else if w.toNat = 4294967295 then ∃ z, Value.int x = .int z else Value.int x = .int (ρ (w.toNat - 8))) := hu
        have h8 : ¬ w.toNat < 8 := by
          intro z
          rw [if_pos z] at h
          cases h
        rw [if_neg h8, if_neg (by omega)] at h
        have hx : x = ρ (w.toNat - 8) := Value.int.inj h
        rw [← hx] at hb
        cases hc : pCmp c x y with
        | true =>
          obtain ⟨r, r1, r2⟩ := arng_ok hc hb
          exact ⟨(true, env.set (w.toNat - 8) r), List.mem_append_left _ (List.mem_map.mpr ⟨r, List.mem_filter.mpr ⟨r1, decide_eq_true (Int.le_trans r2.1 r2.2)⟩, rfl⟩), rfl, aEn_set he (by rw [← hx]; exact r2)⟩
        | false =>
          obtain ⟨r, r1, r2⟩ := arng_ok (c := aNeg c) (y := y) (by rw [pcmp_neg, hc]; rfl) hb
          exact ⟨(false, env.set (w.toNat - 8) r), List.mem_append_right _ (List.mem_map.mpr ⟨r, List.mem_filter.mpr ⟨r1, decide_eq_true (Int.le_trans r2.1 r2.2)⟩, rfl⟩), rfl, aEn_set he (by rw [← hx]; exact r2)⟩
      · exact both
  | _ => exact both
