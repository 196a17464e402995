/-! MEMORY BY NUMBERS: what lies at a place of a cell, as a whole number; the layout of the cells never changes behind the constructors. -/
abbrev sM : Type := Nat → Nat → Int
abbrev sV : Type := Nat × Int
/-- 0 an int, 1 a long, 2 a reference (the cell's number), else what lies outside -/
def sE (v : sV) : Value := match v.1 with
  | 0 => .int (Int32.ofInt v.2)
  | 1 => .long (Int64.ofInt v.2)
  | 2 => .ref v.2.toNat
  | _ => .float (UInt32.ofNat v.2.toNat)
/-- the kinds of places: 0 an int, 1 a long, 2 always the same reference, 3 a reference -/
def sC (q : Nat × Nat) (i : Int) : sV := match q.1 with
  | 0 => (0, i)
  | 1 => (1, i)
  | 2 => (2, q.2)
  | _ => (2, i)
abbrev sCl : Type := Nat × List (Nat × Nat)
def sCell (M : sM) (o : Nat) (c : sCl) : pOb := (c.1, c.2.mapIdx (fun k q => sE (sC q (M o k))))
def sHp (lay : List sCl) (M : sM) : pHp := lay.mapIdx (fun o c => sCell M o c)
def sU (M : sM) (o k : Nat) (v : Int) : sM := fun o' k' => if o' = o ∧ k' = k then v else M o' k'
theorem sU_at (M : sM) (o k : Nat) (v : Int) : sU M o k v o k = v := if_pos ⟨rfl, rfl⟩
theorem sU_ne {M : sM} {o k o' k' : Nat} {v : Int} (h : ¬ (o' = o ∧ k' = k)) : sU M o k v o' k' = M o' k' := if_neg h
theorem shp_len (lay : List sCl) (M : sM) : (sHp lay M).length = lay.length := List.length_mapIdx
theorem shp_at {lay : List sCl} {M : sM} {o : Nat} {c : sCl} (h : lay[o]? = some c) : (sHp lay M)[o]? = some (sCell M o c) := by
  unfold sHp
  rw [List.getElem?_mapIdx, h]
  rfl
theorem shj_at {lay : List sCl} {M : sM} {J : pHp} {o : Nat} {c : sCl} (h : lay[o]? = some c) : (sHp lay M ++ J)[o]? = some (sCell M o c) := by
  have hl : o < (sHp lay M).length := by rw [shp_len]; exact (List.getElem?_eq_some_iff.mp h).1
  rw [List.getElem?_append_left hl]
  exact shp_at h
theorem scell_at {M : sM} {o k : Nat} {c : sCl} {q : Nat × Nat} (h : c.2[k]? = some q) : (sCell M o c).2[k]? = some (sE (sC q (M o k))) := by
  show (c.2.mapIdx _)[k]? = _
  rw [List.getElem?_mapIdx, h]
  rfl
theorem scell_len {M : sM} {o : Nat} {c : sCl} : (sCell M o c).2.length = c.2.length := List.length_mapIdx
/-- a place is written -/
theorem scell_set {M : sM} {o k : Nat} {c : sCl} {q : Nat × Nat} {v : Int} (h : c.2[k]? = some q) : ((sCell M o c).1, (sCell M o c).2.set k (sE (sC q v))) = sCell (sU M o k v) o c := by
  unfold sCell
  refine Prod.ext rfl ?_
  refine List.ext_getElem? fun j => ?_
  rw [List.getElem?_mapIdx]
  by_cases hj : j = k
  · subst hj
    have hl : j < (c.2.mapIdx (fun k q => sE (sC q (M o k)))).length := by rw [List.length_mapIdx]; exact (List.getElem?_eq_some_iff.mp h).1
    rw [List.getElem?_set_self hl, h]
    show _ = some (sE (sC q (sU M o j v o j)))
    rw [sU_at]
  · rw [List.getElem?_set_ne (Ne.symm hj), List.getElem?_mapIdx]
    cases c.2[j]? with
    | none => rfl
    | some q' =>
      show some _ = some (sE (sC q' (sU M o k v o j)))
      rw [sU_ne (fun z => hj z.2)]
theorem scell_ne {M : sM} {o k o' : Nat} {c : sCl} {v : Int} (h : o' ≠ o) : sCell (sU M o k v) o' c = sCell M o' c := by
  unfold sCell
  refine Prod.ext rfl ?_
  refine List.ext_getElem? fun j => ?_
  rw [List.getElem?_mapIdx, List.getElem?_mapIdx]
  cases c.2[j]? with
  | none => rfl
  | some q' =>
    show some (sE (sC q' (sU M o k v o' j))) = some _
    rw [sU_ne (fun z => h z.1)]
theorem shj_set {lay : List sCl} {M : sM} {J : pHp} {o k : Nat} {c : sCl} {q : Nat × Nat} {v : Int} (h : lay[o]? = some c) (hk : c.2[k]? = some q) : (sHp lay M ++ J).set o ((sCell M o c).1, (sCell M o c).2.set k (sE (sC q v))) = sHp lay (sU M o k v) ++ J := by
  have hl : o < (sHp lay M).length := by rw [shp_len]; exact (List.getElem?_eq_some_iff.mp h).1
  rw [List.set_append_left _ _ hl, scell_set hk]
  congr 1
  refine List.ext_getElem? fun j => ?_
  by_cases hj : j = o
  · subst hj
    rw [List.getElem?_set_self hl, shp_at h]
  · rw [List.getElem?_set_ne (Ne.symm hj)]
    unfold sHp
    rw [List.getElem?_mapIdx, List.getElem?_mapIdx]
    cases lay[j]? with
    | none => rfl
    | some c' =>
      show some (sCell M j c') = some (sCell (sU M o k v) j c')
      rw [scell_ne hj]
