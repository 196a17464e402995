/-! RUNS OVER MEMORY BY NUMBERS. -/
abbrev sLv : Type := List (Nat × sV)
def sL (lv : sLv) : pLv := lv.map (fun q => (q.1, sE q.2))
def sGet : sLv → Nat → Option sV
  | [], _ => none
  | q :: l, i => if q.1 = i then some q.2 else sGet l i
def sPut1 (lv : sLv) (i : Nat) (v : sV) : sLv := (i, v) :: lv.filter (fun q => !(q.1 == i) && !(q.1 + 1 == i && q.2.1 == 1))
def sPut2 (lv : sLv) (i : Nat) (v : sV) : sLv := (i, v) :: lv.filter (fun q => !(q.1 == i) && (!(q.1 == i + 1) && !(q.1 + 1 == i && q.2.1 == 1)))
theorem se_cat (v : sV) : ((sE v).category == 2) = (v.1 == 1) := by
  obtain ⟨t, i⟩ := v
  match t with
  | 0 => rfl
  | 1 => rfl
  | 2 => rfl
  | n + 3 => rfl
theorem sl_get (lv : sLv) (k : Nat) : pGet (sL lv) k = (sGet lv k).map sE := by
  induction lv with
  | nil => rfl
  | cons q l ih =>
    show (if q.1 = k then some (sE q.2) else pGet (sL l) k) = (if q.1 = k then some q.2 else sGet l k).map sE
    by_cases h : q.1 = k
    · rw [if_pos h, if_pos h]; rfl
    · rw [if_neg h, if_neg h]; exact ih
theorem sl_put1 (lv : sLv) (i : Nat) (v : sV) : pPut1 (sL lv) i (sE v) = sL (sPut1 lv i v) := by
  unfold pPut1 sPut1 sL
  rw [List.map_cons, List.filter_map]
  congr 2
  refine List.filter_congr fun q _ => ?_
  show (!(q.1 == i) && !(q.1 + 1 == i && (sE q.2).category == 2)) = _
  rw [se_cat]
theorem sl_put2 (lv : sLv) (i : Nat) (v : sV) : pPut2 (sL lv) i (sE v) = sL (sPut2 lv i v) := by
  unfold pPut2 sPut2 sL
  rw [List.map_cons, List.filter_map]
  congr 2
  refine List.filter_congr fun q _ => ?_
  show (!(q.1 == i) && (!(q.1 == i + 1) && !(q.1 + 1 == i && (sE q.2).category == 2))) = _
  rw [se_cat]
def sR (lay : List sCl) (d K : Nat) (J : pHp) (pc : Nat) (lv : sLv) (st : List sV) (M : sM) (Q : Option sV → sM → Prop) : Prop :=
  ∃ (n : Nat) (rv : Option sV) (M' : sM), pLoop (pEx d) (pMt K) (pTs.getD K []) n pc (sL lv) (st.map sE) (sHp lay M ++ J) (rv.map sE) (sHp lay M' ++ J) ∧ Q rv M'
def sX (lay : List sCl) (d K : Nat) (J : pHp) (as : List sV) (M : sM) (Q : Option sV → sM → Prop) : Prop :=
  ∃ (rv : Option sV) (M' : sM), pEx d K (as.map sE) (sHp lay M ++ J) (rv.map sE) (sHp lay M' ++ J) ∧ Q rv M'
def inR (x : Int) : Prop := -2147483648 ≤ x ∧ x ≤ 2147483647
theorem inR_to {x : Int} (h : inR x) : (Int32.ofInt x).toInt = x := Int32.toInt_ofInt_of_le (by have := h.1; omega) (by have := h.2; omega)
theorem inR_lt {x y : Int} (hx : inR x) (hy : inR y) : Int32.ofInt x < Int32.ofInt y ↔ x < y := by rw [Int32.lt_iff_toInt_lt, inR_to hx, inR_to hy]
theorem inR_le {x y : Int} (hx : inR x) (hy : inR y) : Int32.ofInt x ≤ Int32.ofInt y ↔ x ≤ y := by rw [Int32.le_iff_toInt_le, inR_to hx, inR_to hy]
theorem inR_eq {x y : Int} (hx : inR x) (hy : inR y) : Int32.ofInt x = Int32.ofInt y ↔ x = y := by rw [← Int32.toInt_inj, inR_to hx, inR_to hy]
theorem inR_clamp {x : Int} (hx : inR x) : (Int32.ofInt x).toNatClampNeg = x.toNat := by
  show (Int32.ofInt x).toInt.toNat = _
  rw [inR_to hx]
def sCmp (c : Jvm.ClassFile.Cond) (x y : Int) : Prop := match c with
  | .eq => x = y
  | .ne => ¬ x = y
  | .lt => x < y
  | .ge => y ≤ x
  | .gt => y < x
  | .le => x ≤ y
theorem scmp_iff {c : Jvm.ClassFile.Cond} {x y : Int} (hx : inR x) (hy : inR y) : pCmp c (Int32.ofInt x) (Int32.ofInt y) = true ↔ sCmp c x y := by
  cases c <;> simp only [pCmp, sCmp, decide_eq_true_eq]
  · exact inR_eq hx hy
  · exact not_congr (inR_eq hx hy)
  · exact inR_lt hx hy
  · exact inR_le hy hx
  · exact inR_lt hy hx
  · exact inR_le hx hy
section SR
variable {lay : List sCl} {d K : Nat} {J : pHp} {pc a : Nat} {lv : sLv} {st : List sV} {M : sM} {Q : Option sV → sM → Prop}
theorem sr_stp {e : pEn} (he : e ∈ pTs.getD K []) (ha : e.2.2.2 < 99999) (hp : e.1 = pc) {pc' : Nat} {lv' : sLv} {st' : List sV} {M' : sM} (h : pStp (pMt K) e (sL lv) (st.map sE) (sHp lay M ++ J) (pc', sL lv', st'.map sE, sHp lay M' ++ J)) (k : sR lay d K J pc' lv' st' M' Q) : sR lay d K J pc lv st M Q := by
  obtain ⟨n, rv, M2, h1, h2⟩ := k
  exact ⟨n + 1, rv, M2, ⟨e, he, hp, ha, Or.inr (Or.inl ⟨_, h, h1⟩)⟩, h2⟩
theorem sr_stk {i : Instr} {n : Nat} {st' : List sV} (he : (pc, i, n, a) ∈ pTs.getD K []) (ha : a < 99999) (h : pStk i (st.map sE) = some (n, st'.map sE)) (k : sR lay d K J (pc + n) lv st' M Q) : sR lay d K J pc lv st M Q := sr_stp he ha rfl (Or.inl ⟨_, h, rfl⟩) k
theorem sr_iconst {c : Int} (he : (pc, .iconst c, 1, a) ∈ pTs.getD K []) (ha : a < 99999) (k : sR lay d K J (pc + 1) lv ((0, c) :: st) M Q) : sR lay d K J pc lv st M Q := sr_stk he ha rfl k
theorem sr_bipush {c : Int} (he : (pc, .bipush c, 2, a) ∈ pTs.getD K []) (ha : a < 99999) (hc : (Int8.ofInt c).toInt32 = Int32.ofInt c) (k : sR lay d K J (pc + 2) lv ((0, c) :: st) M Q) : sR lay d K J pc lv st M Q :=
  sr_stk (st' := (0, c) :: st) he ha (by show some (2, Value.int _ :: _) = _; rw [hc]; rfl) k
theorem sr_sipush {c : Int} (he : (pc, .sipush c, 3, a) ∈ pTs.getD K []) (ha : a < 99999) (hc : (Int16.ofInt c).toInt32 = Int32.ofInt c) (k : sR lay d K J (pc + 3) lv ((0, c) :: st) M Q) : sR lay d K J pc lv st M Q :=
  sr_stk (st' := (0, c) :: st) he ha (by show some (3, Value.int _ :: _) = _; rw [hc]; rfl) k
theorem sr_iadd {x y : Int} (he : (pc, .iadd, 1, a) ∈ pTs.getD K []) (ha : a < 99999) (k : sR lay d K J (pc + 1) lv ((0, x + y) :: st) M Q) : sR lay d K J pc lv ((0, y) :: (0, x) :: st) M Q :=
  sr_stk (st' := (0, x + y) :: st) he ha (by show some (1, Value.int (Int32.ofInt x + Int32.ofInt y) :: _) = _; rw [← Int32.ofInt_add]; rfl) k
theorem sr_isub {x y : Int} (he : (pc, .isub, 1, a) ∈ pTs.getD K []) (ha : a < 99999) (k : sR lay d K J (pc + 1) lv ((0, x - y) :: st) M Q) : sR lay d K J pc lv ((0, y) :: (0, x) :: st) M Q :=
  sr_stk (st' := (0, x - y) :: st) he ha (by show some (1, Value.int (Int32.ofInt x - Int32.ofInt y) :: _) = _; rw [← Int32.ofInt_sub]; rfl) k
theorem sr_imul {x y : Int} (he : (pc, .imul, 1, a) ∈ pTs.getD K []) (ha : a < 99999) (k : sR lay d K J (pc + 1) lv ((0, x * y) :: st) M Q) : sR lay d K J pc lv ((0, y) :: (0, x) :: st) M Q :=
  sr_stk (st' := (0, x * y) :: st) he ha (by show some (1, Value.int (Int32.ofInt x * Int32.ofInt y) :: _) = _; rw [← Int32.ofInt_mul]; rfl) k
theorem sr_ineg {x : Int} (he : (pc, .ineg, 1, a) ∈ pTs.getD K []) (ha : a < 99999) (k : sR lay d K J (pc + 1) lv ((0, -x) :: st) M Q) : sR lay d K J pc lv ((0, x) :: st) M Q :=
  sr_stk (st' := (0, -x) :: st) he ha (by show some (1, Value.int (-Int32.ofInt x) :: _) = _; rw [← Int32.ofInt_neg]; rfl) k
theorem sr_iload_n {n : Fin 4} {i : Nat} {x : Int} (he : (pc, .iload_n n, 1, a) ∈ pTs.getD K []) (ha : a < 99999) (hi : (n : Nat) = i) (hg : sGet lv i = some (0, x)) (k : sR lay d K J (pc + 1) lv ((0, x) :: st) M Q) : sR lay d K J pc lv st M Q := by
  subst hi
  refine sr_stp (lv' := lv) (st' := (0, x) :: st) he ha rfl (Or.inr (Or.inl ⟨sL lv, ((0, x) :: st).map sE, ?_, rfl⟩)) k
  show (match pGet (sL lv) n with | some v => if pInt false v = true then some (1, sL lv, v :: st.map sE) else none | none => none) = _
  rw [sl_get, hg]
  rfl
theorem sr_iload {i : Nat} {x : Int} (he : (pc, .iload i, 2, a) ∈ pTs.getD K []) (ha : a < 99999) (hg : sGet lv i = some (0, x)) (k : sR lay d K J (pc + 2) lv ((0, x) :: st) M Q) : sR lay d K J pc lv st M Q := by
  refine sr_stp (lv' := lv) (st' := (0, x) :: st) he ha rfl (Or.inr (Or.inl ⟨sL lv, ((0, x) :: st).map sE, ?_, rfl⟩)) k
  show (match pGet (sL lv) i with | some v => if pInt false v = true then some (2, sL lv, v :: st.map sE) else none | none => none) = _
  rw [sl_get, hg]
  rfl
theorem sr_aload_n {n : Fin 4} {i : Nat} {x : Int} (he : (pc, .aload_n n, 1, a) ∈ pTs.getD K []) (ha : a < 99999) (hi : (n : Nat) = i) (hg : sGet lv i = some (2, x)) (k : sR lay d K J (pc + 1) lv ((2, x) :: st) M Q) : sR lay d K J pc lv st M Q := by
  subst hi
  refine sr_stp (lv' := lv) (st' := (2, x) :: st) he ha rfl (Or.inr (Or.inl ⟨sL lv, ((2, x) :: st).map sE, ?_, rfl⟩)) k
  show (match pGet (sL lv) n with | some v => if pRef v = true then some (1, sL lv, v :: st.map sE) else none | none => none) = _
  rw [sl_get, hg]
  rfl
theorem sr_aload {i : Nat} {x : Int} (he : (pc, .aload i, 2, a) ∈ pTs.getD K []) (ha : a < 99999) (hg : sGet lv i = some (2, x)) (k : sR lay d K J (pc + 2) lv ((2, x) :: st) M Q) : sR lay d K J pc lv st M Q := by
  refine sr_stp (lv' := lv) (st' := (2, x) :: st) he ha rfl (Or.inr (Or.inl ⟨sL lv, ((2, x) :: st).map sE, ?_, rfl⟩)) k
  show (match pGet (sL lv) i with | some v => if pRef v = true then some (2, sL lv, v :: st.map sE) else none | none => none) = _
  rw [sl_get, hg]
  rfl
theorem sr_istore_n {n : Fin 4} {i : Nat} {x : Int} {lv' : sLv} (he : (pc, .istore_n n, 1, a) ∈ pTs.getD K []) (ha : a < 99999) (hi : (n : Nat) = i) (hm : i < (pMt K).2.2.2.1) (hl : sPut1 lv i (0, x) = lv') (k : sR lay d K J (pc + 1) lv' st M Q) : sR lay d K J pc lv ((0, x) :: st) M Q := by
  subst hi; subst hl
  refine sr_stp (lv' := sPut1 lv n (0, x)) (st' := st) he ha rfl (Or.inr (Or.inl ⟨_, _, ?_, rfl⟩)) k
  show (if pInt false (sE (0, x)) = true ∧ (n : Nat) < (pMt K).2.2.2.1 then some (1, pPut1 (sL lv) n (sE (0, x)), st.map sE) else none) = _
  rw [if_pos ⟨rfl, hm⟩, sl_put1]
theorem sr_istore {i : Nat} {x : Int} {lv' : sLv} (he : (pc, .istore i, 2, a) ∈ pTs.getD K []) (ha : a < 99999) (hm : i < (pMt K).2.2.2.1) (hl : sPut1 lv i (0, x) = lv') (k : sR lay d K J (pc + 2) lv' st M Q) : sR lay d K J pc lv ((0, x) :: st) M Q := by
  subst hl
  refine sr_stp (lv' := sPut1 lv i (0, x)) (st' := st) he ha rfl (Or.inr (Or.inl ⟨_, _, ?_, rfl⟩)) k
  show (if pInt false (sE (0, x)) = true ∧ i < (pMt K).2.2.2.1 then some (2, pPut1 (sL lv) i (sE (0, x)), st.map sE) else none) = _
  rw [if_pos ⟨rfl, hm⟩, sl_put1]
theorem sr_iinc {i : Nat} {n x : Int} {lv' : sLv} (he : (pc, .iinc i n, 3, a) ∈ pTs.getD K []) (ha : a < 99999) (hm : i < (pMt K).2.2.2.1) (hg : sGet lv i = some (0, x)) (hl : sPut1 lv i (0, x + n) = lv') (k : sR lay d K J (pc + 3) lv' st M Q) : sR lay d K J pc lv st M Q := by
  subst hl
  refine sr_stp (lv' := sPut1 lv i (0, x + n)) (st' := st) he ha rfl (Or.inr (Or.inl ⟨_, _, ?_, rfl⟩)) k
  show (match pGet (sL lv) i with | some (.int x) => if i < (pMt K).2.2.2.1 then some (3, pPut1 (sL lv) i (.int (x + Int32.ofInt n)), st.map sE) else none | _ => none) = _
  rw [sl_get, hg]
  show (if i < (pMt K).2.2.2.1 then some (3, pPut1 (sL lv) i (.int (Int32.ofInt x + Int32.ofInt n)), st.map sE) else none) = _
  rw [if_pos hm, ← Int32.ofInt_add, ← sl_put1]
  rfl
theorem sr_goto {off : Int} {tgt : Nat} (he : (pc, .goto off, 3, a) ∈ pTs.getD K []) (ha : a < 99999) (ht : (pc : Int) + off = tgt) (k : sR lay d K J tgt lv st M Q) : sR lay d K J pc lv st M Q := by
  refine sr_stp (lv' := lv) (st' := st) he ha rfl (Or.inr (Or.inr (Or.inl ⟨tgt, st.map sE, ?_, rfl⟩))) k
  show (if (3 : Nat) = 3 then (pTo pc off).map (fun t => (t, st.map sE)) else none) = _
  rw [if_pos rfl]
  unfold pTo
  rw [ht, if_pos (Int.natCast_nonneg _)]
  rfl
theorem sr_icmp {c : Jvm.ClassFile.Cond} {off x y : Int} {tgt : Nat} (he : (pc, .if_icmp c off, 3, a) ∈ pTs.getD K []) (ha : a < 99999) (ht : (pc : Int) + off = tgt) (hx : inR x) (hy : inR y) (kt : sCmp c x y → sR lay d K J tgt lv st M Q) (kf : ¬ sCmp c x y → sR lay d K J (pc + 3) lv st M Q) : sR lay d K J pc lv ((0, y) :: (0, x) :: st) M Q := by
  have h : ∀ t : Nat, (if pCmp c (Int32.ofInt x) (Int32.ofInt y) = true then tgt else pc + 3) = t → pJmp (.if_icmp c off) pc 3 (((0, y) :: (0, x) :: st : List sV).map sE) = some (t, st.map sE) := by
    intro t h
    show (if (3 : Nat) = 3 then (pTo pc off).map (fun t => (if pCmp c (Int32.ofInt x) (Int32.ofInt y) = true then t else pc + 3, st.map sE)) else none) = _
    rw [if_pos rfl]
    unfold pTo
    rw [ht, if_pos (Int.natCast_nonneg _)]
    show some (if pCmp c (Int32.ofInt x) (Int32.ofInt y) = true then tgt else pc + 3, st.map sE) = _
    rw [h]
  by_cases hc : sCmp c x y
  · exact sr_stp (lv' := lv) (st' := st) he ha rfl (Or.inr (Or.inr (Or.inl ⟨tgt, st.map sE, h _ (if_pos ((scmp_iff hx hy).mpr hc)), rfl⟩))) (kt hc)
  · exact sr_stp (lv' := lv) (st' := st) he ha rfl (Or.inr (Or.inr (Or.inl ⟨pc + 3, st.map sE, h _ (if_neg (fun z => hc ((scmp_iff hx hy).mp z))), rfl⟩))) (kf hc)
theorem inR_0 : inR 0 := ⟨by decide, by decide⟩
theorem sr_if {c : Jvm.ClassFile.Cond} {off x : Int} {tgt : Nat} (he : (pc, .ifCond c off, 3, a) ∈ pTs.getD K []) (ha : a < 99999) (ht : (pc : Int) + off = tgt) (hx : inR x) (kt : sCmp c x 0 → sR lay d K J tgt lv st M Q) (kf : ¬ sCmp c x 0 → sR lay d K J (pc + 3) lv st M Q) : sR lay d K J pc lv ((0, x) :: st) M Q := by
  have h : ∀ t : Nat, (if pCmp c (Int32.ofInt x) 0 = true then tgt else pc + 3) = t → pJmp (.ifCond c off) pc 3 (((0, x) :: st : List sV).map sE) = some (t, st.map sE) := by
    intro t h
    show (if (3 : Nat) = 3 then (pTo pc off).map (fun t => (if pCmp c (Int32.ofInt x) 0 = true then t else pc + 3, st.map sE)) else none) = _
    rw [if_pos rfl]
    unfold pTo
    rw [ht, if_pos (Int.natCast_nonneg _)]
    show some (if pCmp c (Int32.ofInt x) 0 = true then tgt else pc + 3, st.map sE) = _
    rw [h]
  by_cases hc : sCmp c x 0
  · exact sr_stp (lv' := lv) (st' := st) he ha rfl (Or.inr (Or.inr (Or.inl ⟨tgt, st.map sE, h _ (if_pos ((scmp_iff hx inR_0).mpr hc)), rfl⟩))) (kt hc)
  · exact sr_stp (lv' := lv) (st' := st) he ha rfl (Or.inr (Or.inr (Or.inl ⟨pc + 3, st.map sE, h _ (if_neg (fun z => hc ((scmp_iff hx inR_0).mp z))), rfl⟩))) (kf hc)
/-- a field is read -/
theorem sr_get {ix o : Nat} {c : sCl} {q : Nat × Nat} {v : sV} (he : (pc, .getfield ix, 3, a) ∈ pTs.getD K []) (ha : a < 99999) (hl : lay[o]? = some c) (hc : c.1 = a / 100 ∧ c.1 < 13 ∧ a % 100 < pN c.1) (hq : c.2[a % 100]? = some q) (hv : sC q (M o (a % 100)) = v) (k : sR lay d K J (pc + 3) lv (v :: st) M Q) : sR lay d K J pc lv ((2, (o : Int)) :: st) M Q := by
  subst hv
  refine sr_stp (lv' := lv) (st' := sC q (M o (a % 100)) :: st) (M' := M) he ha rfl (Or.inr (Or.inr (Or.inr (Or.inr ⟨_, _, ?_, rfl⟩)))) k
  show (match (sHp lay M ++ J)[o]? with
    | some q => if q.1 = a / 100 ∧ q.1 < 13 ∧ a % 100 < pN q.1 then (q.2[a % 100]?).map (fun v => (3, v :: st.map sE, sHp lay M ++ J)) else none
    | none => none) = _
  rw [shj_at hl]
  show (if c.1 = a / 100 ∧ c.1 < 13 ∧ a % 100 < pN c.1 then ((sCell M o c).2[a % 100]?).map (fun v => (3, v :: st.map sE, sHp lay M ++ J)) else none) = _
  rw [if_pos hc, scell_at hq]
  rfl
/-- a field is written -/
theorem sr_put {ix o : Nat} {c : sCl} {q : Nat × Nat} {v : sV} {i : Int} (he : (pc, .putfield ix, 3, a) ∈ pTs.getD K []) (ha : a < 99999) (hl : lay[o]? = some c) (hc : c.1 = a / 100 ∧ c.1 < 13) (hq : c.2[a % 100]? = some q) (hv : sC q i = v) (hf : pFit false (pMt K).1 ((pMt K).2.1.name == "<init>") c.1 (a % 100) (sE v) = true) (k : sR lay d K J (pc + 3) lv st (sU M o (a % 100) i) Q) : sR lay d K J pc lv (v :: (2, (o : Int)) :: st) M Q := by
  subst hv
  refine sr_stp (lv' := lv) (st' := st) (M' := sU M o (a % 100) i) he ha rfl (Or.inr (Or.inr (Or.inr (Or.inr ⟨_, _, ?_, rfl⟩)))) k
  show (match (sHp lay M ++ J)[o]? with
    | some q' => if q'.1 = a / 100 ∧ q'.1 < 13 ∧ a % 100 < q'.2.length ∧ pFit false (pMt K).1 ((pMt K).2.1.name == "<init>") q'.1 (a % 100) (sE (sC q i)) = true then some (3, st.map sE, (sHp lay M ++ J).set o (q'.1, q'.2.set (a % 100) (sE (sC q i)))) else none
    | none => none) = _
  rw [shj_at hl]
  have hlen : a % 100 < (sCell M o c).2.length := by rw [scell_len]; exact (List.getElem?_eq_some_iff.mp hq).1
  show (if c.1 = a / 100 ∧ c.1 < 13 ∧ a % 100 < (sCell M o c).2.length ∧ pFit false (pMt K).1 ((pMt K).2.1.name == "<init>") c.1 (a % 100) (sE (sC q i)) = true then some (3, st.map sE, (sHp lay M ++ J).set o ((sCell M o c).1, (sCell M o c).2.set (a % 100) (sE (sC q i)))) else none) = _
  rw [if_pos ⟨hc.1, hc.2, hlen, hf⟩, shj_set hl hq]
theorem six_of {x : Int} {n : Nat} (h0 : 0 ≤ x) (h1 : x < n) (hn : n ≤ 4096) : pIx (Int32.ofInt x) n = some x.toNat := by
  have hx : inR x := ⟨by omega, by omega⟩
  unfold pIx
  rw [if_neg, inR_clamp hx]
  rintro (h | h)
  · have h2 := (inR_lt hx inR_0).mp h
    omega
  · rw [inR_clamp hx] at h
    omega
/-- an int array is read -/
theorem sr_iald {o n : Nat} {x : Int} {v : Int} (he : (pc, .iaload, 1, a) ∈ pTs.getD K []) (ha : a < 99999) (hl : lay[o]? = some (20, List.replicate n (0, 0))) (h0 : 0 ≤ x) (h1 : x < n) (hn : n ≤ 4096) (hv : M o x.toNat = v) (k : sR lay d K J (pc + 1) lv ((0, v) :: st) M Q) : sR lay d K J pc lv ((0, x) :: (2, (o : Int)) :: st) M Q := by
  subst hv
  refine sr_stp (lv' := lv) (st' := (0, M o x.toNat) :: st) (M' := M) he ha rfl (Or.inr (Or.inr (Or.inr (Or.inr ⟨_, _, ?_, rfl⟩)))) k
  show (match (sHp lay M ++ J)[o]? with
    | some q => if q.1 = 20 then (pLd q.2 (Int32.ofInt x)).map (fun v => (1, v :: st.map sE, sHp lay M ++ J)) else none
    | none => none) = _
  rw [shj_at hl]
  show (if (20 : Nat) = 20 then (pLd (sCell M o (20, List.replicate n (0, 0))).2 (Int32.ofInt x)).map (fun v => (1, v :: st.map sE, sHp lay M ++ J)) else none) = _
  rw [if_pos rfl]
  unfold pLd
  rw [scell_len, List.length_replicate, six_of h0 h1 hn]
  show Option.map _ ((sCell M o (20, List.replicate n (0, 0))).2[x.toNat]?) = _
  rw [scell_at (q := (0, 0)) (by rw [List.getElem?_replicate, if_pos (by omega)])]
  rfl
/-- an int array is written -/
theorem sr_iast {o n : Nat} {x y : Int} (he : (pc, .iastore, 1, a) ∈ pTs.getD K []) (ha : a < 99999) (hl : lay[o]? = some (20, List.replicate n (0, 0))) (h0 : 0 ≤ x) (h1 : x < n) (hn : n ≤ 4096) (k : sR lay d K J (pc + 1) lv st (sU M o x.toNat y) Q) : sR lay d K J pc lv ((0, y) :: (0, x) :: (2, (o : Int)) :: st) M Q := by
  refine sr_stp (lv' := lv) (st' := st) (M' := sU M o x.toNat y) he ha rfl (Or.inr (Or.inr (Or.inr (Or.inr ⟨_, _, ?_, rfl⟩)))) k
  show (match (sHp lay M ++ J)[o]? with
    | some q => if q.1 = 20 ∧ pInt false (sE (0, y)) = true then (pIx (Int32.ofInt x) q.2.length).map (fun j => (1, st.map sE, (sHp lay M ++ J).set o (q.1, q.2.set j (sE (0, y))))) else none
    | none => none) = _
  rw [shj_at hl]
  show (if (20 : Nat) = 20 ∧ pInt false (sE (0, y)) = true then (pIx (Int32.ofInt x) (sCell M o (20, List.replicate n (0, 0))).2.length).map (fun j => (1, st.map sE, (sHp lay M ++ J).set o ((sCell M o (20, List.replicate n (0, 0))).1, (sCell M o (20, List.replicate n (0, 0))).2.set j (sE (0, y))))) else none) = _
  rw [if_pos ⟨rfl, rfl⟩, scell_len, List.length_replicate, six_of h0 h1 hn]
  have h9 := shj_set (lay := lay) (M := M) (J := J) (k := x.toNat) (q := (0, 0)) (v := y) hl (by rw [List.getElem?_replicate, if_pos (by omega)])
  show some (1, st.map sE, (sHp lay M ++ J).set o ((sCell M o (20, List.replicate n (0, 0))).1, (sCell M o (20, List.replicate n (0, 0))).2.set x.toNat (sE (0, y)))) = _
  rw [← h9]
  rfl
/-- a method's end -/
theorem sr_iret {x : Int} {ty : FieldType} (he : (pc, .ireturn, 1, a) ∈ pTs.getD K []) (ha : a < 99999) (hr : (pMt K).2.2.2.2.1 = some ty) (hn : narrow ty (.int (Int32.ofInt x)) = .int (Int32.ofInt x)) (hq : Q (some (0, x)) M) : sR lay d K J pc lv [(0, x)] M Q := by
  refine ⟨1, some (0, x), M, ⟨_, he, rfl, ha, Or.inl ⟨?_, rfl⟩⟩, hq⟩
  unfold pRet
  rw [hr]
  show (if (1 : Nat) = 1 then (if narrow ty (.int (Int32.ofInt x)) = .int (Int32.ofInt x) then some (some (Value.int (Int32.ofInt x))) else none) else none) = _
  rw [if_pos rfl, if_pos hn]
  rfl
theorem sr_vret (he : (pc, .return_, 1, a) ∈ pTs.getD K []) (ha : a < 99999) (hr : (pMt K).2.2.2.2.1 = none) (hq : Q none M) : sR lay d K J pc lv [] M Q := by
  refine ⟨1, none, M, ⟨_, he, rfl, ha, Or.inl ⟨?_, rfl⟩⟩, hq⟩
  unfold pRet
  rw [hr]
  rfl
/-- a call -/
theorem sr_call {i : Instr} {n K2 : Nat} {as rest : List sV} (he : (pc, i, 3, a) ∈ pTs.getD K []) (ha : a < 99999) (harg : pArg (pc, i, 3, a) (st.map sE) (sHp lay M ++ J) = some (K2, as.map sE, rest.map sE)) (hx : sX lay d K2 J as M (fun rv M' => sR lay d K J (pc + 3) lv (rv.toList ++ rest) M' Q)) : sR lay d K J pc lv st M Q := by
  obtain ⟨rv, M', h1, n, rv2, M2, h2, h3⟩ := hx
  refine ⟨n + 1, rv2, M2, ⟨_, he, rfl, ha, Or.inr (Or.inr ⟨_, _, _, harg, h1, ?_⟩)⟩, h3⟩
  rw [List.map_append] at h2
  cases rv with
  | none => exact h2
  | some v => exact h2
end SR
