/-! CALLS OUT OF THEIR BODIES; the stack. -/
def sArgs : Nat → List sV → sLv
  | _, [] => []
  | i, v :: vs => (i, v) :: sArgs (i + (if v.1 = 1 then 2 else 1)) vs
theorem se_cat2 (v : sV) : (sE v).category = if v.1 = 1 then 2 else 1 := by
  obtain ⟨t, i⟩ := v
  match t with
  | 0 => rfl
  | 1 => rfl
  | 2 => rfl
  | n + 3 => rfl
theorem sl_args : ∀ (as : List sV) (i : Nat), lv_args i (as.map sE) = sL (sArgs i as)
  | [], _ => rfl
  | v :: vs, i => by
    rw [List.map_cons, lv_args, se_cat2, sl_args vs]
    by_cases h : v.1 = 1
    · rw [if_pos h, if_pos rfl]
      show _ = (i, sE v) :: sL (sArgs (i + (if v.1 = 1 then 2 else 1)) vs)
      rw [if_pos h]
    · rw [if_neg h, if_neg (by decide)]
      show _ = (i, sE v) :: sL (sArgs (i + (if v.1 = 1 then 2 else 1)) vs)
      rw [if_neg h]
section SR2
variable {lay : List sCl} {d K : Nat} {J : pHp} {pc a : Nat} {lv : sLv} {st : List sV} {M : sM} {Q : Option sV → sM → Prop}
theorem sx_of {as : List sV} (hlen : (lg_sl (as.map sE)).length ≤ (pMt K).2.2.2.1) (h : sR lay d K J 0 (sArgs 0 as) [] M Q) : sX lay (d + 1) K J as M Q := by
  obtain ⟨n, rv, M', h1, h2⟩ := h
  refine ⟨rv, M', ⟨hlen, n, ?_⟩, h2⟩
  rw [sl_args]
  exact h1
theorem sx_mono {as : List sV} {Q' : Option sV → sM → Prop} (h : sX lay d K J as M Q) (hq : ∀ rv M', Q rv M' → Q' rv M') : sX lay d K J as M Q' := by
  obtain ⟨rv, M', h1, h2⟩ := h
  exact ⟨rv, M', h1, hq _ _ h2⟩
theorem sr_dupi {x : Int} (he : (pc, .dup, 1, a) ∈ pTs.getD K []) (ha : a < 99999) (k : sR lay d K J (pc + 1) lv ((0, x) :: (0, x) :: st) M Q) : sR lay d K J pc lv ((0, x) :: st) M Q := sr_stk (st' := (0, x) :: (0, x) :: st) he ha rfl k
theorem sr_dupr {x : Int} (he : (pc, .dup, 1, a) ∈ pTs.getD K []) (ha : a < 99999) (k : sR lay d K J (pc + 1) lv ((2, x) :: (2, x) :: st) M Q) : sR lay d K J pc lv ((2, x) :: st) M Q := sr_stk (st' := (2, x) :: (2, x) :: st) he ha rfl k
theorem sr_popi {x : Int} (he : (pc, .pop, 1, a) ∈ pTs.getD K []) (ha : a < 99999) (k : sR lay d K J (pc + 1) lv st M Q) : sR lay d K J pc lv ((0, x) :: st) M Q := sr_stk (st' := st) he ha rfl k
end SR2
