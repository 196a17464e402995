/-! THE INSTRUCTIONS OF THE STACK WHOSE ANSWER GETS A NEW NAME (n): tag, length, stack below, what is known of it; hints are taken from hs: how, then what shows that it may be done so. -/
abbrev qHs : Type := List qF
noncomputable def qInR (n : Nat) : List qF := [[(2147483648, 0), (1, n)], [(2147483647, 0), (-1, n)]]
noncomputable def qInL (n : Nat) : List qF := [[(9223372036854775808, 0), (1, n)], [(9223372036854775807, 0), (-1, n)]]
abbrev qHr : Type := Nat × Nat × List qV × List qF × qHs
/-- divisors that aren't 0 -/
noncomputable def qNz (fs : List qF) (y : qF) (mx : Int) (hs : qHs) : Option qHs := match hs with
  | [(2, 0)] :: a :: b :: t => cond (qEnt fs (qSub y (qCn 1)) a && qEnt fs (qSub (qCn mx) y) b) (some t) none
  | [(3, 0)] :: a :: b :: t => cond (qEnt fs (qSub (qCn (-1)) y) a && qEnt fs (qAdd y (qCn mx)) b) (some t) none
  | _ => none
noncomputable def qHv (i : Instr) (st : List qV) (fs : List qF) (n : Nat) (hs : qHs) : Option qHr := match i with
  | .imul => match st with | (0, _) :: (0, _) :: r => some (0, 1, r, qInR n, hs) | _ => none
  | .iadd => match st with | (0, _) :: (0, _) :: r => some (0, 1, r, qInR n, hs) | _ => none
  | .ineg => match st with | (0, _) :: r => some (0, 1, r, qInR n, hs) | _ => none
  | .iand => match st with
    | (0, y) :: (0, _) :: r => (match qKo y with
      | some c => cond (zNg c || zNg (2147483647 - c)) (some (0, 1, r, qInR n, hs)) (some (0, 1, r, [[(1, n)], qAdd (qCn c) [(-1, n)]], hs))
      | none => some (0, 1, r, qInR n, hs))
    | _ => none
  | .ior => match st with | (0, _) :: (0, _) :: r => some (0, 1, r, qInR n, hs) | _ => none
  | .ixor => match st with | (0, _) :: (0, _) :: r => some (0, 1, r, qInR n, hs) | _ => none
  | .ishr => match st with | (0, _) :: (0, _) :: r => some (0, 1, r, qInR n, hs) | _ => none
  | .ishl => match st with
    | (0, y) :: (0, x) :: r => (match hs with
      | [] :: t => some (0, 1, r, qInR n, t)
      | [(c, 0)] :: a :: b :: t => cond (x == [(1, 0)] && !(zNg (30 - c)) && (!(zNg c) && (qEnt fs y a && qEnt fs (qSub (qCn c) y) b))) (some (0, 1, r, [[(-1, 0), (1, n)], qAdd (qCn (2 ^ c.toNat)) [(-1, n)]], t)) none
      | _ => none)
    | _ => none
  | .irem => match st with
    | (0, y) :: (0, x) :: r => (match qKo y with
      | some c => cond (zNg (c - 1) || zNg (2147483647 - c)) none (match hs with
        | [] :: t => some (0, 1, r, [qAdd (qCn (c - 1)) [(1, n)], qAdd (qCn (c - 1)) [(-1, n)]], t)
        | [(1, 0)] :: a :: b :: t => cond (qEnt fs x a && qEnt fs (qSub (qCn 2147483647) x) b) (some (0, 1, r, [[(1, n)], qAdd (qCn (c - 1)) [(-1, n)]], t)) none
        | [(4, 0)] :: q :: a :: b :: a2 :: b2 :: t => cond (qSc n q && (qEnt fs x a && (qEnt fs (qSub (qCn 2147483647) x) b && (qEnt fs (qSub x (qScl c q)) a2 && qEnt fs (qSub (qCn (c - 1)) (qSub x (qScl c q))) b2)))) (some (0, 1, r, [qSub (qSub x (qScl c q)) [(1, n)], qSub [(1, n)] (qSub x (qScl c q))], t)) none
        | _ => none)
      | none => none)
    | _ => none
  | .idiv => match st with
    | (0, y) :: (0, x) :: r => (match hs with
      | [(1, 0)] :: a :: b :: t => (match qKo y with
        | some c => cond (zNg (c - 1) || zNg (2147483647 - c)) none (cond (qEnt fs x a && qEnt fs (qSub (qCn 2147483647) x) b) (some (0, 1, r, [qSub x [(c, n)], qSub (qAdd (qCn (c - 1)) [(c, n)]) x], t)) none)
        | none => none)
      | _ => (match qNz fs y 2147483647 hs with | some t => some (0, 1, r, qInR n, t) | none => none))
    | _ => none
  | .i2l => match st with | (0, _) :: r => some (1, 1, r, qInR n, hs) | _ => none
  | .l2i => match st with | (1, _) :: r => some (0, 1, r, qInR n, hs) | _ => none
  | .i2b => match st with | (0, _) :: r => some (0, 1, r, qInR n, hs) | _ => none
  | .i2c => match st with | (0, _) :: r => some (0, 1, r, qInR n, hs) | _ => none
  | .ladd => match st with | (1, _) :: (1, _) :: r => some (1, 1, r, qInL n, hs) | _ => none
  | .lsub => match st with | (1, _) :: (1, _) :: r => some (1, 1, r, qInL n, hs) | _ => none
  | .lmul => match st with | (1, _) :: (1, _) :: r => some (1, 1, r, qInL n, hs) | _ => none
  | .land => match st with | (1, _) :: (1, _) :: r => some (1, 1, r, qInL n, hs) | _ => none
  | .ldiv => match st with | (1, y) :: (1, _) :: r => (match qNz fs y 9223372036854775808 hs with | some t => some (1, 1, r, qInL n, t) | none => none) | _ => none
  | .lrem => match st with | (1, y) :: (1, _) :: r => (match qNz fs y 9223372036854775808 hs with | some t => some (1, 1, r, qInL n, t) | none => none) | _ => none
  | _ => none
theorem zn_rem_q {x c q : Int} (hx : 0 ≤ x) (hx1 : x ≤ 2147483647) (h0 : 0 < c) (h1 : c ≤ 2147483647) (h2 : 0 ≤ x - c * q) (h3 : 0 ≤ c - 1 - (x - c * q)) : (Int32.ofInt x - Int32.ofInt x / Int32.ofInt c * Int32.ofInt c).toInt = x - c * q := by
  have hX : (Int32.ofInt x).toInt = x := inR_to ⟨by omega, hx1⟩
  rw [zn_rem h0 h1, hX, Int.tmod_eq_emod_of_nonneg hx]
  obtain ⟨s, hs⟩ : ∃ s, s = x - c * q := ⟨_, rfl⟩
  rw [← hs] at h2 h3 ⊢
  rw [show x = c * q + s by omega, Int.mul_add_emod_self_left]
  exact Int.emod_eq_of_lt h2 (by omega)
theorem qd_at {ρ : Nat → Int} {c : Int} {a : Nat} : qD ρ [(c, a)] = c * ρ a := by show c * ρ a + 0 = _; omega
theorem qinr_ok {ρ : Nat → Int} {n : Nat} (h0 : ρ 0 = 1) {z : Int} (hn : ρ n = z) (hz : inR z) : ∀ f ∈ qInR n, 0 ≤ qD ρ f := by
  intro f hf
  have h1 := hz.1
  have h2 := hz.2
  rcases List.mem_cons.mp hf with rfl | hf
  · show 0 ≤ 2147483648 * ρ 0 + (1 * ρ n + 0)
    rw [h0, hn]; omega
  · rcases List.mem_cons.mp hf with rfl | hf
    · show 0 ≤ 2147483647 * ρ 0 + (-1 * ρ n + 0)
      rw [h0, hn]; omega
    · cases hf
theorem qinl_ok {ρ : Nat → Int} {n : Nat} (h0 : ρ 0 = 1) {z : Int} (hn : ρ n = z) (hz : inL z) : ∀ f ∈ qInL n, 0 ≤ qD ρ f := by
  intro f hf
  have h1 := hz.1
  have h2 := hz.2
  rcases List.mem_cons.mp hf with rfl | hf
  · show 0 ≤ 9223372036854775808 * ρ 0 + (1 * ρ n + 0)
    rw [h0, hn]; omega
  · rcases List.mem_cons.mp hf with rfl | hf
    · show 0 ≤ 9223372036854775807 * ρ 0 + (-1 * ρ n + 0)
      rw [h0, hn]; omega
    · cases hf
theorem qnz_ok {ρ : Nat → Int} (h0 : ρ 0 = 1) {fs : List qF} (hf : ∀ f ∈ fs, 0 ≤ qD ρ f) {y : qF} {mx : Int} {hs t : qHs} (h : qNz fs y mx hs = some t) : (1 ≤ qD ρ y ∧ qD ρ y ≤ mx) ∨ (-mx ≤ qD ρ y ∧ qD ρ y ≤ -1) := by
  unfold qNz at h
  split at h
  · rename_i a b t'
    cases hc : (qEnt fs (qSub y (qCn 1)) a && qEnt fs (qSub (qCn mx) y) b) with
    | false => rw [hc] at h; cases h
    | true =>
      rw [Bool.and_eq_true] at hc
      have h1 := qd_ent h0 hf hc.1
      have h2 := qd_ent h0 hf hc.2
      rw [qd_sub, qd_cn h0] at h1 h2
      omega
  · rename_i a b t'
    cases hc : (qEnt fs (qSub (qCn (-1)) y) a && qEnt fs (qAdd y (qCn mx)) b) with
    | false => rw [hc] at h; cases h
    | true =>
      rw [Bool.and_eq_true] at hc
      have h1 := qd_ent h0 hf hc.1
      have h2 := qd_ent h0 hf hc.2
      rw [qd_sub, qd_cn h0] at h1
      rw [qd_add, qd_cn h0] at h2
      omega
  · cases h
/-- an int that is known to be one -/
theorem qhv_i {ρ : Nat → Int} {i : Instr} {len n : Nat} {st rest : List qV} {nf : List qF} (z : Int32) (h : pStk i ((qDS ρ st).map sE) = some (len, Value.int z :: (qDS ρ rest).map sE)) (hz : ∀ ρ' : Nat → Int, (∀ a, a < n → ρ' a = ρ a) → ρ' n = z.toInt → ρ' 0 = 1 → ∀ f ∈ nf, 0 ≤ qD ρ' f) : ∃ z : Int, pStk i ((qDS ρ st).map sE) = some (len, sE (0, z) :: (qDS ρ rest).map sE) ∧ ∀ ρ' : Nat → Int, (∀ a, a < n → ρ' a = ρ a) → ρ' n = z → ρ' 0 = 1 → ∀ f ∈ nf, 0 ≤ qD ρ' f :=
  ⟨z.toInt, by rw [h]; show _ = some (len, Value.int (Int32.ofInt z.toInt) :: _); rw [i32_of], hz⟩
theorem qhv_l {ρ : Nat → Int} {i : Instr} {len n : Nat} {st rest : List qV} {nf : List qF} (z : Int64) (h : pStk i ((qDS ρ st).map sE) = some (len, Value.long z :: (qDS ρ rest).map sE)) (hz : ∀ ρ' : Nat → Int, (∀ a, a < n → ρ' a = ρ a) → ρ' n = z.toInt → ρ' 0 = 1 → ∀ f ∈ nf, 0 ≤ qD ρ' f) : ∃ z : Int, pStk i ((qDS ρ st).map sE) = some (len, sE (1, z) :: (qDS ρ rest).map sE) ∧ ∀ ρ' : Nat → Int, (∀ a, a < n → ρ' a = ρ a) → ρ' n = z → ρ' 0 = 1 → ∀ f ∈ nf, 0 ≤ qD ρ' f :=
  ⟨z.toInt, by rw [h]; show _ = some (len, Value.long (Int64.ofInt z.toInt) :: _); rw [i64_of], hz⟩
theorem qhv_ok {i : Instr} {st rest : List qV} {fs nf : List qF} {n t len : Nat} {hs hs' : qHs} (h : qHv i st fs n hs = some (t, len, rest, nf, hs')) (hn : 0 < n) (hsc : st.all (fun v => qSc n v.2) = true) (ρ : Nat → Int) (h0 : ρ 0 = 1) (hf : ∀ f ∈ fs, 0 ≤ qD ρ f) : ∃ z : Int, pStk i ((qDS ρ st).map sE) = some (len, sE (t, z) :: (qDS ρ rest).map sE) ∧ ∀ ρ' : Nat → Int, (∀ a, a < n → ρ' a = ρ a) → ρ' n = z → ρ' 0 = 1 → ∀ f ∈ nf, 0 ≤ qD ρ' f := by
  have hI : ∀ z : Int32, ∀ ρ' : Nat → Int, (∀ a, a < n → ρ' a = ρ a) → ρ' n = z.toInt → ρ' 0 = 1 → ∀ f ∈ qInR n, 0 ≤ qD ρ' f := fun z ρ' _ hz h0' => qinr_ok h0' hz (i32_rng z)
  have hL : ∀ z : Int64, ∀ ρ' : Nat → Int, (∀ a, a < n → ρ' a = ρ a) → ρ' n = z.toInt → ρ' 0 = 1 → ∀ f ∈ qInL n, 0 ≤ qD ρ' f := fun z ρ' _ hz h0' => qinl_ok h0' hz (i64_rng z)
  unfold qHv at h
  split at h
  · split at h
    · cases h; exact qhv_i _ rfl (hI _)
    · cases h
  · split at h
    · cases h; exact qhv_i _ rfl (hI _)
    · cases h
  · split at h
    · cases h; exact qhv_i _ rfl (hI _)
    · cases h
  · split at h
    · rename_i y x r
      split at h
      · rename_i c hc
        cases hb : (zNg c || zNg (2147483647 - c)) with
        | true => rw [hb] at h; cases h; exact qhv_i _ rfl (hI _)
        | false =>
          rw [hb] at h
          cases h
          rw [Bool.or_eq_false_iff] at hb
          have h1 := zng_f hb.1
          have h2 := zng_f hb.2
          refine qhv_i (Int32.ofInt (qD ρ x) &&& Int32.ofInt (qD ρ y)) rfl (fun ρ' _ hz h0' => ?_)
          rw [qd_ko h0 hc] at hz
          have h3 := zn_and (Int32.ofInt (qD ρ x)) h1 (by omega)
          rw [← hz] at h3
          intro f hf'
          rcases List.mem_cons.mp hf' with rfl | hf'
          · rw [qd_at]; omega
          · rcases List.mem_cons.mp hf' with rfl | hf'
            · rw [qd_add, qd_cn h0', qd_at]; omega
            · cases hf'
      · cases h; exact qhv_i _ rfl (hI _)
    · cases h
  · split at h
    · cases h; exact qhv_i _ rfl (hI _)
    · cases h
  · split at h
    · cases h; exact qhv_i _ rfl (hI _)
    · cases h
  · split at h
    · cases h; exact qhv_i _ rfl (hI _)
    · cases h
  · split at h
    · rename_i y x r
      split at h
      · cases h; exact qhv_i _ rfl (hI _)
      · rename_i c a b t'
        cases hc : (x == [(1, 0)] && !(zNg (30 - c)) && (!(zNg c) && (qEnt fs y a && qEnt fs (qSub (qCn c) y) b))) with
        | false => rw [hc] at h; cases h
        | true =>
          rw [hc] at h
          cases h
          rw [Bool.and_eq_true, Bool.and_eq_true, Bool.and_eq_true, Bool.and_eq_true, Bool.not_eq_true', Bool.not_eq_true'] at hc
          have hx : x = [(1, 0)] := by simpa using hc.1.1
          have h1 := zng_f hc.1.2
          have h2 := zng_f hc.2.1
          have h3 := qd_ent h0 hf hc.2.2.1
          have h4 := qd_ent h0 hf hc.2.2.2
          rw [qd_sub, qd_cn h0] at h4
          have h5 := zn_shl_b (y := qD ρ y) (n := c.toNat) h3 (by omega) (by omega)
          have hx1 : qD ρ x = 1 := by rw [hx, qd_at, h0]; rfl
          refine qhv_i (Int32.ofInt (qD ρ x) <<< (Int32.ofInt (qD ρ y) &&& 31)) rfl (fun ρ' _ hz h0' => ?_)
          rw [hx1] at hz
          have e1 : Int32.ofInt 1 = 1 := rfl
          rw [e1] at hz
          rw [← hz] at h5
          intro f hf'
          rcases List.mem_cons.mp hf' with rfl | hf'
          · show 0 ≤ -1 * ρ' 0 + (1 * ρ' n + 0)
            rw [h0']; omega
          · rcases List.mem_cons.mp hf' with rfl | hf'
            · rw [qd_add, qd_cn h0', qd_at]; omega
            · cases hf'
      · cases h
    · cases h
  · split at h
    · rename_i y x r
      split at h
      · rename_i c hc
        cases hb : (zNg (c - 1) || zNg (2147483647 - c)) with
        | true => rw [hb] at h; cases h
        | false =>
          rw [hb] at h
          rw [Bool.or_eq_false_iff] at hb
          have h1 := zng_f hb.1
          have h2 := zng_f hb.2
          have hy := qd_ko h0 hc
          have hnz : ¬ Int32.ofInt (qD ρ y) = 0 := zn_ne (by omega)
          have hp : pStk .irem ((qDS ρ ((0, y) :: (0, x) :: r)).map sE) = some (1, Value.int (Int32.ofInt (qD ρ x) - Int32.ofInt (qD ρ x) / Int32.ofInt (qD ρ y) * Int32.ofInt (qD ρ y)) :: (qDS ρ r).map sE) := by
            show (if Int32.ofInt (qD ρ y) = 0 then none else some (1, Value.int (Int32.ofInt (qD ρ x) - Int32.ofInt (qD ρ x) / Int32.ofInt (qD ρ y) * Int32.ofInt (qD ρ y)) :: (qDS ρ r).map sE)) = _
            rw [if_neg hnz]
          have hb3 := zn_rem_b (x := Int32.ofInt (qD ρ x)) (c := c) (by omega) (by omega)
          rw [← hy] at hb3
          rw [cond_false] at h
          split at h
          · cases h
            refine qhv_i _ hp (fun ρ' _ hz h0' => ?_)
            rw [← hz] at hb3
            intro f hf'
            rcases List.mem_cons.mp hf' with rfl | hf'
            · rw [qd_add, qd_cn h0', qd_at]; omega
            · rcases List.mem_cons.mp hf' with rfl | hf'
              · rw [qd_add, qd_cn h0', qd_at]; omega
              · cases hf'
          · rename_i a b t'
            cases hc2 : (qEnt fs x a && qEnt fs (qSub (qCn 2147483647) x) b) with
            | false => rw [hc2] at h; cases h
            | true =>
              rw [hc2] at h
              cases h
              rw [Bool.and_eq_true] at hc2
              have h3 := qd_ent h0 hf hc2.1
              have h4 := qd_ent h0 hf hc2.2
              rw [qd_sub, qd_cn h0] at h4
              have h5 : (Int32.ofInt (qD ρ x)).toInt = qD ρ x := inR_to ⟨by omega, by omega⟩
              refine qhv_i _ hp (fun ρ' _ hz h0' => ?_)
              rw [← hz, h5] at hb3
              have h6 := hb3.2.2 h3
              intro f hf'
              rcases List.mem_cons.mp hf' with rfl | hf'
              · rw [qd_at]; omega
              · rcases List.mem_cons.mp hf' with rfl | hf'
                · rw [qd_add, qd_cn h0', qd_at]; omega
                · cases hf'
          · rename_i q a b a2 b2 t'
            cases hc2 : (qSc n q && (qEnt fs x a && (qEnt fs (qSub (qCn 2147483647) x) b && (qEnt fs (qSub x (qScl c q)) a2 && qEnt fs (qSub (qCn (c - 1)) (qSub x (qScl c q))) b2)))) with
            | false => rw [hc2] at h; cases h
            | true =>
              rw [hc2] at h
              cases h
              rw [Bool.and_eq_true, Bool.and_eq_true, Bool.and_eq_true, Bool.and_eq_true] at hc2
              have h3 := qd_ent h0 hf hc2.2.1
              have h4 := qd_ent h0 hf hc2.2.2.1
              have h5 := qd_ent h0 hf hc2.2.2.2.1
              have h6 := qd_ent h0 hf hc2.2.2.2.2
              rw [qd_sub, qd_cn h0] at h4
              rw [qd_sub, qd_scl] at h5
              rw [qd_sub, qd_cn h0, qd_sub, qd_scl] at h6
              have hb4 := zn_rem_q (x := qD ρ x) (c := c) (q := qD ρ q) h3 (by omega) (by omega) (by omega) h5 h6
              rw [← hy] at hb4
              refine qhv_i _ hp (fun ρ' hr hz h0' => ?_)
              rw [hb4, hy] at hz
              rw [List.all_cons, List.all_cons, Bool.and_eq_true, Bool.and_eq_true] at hsc
              have hx : qD ρ' x = qD ρ x := qd_sc hr hsc.2.1
              have hq : qD ρ' q = qD ρ q := qd_sc hr hc2.1
              intro f hf'
              rcases List.mem_cons.mp hf' with rfl | hf'
              · rw [qd_sub, qd_sub, qd_scl, hx, hq, qd_at]; omega
              · rcases List.mem_cons.mp hf' with rfl | hf'
                · rw [qd_sub, qd_sub, qd_scl, hx, hq, qd_at]; omega
                · cases hf'
          · cases h
      · cases h
    · cases h
  · split at h
    · rename_i y x r
      have hp : ¬ Int32.ofInt (qD ρ y) = 0 → pStk .idiv ((qDS ρ ((0, y) :: (0, x) :: r)).map sE) = some (1, Value.int (Int32.ofInt (qD ρ x) / Int32.ofInt (qD ρ y)) :: (qDS ρ r).map sE) := by
        intro hnz
        show (if Int32.ofInt (qD ρ y) = 0 then none else some (1, Value.int (Int32.ofInt (qD ρ x) / Int32.ofInt (qD ρ y)) :: (qDS ρ r).map sE)) = _
        rw [if_neg hnz]
      split at h
      · rename_i a b t'
        split at h
        · rename_i c hc
          cases hb : (zNg (c - 1) || zNg (2147483647 - c)) with
          | true => rw [hb] at h; cases h
          | false =>
            rw [hb] at h
            rw [Bool.or_eq_false_iff] at hb
            have h1 := zng_f hb.1
            have h2 := zng_f hb.2
            have hy := qd_ko h0 hc
            cases hc2 : (qEnt fs x a && qEnt fs (qSub (qCn 2147483647) x) b) with
            | false => rw [hc2] at h; cases h
            | true =>
              rw [hc2] at h
              cases h
              rw [Bool.and_eq_true] at hc2
              have h3 := qd_ent h0 hf hc2.1
              have h4 := qd_ent h0 hf hc2.2
              rw [qd_sub, qd_cn h0] at h4
              have hb3 := zn_div (x := qD ρ x) (c := c) h3 (by omega) (by omega) (by omega)
              rw [← hy] at hb3
              refine qhv_i _ (hp (zn_ne (by omega))) (fun ρ' hr hz h0' => ?_)
              rw [← hz] at hb3
              rw [List.all_cons, List.all_cons, Bool.and_eq_true, Bool.and_eq_true] at hsc
              have hx : qD ρ' x = qD ρ x := qd_sc hr hsc.2.1
              rw [hy] at hb3
              intro f hf'
              rcases List.mem_cons.mp hf' with rfl | hf'
              · rw [qd_sub, hx, qd_at]; omega
              · rcases List.mem_cons.mp hf' with rfl | hf'
                · rw [qd_sub, qd_add, qd_cn h0', hx, qd_at]; omega
                · cases hf'
        · cases h
      · split at h
        · rename_i t' hz
          cases h
          exact qhv_i _ (hp (zn_ne ((qnz_ok h0 hf hz).imp id (fun h => ⟨by omega, h.2⟩)))) (hI _)
        · cases h
    · cases h
  · split at h
    · rename_i x r
      cases h
      refine qhv_l (Int32.ofInt (qD ρ x)).toInt64 rfl (fun ρ' _ hz h0' => ?_)
      rw [Int32.toInt_toInt64] at hz
      exact qinr_ok h0' hz (i32_rng _)
    · cases h
  · split at h
    · cases h; exact qhv_i _ rfl (hI _)
    · cases h
  · split at h
    · cases h; exact qhv_i _ rfl (hI _)
    · cases h
  · split at h
    · cases h; exact qhv_i _ rfl (hI _)
    · cases h
  · split at h
    · cases h; exact qhv_l _ rfl (hL _)
    · cases h
  · split at h
    · cases h; exact qhv_l _ rfl (hL _)
    · cases h
  · split at h
    · cases h; exact qhv_l _ rfl (hL _)
    · cases h
  · split at h
    · cases h; exact qhv_l _ rfl (hL _)
    · cases h
  · split at h
    · rename_i y x r
      split at h
      · rename_i t' hz
        cases h
        have hnz : ¬ Int64.ofInt (qD ρ y) = 0 := zn_neL ((qnz_ok h0 hf hz).imp id (fun h => ⟨by omega, h.2⟩))
        refine qhv_l (Int64.ofInt (qD ρ x) / Int64.ofInt (qD ρ y)) ?_ (hL _)
        show (if Int64.ofInt (qD ρ y) = 0 then none else some (1, Value.long (Int64.ofInt (qD ρ x) / Int64.ofInt (qD ρ y)) :: _)) = _
        rw [if_neg hnz]; rfl
      · cases h
    · cases h
  · split at h
    · rename_i y x r
      split at h
      · rename_i t' hz
        cases h
        have hnz : ¬ Int64.ofInt (qD ρ y) = 0 := zn_neL ((qnz_ok h0 hf hz).imp id (fun h => ⟨by omega, h.2⟩))
        refine qhv_l (Int64.ofInt (qD ρ x) - Int64.ofInt (qD ρ x) / Int64.ofInt (qD ρ y) * Int64.ofInt (qD ρ y)) ?_ (hL _)
        show (if Int64.ofInt (qD ρ y) = 0 then none else some (1, Value.long (Int64.ofInt (qD ρ x) - Int64.ofInt (qD ρ x) / Int64.ofInt (qD ρ y) * Int64.ofInt (qD ρ y)) :: _)) = _
        rw [if_neg hnz]; rfl
      · cases h
    · cases h
  · cases h
