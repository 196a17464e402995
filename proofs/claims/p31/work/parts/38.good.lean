/-! GOOD STATES: from every memory and all numbers that keep the facts, the run ends as is asked. -/
def qG (d K : Nat) (J : pHp) (Q : Option sV → sM → Prop) (M0 : sM) (S : sSt) (g : Nat) (ρ0 : Nat → Int) (pc : Nat) (lv : qLv) (st : List qV) (fs : List qF) (mm : qMm) : Prop :=
  ∀ (ρ : Nat → Int) (M : sM), (∀ a, a < g → ρ a = ρ0 a) → ρ 0 = 1 → (∀ f ∈ fs, 0 ≤ qD ρ f) → (∀ q ∈ mm, M q.1 (zIx ρ q.2.1) = qD ρ q.2.2) → sI M → sF S M0 M → sR sLay d K J pc (qDL ρ lv) (qDS ρ st) M Q
section QG
variable {d K : Nat} {J : pHp} {Q : Option sV → sM → Prop} {M0 : sM} {S : sSt} {g : Nat} {ρ0 : Nat → Int} {pc a n : Nat} {lv : qLv} {st rest : List qV} {fs nf : List qF} {mm : qMm} {x y : qF}
def qUp (ρ ρ1 : Nat → Int) (n : Nat) : Nat → Int := fun a => cond (Nat.blt a n) (ρ a) (ρ1 a)
theorem qup_lt {ρ ρ1 : Nat → Int} {n a : Nat} (h : a < n) : qUp ρ ρ1 n a = ρ a := by
  unfold qUp
  have : Nat.blt a n = true := Nat.ble_eq_true_of_le h
  rw [this]; rfl
theorem qup_ge {ρ ρ1 : Nat → Int} {n a : Nat} (h : n ≤ a) : qUp ρ ρ1 n a = ρ1 a := by
  unfold qUp
  have : Nat.blt a n = false := by
    cases hb : Nat.blt a n with
    | false => rfl
    | true => have : a + 1 ≤ n := Nat.le_of_ble_eq_true hb; omega
  rw [this]; rfl
theorem qsa {lv : qLv} (h : qScA g n lv st fs mm = true) : g ≤ n ∧ lv.all (fun q => qSc n q.2.2) = true ∧ st.all (fun v => qSc n v.2) = true ∧ (∀ f ∈ fs, qSc n f = true) ∧ (∀ q ∈ mm, (qSk n q.2.1 && qSc n q.2.2) = true) := by
  unfold qScA at h
  rw [Bool.and_eq_true, Bool.and_eq_true, Bool.and_eq_true, Bool.and_eq_true] at h
  exact ⟨Nat.le_of_ble_eq_true h.1, h.2.1, h.2.2.1, qmx_ok (Nat.le_of_ble_eq_true h.2.2.2.1), qmxm_ok (Nat.le_of_ble_eq_true h.2.2.2.2)⟩
/-- new unknown numbers: from n on as ρ1 says -/
theorem qg_new (hg1 : 0 < g) {ρ ρ1 : Nat → Int} {M : sM} (hsc : qScA g n lv st fs mm = true) (hg : ∀ a, a < g → ρ a = ρ0 a) (h0 : ρ 0 = 1) (hf : ∀ f ∈ fs, 0 ≤ qD ρ f) (hm : ∀ q ∈ mm, M q.1 (zIx ρ q.2.1) = qD ρ q.2.2) :
    (∀ a, a < g → qUp ρ ρ1 n a = ρ0 a) ∧ qUp ρ ρ1 n 0 = 1 ∧ (∀ f ∈ fs, 0 ≤ qD (qUp ρ ρ1 n) f) ∧ (∀ q ∈ mm, M q.1 (zIx (qUp ρ ρ1 n) q.2.1) = qD (qUp ρ ρ1 n) q.2.2) ∧ qDL (qUp ρ ρ1 n) lv = qDL ρ lv ∧ qDS (qUp ρ ρ1 n) st = qDS ρ st := by
  obtain ⟨h1, h2, h3, h4, h5⟩ := qsa hsc
  have hr : ∀ a, a < n → qUp ρ ρ1 n a = ρ a := fun a h => qup_lt h
  refine ⟨fun a h => (hr a (by omega)).trans (hg a h), (hr 0 (by omega)).trans h0, fun f h => ?_, fun q h => ?_, qdl_sc hr h2, qds_sc hr h3⟩
  · rw [qd_sc hr (h4 f h)]; exact hf f h
  · have h6 := h5 q h
    rw [Bool.and_eq_true] at h6
    rw [qd_sc hr h6.2, zix_sc hr h6.1]; exact hm q h
/-- an instruction of the stack whose answer gets a new name -/
theorem qg_hv (hg1 : 0 < g) (t : Nat) {i : Instr} {len : Nat} (he : (pc, i, len, a) ∈ pTs.getD K []) (ha : a < 99999) (hsc : qScA g n lv rest fs mm = true)
    (hop : ∀ ρ : Nat → Int, ρ 0 = 1 → (∀ f ∈ fs, 0 ≤ qD ρ f) → ∃ z : Int, pStk i ((qDS ρ st).map sE) = some (len, sE (t, z) :: (qDS ρ rest).map sE) ∧ ∀ ρ' : Nat → Int, (∀ a, a < n → ρ' a = ρ a) → ρ' n = z → ρ' 0 = 1 → ∀ f ∈ nf, 0 ≤ qD ρ' f)
    (k : qG d K J Q M0 S g ρ0 (pc + len) lv ((t, [(1, n)]) :: rest) (qPp fs nf) mm) : qG d K J Q M0 S g ρ0 pc lv st fs mm := by
  intro ρ M hg h0 hf hm hI hF
  obtain ⟨z, h1, h2⟩ := hop ρ h0 hf
  obtain ⟨e1, e2, e3, e4, e5, e6⟩ := qg_new (ρ1 := fun _ => z) hg1 hsc hg h0 hf hm
  have hn : qUp ρ (fun _ => z) n n = z := qup_ge (Nat.le_refl n)
  have h3 := k (qUp ρ (fun _ => z) n) M e1 e2 (fun f hf' => by
    rcases qpp_mem hf' with h | h
    · exact e3 f h
    · exact h2 _ (fun a h => qup_lt h) hn e2 f h) e4 hI hF
  rw [e5] at h3
  refine sr_stk (st' := (t, z) :: qDS ρ rest) he ha h1 ?_
  have e7 : qDS (qUp ρ (fun _ => z) n) ((t, [(1, n)]) :: rest) = (t, z) :: qDS ρ rest := by
    show (t, 1 * qUp ρ (fun _ => z) n n + 0) :: qDS (qUp ρ (fun _ => z) n) rest = _
    rw [e6, hn]
    congr 2
    omega
  rw [e7] at h3
  exact h3
/-- an instruction of the stack whose answer is a form -/
theorem qg_st {i : Instr} {len : Nat} {st' : List qV} (he : (pc, i, len, a) ∈ pTs.getD K []) (ha : a < 99999) (hop : ∀ ρ : Nat → Int, ρ 0 = 1 → pStk i ((qDS ρ st).map sE) = some (len, (qDS ρ st').map sE)) (k : qG d K J Q M0 S g ρ0 (pc + len) lv st' fs mm) : qG d K J Q M0 S g ρ0 pc lv st fs mm := by
  intro ρ M hg h0 hf hm hI hF
  exact sr_stk he ha (hop ρ h0) (k ρ M hg h0 hf hm hI hF)
/-- a state that cannot be -/
theorem qg_no {c : qF} (h : qEnt fs [(-1, 0)] c = true) : qG d K J Q M0 S g ρ0 pc lv st fs mm := by
  intro ρ M hg h0 hf hm hI hF
  have := qd_ent h0 hf h
  exfalso
  have e : qD ρ [(-1, 0)] = -1 := by
    show -1 * ρ 0 + 0 = -1
    rw [h0]
    rfl
  rw [e] at this
  omega
end QG
/-! THE INSTRUCTIONS OF THE STACK, AS FORMS: length, new stack. -/
def zIn8 (c : Int) : Bool := !(zNg (c + 128)) && !(zNg (127 - c))
def zIn16 (c : Int) : Bool := !(zNg (c + 32768)) && !(zNg (32767 - c))
def zIn32 (c : Int) : Bool := !(zNg (c + 2147483648)) && !(zNg (2147483647 - c))
def qEx (i : Instr) (st : List qV) : Option (Nat × List qV) := match i with
  | .iconst c => some (1, (0, qCn c) :: st)
  | .bipush c => cond (zIn8 c) (some (2, (0, qCn c) :: st)) none
  | .sipush c => cond (zIn16 c) (some (3, (0, qCn c) :: st)) none
  | .lconst c => some (1, (1, qCn ((c : Nat) : Int)) :: st)
  | .iadd => match st with | (0, y) :: (0, x) :: r => some (1, (0, qAdd x y) :: r) | _ => none
  | .isub => match st with | (0, y) :: (0, x) :: r => some (1, (0, qSub x y) :: r) | _ => none
  | .imul => match st with
    | (0, y) :: (0, x) :: r => match qKo y with
      | some c => some (1, (0, cond (c == 0) [] (qScl c x)) :: r)
      | none => match qKo x with
        | some c => some (1, (0, cond (c == 0) [] (qScl c y)) :: r)
        | none => none
    | _ => none
  | .ineg => match st with | (0, x) :: r => some (1, (0, qScl (-1) x) :: r) | _ => none
  | .lneg => match st with | (1, x) :: r => some (1, (1, qScl (-1) x) :: r) | _ => none
  | .i2l => match st with | (0, x) :: r => (match qKo x with | some c => cond (zIn32 c) (some (1, (1, qCn c) :: r)) none | none => none) | _ => none
  | .idiv => match st with
    | (0, y) :: (0, x) :: r => (match qKo x, qKo y with
      | some a, some c => cond (zNg a || (zNg (2147483647 - a) || (zNg (c - 1) || zNg (2147483647 - c)))) none (some (1, (0, qCn (a / c)) :: r))
      | _, _ => none)
    | _ => none
  | .iand => match st with
    | (0, y) :: (0, x) :: r => (match qKo x, qKo y with
      | some a, some c => some (1, (0, qCn (Int32.ofInt a &&& Int32.ofInt c).toInt) :: r)
      | _, _ => none)
    | _ => none
  | .ishr => match st with
    | (0, y) :: (0, x) :: r => (match qKo x, qKo y with
      | some a, some c => some (1, (0, qCn (Int32.ofInt a >>> (Int32.ofInt c &&& 31)).toInt) :: r)
      | _, _ => none)
    | _ => none
  | .i2c => match st with
    | (0, x) :: r => (match qKo x with
      | some a => some (1, (0, qCn ((Int32.ofInt a).toUInt32 % 65536).toInt32.toInt) :: r)
      | none => none)
    | _ => none
  | .dup => match st with | (0, x) :: r => some (1, (0, x) :: (0, x) :: r) | (2, x) :: r => some (1, (2, x) :: (2, x) :: r) | _ => none
  | .pop => match st with | (0, _) :: r => some (1, r) | (2, _) :: r => some (1, r) | _ => none
  | .dup2 => match st with | (0, x) :: (2, y) :: r => some (1, (0, x) :: (2, y) :: (0, x) :: (2, y) :: r) | _ => none
  | _ => none
theorem zin_f {c : Int} {k : Int} (h : (!(zNg (c + k)) && !(zNg (k - 1 - c))) = true) : -k ≤ c ∧ c ≤ k - 1 := by
  rw [Bool.and_eq_true, Bool.not_eq_true', Bool.not_eq_true'] at h
  have h1 := zng_f h.1
  have h2 := zng_f h.2
  omega
theorem z_bip : ∀ k : Fin 256, (Int8.ofInt ((k : Nat) - 128 : Int)).toInt32 = Int32.ofInt ((k : Nat) - 128 : Int) := by decide +kernel
theorem z_bip2 {c : Int} (h : -128 ≤ c ∧ c ≤ 127) : (Int8.ofInt c).toInt32 = Int32.ofInt c := by
  have := z_bip ⟨(c + 128).toNat, by omega⟩
  have e : (((⟨(c + 128).toNat, by omega⟩ : Fin 256) : Nat) : Int) - 128 = c := by
    show (((c + 128).toNat : Nat) : Int) - 128 = c
    omega
  rw [e] at this
  exact this
theorem z_sip2 {c : Int} (h : -32768 ≤ c ∧ c ≤ 32767) : (Int16.ofInt c).toInt32 = Int32.ofInt c := by
  rw [← Int32.toInt_inj, Int16.toInt_toInt32, Int16.toInt_ofInt_of_le (by omega) (by omega), inR_to ⟨by omega, by omega⟩]
theorem qex_ok {i : Instr} {st st' : List qV} {len : Nat} (h : qEx i st = some (len, st')) (ρ : Nat → Int) (h0 : ρ 0 = 1) : pStk i ((qDS ρ st).map sE) = some (len, (qDS ρ st').map sE) := by
  unfold qEx at h
  split at h
  · cases h
    show some (1, Value.int _ :: _) = some (1, sE (0, qD ρ (qCn _)) :: _)
    rw [qd_cn h0]; rfl
  · rename_i c
    cases hc : zIn8 c with
    | false => rw [hc] at h; cases h
    | true =>
      rw [hc] at h
      cases h
      show some (2, Value.int (Int8.ofInt c).toInt32 :: _) = some (2, sE (0, qD ρ (qCn _)) :: _)
      rw [qd_cn h0, z_bip2 (zin_f (k := 128) hc)]; rfl
  · rename_i c
    cases hc : zIn16 c with
    | false => rw [hc] at h; cases h
    | true =>
      rw [hc] at h
      cases h
      show some (3, Value.int (Int16.ofInt c).toInt32 :: _) = some (3, sE (0, qD ρ (qCn _)) :: _)
      rw [qd_cn h0, z_sip2 (zin_f (k := 32768) hc)]; rfl
  · cases h
    show some (1, Value.long _ :: _) = some (1, sE (1, qD ρ (qCn _)) :: _)
    rw [qd_cn h0]; rfl
  · split at h
    · rename_i y x r
      cases h
      show some (1, Value.int (Int32.ofInt (qD ρ x) + Int32.ofInt (qD ρ y)) :: _) = some (1, sE (0, qD ρ (qAdd x y)) :: _)
      rw [qd_add, ← Int32.ofInt_add]; rfl
    · cases h
  · split at h
    · rename_i y x r
      cases h
      show some (1, Value.int (Int32.ofInt (qD ρ x) - Int32.ofInt (qD ρ y)) :: _) = some (1, sE (0, qD ρ (qSub x y)) :: _)
      rw [qd_sub, ← Int32.ofInt_sub]; rfl
    · cases h
  · split at h
    · rename_i y x r
      have hz : ∀ (c : Int) (f : qF), qD ρ (cond (c == 0) [] (qScl c f)) = c * qD ρ f := by
        intro c f
        cases hc : (c == 0) with
        | true =>
          have : c = 0 := by simpa using hc
          subst this
          show (0 : Int) = 0 * _
          omega
        | false => exact qd_scl ρ c f
      have hg : ∀ f : qF, qD ρ f = qD ρ x * qD ρ y → pStk .imul ((qDS ρ ((0, y) :: (0, x) :: r)).map sE) = some (1, (qDS ρ ((0, f) :: r)).map sE) := by
        intro f hf
        show some (1, Value.int (Int32.ofInt (qD ρ x) * Int32.ofInt (qD ρ y)) :: _) = some (1, sE (0, qD ρ f) :: _)
        rw [hf, ← Int32.ofInt_mul]; rfl
      split at h
      · rename_i c hc
        cases h
        refine hg _ ?_
        rw [hz, qd_ko h0 hc, Int.mul_comm]
      · split at h
        · rename_i c hc
          cases h
          refine hg _ ?_
          rw [hz, qd_ko h0 hc]
        · cases h
    · cases h
  · split at h
    · rename_i x r
      cases h
      show some (1, Value.int (-Int32.ofInt (qD ρ x)) :: _) = some (1, sE (0, qD ρ (qScl (-1) x)) :: _)
      rw [qd_scl, ← Int32.ofInt_neg]
      show some (1, Value.int (Int32.ofInt (-qD ρ x)) :: _) = some (1, Value.int (Int32.ofInt (-1 * qD ρ x)) :: _)
      rw [show -1 * qD ρ x = -qD ρ x by omega]
    · cases h
  · split at h
    · rename_i x r
      cases h
      show some (1, Value.long (-Int64.ofInt (qD ρ x)) :: _) = some (1, sE (1, qD ρ (qScl (-1) x)) :: _)
      rw [qd_scl, ← Int64.ofInt_neg]
      show some (1, Value.long (Int64.ofInt (-qD ρ x)) :: _) = some (1, Value.long (Int64.ofInt (-1 * qD ρ x)) :: _)
      rw [show -1 * qD ρ x = -qD ρ x by omega]
    · cases h
  · split at h
    · rename_i x r
      split at h
      · rename_i c hc
        cases hc2 : zIn32 c with
        | false => rw [hc2] at h; cases h
        | true =>
          rw [hc2] at h
          cases h
          have h1 := zin_f (k := 2147483648) hc2
          show some (1, Value.long (Int32.ofInt (qD ρ x)).toInt64 :: _) = some (1, sE (1, qD ρ (qCn c)) :: _)
          rw [qd_cn h0, qd_ko h0 hc]
          have e : (Int32.ofInt c).toInt64 = Int64.ofInt c := by
            rw [← Int64.toInt_inj, Int32.toInt_toInt64, inR_to ⟨by omega, by omega⟩, inL_to ⟨by omega, by omega⟩]
          rw [e]; rfl
      · cases h
    · cases h
  · split at h
    · rename_i y x r
      split at h
      · rename_i a c ha hc
        cases hb : (zNg a || (zNg (2147483647 - a) || (zNg (c - 1) || zNg (2147483647 - c)))) with
        | true => rw [hb] at h; cases h
        | false =>
          rw [hb] at h
          cases h
          rw [Bool.or_eq_false_iff, Bool.or_eq_false_iff, Bool.or_eq_false_iff] at hb
          have h1 := zng_f hb.1
          have h2 := zng_f hb.2.1
          have h3 := zng_f hb.2.2.1
          have h4 := zng_f hb.2.2.2
          have ex := qd_ko h0 ha
          have ey := qd_ko h0 hc
          have hd := zn_div (x := a) (c := c) h1 (by omega) (by omega) (by omega)
          have hq := Int.mul_ediv_self_le (x := a) (k := c) (by omega)
          have hq2 := Int.lt_mul_ediv_self_add (x := a) (k := c) (by omega)
          have hz : (Int32.ofInt a / Int32.ofInt c).toInt = a / c := by
            have e1 : c * (Int32.ofInt a / Int32.ofInt c).toInt < c * (a / c + 1) := by rw [Int.mul_add]; omega
            have e2 : c * (a / c) < c * ((Int32.ofInt a / Int32.ofInt c).toInt + 1) := by rw [Int.mul_add]; omega
            have e3 := Int.lt_of_mul_lt_mul_left e1 (by omega)
            have e4 := Int.lt_of_mul_lt_mul_left e2 (by omega)
            omega
          have hnz : ¬ Int32.ofInt (qD ρ y) = 0 := zn_ne (by omega)
          show (if Int32.ofInt (qD ρ y) = 0 then none else some (1, Value.int (Int32.ofInt (qD ρ x) / Int32.ofInt (qD ρ y)) :: _)) = some (1, Value.int (Int32.ofInt (qD ρ (qCn (a / c)))) :: _)
          rw [if_neg hnz, qd_cn h0, ex, ey, ← hz, i32_of]
      · cases h
    · cases h
  · split at h
    · rename_i y x r
      split at h
      · rename_i a c ha hc
        cases h
        show some (1, Value.int (Int32.ofInt (qD ρ x) &&& Int32.ofInt (qD ρ y)) :: _) = some (1, Value.int (Int32.ofInt (qD ρ (qCn _))) :: _)
        rw [qd_cn h0, qd_ko h0 ha, qd_ko h0 hc, i32_of]
      · cases h
    · cases h
  · split at h
    · rename_i y x r
      split at h
      · rename_i a c ha hc
        cases h
        show some (1, Value.int (Int32.ofInt (qD ρ x) >>> (Int32.ofInt (qD ρ y) &&& 31)) :: _) = some (1, Value.int (Int32.ofInt (qD ρ (qCn _))) :: _)
        rw [qd_cn h0, qd_ko h0 ha, qd_ko h0 hc, i32_of]
      · cases h
    · cases h
  · split at h
    · rename_i x r
      split at h
      · rename_i a ha
        cases h
        show some (1, Value.int ((Int32.ofInt (qD ρ x)).toUInt32 % 65536).toInt32 :: _) = some (1, Value.int (Int32.ofInt (qD ρ (qCn _))) :: _)
        rw [qd_cn h0, qd_ko h0 ha, i32_of]
      · cases h
    · cases h
  · split at h
    · cases h; rfl
    · cases h; rfl
    · cases h
  · split at h
    · cases h; rfl
    · cases h; rfl
    · cases h
  · split at h
    · cases h; rfl
    · cases h
  · cases h
