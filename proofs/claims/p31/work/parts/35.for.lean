/-! FORMS: a number as a sum of multiples of unknown ones; unknown 0 is always 1. Facts are forms that are not below 0; a fact is shown by a sum of multiples of others. -/
abbrev qF : Type := List (Int × Nat)
def qD (ρ : Nat → Int) : qF → Int
  | [] => 0
  | q :: f => q.1 * ρ q.2 + qD ρ f
/-! whole numbers, quickly -/
def zZ : Int → Bool
  | .ofNat n => Nat.beq n 0
  | .negSucc _ => false
theorem zz_t : ∀ {c : Int}, zZ c = true → c = 0
  | .ofNat n, h => by rw [Nat.eq_of_beq_eq_true (show Nat.beq n 0 = true from h)]; rfl
  | .negSucc _, h => nomatch h
def zOne : Int → Bool
  | .ofNat n => Nat.beq n 1
  | .negSucc _ => false
theorem zone_t : ∀ {c : Int}, zOne c = true → c = 1
  | .ofNat n, h => by rw [Nat.eq_of_beq_eq_true (show Nat.beq n 1 = true from h)]; rfl
  | .negSucc _, h => nomatch h
def zLe : Int → Int → Bool
  | .ofNat m, .ofNat n => Nat.ble m n
  | .ofNat _, .negSucc _ => false
  | .negSucc _, .ofNat _ => true
  | .negSucc m, .negSucc n => Nat.ble n m
theorem zle_t : ∀ {a b : Int}, zLe a b = true → a ≤ b
  | .ofNat m, .ofNat n, h => Int.ofNat_le.mpr (Nat.le_of_ble_eq_true h)
  | .ofNat _, .negSucc _, h => nomatch h
  | .negSucc m, .ofNat n, _ => Int.le_trans (Int.le_of_lt (Int.negSucc_lt_zero m)) (Int.natCast_nonneg n)
  | .negSucc m, .negSucc n, h => by have h1 : n ≤ m := Nat.le_of_ble_eq_true h; omega
def zEq : Int → Int → Bool
  | .ofNat m, .ofNat n => Nat.beq m n
  | .negSucc m, .negSucc n => Nat.beq m n
  | _, _ => false
theorem zeq_t : ∀ {a b : Int}, zEq a b = true → a = b
  | .ofNat m, .ofNat n, h => by rw [Nat.eq_of_beq_eq_true (show Nat.beq m n = true from h)]
  | .negSucc m, .negSucc n, h => by rw [Nat.eq_of_beq_eq_true (show Nat.beq m n = true from h)]
  | .ofNat _, .negSucc _, h => nomatch h
  | .negSucc _, .ofNat _, h => nomatch h
def qIns (c : Int) (a : Nat) : qF → qF
  | [] => cond (zZ c) [] [(c, a)]
  | q :: f => cond (Nat.beq q.2 a) (cond (zZ (c + q.1)) f ((c + q.1, a) :: f)) (cond (Nat.blt a q.2) (cond (zZ c) (q :: f) ((c, a) :: q :: f)) (q :: qIns c a f))
def qAdd (f g : qF) : qF := f.foldr (fun q r => qIns q.1 q.2 r) g
def qScl (c : Int) (f : qF) : qF := f.map (fun q => (c * q.1, q.2))
def qSub (f g : qF) : qF := qAdd (qScl (-1) g) f
def qCn (c : Int) : qF := cond (c == 0) [] [(c, 0)]
def qKo : qF → Option Int
  | [] => some 0
  | [q] => cond (Nat.beq q.2 0) (some q.1) none
  | _ => none
theorem qd_ins (ρ : Nat → Int) (c : Int) (a : Nat) : ∀ f : qF, qD ρ (qIns c a f) = c * ρ a + qD ρ f
  | [] => by
    unfold qIns
    cases h : zZ c with
    | true =>
      have : c = 0 := zz_t h
      subst this
      show (0 : Int) = 0 * ρ a + 0
      omega
    | false => rfl
  | q :: f => by
    unfold qIns
    cases h : Nat.beq q.2 a with
    | true =>
      have h1 : q.2 = a := Nat.eq_of_beq_eq_true h
      subst h1
      cases h2 : zZ (c + q.1) with
      | true =>
        have h3 : c + q.1 = 0 := zz_t h2
        show qD ρ f = c * ρ q.2 + (q.1 * ρ q.2 + qD ρ f)
        rw [← Int.add_assoc, ← Int.add_mul, h3]
        omega
      | false =>
        show (c + q.1) * ρ q.2 + qD ρ f = c * ρ q.2 + (q.1 * ρ q.2 + qD ρ f)
        rw [Int.add_mul]
        omega
    | false =>
      cases h1 : Nat.blt a q.2 with
      | true =>
        cases h2 : zZ c with
        | true =>
          have : c = 0 := zz_t h2
          subst this
          show q.1 * ρ q.2 + qD ρ f = 0 * ρ a + (q.1 * ρ q.2 + qD ρ f)
          omega
        | false => rfl
      | false =>
        show q.1 * ρ q.2 + qD ρ (qIns c a f) = c * ρ a + (q.1 * ρ q.2 + qD ρ f)
        rw [qd_ins ρ c a f]
        omega
theorem qd_add (ρ : Nat → Int) (g : qF) : ∀ f : qF, qD ρ (qAdd f g) = qD ρ f + qD ρ g
  | [] => by show qD ρ g = 0 + qD ρ g; omega
  | q :: f => by
    show qD ρ (qIns q.1 q.2 (qAdd f g)) = q.1 * ρ q.2 + qD ρ f + qD ρ g
    rw [qd_ins, qd_add ρ g f]
    omega
theorem qd_scl (ρ : Nat → Int) (c : Int) : ∀ f : qF, qD ρ (qScl c f) = c * qD ρ f
  | [] => by show (0 : Int) = c * 0; omega
  | q :: f => by
    show c * q.1 * ρ q.2 + qD ρ (qScl c f) = c * (q.1 * ρ q.2 + qD ρ f)
    rw [qd_scl ρ c f, Int.mul_add, Int.mul_assoc]
theorem qd_sub (ρ : Nat → Int) (f g : qF) : qD ρ (qSub f g) = qD ρ f - qD ρ g := by
  unfold qSub
  rw [qd_add, qd_scl]
  omega
theorem qd_cn {ρ : Nat → Int} (h0 : ρ 0 = 1) (c : Int) : qD ρ (qCn c) = c := by
  unfold qCn
  cases h : (c == 0) with
  | true =>
    have : c = 0 := by simpa using h
    subst this
    rfl
  | false =>
    show c * ρ 0 + 0 = c
    rw [h0]
    omega
theorem qd_ko {ρ : Nat → Int} (h0 : ρ 0 = 1) {f : qF} {c : Int} (h : qKo f = some c) : qD ρ f = c := by
  match f, h with
  | [], h => cases h; rfl
  | [q], h =>
    have h : cond (Nat.beq q.2 0) (some q.1) none = some c := h
    cases h1 : Nat.beq q.2 0 with
    | true =>
      rw [h1] at h
      have h2 : q.2 = 0 := Nat.eq_of_beq_eq_true h1
      cases h
      show q.1 * ρ q.2 + 0 = q.1
      rw [h2, h0]
      omega
    | false => rw [h1] at h; cases h
def zNg : Int → Bool
  | .ofNat _ => false
  | .negSucc _ => true
theorem zng_f : ∀ {c : Int}, zNg c = false → 0 ≤ c
  | .ofNat n, _ => Int.natCast_nonneg n
  | .negSucc _, h => nomatch h
/-- a fact by its place; tails are worked out once -/
noncomputable def qAt (fs : List qF) (i : Nat) : Option qF := List.rec (motive := fun _ => Nat → Option qF) (fun _ => none) (fun f _ ih i => Nat.rec (motive := fun _ => Option qF) (some f) (fun j _ => ih j) i) fs i
theorem qat_mem : ∀ {fs : List qF} {i : Nat} {f : qF}, qAt fs i = some f → f ∈ fs
  | [], _, _, h => nomatch h
  | g :: fs, 0, f, h => by
    have h : some g = some f := h
    cases h
    exact List.mem_cons_self
  | g :: fs, i + 1, f, h => List.mem_cons_of_mem _ (qat_mem (fs := fs) (i := i) h)
def qEq : qF → qF → Bool
  | [], [] => true
  | q :: f, p :: g => cond (Nat.beq q.2 p.2) (cond (zEq q.1 p.1) (qEq f g) false) false
  | _, _ => false
theorem qeq_t : ∀ {f g : qF}, qEq f g = true → f = g
  | [], [], _ => rfl
  | q :: f, p :: g, h => by
    have h : cond (Nat.beq q.2 p.2) (cond (zEq q.1 p.1) (qEq f g) false) false = true := h
    cases h1 : Nat.beq q.2 p.2 with
    | false => rw [h1] at h; cases h
    | true =>
      rw [h1, cond_true] at h
      cases h2 : zEq q.1 p.1 with
      | false => rw [h2] at h; cases h
      | true =>
        rw [h2, cond_true] at h
        rw [qeq_t h, show q = p from Prod.ext (zeq_t h2) (Nat.eq_of_beq_eq_true h1)]
  | [], _ :: _, h => nomatch h
  | _ :: _, [], h => nomatch h
def qT0 : qF → qF
  | [] => []
  | q :: t => cond (Nat.beq q.2 0) t (q :: t)
def qC0 : qF → Int
  | [] => 0
  | q :: _ => cond (Nat.beq q.2 0) q.1 0
theorem qd_0 (ρ : Nat → Int) (h0 : ρ 0 = 1) : ∀ f : qF, qD ρ f = qC0 f + qD ρ (qT0 f)
  | [] => rfl
  | q :: t => by
    show q.1 * ρ q.2 + qD ρ t = cond (Nat.beq q.2 0) q.1 0 + qD ρ (cond (Nat.beq q.2 0) t (q :: t))
    cases h : Nat.beq q.2 0 with
    | true =>
      rw [cond_true, cond_true, Nat.eq_of_beq_eq_true h, h0]
      omega
    | false =>
      rw [cond_false, cond_false]
      show q.1 * ρ q.2 + qD ρ t = 0 + (q.1 * ρ q.2 + qD ρ t)
      omega
/-- the goal is the fact, but for a number -/
def qDm (goal f : qF) : Bool := cond (zLe (qC0 f) (qC0 goal)) (qEq (qT0 goal) (qT0 f)) false
theorem qdm_ok {ρ : Nat → Int} (h0 : ρ 0 = 1) {goal f : qF} (h : qDm goal f = true) (hf : 0 ≤ qD ρ f) : 0 ≤ qD ρ goal := by
  unfold qDm at h
  cases h1 : zLe (qC0 f) (qC0 goal) with
  | false => rw [h1] at h; cases h
  | true =>
    rw [h1, cond_true] at h
    have h2 := zle_t h1
    rw [qd_0 ρ h0] at hf ⊢
    rw [qeq_t h]
    omega
def qNeg (f : qF) : qF := f.map (fun q => (-q.1, q.2))
theorem qd_neg (ρ : Nat → Int) : ∀ f : qF, qD ρ (qNeg f) = - qD ρ f
  | [] => rfl
  | q :: f => by
    show -q.1 * ρ q.2 + qD ρ (qNeg f) = -(q.1 * ρ q.2 + qD ρ f)
    rw [qd_neg ρ f, Int.neg_mul]
    omega
/-- the goal less multiples of facts -/
noncomputable def qRd (fs : List qF) : qF → qF → Option qF
  | [], g => some g
  | q :: c, g => match qAt fs q.2 with
    | some f => cond (zOne q.1) (qRd fs c (qAdd (qNeg f) g)) (cond (zNg q.1) none (qRd fs c (qAdd (qScl (-q.1) f) g)))
    | none => none
theorem qrd_ok {ρ : Nat → Int} {fs : List qF} (hf : ∀ f ∈ fs, 0 ≤ qD ρ f) : ∀ {c g s : qF}, qRd fs c g = some s → 0 ≤ qD ρ s → 0 ≤ qD ρ g
  | [], g, s, h, hs => by cases h; exact hs
  | q :: c, g, s, h, hs => by
    unfold qRd at h
    split at h
    · rename_i f h1
      have h5 := hf f (qat_mem h1)
      cases h2 : zOne q.1 with
      | true =>
        rw [h2, cond_true] at h
        have h6 := qrd_ok hf h hs
        rw [qd_add, qd_neg] at h6
        omega
      | false =>
        rw [h2, cond_false] at h
        cases h3 : zNg q.1 with
        | true => rw [h3] at h; cases h
        | false =>
          rw [h3, cond_false] at h
          have h6 := qrd_ok hf h hs
          rw [qd_add, qd_scl, Int.neg_mul] at h6
          have h7 := Int.mul_nonneg (zng_f h3) h5
          omega
    · cases h
/-- one fact, once -/
noncomputable def qEn1 (fs : List qF) (goal : qF) : qF → Bool
  | [q] => cond (zOne q.1) (match qAt fs q.2 with | some f => qDm goal f | none => false) false
  | [] => cond (zNg (qC0 goal)) false (match qT0 goal with | [] => true | _ => false)
  | _ => false
theorem qen1_ok {ρ : Nat → Int} (h0 : ρ 0 = 1) {fs : List qF} (hf : ∀ f ∈ fs, 0 ≤ qD ρ f) {goal c : qF} (h : qEn1 fs goal c = true) : 0 ≤ qD ρ goal := by
  unfold qEn1 at h
  split at h
  · rename_i q
    cases h2 : zOne q.1 with
    | false => rw [h2] at h; cases h
    | true =>
      rw [h2, cond_true] at h
      split at h
      · rename_i f h1
        exact qdm_ok h0 h (hf f (qat_mem h1))
      · cases h
  · cases h1 : zNg (qC0 goal) with
    | true => rw [h1] at h; cases h
    | false =>
      rw [h1, cond_false] at h
      have h2 := zng_f h1
      split at h
      · rename_i h3
        rw [qd_0 ρ h0, h3]
        show 0 ≤ qC0 goal + 0
        omega
      · cases h
  · cases h
noncomputable def qEnt (fs : List qF) (goal c : qF) : Bool := cond (qEn1 fs goal c) true (match qRd fs c goal with
  | some s => match qKo s with
    | some k => !(zNg k)
    | none => false
  | none => false)
theorem qd_ent {ρ : Nat → Int} (h0 : ρ 0 = 1) {fs : List qF} (hf : ∀ f ∈ fs, 0 ≤ qD ρ f) {goal c : qF} (h : qEnt fs goal c = true) : 0 ≤ qD ρ goal := by
  unfold qEnt at h
  cases he : qEn1 fs goal c with
  | true => exact qen1_ok h0 hf he
  | false =>
    rw [he, cond_false] at h
    split at h
    · rename_i s hs
      split at h
      · rename_i k hk
        have h1 := qd_ko h0 hk
        have h3 : 0 ≤ k := zng_f (by simpa using h)
        exact qrd_ok hf hs (by omega)
      · cases h
    · cases h
def qSc (n : Nat) (f : qF) : Bool := f.all (fun q => Nat.blt q.2 n)
theorem qd_sc {ρ ρ' : Nat → Int} {n : Nat} (hr : ∀ a, a < n → ρ' a = ρ a) : ∀ {f : qF}, qSc n f = true → qD ρ' f = qD ρ f
  | [], _ => rfl
  | q :: f, h => by
    unfold qSc at h
    rw [List.all_cons, Bool.and_eq_true] at h
    have h1 : q.2 < n := Nat.le_of_ble_eq_true h.1
    show q.1 * ρ' q.2 + qD ρ' f = q.1 * ρ q.2 + qD ρ f
    rw [hr _ h1, qd_sc hr (f := f) h.2]
def qS1 (c : Int) (f : qF) : qF := cond (zOne c) f (qScl c f)
theorem qd_s1 (ρ : Nat → Int) (c : Int) (f : qF) : qD ρ (qS1 c f) = c * qD ρ f := by
  unfold qS1
  cases h : zOne c with
  | true => rw [cond_true, zone_t h]; omega
  | false => rw [cond_false, qd_scl]
def qSb (σ : Nat → qF) : qF → qF
  | [] => []
  | q :: f => match f with
    | [] => qS1 q.1 (σ q.2)
    | _ :: _ => qAdd (qS1 q.1 (σ q.2)) (qSb σ f)
theorem qd_sb (ρ : Nat → Int) (σ : Nat → qF) : ∀ f : qF, qD ρ (qSb σ f) = qD (fun a => qD ρ (σ a)) f
  | [] => rfl
  | [q] => by
    show qD ρ (qS1 q.1 (σ q.2)) = q.1 * qD ρ (σ q.2) + 0
    rw [qd_s1]
    omega
  | q :: p :: f => by
    show qD ρ (qAdd (qS1 q.1 (σ q.2)) (qSb σ (p :: f))) = q.1 * qD ρ (σ q.2) + qD (fun a => qD ρ (σ a)) (p :: f)
    rw [qd_add, qd_s1, qd_sb ρ σ (p :: f)]
/-! STATES. -/
abbrev qV : Type := Nat × qF
abbrev qLv : Type := List (Nat × qV)
abbrev qMm : Type := List (Nat × Nat × qF)
/-- a place of a cell: its number, or from 1000 on the number that a name has -/
def zIx (ρ : Nat → Int) (k : Nat) : Nat := cond (Nat.blt k 1000) k (ρ (k - 1000)).toNat
def qSk (n k : Nat) : Bool := Nat.blt k 1000 || Nat.blt (k - 1000) n
theorem zix_lt {ρ : Nat → Int} {k : Nat} (h : k < 1000) : zIx ρ k = k := by
  unfold zIx
  rw [show Nat.blt k 1000 = true from Nat.ble_eq_true_of_le h]; rfl
theorem zix_b {ρ : Nat → Int} {k : Nat} (h : Nat.blt k 1000 = true) : zIx ρ k = k := by unfold zIx; rw [h]; rfl
theorem zix_sc {ρ ρ' : Nat → Int} {n : Nat} (hr : ∀ a, a < n → ρ' a = ρ a) {k : Nat} (h : qSk n k = true) : zIx ρ' k = zIx ρ k := by
  unfold zIx
  cases hk : Nat.blt k 1000 with
  | true => rfl
  | false =>
    unfold qSk at h
    rw [hk, Bool.false_or] at h
    show (ρ' (k - 1000)).toNat = (ρ (k - 1000)).toNat
    rw [hr _ (Nat.le_of_ble_eq_true h)]
def qDV (ρ : Nat → Int) (v : qV) : sV := (v.1, qD ρ v.2)
def qDL (ρ : Nat → Int) (lv : qLv) : sLv := lv.map (fun q => (q.1, qDV ρ q.2))
def qDS (ρ : Nat → Int) (st : List qV) : List sV := st.map (qDV ρ)
def qGet : qLv → Nat → Option qV
  | [], _ => none
  | q :: l, i => cond (Nat.beq q.1 i) (some q.2) (qGet l i)
def qPut1 (lv : qLv) (i : Nat) (v : qV) : qLv := (i, v) :: lv.filter (fun q => !(q.1 == i) && !(q.1 + 1 == i && q.2.1 == 1))
def qPut2 (lv : qLv) (i : Nat) (v : qV) : qLv := (i, v) :: lv.filter (fun q => !(q.1 == i) && (!(q.1 == i + 1) && !(q.1 + 1 == i && q.2.1 == 1)))
theorem ql_get (ρ : Nat → Int) (i : Nat) : ∀ lv : qLv, sGet (qDL ρ lv) i = (qGet lv i).map (qDV ρ)
  | [] => rfl
  | q :: l => by
    show (if q.1 = i then some (qDV ρ q.2) else sGet (qDL ρ l) i) = (cond (Nat.beq q.1 i) (some q.2) (qGet l i)).map (qDV ρ)
    cases h : Nat.beq q.1 i with
    | true => rw [if_pos (Nat.eq_of_beq_eq_true h)]; rfl
    | false => rw [if_neg (Nat.ne_of_beq_eq_false h), ql_get ρ i l]; rfl
theorem ql_put1 (ρ : Nat → Int) (lv : qLv) (i : Nat) (v : qV) : sPut1 (qDL ρ lv) i (qDV ρ v) = qDL ρ (qPut1 lv i v) := by
  unfold sPut1 qPut1 qDL
  rw [List.map_cons, List.filter_map]
  rfl
theorem ql_put2 (ρ : Nat → Int) (lv : qLv) (i : Nat) (v : qV) : sPut2 (qDL ρ lv) i (qDV ρ v) = qDL ρ (qPut2 lv i v) := by
  unfold sPut2 qPut2 qDL
  rw [List.map_cons, List.filter_map]
  rfl
theorem ql_get' {ρ : Nat → Int} {lv : qLv} {i : Nat} {v : qV} (h : qGet lv i = some v) : sGet (qDL ρ lv) i = some (qDV ρ v) := by rw [ql_get, h]; rfl
def qScV (n : Nat) (v : qV) : Bool := qSc n v.2
/-! the greatest name, worked out once for each tail -/
def zMax (a b : Nat) : Nat := cond (Nat.ble a b) b a
theorem zmax_le {a b n : Nat} (h : zMax a b ≤ n) : a ≤ n ∧ b ≤ n := by
  unfold zMax at h
  cases hb : Nat.ble a b with
  | true =>
    rw [hb, cond_true] at h
    have := Nat.le_of_ble_eq_true hb
    omega
  | false =>
    rw [hb, cond_false] at h
    have : ¬ a ≤ b := fun h2 => by rw [Nat.ble_eq_true_of_le h2] at hb; cases hb
    omega
noncomputable def qMxF (f : qF) : Nat := List.rec (motive := fun _ => Nat) 0 (fun q _ m => zMax (Nat.succ q.2) m) f
theorem qmxf_ok {n : Nat} : ∀ {f : qF}, qMxF f ≤ n → qSc n f = true
  | [], _ => rfl
  | q :: f, h => by
    have h1 : zMax (Nat.succ q.2) (qMxF f) ≤ n := h
    have h2 := zmax_le h1
    unfold qSc
    rw [List.all_cons, Bool.and_eq_true]
    exact ⟨Nat.ble_eq_true_of_le h2.1, qmxf_ok h2.2⟩
noncomputable def qMx (l : List qF) : Nat := List.rec (motive := fun _ => Nat) 0 (fun f _ m => zMax (qMxF f) m) l
theorem qmx_ok {n : Nat} : ∀ {l : List qF}, qMx l ≤ n → ∀ f ∈ l, qSc n f = true
  | [], _, _, hf => nomatch hf
  | g :: l, h, f, hf => by
    have h1 : zMax (qMxF g) (qMx l) ≤ n := h
    have h2 := zmax_le h1
    rcases List.mem_cons.mp hf with rfl | hf
    · exact qmxf_ok h2.1
    · exact qmx_ok h2.2 f hf
noncomputable def qMxM (l : qMm) : Nat := List.rec (motive := fun _ => Nat) 0 (fun q _ m => zMax (zMax (qMxF q.2.2) (cond (Nat.blt q.2.1 1000) 0 (Nat.succ (q.2.1 - 1000)))) m) l
theorem qmxm_ok {n : Nat} : ∀ {l : qMm}, qMxM l ≤ n → ∀ q ∈ l, (qSk n q.2.1 && qSc n q.2.2) = true
  | [], _, _, hf => nomatch hf
  | p :: l, h, q, hf => by
    have h1 : zMax (zMax (qMxF p.2.2) (cond (Nat.blt p.2.1 1000) 0 (Nat.succ (p.2.1 - 1000)))) (qMxM l) ≤ n := h
    have h2 := zmax_le h1
    have h3 := zmax_le h2.1
    rcases List.mem_cons.mp hf with rfl | hf
    · rw [qmxf_ok h3.1, Bool.and_true]
      have h4 := h3.2
      unfold qSk
      cases hb : Nat.blt q.2.1 1000 with
      | true => rfl
      | false =>
        rw [hb, cond_false] at h4
        exact Nat.ble_eq_true_of_le h4
    · exact qmxm_ok h2.2 q hf
/-- new facts lie on top, the last one first -/
def qPp (fs nf : List qF) : List qF := nf.reverseAux fs
theorem qpp_mem {f : qF} {fs nf : List qF} (h : f ∈ qPp fs nf) : f ∈ fs ∨ f ∈ nf := by
  unfold qPp at h
  rw [List.reverseAux_eq] at h
  rcases List.mem_append.mp h with h | h
  · exact Or.inr (List.mem_reverse.mp h)
  · exact Or.inl h
noncomputable def qScA (g n : Nat) (lv : qLv) (st : List qV) (fs : List qF) (mm : qMm) : Bool := Nat.ble g n && (lv.all (fun q => qSc n q.2.2) && (st.all (fun v => qSc n v.2) && (Nat.ble (qMx fs) n && Nat.ble (qMxM mm) n)))
theorem qdl_sc {ρ ρ' : Nat → Int} {n : Nat} (hr : ∀ a, a < n → ρ' a = ρ a) {lv : qLv} (h : lv.all (fun q => qSc n q.2.2) = true) : qDL ρ' lv = qDL ρ lv := by
  unfold qDL
  refine List.map_congr_left fun q hq => ?_
  have := List.all_eq_true.mp h q hq
  unfold qDV
  rw [qd_sc hr this]
theorem qds_sc {ρ ρ' : Nat → Int} {n : Nat} (hr : ∀ a, a < n → ρ' a = ρ a) {st : List qV} (h : st.all (fun v => qSc n v.2) = true) : qDS ρ' st = qDS ρ st := by
  unfold qDS
  refine List.map_congr_left fun q hq => ?_
  have := List.all_eq_true.mp h q hq
  unfold qDV
  rw [qd_sc hr this]
