/-! FORMS: a number as a sum of multiples of unknown ones; unknown 0 is always 1. Facts are forms that are not below 0; a fact is shown by a sum of multiples of others. -/
abbrev qF : Type := List (Int × Nat)
def qD (ρ : Nat → Int) : qF → Int
  | [] => 0
  | q :: f => q.1 * ρ q.2 + qD ρ f
def qIns (c : Int) (a : Nat) : qF → qF
  | [] => cond (c == 0) [] [(c, a)]
  | q :: f => cond (Nat.beq q.2 a) (cond (c + q.1 == 0) f ((c + q.1, a) :: f)) (cond (Nat.blt a q.2) (cond (c == 0) (q :: f) ((c, a) :: q :: f)) (q :: qIns c a f))
def qAdd (f g : qF) : qF := f.foldr (fun q r => qIns q.1 q.2 r) g
def qScl (c : Int) (f : qF) : qF := f.map (fun q => (c * q.1, q.2))
def qSub (f g : qF) : qF := qAdd (qScl (-1) g) f
def qCn (c : Int) : qF := cond (c == 0) [] [(c, 0)]
def qKo : qF → Option Int
  | [] => some 0
  | [q] => cond (Nat.beq q.2 0) (some q.1) none
  | _ => none
theorem qd_ins (ρ : Nat → Int) (c : Int) (a : Nat) : ∀ f : qF, qD ρ (qIns c a f) = c * ρ a + qD ρ f
  | [] => by
    unfold qIns
    cases h : (c == 0) with
    | true =>
      have : c = 0 := by simpa using h
      subst this
      show (0 : Int) = 0 * ρ a + 0
      omega
    | false => rfl
  | q :: f => by
    unfold qIns
    cases h : Nat.beq q.2 a with
    | true =>
      have h1 : q.2 = a := Nat.eq_of_beq_eq_true h
      subst h1
      cases h2 : (c + q.1 == 0) with
      | true =>
        have h3 : c + q.1 = 0 := by simpa using h2
        show qD ρ f = c * ρ q.2 + (q.1 * ρ q.2 + qD ρ f)
        rw [← Int.add_assoc, ← Int.add_mul, h3]
        omega
      | false =>
        show (c + q.1) * ρ q.2 + qD ρ f = c * ρ q.2 + (q.1 * ρ q.2 + qD ρ f)
        rw [Int.add_mul]
        omega
    | false =>
      cases h1 : Nat.blt a q.2 with
      | true =>
        cases h2 : (c == 0) with
        | true =>
          have : c = 0 := by simpa using h2
          subst this
          show q.1 * ρ q.2 + qD ρ f = 0 * ρ a + (q.1 * ρ q.2 + qD ρ f)
          omega
        | false => rfl
      | false =>
        show q.1 * ρ q.2 + qD ρ (qIns c a f) = c * ρ a + (q.1 * ρ q.2 + qD ρ f)
        rw [qd_ins ρ c a f]
        omega
theorem qd_add (ρ : Nat → Int) (g : qF) : ∀ f : qF, qD ρ (qAdd f g) = qD ρ f + qD ρ g
  | [] => by show qD ρ g = 0 + qD ρ g; omega
  | q :: f => by
    show qD ρ (qIns q.1 q.2 (qAdd f g)) = q.1 * ρ q.2 + qD ρ f + qD ρ g
    rw [qd_ins, qd_add ρ g f]
    omega
theorem qd_scl (ρ : Nat → Int) (c : Int) : ∀ f : qF, qD ρ (qScl c f) = c * qD ρ f
  | [] => by show (0 : Int) = c * 0; omega
  | q :: f => by
    show c * q.1 * ρ q.2 + qD ρ (qScl c f) = c * (q.1 * ρ q.2 + qD ρ f)
    rw [qd_scl ρ c f, Int.mul_add, Int.mul_assoc]
theorem qd_sub (ρ : Nat → Int) (f g : qF) : qD ρ (qSub f g) = qD ρ f - qD ρ g := by
  unfold qSub
  rw [qd_add, qd_scl]
  omega
theorem qd_cn {ρ : Nat → Int} (h0 : ρ 0 = 1) (c : Int) : qD ρ (qCn c) = c := by
  unfold qCn
  cases h : (c == 0) with
  | true =>
    have : c = 0 := by simpa using h
    subst this
    rfl
  | false =>
    show c * ρ 0 + 0 = c
    rw [h0]
    omega
theorem qd_ko {ρ : Nat → Int} (h0 : ρ 0 = 1) {f : qF} {c : Int} (h : qKo f = some c) : qD ρ f = c := by
  match f, h with
  | [], h => cases h; rfl
  | [q], h =>
    have h : cond (Nat.beq q.2 0) (some q.1) none = some c := h
    cases h1 : Nat.beq q.2 0 with
    | true =>
      rw [h1] at h
      have h2 : q.2 = 0 := Nat.eq_of_beq_eq_true h1
      cases h
      show q.1 * ρ q.2 + 0 = q.1
      rw [h2, h0]
      omega
    | false => rw [h1] at h; cases h
def zNg : Int → Bool
  | .ofNat _ => false
  | .negSucc _ => true
theorem zng_f : ∀ {c : Int}, zNg c = false → 0 ≤ c
  | .ofNat n, _ => Int.natCast_nonneg n
  | .negSucc _, h => nomatch h
def qCmb (fs : List qF) : qF → Option qF
  | [] => some []
  | q :: c => match fs[q.2]?, qCmb fs c with
    | some f, some r => cond (zNg q.1) none (some (qAdd (qScl q.1 f) r))
    | _, _ => none
def qEnt (fs : List qF) (goal c : qF) : Bool := match qCmb fs c with
  | some s => match qKo (qSub goal s) with
    | some k => !(zNg k)
    | none => false
  | none => false
theorem qd_cmb {ρ : Nat → Int} {fs : List qF} (hf : ∀ f ∈ fs, 0 ≤ qD ρ f) : ∀ {c s : qF}, qCmb fs c = some s → 0 ≤ qD ρ s
  | [], s, h => by cases h; exact Int.le_refl 0
  | q :: c, s, h => by
    unfold qCmb at h
    split at h
    · rename_i f r h1 h2
      cases h3 : zNg q.1 with
      | true => rw [h3] at h; cases h
      | false =>
        rw [h3] at h
        cases h
        rw [qd_add, qd_scl]
        have h4 : 0 ≤ q.1 := zng_f h3
        have h5 := hf f (List.mem_of_getElem? h1)
        have h6 := qd_cmb hf h2
        have h7 := Int.mul_nonneg h4 h5
        omega
    · cases h
theorem qd_ent {ρ : Nat → Int} (h0 : ρ 0 = 1) {fs : List qF} (hf : ∀ f ∈ fs, 0 ≤ qD ρ f) {goal c : qF} (h : qEnt fs goal c = true) : 0 ≤ qD ρ goal := by
  unfold qEnt at h
  split at h
  · rename_i s hs
    split at h
    · rename_i k hk
      have h1 := qd_ko h0 hk
      rw [qd_sub] at h1
      have h2 := qd_cmb hf hs
      have h3 : 0 ≤ k := zng_f (by simpa using h)
      omega
    · cases h
  · cases h
def qSc (n : Nat) (f : qF) : Bool := f.all (fun q => Nat.blt q.2 n)
theorem qd_sc {ρ ρ' : Nat → Int} {n : Nat} (hr : ∀ a, a < n → ρ' a = ρ a) : ∀ {f : qF}, qSc n f = true → qD ρ' f = qD ρ f
  | [], _ => rfl
  | q :: f, h => by
    unfold qSc at h
    rw [List.all_cons, Bool.and_eq_true] at h
    have h1 : q.2 < n := Nat.le_of_ble_eq_true h.1
    show q.1 * ρ' q.2 + qD ρ' f = q.1 * ρ q.2 + qD ρ f
    rw [hr _ h1, qd_sc hr (f := f) h.2]
def qSb (σ : Nat → qF) (f : qF) : qF := f.foldr (fun q r => qAdd (qScl q.1 (σ q.2)) r) []
theorem qd_sb (ρ : Nat → Int) (σ : Nat → qF) : ∀ f : qF, qD ρ (qSb σ f) = qD (fun a => qD ρ (σ a)) f
  | [] => rfl
  | q :: f => by
    show qD ρ (qAdd (qScl q.1 (σ q.2)) (qSb σ f)) = q.1 * qD ρ (σ q.2) + qD (fun a => qD ρ (σ a)) f
    rw [qd_add, qd_scl, qd_sb ρ σ f]
/-! STATES. -/
abbrev qV : Type := Nat × qF
abbrev qLv : Type := List (Nat × qV)
abbrev qMm : Type := List (Nat × Nat × qF)
/-- a place of a cell: its number, or from 1000 on the number that a name has -/
def zIx (ρ : Nat → Int) (k : Nat) : Nat := cond (Nat.blt k 1000) k (ρ (k - 1000)).toNat
def qSk (n k : Nat) : Bool := Nat.blt k 1000 || Nat.blt (k - 1000) n
theorem zix_lt {ρ : Nat → Int} {k : Nat} (h : k < 1000) : zIx ρ k = k := by
  unfold zIx
  rw [show Nat.blt k 1000 = true from Nat.ble_eq_true_of_le h]; rfl
theorem zix_b {ρ : Nat → Int} {k : Nat} (h : Nat.blt k 1000 = true) : zIx ρ k = k := by unfold zIx; rw [h]; rfl
theorem zix_sc {ρ ρ' : Nat → Int} {n : Nat} (hr : ∀ a, a < n → ρ' a = ρ a) {k : Nat} (h : qSk n k = true) : zIx ρ' k = zIx ρ k := by
  unfold zIx
  cases hk : Nat.blt k 1000 with
  | true => rfl
  | false =>
    unfold qSk at h
    rw [hk, Bool.false_or] at h
    show (ρ' (k - 1000)).toNat = (ρ (k - 1000)).toNat
    rw [hr _ (Nat.le_of_ble_eq_true h)]
def qDV (ρ : Nat → Int) (v : qV) : sV := (v.1, qD ρ v.2)
def qDL (ρ : Nat → Int) (lv : qLv) : sLv := lv.map (fun q => (q.1, qDV ρ q.2))
def qDS (ρ : Nat → Int) (st : List qV) : List sV := st.map (qDV ρ)
def qGet : qLv → Nat → Option qV
  | [], _ => none
  | q :: l, i => cond (Nat.beq q.1 i) (some q.2) (qGet l i)
def qPut1 (lv : qLv) (i : Nat) (v : qV) : qLv := (i, v) :: lv.filter (fun q => !(q.1 == i) && !(q.1 + 1 == i && q.2.1 == 1))
def qPut2 (lv : qLv) (i : Nat) (v : qV) : qLv := (i, v) :: lv.filter (fun q => !(q.1 == i) && (!(q.1 == i + 1) && !(q.1 + 1 == i && q.2.1 == 1)))
theorem ql_get (ρ : Nat → Int) (i : Nat) : ∀ lv : qLv, sGet (qDL ρ lv) i = (qGet lv i).map (qDV ρ)
  | [] => rfl
  | q :: l => by
    show (if q.1 = i then some (qDV ρ q.2) else sGet (qDL ρ l) i) = (cond (Nat.beq q.1 i) (some q.2) (qGet l i)).map (qDV ρ)
    cases h : Nat.beq q.1 i with
    | true => rw [if_pos (Nat.eq_of_beq_eq_true h)]; rfl
    | false => rw [if_neg (Nat.ne_of_beq_eq_false h), ql_get ρ i l]; rfl
theorem ql_put1 (ρ : Nat → Int) (lv : qLv) (i : Nat) (v : qV) : sPut1 (qDL ρ lv) i (qDV ρ v) = qDL ρ (qPut1 lv i v) := by
  unfold sPut1 qPut1 qDL
  rw [List.map_cons, List.filter_map]
  rfl
theorem ql_put2 (ρ : Nat → Int) (lv : qLv) (i : Nat) (v : qV) : sPut2 (qDL ρ lv) i (qDV ρ v) = qDL ρ (qPut2 lv i v) := by
  unfold sPut2 qPut2 qDL
  rw [List.map_cons, List.filter_map]
  rfl
theorem ql_get' {ρ : Nat → Int} {lv : qLv} {i : Nat} {v : qV} (h : qGet lv i = some v) : sGet (qDL ρ lv) i = some (qDV ρ v) := by rw [ql_get, h]; rfl
def qScV (n : Nat) (v : qV) : Bool := qSc n v.2
/-! the greatest name, worked out once for each tail -/
def zMax (a b : Nat) : Nat := cond (Nat.ble a b) b a
theorem zmax_le {a b n : Nat} (h : zMax a b ≤ n) : a ≤ n ∧ b ≤ n := by
  unfold zMax at h
  cases hb : Nat.ble a b with
  | true =>
    rw [hb, cond_true] at h
    have := Nat.le_of_ble_eq_true hb
    omega
  | false =>
    rw [hb, cond_false] at h
    have : ¬ a ≤ b := fun h2 => by rw [Nat.ble_eq_true_of_le h2] at hb; cases hb
    omega
noncomputable def qMxF (f : qF) : Nat := List.rec (motive := fun _ => Nat) 0 (fun q _ m => zMax (Nat.succ q.2) m) f
theorem qmxf_ok {n : Nat} : ∀ {f : qF}, qMxF f ≤ n → qSc n f = true
  | [], _ => rfl
  | q :: f, h => by
    have h1 : zMax (Nat.succ q.2) (qMxF f) ≤ n := h
    have h2 := zmax_le h1
    unfold qSc
    rw [List.all_cons, Bool.and_eq_true]
    exact ⟨Nat.ble_eq_true_of_le h2.1, qmxf_ok h2.2⟩
noncomputable def qMx (l : List qF) : Nat := List.rec (motive := fun _ => Nat) 0 (fun f _ m => zMax (qMxF f) m) l
theorem qmx_ok {n : Nat} : ∀ {l : List qF}, qMx l ≤ n → ∀ f ∈ l, qSc n f = true
  | [], _, _, hf => nomatch hf
  | g :: l, h, f, hf => by
    have h1 : zMax (qMxF g) (qMx l) ≤ n := h
    have h2 := zmax_le h1
    rcases List.mem_cons.mp hf with rfl | hf
    · exact qmxf_ok h2.1
    · exact qmx_ok h2.2 f hf
noncomputable def qMxM (l : qMm) : Nat := List.rec (motive := fun _ => Nat) 0 (fun q _ m => zMax (zMax (qMxF q.2.2) (cond (Nat.blt q.2.1 1000) 0 (Nat.succ (q.2.1 - 1000)))) m) l
theorem qmxm_ok {n : Nat} : ∀ {l : qMm}, qMxM l ≤ n → ∀ q ∈ l, (qSk n q.2.1 && qSc n q.2.2) = true
  | [], _, _, hf => nomatch hf
  | p :: l, h, q, hf => by
    have h1 : zMax (zMax (qMxF p.2.2) (cond (Nat.blt p.2.1 1000) 0 (Nat.succ (p.2.1 - 1000)))) (qMxM l) ≤ n := h
    have h2 := zmax_le h1
    have h3 := zmax_le h2.1
    rcases List.mem_cons.mp hf with rfl | hf
    · rw [qmxf_ok h3.1, Bool.and_true]
      have h4 := h3.2
      unfold qSk
      cases hb : Nat.blt q.2.1 1000 with
      | true => rfl
      | false =>
        rw [hb, cond_false] at h4
        exact Nat.ble_eq_true_of_le h4
    · exact qmxm_ok h2.2 q hf
/-- new facts lie on top, the last one first -/
def qPp (fs nf : List qF) : List qF := nf.reverseAux fs
theorem qpp_mem {f : qF} {fs nf : List qF} (h : f ∈ qPp fs nf) : f ∈ fs ∨ f ∈ nf := by
  unfold qPp at h
  rw [List.reverseAux_eq] at h
  rcases List.mem_append.mp h with h | h
  · exact Or.inr (List.mem_reverse.mp h)
  · exact Or.inl h
noncomputable def qScA (g n : Nat) (lv : qLv) (st : List qV) (fs : List qF) (mm : qMm) : Bool := Nat.ble g n && (lv.all (fun q => qSc n q.2.2) && (st.all (fun v => qSc n v.2) && (Nat.ble (qMx fs) n && Nat.ble (qMxM mm) n)))
theorem qdl_sc {ρ ρ' : Nat → Int} {n : Nat} (hr : ∀ a, a < n → ρ' a = ρ a) {lv : qLv} (h : lv.all (fun q => qSc n q.2.2) = true) : qDL ρ' lv = qDL ρ lv := by
  unfold qDL
  refine List.map_congr_left fun q hq => ?_
  have := List.all_eq_true.mp h q hq
  unfold qDV
  rw [qd_sc hr this]
theorem qds_sc {ρ ρ' : Nat → Int} {n : Nat} (hr : ∀ a, a < n → ρ' a = ρ a) {st : List qV} (h : st.all (fun v => qSc n v.2) = true) : qDS ρ' st = qDS ρ st := by
  unfold qDS
  refine List.map_congr_left fun q hq => ?_
  have := List.all_eq_true.mp h q hq
  unfold qDV
  rw [qd_sc hr this]
