/-! THE CONTRACTS, USED: what always holds between two calls, and a call from it. -/
def uKs (r : Int) : List (Nat × Nat × Int) := [(0, 5, r), (0, 6, 30 - r), (58, 4, r), (91, 991, 1), (91, 992, 50), (91, 975, 1), (91, 995, 1), (91, 974, 1), (4, 100, 0), (4, 200, 0), (4, 210, 0), (4, 212, 0), (4, 214, 0), (4, 220, 0), (4, 226, 0), (4, 230, 0), (4, 233, 0), (4, 235, 0), (91, 249, 0), (91, 259, 0)]
def uSt (r : Int) (M : sM) : Prop := sI M ∧ ∀ q ∈ uKs r, M q.1 q.2.1 = q.2.2
/-- what is known of arguments (true: 0 or 1), named from 1 on -/
def uAf : Nat → List Bool → List qF
  | _, [] => []
  | i, b :: bs => cond b [[(1, i)], [(1, 0), (-1, i)]] [[(2147483648, 0), (1, i)], [(2147483647, 0), (-1, i)]] ++ uAf (i + 1) bs
def uMf (q : Nat × Nat × qF) : List qF := match q.2.2, sRg q.1 q.2.1 with
  | [(1, a)], some r => [qAdd (qCn (-r.1)) [(1, a)], qAdd (qCn r.2) [(-1, a)]]
  | _, _ => []
def uRho (as : List Int) (M : sM) (pm : qMm) (a : Nat) : Int := cond (Nat.beq a 0) 1 (cond (Nat.ble a as.length) (as.getD (a - 1) 0) (match pm.find? (fun q => q.2.2 == [(1, a)]) with
  | some q => M q.1 q.2.1
  | none => 0))
def uChk (r : Int) (o : Nat) (bs : List Bool) (c : qCt) : Bool :=
  (cA c == (2, qCn (o : Int)) :: (List.range bs.length).map (fun i => ((0, [(1, i + 1)]) : qV))) && ((cM c).all (fun q => match qKo q.2.2 with
    | some v => (uKs r).any (fun k => k == (q.1, q.2.1, v))
    | none => (match q.2.2 with
      | [(1, a)] => Nat.blt bs.length a && ((cM c).find? (fun p => p.2.2 == [(1, a)]) == some q)
      | _ => false)) && ((cP c).all (fun f => (uAf 1 bs).any (fun g => g == f) || (cM c).any (fun q => (uMf q).any (fun g => g == f))) && ((cE c == []) && (Nat.ble (cD c) 299 && Nat.blt 0 (cG c)))))
def uArgOk : List Bool → List Int → Prop
  | [], [] => True
  | b :: bs, x :: xs => (inR x ∧ (b = true → 0 ≤ x ∧ x ≤ 1)) ∧ uArgOk bs xs
  | _, _ => False
theorem uarg_len : ∀ {bs : List Bool} {as : List Int}, uArgOk bs as → as.length = bs.length
  | [], [], _ => rfl
  | _ :: _, _ :: _, h => by
    show _ + 1 = _ + 1
    rw [uarg_len h.2]
  | [], _ :: _, h => h.elim
  | _ :: _, [], h => h.elim
theorem uaf_ok {ρ : Nat → Int} (h0 : ρ 0 = 1) : ∀ {bs : List Bool} {as : List Int} (i : Nat), uArgOk bs as → (∀ j, j < as.length → ρ (i + j) = as.getD j 0) → ∀ f ∈ uAf i bs, 0 ≤ qD ρ f
  | [], [], _, _, _, f, hf => nomatch hf
  | b :: bs, x :: xs, i, h, hr, f, hf => by
    have hx : ρ i = x := hr 0 (Nat.succ_pos _)
    rcases List.mem_append.mp hf with hf | hf
    · cases b with
      | true =>
        have h1 := h.1.2 rfl
        rcases List.mem_cons.mp hf with rfl | hf
        · show 0 ≤ 1 * ρ i + 0
          omega
        · rcases List.mem_cons.mp hf with rfl | hf
          · show 0 ≤ 1 * ρ 0 + (-1 * ρ i + 0)
            omega
          · cases hf
      | false =>
        have h1 := h.1.1.1
        have h2 := h.1.1.2
        rcases List.mem_cons.mp hf with rfl | hf
        · show 0 ≤ 2147483648 * ρ 0 + (1 * ρ i + 0)
          omega
        · rcases List.mem_cons.mp hf with rfl | hf
          · show 0 ≤ 2147483647 * ρ 0 + (-1 * ρ i + 0)
            omega
          · cases hf
    · refine uaf_ok h0 (i + 1) h.2 (fun j hj => ?_) f hf
      have := hr (j + 1) (Nat.succ_lt_succ hj)
      rw [show i + 1 + j = i + (j + 1) by omega]
      exact this
  | [], _ :: _, _, h, _, _, _ => h.elim
  | _ :: _, [], _, h, _, _, _ => h.elim
theorem umf_ok {ρ : Nat → Int} (h0 : ρ 0 = 1) {M : sM} (hI : sI M) {q : Nat × Nat × qF} (hq : M q.1 q.2.1 = qD ρ q.2.2) : ∀ f ∈ uMf q, 0 ≤ qD ρ f := by
  intro f hf
  unfold uMf at hf
  split at hf
  · rename_i a r ha hr
    have h1 := hI.1 q.1 q.2.1 r hr
    rw [hq, ha, qd_at] at h1
    rcases List.mem_cons.mp hf with rfl | hf
    · rw [qd_add, qd_cn h0, qd_at]
      omega
    · rcases List.mem_cons.mp hf with rfl | hf
      · rw [qd_add, qd_cn h0, qd_at]
        omega
      · cases hf
  · cases hf
theorem urho_0 (as : List Int) (M : sM) (pm : qMm) : uRho as M pm 0 = 1 := rfl
theorem urho_a {as : List Int} {M : sM} {pm : qMm} {j : Nat} (hj : j < as.length) : uRho as M pm (1 + j) = as.getD j 0 := by
  unfold uRho
  have e1 : Nat.beq (1 + j) 0 = false := by rw [Nat.add_comm]; rfl
  rw [e1, cond_false, show Nat.ble (1 + j) as.length = true from Nat.ble_eq_true_of_le (by omega), cond_true, show 1 + j - 1 = j by omega]
/-- a call by a contract -/
theorem u_run {c : qCt} (hc : qCok c) {r : Int} {o : Nat} {bs : List Bool} (h : uChk r o bs c = true) {M : sM} (hM : uSt r M) {as : List Int} (ha : uArgOk bs as) (J : pHp) {N : Nat} (hN : 299 ≤ N) : ∃ (rv : Option sV) (M' : sM), pEx N (cK c) (.ref o :: as.map (fun x => Value.int (Int32.ofInt x))) (sHp sLay M ++ J) (rv.map sE) (sHp sLay M' ++ J) ∧ qPost c (uRho as M (cM c)) M rv M' ∧ ∀ q ∈ cM c, M q.1 q.2.1 = qD (uRho as M (cM c)) q.2.2 := by
  unfold uChk at h
  rw [Bool.and_eq_true, Bool.and_eq_true, Bool.and_eq_true, Bool.and_eq_true, Bool.and_eq_true] at h
  obtain ⟨h1, h2, h3, h4, h5, h6⟩ := h
  have hl := uarg_len ha
  obtain ⟨ρ, hρ⟩ : ∃ ρ, ρ = uRho as M (cM c) := ⟨_, rfl⟩
  have h0 : ρ 0 = 1 := by rw [hρ]; exact urho_0 _ _ _
  have hm : ∀ q ∈ cM c, M q.1 q.2.1 = qD ρ q.2.2 := by
    intro q hq
    have h7 := List.all_eq_true.mp h2 q hq
    split at h7
    · rename_i v hv
      obtain ⟨k, hk, he⟩ := List.any_eq_true.mp h7
      have he := eq_of_beq he
      rw [qd_ko h0 hv]
      have h8 := hM.2 k hk
      rw [he] at h8
      exact h8
    · split at h7
      · rename_i a ha2
        rw [Bool.and_eq_true] at h7
        have hb := zblt h7.1
        have hf := eq_of_beq h7.2
        rw [ha2, qd_at, hρ]
        unfold uRho
        have e1 : Nat.beq a 0 = false := by
          cases e : Nat.beq a 0 with
          | false => rfl
          | true => have := Nat.eq_of_beq_eq_true e; omega
        have e2 : Nat.ble a as.length = false := by
          cases e : Nat.ble a as.length with
          | false => rfl
          | true => have := Nat.le_of_ble_eq_true e; omega
        rw [e1, e2, cond_false, cond_false, hf]
        show _ = 1 * M q.1 q.2.1
        omega
      · cases h7
  have hp : ∀ f ∈ cP c, 0 ≤ qD ρ f := by
    intro f hf
    have h7 := List.all_eq_true.mp h3 f hf
    rw [Bool.or_eq_true] at h7
    rcases h7 with h7 | h7
    · obtain ⟨g, hg, he⟩ := List.any_eq_true.mp h7
      rw [← eq_of_beq he]
      exact uaf_ok h0 1 ha (fun j hj => by rw [hρ]; exact urho_a hj) g hg
    · obtain ⟨q, hq, he⟩ := List.any_eq_true.mp h7
      obtain ⟨g, hg, he⟩ := List.any_eq_true.mp he
      rw [← eq_of_beq he]
      exact umf_ok h0 hM.1 (hm q hq) g hg
  obtain ⟨rv, M', e1, e2⟩ := hc N J ρ M h0 hp hm hM.1 (by
    rw [eq_of_beq h4]
    have := Nat.le_of_ble_eq_true h5
    show (cD c : Int) + 0 ≤ _
    omega)
  refine ⟨rv, M', ?_, by rw [hρ] at e2; exact e2, by rw [hρ] at hm; exact hm⟩
  have e3 : (qDS ρ (cA c)).map sE = .ref o :: as.map (fun x => Value.int (Int32.ofInt x)) := by
    rw [eq_of_beq h1]
    show sE (2, qD ρ (qCn (o : Int))) :: ((((List.range bs.length).map (fun i => ((0, [(1, i + 1)]) : qV))).map (qDV ρ)).map sE) = _
    rw [qd_cn h0]
    refine List.cons_eq_cons.mpr ⟨rfl, ?_⟩
    rw [List.map_map, List.map_map]
    refine List.ext_getElem? fun j => ?_
    rw [List.getElem?_map, List.getElem?_map]
    by_cases hj : j < as.length
    · rw [List.getElem?_range (by omega), List.getElem?_eq_getElem hj]
      show some (Value.int (Int32.ofInt (1 * ρ (j + 1) + 0))) = some (Value.int (Int32.ofInt as[j]))
      have h8 : ρ (1 + j) = as.getD j 0 := by rw [hρ]; exact urho_a hj
      rw [Nat.add_comm] at h8
      rw [h8, List.getD_eq_getElem?_getD, List.getElem?_eq_getElem hj]
      congr 2
      show Int32.ofInt (1 * as[j] + 0) = _
      congr 1
      omega
    · rw [List.getElem?_eq_none (by rw [List.length_range]; omega), List.getElem?_eq_none (by omega)]
      rfl
  rw [e3] at e1
  exact e1
def uKeep (r : Int) (c : qCt) : Bool := (uKs r).all (fun q => !(sIn (cS c) q.1 q.2.1) || (cT c).any (fun t => (t.1 == q.1 && (t.2.1 == q.2.1)) && (Nat.ble 100000 t.2.2 && ((t.2.2 : Int) == 100000 + q.2.2))))
theorem ukeep_ok {r : Int} {c : qCt} (h : uKeep r c = true) {ρ : Nat → Int} {M M' : sM} {rv : Option sV} (hM : uSt r M) (hp : qPost c ρ M rv M') : uSt r M' := by
  obtain ⟨ρ', -, -, -, h3, h4, h5⟩ := hp
  refine ⟨h4, fun q hq => ?_⟩
  have h6 := List.all_eq_true.mp h q hq
  rw [Bool.or_eq_true] at h6
  rcases h6 with h6 | h6
  · rw [Bool.not_eq_true'] at h6
    rw [h5 _ _ h6]
    exact hM.2 q hq
  · obtain ⟨t, ht, h7⟩ := List.any_eq_true.mp h6
    rw [Bool.and_eq_true, Bool.and_eq_true, Bool.and_eq_true] at h7
    obtain ⟨⟨a1, a2⟩, a3, a4⟩ := h7
    have h8 := h3 t ht
    rw [eq_of_beq a1, eq_of_beq a2] at h8
    rw [h8]
    have b1 := Nat.le_of_ble_eq_true a3
    have b2 : (t.2.2 : Int) = 100000 + q.2.2 := eq_of_beq a4
    unfold qTv
    have e : Nat.blt t.2.2 100000 = false := by
      cases e : Nat.blt t.2.2 100000 with
      | false => rfl
      | true => have := zblt e; omega
    rw [e, cond_false]
    omega
def uChkX (ks : List (Nat × Nat × Int)) (ex : List qF) (o : Nat) (bs : List Bool) (c : qCt) : Bool :=
  (cA c == (2, qCn (o : Int)) :: (List.range bs.length).map (fun i => ((0, [(1, i + 1)]) : qV))) && ((cM c).all (fun q => match qKo q.2.2 with
    | some v => ks.any (fun k => k == (q.1, q.2.1, v))
    | none => (match q.2.2 with
      | [(1, a)] => Nat.blt bs.length a && ((cM c).find? (fun p => p.2.2 == [(1, a)]) == some q)
      | _ => false)) && ((cP c).all (fun f => (uAf 1 bs).any (fun g => g == f) || ((cM c).any (fun q => (uMf q).any (fun g => g == f)) || ex.any (fun g => g == f))) && ((cE c == []) && (Nat.ble (cD c) 299 && Nat.blt 0 (cG c)))))
/-- a call by a contract, with more that is known -/
theorem u_runX {c : qCt} (hc : qCok c) {ks : List (Nat × Nat × Int)} {ex : List qF} {o : Nat} {bs : List Bool} (h : uChkX ks ex o bs c = true) {M : sM} (hI : sI M) (hk : ∀ q ∈ ks, M q.1 q.2.1 = q.2.2) {as : List Int} (ha : uArgOk bs as) (hx : (∀ q ∈ cM c, M q.1 q.2.1 = qD (uRho as M (cM c)) q.2.2) → ∀ f ∈ ex, 0 ≤ qD (uRho as M (cM c)) f) (J : pHp) {N : Nat} (hN : 299 ≤ N) : ∃ (rv : Option sV) (M' : sM), pEx N (cK c) (.ref o :: as.map (fun x => Value.int (Int32.ofInt x))) (sHp sLay M ++ J) (rv.map sE) (sHp sLay M' ++ J) ∧ qPost c (uRho as M (cM c)) M rv M' ∧ ∀ q ∈ cM c, M q.1 q.2.1 = qD (uRho as M (cM c)) q.2.2 := by
  unfold uChkX at h
  rw [Bool.and_eq_true, Bool.and_eq_true, Bool.and_eq_true, Bool.and_eq_true, Bool.and_eq_true] at h
  obtain ⟨h1, h2, h3, h4, h5, h6⟩ := h
  have hl := uarg_len ha
  obtain ⟨ρ, hρ⟩ : ∃ ρ, ρ = uRho as M (cM c) := ⟨_, rfl⟩
  have h0 : ρ 0 = 1 := by rw [hρ]; exact urho_0 _ _ _
  have hm : ∀ q ∈ cM c, M q.1 q.2.1 = qD ρ q.2.2 := by
    intro q hq
    have h7 := List.all_eq_true.mp h2 q hq
    split at h7
    · rename_i v hv
      obtain ⟨k, hkm, he⟩ := List.any_eq_true.mp h7
      have he := eq_of_beq he
      rw [qd_ko h0 hv]
      have h8 := hk k hkm
      rw [he] at h8
      exact h8
    · split at h7
      · rename_i a ha2
        rw [Bool.and_eq_true] at h7
        have hb := zblt h7.1
        have hf := eq_of_beq h7.2
        rw [ha2, qd_at, hρ]
        unfold uRho
        have e1 : Nat.beq a 0 = false := by
          cases e : Nat.beq a 0 with
          | false => rfl
          | true => have := Nat.eq_of_beq_eq_true e; omega
        have e2 : Nat.ble a as.length = false := by
          cases e : Nat.ble a as.length with
          | false => rfl
          | true => have := Nat.le_of_ble_eq_true e; omega
        rw [e1, e2, cond_false, cond_false, hf]
        show _ = 1 * M q.1 q.2.1
        omega
      · cases h7
  have hp : ∀ f ∈ cP c, 0 ≤ qD ρ f := by
    intro f hf
    have h7 := List.all_eq_true.mp h3 f hf
    rw [Bool.or_eq_true, Bool.or_eq_true] at h7
    rcases h7 with h7 | h7 | h7
    · obtain ⟨g, hg, he⟩ := List.any_eq_true.mp h7
      rw [← eq_of_beq he]
      exact uaf_ok h0 1 ha (fun j hj => by rw [hρ]; exact urho_a hj) g hg
    · obtain ⟨q, hq, he⟩ := List.any_eq_true.mp h7
      obtain ⟨g, hg, he⟩ := List.any_eq_true.mp he
      rw [← eq_of_beq he]
      exact umf_ok h0 hI (hm q hq) g hg
    · obtain ⟨g, hg, he⟩ := List.any_eq_true.mp h7
      rw [← eq_of_beq he, hρ]
      exact hx (by rw [hρ] at hm; exact hm) g hg
  obtain ⟨rv, M', e1, e2⟩ := hc N J ρ M h0 hp hm hI (by
    rw [eq_of_beq h4]
    have := Nat.le_of_ble_eq_true h5
    show (cD c : Int) + 0 ≤ _
    omega)
  refine ⟨rv, M', ?_, by rw [hρ] at e2; exact e2, by rw [hρ] at hm; exact hm⟩
  have e3 : (qDS ρ (cA c)).map sE = .ref o :: as.map (fun x => Value.int (Int32.ofInt x)) := by
    rw [eq_of_beq h1]
    show sE (2, qD ρ (qCn (o : Int))) :: ((((List.range bs.length).map (fun i => ((0, [(1, i + 1)]) : qV))).map (qDV ρ)).map sE) = _
    rw [qd_cn h0]
    refine List.cons_eq_cons.mpr ⟨rfl, ?_⟩
    rw [List.map_map, List.map_map]
    refine List.ext_getElem? fun j => ?_
    rw [List.getElem?_map, List.getElem?_map]
    by_cases hj : j < as.length
    · rw [List.getElem?_range (by omega), List.getElem?_eq_getElem hj]
      show some (Value.int (Int32.ofInt (1 * ρ (j + 1) + 0))) = some (Value.int (Int32.ofInt as[j]))
      have h8 : ρ (1 + j) = as.getD j 0 := by rw [hρ]; exact urho_a hj
      rw [Nat.add_comm] at h8
      rw [h8, List.getD_eq_getElem?_getD, List.getElem?_eq_getElem hj]
      congr 2
      show Int32.ofInt (1 * as[j] + 0) = _
      congr 1
      omega
    · rw [List.getElem?_eq_none (by rw [List.length_range]; omega), List.getElem?_eq_none (by omega)]
      rfl
  rw [e3] at e1
  exact e1
def uKeepX (ks ks' : List (Nat × Nat × Int)) (c : qCt) : Bool := ks'.all (fun q => (!(sIn (cS c) q.1 q.2.1) && ks.any (fun p => p == q)) || (cT c).any (fun t => (t.1 == q.1 && (t.2.1 == q.2.1)) && (Nat.ble 100000 t.2.2 && ((t.2.2 : Int) == 100000 + q.2.2))))
theorem ukeepX_ok {ks ks' : List (Nat × Nat × Int)} {c : qCt} (h : uKeepX ks ks' c = true) {ρ : Nat → Int} {M M' : sM} {rv : Option sV} (hk : ∀ q ∈ ks, M q.1 q.2.1 = q.2.2) (hp : qPost c ρ M rv M') : ∀ q ∈ ks', M' q.1 q.2.1 = q.2.2 := by
  obtain ⟨ρ', -, -, -, h3, h4, h5⟩ := hp
  intro q hq
  have h6 := List.all_eq_true.mp h q hq
  rw [Bool.or_eq_true] at h6
  rcases h6 with h6 | h6
  · rw [Bool.and_eq_true, Bool.not_eq_true'] at h6
    obtain ⟨p, hp', he⟩ := List.any_eq_true.mp h6.2
    rw [h5 _ _ h6.1, ← eq_of_beq he]
    exact hk p hp'
  · obtain ⟨t, ht, h7⟩ := List.any_eq_true.mp h6
    rw [Bool.and_eq_true, Bool.and_eq_true, Bool.and_eq_true] at h7
    obtain ⟨⟨a1, a2⟩, a3, a4⟩ := h7
    have h8 := h3 t ht
    rw [eq_of_beq a1, eq_of_beq a2] at h8
    rw [h8]
    have b1 := Nat.le_of_ble_eq_true a3
    have b2 : (t.2.2 : Int) = 100000 + q.2.2 := eq_of_beq a4
    unfold qTv
    have e : Nat.blt t.2.2 100000 = false := by
      cases e : Nat.blt t.2.2 100000 with
      | false => rfl
      | true => have := zblt e; omega
    rw [e, cond_false]
    omega
/-- places that lie alike on both sides between two calls -/
def uEq (r : Int) : List (Nat × Nat × Nat × Nat) := [(0, 1, 91, 2), (4, 261, 0, 1), (0, 2, 91, 33), (0, 3, 91, 34), (r.toNat, 8, 93, 0), (r.toNat, 9, 93, 1), (r.toNat, 10, 93, 2), (77, 6, 91, 61)]
def uTie (r : Int) (M : sM) : Prop := ∀ q ∈ uEq r, M q.1 q.2.1 = M q.2.2.1 q.2.2.2
/-- calls that leave them as they are -/
def uPl (r : Int) (o : Nat) (bs : List Bool) (c : qCt) : Bool := uChk r o bs c && (uKeep r c && (uEq r).all (fun q => !(sIn (cS c) q.1 q.2.1) && !(sIn (cS c) q.2.2.1 q.2.2.2)))
theorem u_plain {c : qCt} (hc : qCok c) {r : Int} {o : Nat} {bs : List Bool} (h : uPl r o bs c = true) {M : sM} (hM : uSt r M) (hT : uTie r M) {as : List Int} (ha : uArgOk bs as) (J : pHp) : ∃ (z : Int) (M' : sM), pEx 300 (cK c) (.ref o :: as.map (fun x => Value.int (Int32.ofInt x))) (sHp sLay M ++ J) ((qRv (cR c) z).map sE) (sHp sLay M' ++ J) ∧ uSt r M' ∧ uTie r M' := by
  unfold uPl at h
  rw [Bool.and_eq_true, Bool.and_eq_true] at h
  obtain ⟨rv, M', e1, e2, -⟩ := u_run hc h.1 hM ha J (N := 300) (by decide)
  have e3 := ukeep_ok h.2.1 hM e2
  obtain ⟨ρ', -, b2, -, -, -, b5⟩ := e2
  rw [b2] at e1
  refine ⟨_, M', e1, e3, fun q hq => ?_⟩
  have h1 := List.all_eq_true.mp h.2.2 q hq
  rw [Bool.and_eq_true, Bool.not_eq_true', Bool.not_eq_true'] at h1
  rw [b5 _ _ h1.1, b5 _ _ h1.2]
  exact hT q hq
/-- between two calls -/
def uG (M : sM) : Prop := ∃ r : Int, (r = 2 ∨ r = 28) ∧ uSt r M ∧ uTie r M
theorem uarg_i (x : Int32) : inR x.toInt := ⟨Int32.le_toInt _, Int.le_of_lt_add_one (Int32.toInt_lt _)⟩
/-- a call that leaves them as they are, on both objects -/
def uTw (bs : List Bool) (c2 c28 d : qCt) : Bool := uPl 2 0 bs c2 && (uPl 28 0 bs c28 && (uPl 2 91 bs d && (uPl 28 91 bs d && (Nat.beq (cK c28) (cK c2) && Nat.beq (cR c28) (cR c2)))))
theorem u_two {c2 c28 d : qCt} (h2 : qCok c2) (h28 : qCok c28) (hd : qCok d) {bs : List Bool} (k : uTw bs c2 c28 d = true) {M : sM} (hM : uG M) {as : List Int} (ha : uArgOk bs as) (J : pHp) : ∃ (z1 : Int) (M1 : sM) (z2 : Int) (M2 : sM), pEx 300 (cK c2) (.ref 0 :: as.map (fun x => Value.int (Int32.ofInt x))) (sHp sLay M ++ J) ((qRv (cR c2) z1).map sE) (sHp sLay M1 ++ J) ∧ pEx 300 (cK d) (.ref 91 :: as.map (fun x => Value.int (Int32.ofInt x))) (sHp sLay M1 ++ J) ((qRv (cR d) z2).map sE) (sHp sLay M2 ++ J) ∧ uG M2 := by
  unfold uTw at k
  rw [Bool.and_eq_true, Bool.and_eq_true, Bool.and_eq_true, Bool.and_eq_true, Bool.and_eq_true] at k
  obtain ⟨k1, k2, k3, k4, k5, k6⟩ := k
  obtain ⟨r, hr, hs, hT⟩ := hM
  rcases hr with rfl | rfl
  · obtain ⟨z1, M1, a1, a2, a3⟩ := u_plain h2 k1 hs hT ha J
    obtain ⟨z2, M2, b1, b2, b3⟩ := u_plain hd k3 a2 a3 ha J
    exact ⟨z1, M1, z2, M2, a1, b1, 2, Or.inl rfl, b2, b3⟩
  · obtain ⟨z1, M1, a1, a2, a3⟩ := u_plain h28 k2 hs hT ha J
    obtain ⟨z2, M2, b1, b2, b3⟩ := u_plain hd k4 a2 a3 ha J
    rw [Nat.eq_of_beq_eq_true k5, Nat.eq_of_beq_eq_true k6] at a1
    exact ⟨z1, M1, z2, M2, a1, b1, 28, Or.inr rfl, b2, b3⟩
