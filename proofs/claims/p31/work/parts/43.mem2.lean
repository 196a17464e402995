/-! THE HEAP, AS FORMS: fields are written; arrays. -/
noncomputable def qFt (ci k t : Nat) (r : Option (Int × Int)) : Bool := !((pT ci k).2.2.2) && (Nat.blt k (pN ci) && (match pTy ci k with
  | .int => Nat.beq t 0
  | .boolean => Nat.beq t 0 && (match r with | some (0, 1) => true | _ => false)
  | .long => Nat.beq t 1
  | .object _ => Nat.beq t 2
  | _ => false))
theorem zn_and1 {v : Int} (h : 0 ≤ v ∧ v ≤ 1) : Int32.ofInt v &&& 1 = Int32.ofInt v := by
  rcases (by omega : v = 0 ∨ v = 1) with rfl | rfl <;> decide
theorem qft_ok {c ci k t : Nat} {ini : Bool} {r : Option (Int × Int)} {v : Int} (h : qFt ci k t r = true) (hv : ∀ q, r = some q → q.1 ≤ v ∧ v ≤ q.2) : pFit false c ini ci k (sE (t, v)) = true := by
  unfold qFt at h
  rw [Bool.and_eq_true, Bool.and_eq_true, Bool.not_eq_true'] at h
  obtain ⟨h1, h2, h3⟩ := h
  have hk : decide (k < pN ci) = true := decide_eq_true (zblt h2)
  have hZ : (pNoF (sE (t, v)) && fits (pTy ci k) (sE (t, v)) && decide (narrow (pTy ci k) (sE (t, v)) = sE (t, v))) = true := by
    split at h3
    · rename_i ht
      have e := Nat.eq_of_beq_eq_true h3
      subst e
      rw [ht]
      show (true && true && decide (Value.int (Int32.ofInt v) = Value.int (Int32.ofInt v))) = true
      rw [decide_eq_true rfl]; rfl
    · rename_i ht
      rw [Bool.and_eq_true] at h3
      have e := Nat.eq_of_beq_eq_true h3.1
      subst e
      rw [ht]
      have hr : r = some (0, 1) := by
        have := h3.2
        split at this
        · rfl
        · cases this
      have hb := hv _ hr
      have hb : 0 ≤ v ∧ v ≤ 1 := hb
      show (true && (Int32.ofInt v == 0 || Int32.ofInt v == 1) && decide (Value.int (Int32.ofInt v &&& 1) = Value.int (Int32.ofInt v))) = true
      rw [zn_and1 hb, decide_eq_true rfl]
      rcases (by omega : v = 0 ∨ v = 1) with rfl | rfl <;> decide
    · rename_i ht
      have e := Nat.eq_of_beq_eq_true h3
      subst e
      rw [ht]
      show (true && true && decide (Value.long (Int64.ofInt v) = Value.long (Int64.ofInt v))) = true
      rw [decide_eq_true rfl]; rfl
    · rename_i x ht
      have e := Nat.eq_of_beq_eq_true h3
      subst e
      rw [ht]
      show (true && true && decide (Value.ref v.toNat = Value.ref v.toNat)) = true
      rw [decide_eq_true rfl]; rfl
    · cases h3
  unfold pFit
  rw [hk, hZ, h1]
  simp
noncomputable def qRm (mm : qMm) (o k : Nat) : qMm := mm.filter (fun q => !(Nat.beq q.1 o && (Nat.beq q.2.1 k || !(Nat.blt q.2.1 1000))))
noncomputable def qRmF (mm : qMm) (b m : Nat) : qMm := mm.filter (fun q => !(Nat.ble b q.1 && Nat.blt q.1 (b + m)))
theorem qrm_ok {ρ : Nat → Int} {M : sM} {mm : qMm} {o k : Nat} {v : Int} (hm : ∀ q ∈ mm, M q.1 (zIx ρ q.2.1) = qD ρ q.2.2) : ∀ q ∈ qRm mm o k, sU M o k v q.1 (zIx ρ q.2.1) = qD ρ q.2.2 := by
  intro q hq
  obtain ⟨h1, h2⟩ := List.mem_filter.mp hq
  rw [sU_ne]
  · exact hm q h1
  · rintro ⟨rfl, hk⟩
    rw [Nat.beq_refl, Bool.true_and, Bool.not_eq_true', Bool.or_eq_false_iff, Bool.not_eq_false'] at h2
    rw [zix_b h2.2] at hk
    rw [hk, Nat.beq_refl] at h2
    cases h2.1
theorem qrmf_ok {ρ : Nat → Int} {M : sM} {mm : qMm} {b m o k : Nat} {v : Int} (h1 : b ≤ o) (h2 : o < b + m) (hm : ∀ q ∈ mm, M q.1 (zIx ρ q.2.1) = qD ρ q.2.2) : ∀ q ∈ qRmF mm b m, sU M o k v q.1 (zIx ρ q.2.1) = qD ρ q.2.2 := by
  intro q hq
  obtain ⟨h3, h4⟩ := List.mem_filter.mp hq
  rw [sU_ne]
  · exact hm q h3
  · rintro ⟨rfl, -⟩
    rw [Nat.ble_eq_true_of_le h1, show Nat.blt q.1 (b + m) = true from Nat.ble_eq_true_of_le h2] at h4
    cases h4
def sInF (S : sSt) (b m k : Nat) : Bool := S.any (fun p => Nat.ble p.1 b && (Nat.ble (b + m) (p.2.1 + 1) && (Nat.beq p.2.2 999 || Nat.beq p.2.2 k)))
theorem sinf_ok {S : sSt} {b m k o : Nat} (h : sInF S b m k = true) (h1 : b ≤ o) (h2 : o < b + m) : sIn S o k = true := by
  obtain ⟨p, hp, h3⟩ := List.any_eq_true.mp h
  rw [Bool.and_eq_true, Bool.and_eq_true] at h3
  refine List.any_eq_true.mpr ⟨p, hp, ?_⟩
  rw [Bool.and_eq_true, Bool.and_eq_true]
  have e1 := Nat.le_of_ble_eq_true h3.1
  have e2 := Nat.le_of_ble_eq_true h3.2.1
  exact ⟨Nat.ble_eq_true_of_le (by omega), Nat.ble_eq_true_of_le (by omega), h3.2.2⟩
def sInA (S : sSt) (o : Nat) : Bool := S.any (fun p => Nat.ble p.1 o && (Nat.ble o p.2.1 && Nat.beq p.2.2 999))
theorem sina_ok {S : sSt} {o : Nat} (h : sInA S o = true) (k : Nat) : sIn S o k = true := by
  obtain ⟨p, hp, h3⟩ := List.any_eq_true.mp h
  rw [Bool.and_eq_true, Bool.and_eq_true] at h3
  refine List.any_eq_true.mpr ⟨p, hp, ?_⟩
  rw [Bool.and_eq_true, Bool.and_eq_true, h3.2.2]
  exact ⟨h3.1, h3.2.1, rfl⟩
/-- the place of an array that is written: a known one, or all -/
def sInX (S : sSt) (o : Nat) (x : qF) : Bool := match qKo x with
  | some c => sIn S o c.toNat
  | none => sInA S o
theorem sinx_ok {S : sSt} {o : Nat} {x : qF} {ρ : Nat → Int} (h0 : ρ 0 = 1) (h : sInX S o x = true) : sIn S o (qD ρ x).toNat = true := by
  unfold sInX at h
  split at h
  · rename_i c hc
    rw [qd_ko h0 hc]
    exact h
  · exact sina_ok h _
noncomputable def zTg (t t' : Nat) : Bool := (Nat.beq t 0 && Nat.beq t' 0) || ((Nat.beq t 1 && Nat.beq t' 1) || (Nat.beq t 2 && Nat.beq t' 3))
theorem ztg_ok {t : Nat} {p : Nat × Nat} (h : zTg t p.1 = true) (v : Int) : sC p v = (t, v) := by
  obtain ⟨t', u⟩ := p
  unfold zTg at h
  rw [Bool.or_eq_true, Bool.or_eq_true, Bool.and_eq_true, Bool.and_eq_true, Bool.and_eq_true] at h
  rcases h with h | h | h
  · have e1 := Nat.eq_of_beq_eq_true h.1
    have e2 : t' = 0 := Nat.eq_of_beq_eq_true h.2
    subst e1; subst e2; rfl
  · have e1 := Nat.eq_of_beq_eq_true h.1
    have e2 : t' = 1 := Nat.eq_of_beq_eq_true h.2
    subst e1; subst e2; rfl
  · have e1 := Nat.eq_of_beq_eq_true h.1
    have e2 : t' = 3 := Nat.eq_of_beq_eq_true h.2
    subst e1; subst e2; rfl
noncomputable def qPf (S : sSt) (a : Nat) (st : List qV) (fs : List qF) (mm : qMm) (n : Nat) (hs : qHs) : Option qMr := match st with
  | (t, v) :: (2, x) :: r => (match qRef x with
    | some o => (match sLay[o]? with
      | some c => (match c.2[a % 100]? with
        | some p => (match qRk fs (sRg o (a % 100)) v hs with
          | some hs' => cond (Nat.beq c.1 (a / 100) && (Nat.blt c.1 13 && (sIn S o (a % 100) && (qFt c.1 (a % 100) t (sRg o (a % 100)) && (zTg t p.1 && !(sIn zPl o (a % 100))))))) (some (3, r, [], (o, a % 100, v) :: qRm mm o (a % 100), n, hs')) none
          | none => none)
        | none => none)
      | none => none)
    | none => (match hs with
      | [(j, 0)] :: u :: w :: s => (match sFm[j.toNat]? with
        | some (b, m, c, z) => (match qRk fs (sRg b (a % 100)) v s with
          | some hs' => cond (qEnt fs (qSub x (qCn (b : Int))) u && (qEnt fs (qSub (qCn ((b : Int) + m - 1)) x) w && (Nat.beq c (a / 100) && (Nat.blt c 13 && (Nat.blt (a % 100) z && (sInF S b m (a % 100) && (qFt c (a % 100) 0 (sRg b (a % 100)) && (Nat.beq t 0 && (List.range m).all (fun j => !(sIn zPl (b + j) (a % 100))))))))))) (some (3, r, [], qRmF mm b m, n, hs')) none
          | none => none)
        | none => none)
      | _ => none))
  | _ => none
section MEM2
variable {J : pHp} {M0 : sM} {S : sSt}
theorem qpf_ok {c : Nat} {ini : Bool} {ix a n : Nat} {st : List qV} {fs : List qF} {mm : qMm} {hs : qHs} {q : qMr} (h : qPf S a st fs mm n hs = some q) : qMok c ini (.putfield ix) a J M0 S st fs mm n q := by
  intro ρ M hn h0 hsc hsm hf hm hI hF
  unfold qPf at h
  split at h
  · rename_i t v x r
    split at h
    · rename_i o ho
      have hx := qref_ok h0 ho
      split at h
      · rename_i c1 hl
        split at h
        · rename_i p hq
          split at h
          · rename_i hs' hk
            obtain ⟨h1, h2⟩ := zcond h
            cases h2
            rw [Bool.and_eq_true, Bool.and_eq_true, Bool.and_eq_true, Bool.and_eq_true, Bool.and_eq_true, Bool.not_eq_true'] at h1
            obtain ⟨g1, g2, g3, g4, g5, g6⟩ := h1
            have hr := qrk_ok h0 hf hk
            have hC := ztg_ok g5 (qD ρ v)
            refine ⟨ρ, sU M o (a % 100) (qD ρ v), ?_, fun _ hf => (nomatch hf), ?_, si_u hI g6 hr, sf_u hF g3⟩
            · have hp := zm_put (M := M) (J := J) (c := c) (ini := ini) (ix := ix) (rest := (qDS ρ r).map sE) (v := qD ρ v) hl ⟨Nat.eq_of_beq_eq_true g1, zblt g2⟩ hq (by rw [hC]; exact qft_ok g4 hr)
              rw [hC] at hp
              rw [qup_self, ← hp]
              show pMem false c ini (.putfield ix) a (sE (t, qD ρ v) :: Value.ref (qD ρ x).toNat :: (qDS ρ r).map sE) _ = _
              rw [hx]
              rfl
            · rw [qup_self]
              intro p' hp'
              rcases List.mem_cons.mp hp' with rfl | hp'
              · show sU M o (a % 100) (qD ρ v) o (zIx ρ (a % 100)) = qD ρ v
                rw [zix_lt (by omega)]
                exact sU_at _ _ _ _
              · exact qrm_ok hm p' hp'
          · cases h
        · cases h
      · cases h
    · split at h
      · rename_i j u w s
        split at h
        · rename_i b m c1 z hj
          split at h
          · rename_i hs' hk
            obtain ⟨h1, h2⟩ := zcond h
            cases h2
            rw [Bool.and_eq_true, Bool.and_eq_true, Bool.and_eq_true, Bool.and_eq_true, Bool.and_eq_true, Bool.and_eq_true, Bool.and_eq_true, Bool.and_eq_true] at h1
            obtain ⟨g1, g2, g3, g4, g5, g6, g7, g8, g9⟩ := h1
            have e8 := Nat.eq_of_beq_eq_true g8
            subst e8
            have hb1 := qd_ent h0 hf g1
            have hb2 := qd_ent h0 hf g2
            rw [qd_sub, qd_cn h0] at hb1 hb2
            have hx : ((qD ρ x).toNat : Int) = qD ρ x := Int.toNat_of_nonneg (by omega)
            have ho1 : b ≤ (qD ρ x).toNat := by omega
            have ho2 : (qD ρ x).toNat < b + m := by omega
            obtain ⟨hl, hrg⟩ := sfm_at (List.mem_of_getElem? hj) ho1 ho2
            have g10 : sIn zPl (qD ρ x).toNat (a % 100) = false := by
              have := List.all_eq_true.mp g9 ((qD ρ x).toNat - b) (List.mem_range.mpr (by omega))
              rw [show b + ((qD ρ x).toNat - b) = (qD ρ x).toNat by omega, Bool.not_eq_true'] at this
              exact this
            have hr := qrk_ok h0 hf hk
            have hr' : ∀ q, sRg (qD ρ x).toNat (a % 100) = some q → q.1 ≤ qD ρ v ∧ qD ρ v ≤ q.2 := fun q hq => hr q (by rw [← hrg _ (zblt g5)]; exact hq)
            refine ⟨ρ, sU M (qD ρ x).toNat (a % 100) (qD ρ v), ?_, fun _ hf => (nomatch hf), ?_, si_u hI g10 hr', sf_u hF (sinf_ok g6 ho1 ho2)⟩
            · have hp := zm_put (M := M) (J := J) (c := c) (ini := ini) (ix := ix) (rest := (qDS ρ r).map sE) (v := qD ρ v) (p := (0, 0)) hl ⟨Nat.eq_of_beq_eq_true g3, zblt g4⟩ (by rw [List.getElem?_replicate, if_pos (zblt g5)]) (qft_ok g7 hr)
              rw [qup_self, ← hp]
              rfl
            · rw [qup_self]
              exact qrmf_ok ho1 ho2 hm
          · cases h
        · cases h
      · cases h
  · cases h
end MEM2
