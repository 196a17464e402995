/-! ARRAYS ARE COPIED; objects are called. -/
def sCp (M : sM) (o sp d dp n : Nat) : sM := fun o' k' => if o' = d ∧ dp ≤ k' ∧ k' < dp + n then M o (sp + (k' - dp)) else M o' k'
theorem shj_setc {lay : List sCl} {M M' : sM} {J : pHp} {d : Nat} {c : sCl} (h : lay[d]? = some c) (hne : ∀ o' k, o' ≠ d → M' o' k = M o' k) : (sHp lay M ++ J).set d (sCell M' d c) = sHp lay M' ++ J := by
  have hl : d < (sHp lay M).length := by rw [shp_len]; exact (List.getElem?_eq_some_iff.mp h).1
  rw [List.set_append_left _ _ hl]
  congr 1
  refine List.ext_getElem? fun j => ?_
  by_cases hj : j = d
  · subst hj
    rw [List.getElem?_set_self hl, shp_at h]
  · rw [List.getElem?_set_ne (Ne.symm hj)]
    unfold sHp
    rw [List.getElem?_mapIdx, List.getElem?_mapIdx]
    cases lay[j]? with
    | none => rfl
    | some c' =>
      show some (sCell M j c') = some (sCell M' j c')
      congr 1
      unfold sCell
      refine Prod.ext rfl (List.ext_getElem? fun k => ?_)
      rw [List.getElem?_mapIdx, List.getElem?_mapIdx]
      cases c'.2[k]? with
      | none => rfl
      | some q' =>
        show some (sE (sC q' (M j k))) = some (sE (sC q' (M' j k)))
        rw [hne j k hj]
theorem zm_row {M : sM} {o t m k : Nat} : (sCell M o (t, List.replicate m (0, 0))).2[k]? = if k < m then some (Value.int (Int32.ofInt (M o k))) else none := by
  show ((List.replicate m (0, 0)).mapIdx _)[k]? = _
  rw [List.getElem?_mapIdx, List.getElem?_replicate]
  by_cases h : k < m
  · rw [if_pos h, if_pos h]; rfl
  · rw [if_neg h, if_neg h]; rfl
theorem zm_cp {lay : List sCl} {M : sM} {J : pHp} {c : Nat} {ini : Bool} {ix o d mo md sp dp n : Nat} {rest : List Value} (ho : lay[o]? = some (20, List.replicate mo (0, 0))) (hd : lay[d]? = some (20, List.replicate md (0, 0))) (hmo : mo ≤ 4096) (hmd : md ≤ 4096) (h1 : sp + n ≤ mo) (h2 : dp + n ≤ md) (hr : (rest.map fun v : Value => v.category).sum ≤ 8) :
    pMem false c ini (.invokestatic ix) 5000 (.int (Int32.ofInt (n : Int)) :: .int (Int32.ofInt (dp : Int)) :: .ref d :: .int (Int32.ofInt (sp : Int)) :: .ref o :: rest) (sHp lay M ++ J) = some (3, rest, sHp lay (sCp M o sp d dp n) ++ J) := by
  have hc : ∀ k : Nat, k ≤ 4096 → (Int32.ofInt (k : Int)).toNatClampNeg = k ∧ ¬ Int32.ofInt (k : Int) < 0 := by
    intro k hk
    have hx : inR (k : Int) := ⟨by omega, by omega⟩
    refine ⟨by rw [inR_clamp hx]; rfl, fun h => ?_⟩
    have := (inR_lt hx inR_0).mp h
    omega
  obtain ⟨a1, a2⟩ := hc n (by omega)
  obtain ⟨b1, b2⟩ := hc dp (by omega)
  obtain ⟨c1, c2⟩ := hc sp (by omega)
  have hall : ∀ (o m : Nat), (sCell M o (20, List.replicate m (0, 0))).2.all (pInt false) = true := by
    intro o m
    refine List.all_eq_true.mpr fun v hv => ?_
    obtain ⟨k, hk⟩ := List.getElem?_of_mem hv
    rw [zm_row] at hk
    split at hk
    · cases hk; rfl
    · cases hk
  show (match (sHp lay M ++ J)[o]? with
    | some q => match (sHp lay M ++ J)[d]? with
      | some w => if 5000 = 5000 ∧ q.1 = 20 ∧ w.1 = 20 ∧ ¬ Int32.ofInt (sp : Int) < 0 ∧ ¬ Int32.ofInt (dp : Int) < 0 ∧ ¬ Int32.ofInt (n : Int) < 0 ∧ (Int32.ofInt (sp : Int)).toNatClampNeg + (Int32.ofInt (n : Int)).toNatClampNeg ≤ q.2.length ∧ (Int32.ofInt (dp : Int)).toNatClampNeg + (Int32.ofInt (n : Int)).toNatClampNeg ≤ w.2.length ∧ q.2.all (pInt false) = true ∧ w.2.all (pInt false) = true ∧ (rest.map fun v : Value => v.category).sum ≤ 8
        then some (3, rest, (sHp lay M ++ J).set d (w.1, w.2.take (Int32.ofInt (dp : Int)).toNatClampNeg ++ ((q.2.drop (Int32.ofInt (sp : Int)).toNatClampNeg).take (Int32.ofInt (n : Int)).toNatClampNeg ++ w.2.drop ((Int32.ofInt (dp : Int)).toNatClampNeg + (Int32.ofInt (n : Int)).toNatClampNeg)))) else none
      | none => none
    | none => none) = _
  rw [shj_at ho]
  show (match (sHp lay M ++ J)[d]? with
      | some w => if 5000 = 5000 ∧ (sCell M o (20, List.replicate mo (0, 0))).1 = 20 ∧ w.1 = 20 ∧ ¬ Int32.ofInt (sp : Int) < 0 ∧ ¬ Int32.ofInt (dp : Int) < 0 ∧ ¬ Int32.ofInt (n : Int) < 0 ∧ (Int32.ofInt (sp : Int)).toNatClampNeg + (Int32.ofInt (n : Int)).toNatClampNeg ≤ (sCell M o (20, List.replicate mo (0, 0))).2.length ∧ (Int32.ofInt (dp : Int)).toNatClampNeg + (Int32.ofInt (n : Int)).toNatClampNeg ≤ w.2.length ∧ (sCell M o (20, List.replicate mo (0, 0))).2.all (pInt false) = true ∧ w.2.all (pInt false) = true ∧ (rest.map fun v : Value => v.category).sum ≤ 8
        then some (3, rest, (sHp lay M ++ J).set d (w.1, w.2.take (Int32.ofInt (dp : Int)).toNatClampNeg ++ (((sCell M o (20, List.replicate mo (0, 0))).2.drop (Int32.ofInt (sp : Int)).toNatClampNeg).take (Int32.ofInt (n : Int)).toNatClampNeg ++ w.2.drop ((Int32.ofInt (dp : Int)).toNatClampNeg + (Int32.ofInt (n : Int)).toNatClampNeg)))) else none
      | none => none) = _
  rw [shj_at hd]
  dsimp only
  rw [if_pos ⟨rfl, rfl, rfl, c2, b2, a2, by rw [c1, a1, scell_len, List.length_replicate]; exact h1, by rw [b1, a1, scell_len, List.length_replicate]; exact h2, hall _ _, hall _ _, hr⟩, a1, b1, c1]
  congr 3
  rw [← shj_setc (M := M) (M' := sCp M o sp d dp n) hd (fun o' k ho' => if_neg (fun z => ho' z.1))]
  congr 1
  refine Prod.ext rfl (List.ext_getElem? fun k => ?_)
  rw [zm_row]
  show ((sCell M d (20, List.replicate md (0, 0))).2.take dp ++ (((sCell M o (20, List.replicate mo (0, 0))).2.drop sp).take n ++ (sCell M d (20, List.replicate md (0, 0))).2.drop (dp + n)))[k]? = _
  have hld : ((sCell M d (20, List.replicate md (0, 0))).2.take dp).length = dp := by rw [List.length_take, scell_len, List.length_replicate]; omega
  have hlo : (((sCell M o (20, List.replicate mo (0, 0))).2.drop sp).take n).length = n := by rw [List.length_take, List.length_drop, scell_len, List.length_replicate]; omega
  by_cases hk1 : k < dp
  · rw [List.getElem?_append_left (by omega), List.getElem?_take_of_lt hk1, zm_row]
    unfold sCp
    rw [if_neg (c := d = d ∧ _) (by omega)]
  · rw [List.getElem?_append_right (by omega), hld]
    by_cases hk2 : k < dp + n
    · rw [List.getElem?_append_left (by omega), List.getElem?_take_of_lt (by omega), List.getElem?_drop, zm_row, if_pos (by omega), if_pos (by omega)]
      unfold sCp
      rw [if_pos (c := d = d ∧ _) ⟨rfl, by omega, hk2⟩]
    · rw [List.getElem?_append_right (by omega), hlo, List.getElem?_drop, zm_row]
      unfold sCp
      rw [if_neg (c := d = d ∧ _) (by omega), show dp + n + (k - dp - n) = k by omega]
noncomputable def qCat (st : List qV) : Nat := (st.map (fun v => cond (Nat.beq v.1 1) 2 1)).sum
theorem qcat_ok (ρ : Nat → Int) (st : List qV) : (((qDS ρ st).map sE).map fun v => v.category).sum = qCat st := by
  unfold qCat qDS
  rw [List.map_map, List.map_map]
  congr 1
  refine List.map_congr_left fun v _ => ?_
  show (sE (qDV ρ v)).category = _
  rw [se_cat2]
  show (if v.1 = 1 then 2 else 1) = _
  cases h : Nat.beq v.1 1 with
  | true => rw [if_pos (Nat.eq_of_beq_eq_true h)]; rfl
  | false => rw [if_neg (Nat.ne_of_beq_eq_false h)]; rfl
noncomputable def qAc (S : sSt) (a : Nat) (st : List qV) (mm : qMm) (n : Nat) (hs : qHs) : Option qMr := match st with
  | (0, l) :: (0, dp) :: (2, d) :: (0, sp) :: (2, o) :: r => (match qRef l, qRef dp, qRef d, qRef sp, qRef o with
    | some l, some dp, some d, some sp, some o => (match qArr o, qArr d with
      | some p, some q => cond (Nat.beq a 5000 && (Nat.beq p.2.1 20 && (Nat.beq q.2.1 20 && (Nat.ble (sp + l) p.2.2 && (Nat.ble (dp + l) q.2.2 && (Nat.ble (qCat r) 8 && (sInA S d && (!(sInC zPl d) && (List.range l).all (fun j => decide (sRg d (dp + j) = sRg o (sp + j))))))))))) (some (3, r, [], qRmF mm d 1, n, hs)) none
      | _, _ => none)
    | _, _, _, _, _ => none)
  | _ => none
section MEM4
variable {J : pHp} {M0 : sM} {S : sSt}
theorem qac_ok {c : Nat} {ini : Bool} {ix a n : Nat} {st : List qV} {fs : List qF} {mm : qMm} {hs : qHs} {q : qMr} (h : qAc S a st mm n hs = some q) : qMok c ini (.invokestatic ix) a J M0 S st fs mm n q := by
  intro ρ M hn h0 hsc hsm hf hm hI hF
  unfold qAc at h
  split at h
  · rename_i l dp d sp o r
    split at h
    · rename_i l' dp' d' sp' o' hl hdp hd hsp ho
      have el := qref_ok h0 hl
      have edp := qref_ok h0 hdp
      have ed := qref_ok h0 hd
      have esp := qref_ok h0 hsp
      have eo := qref_ok h0 ho
      split at h
      · rename_i p q hp hq
        obtain ⟨h1, h2⟩ := zcond h
        cases h2
        rw [Bool.and_eq_true, Bool.and_eq_true, Bool.and_eq_true, Bool.and_eq_true, Bool.and_eq_true, Bool.and_eq_true, Bool.and_eq_true, Bool.and_eq_true, Bool.not_eq_true'] at h1
        obtain ⟨g1, g2, g3, g4, g5, g6, g7, g9, g8⟩ := h1
        have ea := Nat.eq_of_beq_eq_true g1
        subst ea
        obtain ⟨lo, bo⟩ := qarr_ok hp
        obtain ⟨ld, bd⟩ := qarr_ok hq
        rw [Nat.eq_of_beq_eq_true g2] at lo
        rw [Nat.eq_of_beq_eq_true g3] at ld
        have h9 := zm_cp (M := M) (J := J) (c := c) (ini := ini) (ix := ix) (rest := (qDS ρ r).map sE) lo ld bo bd (Nat.le_of_ble_eq_true g4) (Nat.le_of_ble_eq_true g5) (by rw [qcat_ok]; exact Nat.le_of_ble_eq_true g6)
        refine ⟨ρ, sCp M o' sp' d' dp' l', ?_, fun _ hf => (nomatch hf), ?_, ?_, ?_⟩
        · rw [qup_self]
          refine Eq.trans ?_ h9
          show pMem false c ini (.invokestatic ix) 5000 (.int (Int32.ofInt (qD ρ l)) :: .int (Int32.ofInt (qD ρ dp)) :: .ref (qD ρ d).toNat :: .int (Int32.ofInt (qD ρ sp)) :: .ref (qD ρ o).toNat :: (qDS ρ r).map sE) _ = _
          rw [el, edp, ed, esp, eo]
          rfl
        · rw [qup_self]
          intro p' hp'
          obtain ⟨h3, h4⟩ := List.mem_filter.mp hp'
          unfold sCp
          rw [if_neg]
          · exact hm p' h3
          · rintro ⟨h5, -⟩
            rw [h5, Nat.ble_eq_true_of_le (Nat.le_refl _), show Nat.blt d' (d' + 1) = true from Nat.ble_eq_true_of_le (Nat.le_refl _)] at h4
            cases h4
        · refine ⟨?_, xi_congr (fun o1 k1 h1 => if_neg (fun z => by rw [z.1, sinc_ok g9] at h1; cases h1)) hI.2⟩
          intro o1 k1 r1 hr1
          unfold sCp
          split
          · rename_i hz
            obtain ⟨rfl, hz1, hz2⟩ := hz
            have h3 : sRg o1 (dp' + (k1 - dp')) = sRg o' (sp' + (k1 - dp')) := of_decide_eq_true (List.all_eq_true.mp g8 (k1 - dp') (List.mem_range.mpr (by omega)))
            rw [show dp' + (k1 - dp') = k1 by omega] at h3
            exact hI.1 _ _ r1 (by rw [← h3]; exact hr1)
          · exact hI.1 _ _ r1 hr1
        · intro o1 k1 h3
          unfold sCp
          rw [if_neg]
          · exact hF o1 k1 h3
          · rintro ⟨rfl, -⟩
            rw [sina_ok g7] at h3
            cases h3
      · cases h
    · cases h
  · cases h
end MEM4
