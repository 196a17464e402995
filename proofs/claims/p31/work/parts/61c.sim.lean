/-! EACH INSTRUCTION WITH UNKNOWNS is one without them. -/
section SIM
variable {ρ : Nat → Int32}
theorem as_stk {i : Instr} {k : Nat} {st st' cst : List Value} (h : pStk i st = some (k, st')) (hv : vL ρ st cst) : ∃ cst', pStk i cst = some (k, cst') ∧ vL ρ st' cst' := by
  unfold pStk at h
  split at h
  case h_1 => cases h; exact ⟨_, rfl, _, _, rfl, rfl, hv⟩
  case h_2 => cases h; exact ⟨_, rfl, _, _, rfl, rfl, hv⟩
  case h_3 => cases h; exact ⟨_, rfl, _, _, rfl, rfl, hv⟩
  case h_4 => cases h; exact ⟨_, rfl, _, _, rfl, rfl, hv⟩
  case h_5 =>
    split at h
    · cases h
      obtain ⟨_, _, rfl, rfl, _, _, rfl, rfl, hr⟩ := hv
      exact ⟨_, rfl, _, _, rfl, rfl, hr⟩
    · cases h
  case h_6 =>
    split at h
    · cases h
      obtain ⟨_, _, rfl, rfl, _, _, rfl, rfl, hr⟩ := hv
      exact ⟨_, rfl, _, _, rfl, rfl, hr⟩
    · cases h
  case h_7 =>
    split at h
    · cases h
      obtain ⟨_, _, rfl, rfl, _, _, rfl, rfl, hr⟩ := hv
      exact ⟨_, rfl, _, _, rfl, rfl, hr⟩
    · cases h
  case h_8 =>
    split at h
    · cases h
      obtain ⟨_, _, rfl, rfl, _, _, rfl, rfl, hr⟩ := hv
      exact ⟨_, rfl, _, _, rfl, rfl, hr⟩
    · cases h
  case h_9 =>
    split at h
    · cases h
      obtain ⟨_, _, rfl, rfl, _, _, rfl, rfl, hr⟩ := hv
      exact ⟨_, rfl, _, _, rfl, rfl, hr⟩
    · cases h
  case h_10 =>
    split at h
    · cases h
      obtain ⟨_, _, rfl, rfl, _, _, rfl, rfl, hr⟩ := hv
      exact ⟨_, rfl, _, _, rfl, rfl, hr⟩
    · cases h
  case h_11 =>
    split at h
    · cases h
      obtain ⟨_, _, rfl, rfl, _, _, rfl, rfl, hr⟩ := hv
      exact ⟨_, rfl, _, _, rfl, rfl, hr⟩
    · cases h
  case h_12 =>
    split at h
    · cases h
      obtain ⟨_, _, rfl, rfl, _, _, rfl, rfl, hr⟩ := hv
      exact ⟨_, rfl, _, _, rfl, rfl, hr⟩
    · cases h
  case h_13 =>
    split at h
    · split at h
      · cases h
      · rename_i hc
        cases h
        obtain ⟨_, _, rfl, rfl, _, _, rfl, rfl, hr⟩ := hv
        exact ⟨_, if_neg hc, _, _, rfl, rfl, hr⟩
    · cases h
  case h_14 =>
    split at h
    · split at h
      · cases h
      · rename_i hc
        cases h
        obtain ⟨_, _, rfl, rfl, _, _, rfl, rfl, hr⟩ := hv
        exact ⟨_, if_neg hc, _, _, rfl, rfl, hr⟩
    · cases h
  case h_15 =>
    split at h
    · cases h
      obtain ⟨_, _, rfl, rfl, hr⟩ := hv
      exact ⟨_, rfl, _, _, rfl, rfl, hr⟩
    · cases h
  case h_16 =>
    split at h
    · cases h
      obtain ⟨_, _, rfl, rfl, hr⟩ := hv
      exact ⟨_, rfl, _, _, rfl, rfl, hr⟩
    · cases h
  case h_17 =>
    split at h
    · cases h
      obtain ⟨_, _, rfl, rfl, hr⟩ := hv
      exact ⟨_, rfl, _, _, rfl, rfl, hr⟩
    · cases h
  case h_18 =>
    split at h
    · cases h
      obtain ⟨_, _, rfl, rfl, hr⟩ := hv
      exact ⟨_, rfl, _, _, rfl, rfl, hr⟩
    · cases h
  case h_19 =>
    split at h
    · cases h
      obtain ⟨_, _, rfl, rfl, hr⟩ := hv
      exact ⟨_, rfl, _, _, rfl, rfl, hr⟩
    · cases h
  case h_20 =>
    split at h
    · cases h
      obtain ⟨_, _, rfl, rfl, _, _, rfl, rfl, hr⟩ := hv
      exact ⟨_, rfl, _, _, rfl, rfl, hr⟩
    · cases h
  case h_21 =>
    split at h
    · cases h
      obtain ⟨_, _, rfl, rfl, _, _, rfl, rfl, hr⟩ := hv
      exact ⟨_, rfl, _, _, rfl, rfl, hr⟩
    · cases h
  case h_22 =>
    split at h
    · cases h
      obtain ⟨_, _, rfl, rfl, _, _, rfl, rfl, hr⟩ := hv
      exact ⟨_, rfl, _, _, rfl, rfl, hr⟩
    · cases h
  case h_23 =>
    split at h
    · cases h
      obtain ⟨_, _, rfl, rfl, _, _, rfl, rfl, hr⟩ := hv
      exact ⟨_, rfl, _, _, rfl, rfl, hr⟩
    · cases h
  case h_24 =>
    split at h
    · split at h
      · cases h
      · rename_i hc
        cases h
        obtain ⟨_, _, rfl, rfl, _, _, rfl, rfl, hr⟩ := hv
        exact ⟨_, if_neg hc, _, _, rfl, rfl, hr⟩
    · cases h
  case h_25 =>
    split at h
    · split at h
      · cases h
      · rename_i hc
        cases h
        obtain ⟨_, _, rfl, rfl, _, _, rfl, rfl, hr⟩ := hv
        exact ⟨_, if_neg hc, _, _, rfl, rfl, hr⟩
    · cases h
  case h_26 =>
    split at h
    · cases h
      obtain ⟨_, _, rfl, rfl, hr⟩ := hv
      exact ⟨_, rfl, _, _, rfl, rfl, hr⟩
    · cases h
  case h_27 =>
    split at h
    · cases h
      obtain ⟨_, _, rfl, rfl, _, _, rfl, rfl, hr⟩ := hv
      exact ⟨_, rfl, _, _, rfl, rfl, hr⟩
    · cases h
  case h_28 =>
    split at h
    · split at h
      · rename_i hc
        cases h
        obtain ⟨b, m, rfl, hb, hr⟩ := hv
        exact ⟨_, if_pos ((vR_cat hb).trans hc), b, _, rfl, hb, b, _, rfl, hb, hr⟩
      · cases h
    · cases h
  case h_29 =>
    split at h
    · split at h
      · rename_i hc
        cases h
        obtain ⟨b, m, rfl, hb, hr⟩ := hv
        exact ⟨_, if_pos ((vR_cat hb).trans hc), hr⟩
      · cases h
    · cases h
  case h_30 =>
    split at h
    · split at h
      · rename_i hc
        cases h
        obtain ⟨b, m, rfl, hb, b2, m2, rfl, hb2, hr⟩ := hv
        exact ⟨_, if_pos ⟨(vR_cat hb).trans hc.1, (vR_cat hb2).trans hc.2⟩, b, _, rfl, hb, b2, _, rfl, hb2, b, _, rfl, hb, b2, _, rfl, hb2, hr⟩
      · cases h
    · cases h
  case h_31 => cases h
theorem pint_f (x : Int32) : pInt false (.int x) = true := rfl
theorem as_loc {mx : Nat} {i : Instr} {k : Nat} {lv lv' clv : pLv} {st st' cst : List Value} (h : pLoc true mx i lv st = some (k, lv', st')) (hl : vV ρ lv clv) (hv : vL ρ st cst) : ∃ clv' cst', pLoc false mx i clv cst = some (k, clv', cst') ∧ vV ρ lv' clv' ∧ vL ρ st' cst' := by
  unfold pLoc at h
  split at h
  case h_1 =>
    split at h
    · rename_i v hg
      split at h
      · rename_i hi
        cases h
        obtain ⟨w, g1, g2⟩ := vV_get hl hg
        obtain ⟨x, rfl⟩ := vR_int g2 hi
        exact ⟨clv, .int x :: cst, by simp only [pLoc, g1, pint_f, if_true], hl, .int x, cst, rfl, g2, hv⟩
      · cases h
    · cases h
  case h_2 =>
    split at h
    · rename_i v hg
      split at h
      · rename_i hi
        cases h
        obtain ⟨w, g1, g2⟩ := vV_get hl hg
        obtain ⟨x, rfl⟩ := vR_int g2 hi
        exact ⟨clv, .int x :: cst, by simp only [pLoc, g1, pint_f, if_true], hl, .int x, cst, rfl, g2, hv⟩
      · cases h
    · cases h
  case h_3 =>
    split at h
    · rename_i x hg
      cases h
      obtain ⟨w, g1, g2⟩ := vV_get hl hg
      have g2 : w = .long x := g2
      subst g2
      exact ⟨clv, .long x :: cst, by simp only [pLoc, g1], hl, .long x, cst, rfl, rfl, hv⟩
    · cases h
  case h_4 =>
    split at h
    · rename_i x hg
      cases h
      obtain ⟨w, g1, g2⟩ := vV_get hl hg
      have g2 : w = .long x := g2
      subst g2
      exact ⟨clv, .long x :: cst, by simp only [pLoc, g1], hl, .long x, cst, rfl, rfl, hv⟩
    · cases h
  case h_5 =>
    split at h
    · rename_i v hg
      split at h
      · rename_i hi
        cases h
        obtain ⟨w, g1, g2⟩ := vV_get hl hg
        have g3 := vR_ref g2 hi
        subst g3
        exact ⟨clv, w :: cst, by simp only [pLoc, g1, hi, if_true], hl, w, cst, rfl, g2, hv⟩
      · cases h
    · cases h
  case h_6 =>
    split at h
    · rename_i v hg
      split at h
      · rename_i hi
        cases h
        obtain ⟨w, g1, g2⟩ := vV_get hl hg
        have g3 := vR_ref g2 hi
        subst g3
        exact ⟨clv, w :: cst, by simp only [pLoc, g1, hi, if_true], hl, w, cst, rfl, g2, hv⟩
      · cases h
    · cases h
  case h_7 =>
    split at h
    · split at h
      · rename_i hc
        cases h
        obtain ⟨b, m, rfl, hb, hr⟩ := hv
        obtain ⟨x, rfl⟩ := vR_int hb hc.1
        exact ⟨_, m, by simp only [pLoc, pint_f, hc.2, and_self, if_true], vV_put1 hl hb, hr⟩
      · cases h
    · cases h
  case h_8 =>
    split at h
    · split at h
      · rename_i hc
        cases h
        obtain ⟨b, m, rfl, hb, hr⟩ := hv
        obtain ⟨x, rfl⟩ := vR_int hb hc.1
        exact ⟨_, m, by simp only [pLoc, pint_f, hc.2, and_self, if_true], vV_put1 hl hb, hr⟩
      · cases h
    · cases h
  case h_9 =>
    split at h
    · split at h
      · rename_i hc
        cases h
        obtain ⟨b, m, rfl, rfl, hr⟩ := hv
        exact ⟨_, m, by simp only [pLoc, hc, if_true], vV_put2 hl rfl, hr⟩
      · cases h
    · cases h
  case h_10 =>
    split at h
    · split at h
      · rename_i hc
        cases h
        obtain ⟨b, m, rfl, rfl, hr⟩ := hv
        exact ⟨_, m, by simp only [pLoc, hc, if_true], vV_put2 hl rfl, hr⟩
      · cases h
    · cases h
  case h_11 =>
    split at h
    · split at h
      · rename_i hc
        cases h
        obtain ⟨b, m, rfl, rfl, hr⟩ := hv
        exact ⟨_, m, by simp only [pLoc, hc, if_true], vV_put1 hl rfl, hr⟩
      · cases h
    · cases h
  case h_12 =>
    split at h
    · split at h
      · rename_i hc
        cases h
        obtain ⟨b, m, rfl, rfl, hr⟩ := hv
        exact ⟨_, m, by simp only [pLoc, hc, if_true], vV_put1 hl rfl, hr⟩
      · cases h
    · cases h
  case h_13 =>
    split at h
    · rename_i x hg
      split at h
      · rename_i hc
        cases h
        obtain ⟨w, g1, g2⟩ := vV_get hl hg
        have g2 : w = .int x := g2
        subst g2
        exact ⟨_, cst, by simp only [pLoc, g1, hc, if_true], vV_put1 hl rfl, hv⟩
      · cases h
    · cases h
  case h_14 => cases h
theorem as_jmp {i : Instr} {pc len t : Nat} {st st' cst : List Value} (h : pJmp i pc len st = some (t, st')) (hv : vL ρ st cst) : ∃ cst', pJmp i pc len cst = some (t, cst') ∧ vL ρ st' cst' := by
  unfold pJmp at h
  split at h
  · split at h
    · rename_i hc
      obtain ⟨t', h1, h2⟩ := omap h
      cases h2
      exact ⟨cst, by simp only [pJmp, hc, if_true, h1, Option.map_some], hv⟩
    · cases h
  · split at h
    · split at h
      · rename_i hc
        obtain ⟨t', h1, h2⟩ := omap h
        cases h2
        obtain ⟨_, m, rfl, rfl, hr⟩ := hv
        exact ⟨m, by simp only [pJmp, hc, if_true, h1, Option.map_some], hr⟩
      · cases h
    · cases h
  · split at h
    · split at h
      · rename_i hc
        obtain ⟨t', h1, h2⟩ := omap h
        cases h2
        obtain ⟨_, _, rfl, rfl, _, m, rfl, rfl, hr⟩ := hv
        exact ⟨m, by simp only [pJmp, hc, if_true, h1, Option.map_some], hr⟩
      · cases h
    · cases h
  · split at h
    · split at h
      · rename_i hc
        obtain ⟨t', h1, h2⟩ := omap h
        cases h2
        obtain ⟨_, m, rfl, rfl, hr⟩ := hv
        exact ⟨m, by simp only [pJmp, if_pos hc, h1, Option.map_some], hr⟩
      · rename_i hc
        split at h
        · rename_i o ho
          obtain ⟨t', h1, h2⟩ := omap h
          cases h2
          obtain ⟨_, m, rfl, rfl, hr⟩ := hv
          exact ⟨m, by simp only [pJmp, if_neg hc, ho, h1, Option.map_some], hr⟩
        · cases h
    · cases h
  · split at h
    · split at h
      · rename_i hc
        obtain ⟨t', h1, h2⟩ := omap h
        cases h2
        obtain ⟨_, m, rfl, rfl, hr⟩ := hv
        refine ⟨m, ?_, hr⟩
        unfold pJmp
        simp only
        rw [if_pos hc, h1]
        rfl
      · cases h
    · cases h
  · cases h
theorem u0 : (0 : UInt32).toNat < 8 := by decide
theorem u1 : (1 : UInt32).toNat < 8 := by decide
theorem u2 : (2 : UInt32).toNat < 8 := by decide
theorem vR_fl {u : UInt32} (h : u.toNat < 8) : vR ρ (.float u) (.float u) := by
  show (if u.toNat < 8 then Value.float u = .float u else if u.toNat = 4294967295 then ∃ x, Value.float u = .int x else Value.float u = .int (ρ (u.toNat - 8)))
  rw [if_pos h]
theorem as_xtr {i : Instr} {a k : Nat} {st st' cst : List Value} (h : pXtr i a st = some (k, st')) (hv : vL ρ st cst) : ∃ cst', pXtr i a cst = some (k, cst') ∧ vL ρ st' cst' := by
  unfold pXtr at h
  split at h
  · split at h
    · rename_i hc
      cases h
      exact ⟨_, by simp only [pXtr, hc, if_true], .float 0, cst, rfl, vR_fl u0, hv⟩
    · cases h
  · split at h
    · rename_i hc
      cases h
      exact ⟨_, by simp only [pXtr, hc, if_true], .int 1, cst, rfl, rfl, hv⟩
    · split at h
      · rename_i hn hc
        cases h
        exact ⟨_, by simp only [pXtr, if_neg hn, if_pos hc], .float 2, cst, rfl, vR_fl u2, hv⟩
      · cases h
  · split at h
    · split at h
      · rename_i hc
        obtain ⟨rfl, hc⟩ := hc
        cases h
        obtain ⟨b, m, rfl, hb, hr⟩ := hv
        have hb := vR_low hb u0
        subst hb
        exact ⟨_, by simp only [pXtr, hc, and_self, if_true], .float 1, m, rfl, vR_fl u1, hr⟩
      · split at h
        · rename_i hn hc
          obtain ⟨rfl, hc⟩ := hc
          cases h
          obtain ⟨b, m, rfl, hb, hr⟩ := hv
          have hb := vR_low hb u0
          subst hb
          exact ⟨_, by subst hc; rfl, .int 0, m, rfl, rfl, hr⟩
        · cases h
    · cases h
  · split at h
    · split at h
      · rename_i hc
        subst hc
        cases h
        obtain ⟨b, m, rfl, hb, hr⟩ := hv
        have hb := vR_low hb u1
        subst hb
        exact ⟨_, by simp only [pXtr, if_true], _, m, rfl, rfl, hr⟩
      · cases h
    · cases h
  · split at h
    · split at h
      · rename_i hc
        subst hc
        obtain ⟨v, h1, h2⟩ := omap h
        cases h2
        obtain ⟨_, _, rfl, rfl, b, m, rfl, hb, hr⟩ := hv
        have hb := vR_low hb u1
        subst hb
        obtain ⟨z, rfl⟩ := pint_of (List.all_eq_true.mp pLang_ints v (by
          unfold pLd at h1
          split at h1
          · exact List.mem_of_getElem? h1
          · cases h1))
        exact ⟨_, by simp only [pXtr, if_true, h1, Option.map_some], _, m, rfl, rfl, hr⟩
      · cases h
    · cases h
  · cases h
theorem as_ld {es fs : List Value} (h : vL ρ es fs) {x : Int32} {v : Value} (hv : pLd es x = some v) : ∃ w, pLd fs x = some w ∧ vR ρ v w := by
  unfold pLd at hv ⊢
  rw [vL_len h]
  split at hv
  · exact vL_get h hv
  · cases hv
theorem pDef_nof : ∀ ci, ci < 13 → (pDef ci).all pNoF = true := by decide +kernel
theorem prep_nof (n t : Nat) : (List.replicate n (defaultValue (pAty t))).all pNoF = true := by
  rw [List.all_eq_true]
  intro v hv
  rw [(List.mem_replicate.mp hv).2]
  unfold pAty
  split <;> rfl
theorem pnull_nof (n : Nat) : (List.replicate n Value.null).all pNoF = true := by
  rw [List.all_eq_true]
  intro v hv
  rw [(List.mem_replicate.mp hv).2]
  rfl
theorem pfit_sim {c : Nat} {ini : Bool} {ci k : Nat} {v w : Value} (h : pFit true c ini ci k v = true) (hv : vR ρ v w) : pFit false c ini ci k w = true := by
  simp only [pFit, Bool.and_eq_true, Bool.or_eq_true, Bool.true_and, Bool.false_and, Bool.false_eq_true, false_or, decide_eq_true_eq] at h ⊢
  obtain ⟨⟨h1, h2⟩, h3⟩ := h
  refine ⟨⟨h1, ?_⟩, h3⟩
  rcases h2 with ⟨h2, h4⟩ | ⟨⟨h2, h4⟩, h5⟩
  · obtain ⟨x, rfl⟩ := vR_int hv h2
    have h4 : pTy ci k = .int := by simpa using h4
    rw [h4]
    exact ⟨⟨rfl, rfl⟩, rfl⟩
  · have := vR_nof hv h2
    subst this
    exact ⟨⟨h2, h4⟩, h5⟩
set_option maxHeartbeats 4000000 in
theorem as_mem {c : Nat} {ini : Bool} {i : Instr} {a k : Nat} {st st' cst : List Value} {L L' cL : pHp} (h : pMem true c ini i a st L = some (k, st', L')) (hv : vL ρ st cst) (hH : vH ρ L cL) : ∃ cst' cL', pMem false c ini i a cst cL = some (k, cst', cL') ∧ vL ρ st' cst' ∧ vH ρ L' cL' := by
  unfold pMem at h
  split at h
  all_goals first | (cases h; done) | skip
  · split at h
    · split at h
      · rename_i q hq
        split at h
        · rename_i hc
          obtain ⟨v, h1, h2⟩ := omap h
          cases h2
          obtain ⟨_, m, rfl, rfl, hr⟩ := hv
          obtain ⟨es, g1, g2⟩ := vH_get hH hq
          obtain ⟨w, g3, g4⟩ := vL_get g2 h1
          refine ⟨_, cL, ?_, ⟨w, m, rfl, g4, hr⟩, hH⟩
          simp only [pMem, g1]
          rw [if_pos hc, g3]
          rfl
        · cases h
      · cases h
    · cases h
  · split at h
    · split at h
      · rename_i q hq
        split at h
        · rename_i hc
          cases h
          obtain ⟨w, _, rfl, hw, _, m, rfl, rfl, hr⟩ := hv
          obtain ⟨es, g1, g2⟩ := vH_get hH hq
          have hl := vL_len g2
          refine ⟨m, _, ?_, hr, vH_set hH (vL_set g2 hw)⟩
          simp only [pMem, g1]
          rw [if_pos ⟨hc.1, hc.2.1, by rw [hl]; exact hc.2.2.1, pfit_sim hc.2.2.2 hw⟩]
        · cases h
      · cases h
    · cases h

  · split at h
    · split at h
      · rename_i q hq
        split at h
        · rename_i hc
          obtain ⟨v, h1, h2⟩ := omap h
          cases h2
          obtain ⟨_, _, rfl, rfl, _, m, rfl, rfl, hr⟩ := hv
          obtain ⟨es, g1, g2⟩ := vH_get hH hq
          obtain ⟨w, g3, g4⟩ := as_ld g2 h1
          refine ⟨_, cL, ?_, ⟨w, m, rfl, g4, hr⟩, hH⟩
          simp only [pMem, g1]
          rw [if_pos hc, g3]
          rfl
        · cases h
      · cases h
    · cases h
  · split at h
    · split at h
      · rename_i q hq
        split at h
        · rename_i hc
          obtain ⟨v, h1, h2⟩ := omap h
          cases h2
          obtain ⟨_, _, rfl, rfl, _, m, rfl, rfl, hr⟩ := hv
          obtain ⟨es, g1, g2⟩ := vH_get hH hq
          obtain ⟨w, g3, g4⟩ := as_ld g2 h1
          refine ⟨_, cL, ?_, ⟨w, m, rfl, g4, hr⟩, hH⟩
          simp only [pMem, g1]
          rw [if_pos hc, g3]
          rfl
        · cases h
      · cases h
    · cases h
  · split at h
    · split at h
      · rename_i q hq
        split at h
        · rename_i hc
          obtain ⟨v, h1, h2⟩ := omap h
          cases h2
          obtain ⟨_, _, rfl, rfl, _, m, rfl, rfl, hr⟩ := hv
          obtain ⟨es, g1, g2⟩ := vH_get hH hq
          obtain ⟨w, g3, g4⟩ := as_ld g2 h1
          refine ⟨_, cL, ?_, ⟨w, m, rfl, g4, hr⟩, hH⟩
          simp only [pMem, g1]
          rw [if_pos hc, g3]
          rfl
        · cases h
      · cases h
    · cases h
  · split at h
    · split at h
      · rename_i q hq
        split at h
        · rename_i hc
          obtain ⟨v, h1, h2⟩ := omap h
          cases h2
          obtain ⟨_, _, rfl, rfl, _, m, rfl, rfl, hr⟩ := hv
          obtain ⟨es, g1, g2⟩ := vH_get hH hq
          obtain ⟨w, g3, g4⟩ := as_ld g2 h1
          refine ⟨_, cL, ?_, ⟨w, m, rfl, g4, hr⟩, hH⟩
          simp only [pMem, g1]
          rw [if_pos hc, g3]
          rfl
        · cases h
      · cases h
    · cases h
  · split at h
    · split at h
      · rename_i q hq
        split at h
        · rename_i hc
          obtain ⟨j, h1, h2⟩ := omap h
          cases h2
          obtain ⟨w, _, rfl, hw, _, _, rfl, rfl, _, m, rfl, rfl, hr⟩ := hv
          obtain ⟨x, rfl⟩ := vR_int hw hc.2
          obtain ⟨es, g1, g2⟩ := vH_get hH hq
          have hl := vL_len g2
          refine ⟨m, _, ?_, hr, vH_set hH (vL_set (j := j) g2 hw)⟩
          simp only [pMem, g1]
          rw [if_pos ⟨hc.1, rfl⟩, hl, h1]
          rfl
        · cases h
      · cases h
    · cases h
  · split at h
    · split at h
      · rename_i q hq
        split at h
        · rename_i hc
          obtain ⟨j, h1, h2⟩ := omap h
          cases h2
          obtain ⟨x, rfl⟩ := pint_of hc.2
          obtain ⟨_, _, rfl, rfl, _, _, rfl, rfl, _, m, rfl, rfl, hr⟩ := hv
          obtain ⟨es, g1, g2⟩ := vH_get hH hq
          have hl := vL_len g2
          refine ⟨m, cL.set _ (q.1, es.set j (narrow (pAty q.1) (.int x))), ?_, hr, vH_set hH (vL_set g2 (by rcases hc.1 with z | z <;> rw [z] <;> rfl))⟩
          simp only [pMem, g1]
          rw [if_pos ⟨hc.1, rfl⟩, hl, h1]
          rfl
        · cases h
      · cases h
    · cases h
  · split at h
    · split at h
      · rename_i q hq
        split at h
        · rename_i hc
          obtain ⟨j, h1, h2⟩ := omap h
          cases h2
          obtain ⟨_, _, rfl, rfl, _, _, rfl, rfl, _, m, rfl, rfl, hr⟩ := hv
          obtain ⟨es, g1, g2⟩ := vH_get hH hq
          have hl := vL_len g2
          refine ⟨m, cL.set _ (q.1, es.set j (.long _)), ?_, hr, vH_set hH (vL_set g2 rfl)⟩
          simp only [pMem, g1]
          rw [if_pos hc, hl, h1]
          rfl
        · cases h
      · cases h
    · cases h
  · split at h
    · split at h
      · rename_i q hq
        split at h
        · rename_i w hw
          split at h
          · rename_i hc
            obtain ⟨j, h1, h2⟩ := omap h
            cases h2
            obtain ⟨_, _, rfl, rfl, _, _, rfl, rfl, _, m, rfl, rfl, hr⟩ := hv
            obtain ⟨es, g1, g2⟩ := vH_get hH hq
            obtain ⟨fs, g3, g4⟩ := vH_get hH hw
            have hl := vL_len g2
            refine ⟨m, cL.set _ (q.1, es.set j (.ref _)), ?_, hr, vH_set hH (vL_set g2 rfl)⟩
            simp only [pMem, g1, g3]
            rw [if_pos hc, hl, h1]
            rfl
          · cases h
        · cases h
      · cases h
    · cases h
  · split at h
    · split at h
      · rename_i q hq
        split at h
        · rename_i hc
          cases h
          obtain ⟨_, m, rfl, rfl, hr⟩ := hv
          obtain ⟨es, g1, g2⟩ := vH_get hH hq
          refine ⟨_, cL, ?_, ⟨_, m, rfl, rfl, hr⟩, hH⟩
          simp only [pMem, g1]
          rw [if_pos hc, vL_len g2]
        · cases h
      · cases h
    · cases h
  · split at h
    · rename_i hc
      cases h
      refine ⟨.ref cL.length :: cst, _, ?_, ⟨_, cst, rfl, by rw [vH_len hH]; rfl, hv⟩, vH_push hH (vL_self (pDef_nof _ hc))⟩
      simp only [pMem]
      rw [if_pos hc]
    · cases h
  · split at h
    · split at h
      · rename_i g hg
        split at h
        · cases h
        · rename_i hc
          cases h
          obtain ⟨_, m, rfl, rfl, hr⟩ := hv
          refine ⟨.ref cL.length :: m, _, ?_, ⟨_, m, rfl, by rw [vH_len hH]; rfl, hr⟩, vH_push hH (vL_self (prep_nof _ g))⟩
          simp only [pMem, hg]
          rw [if_neg hc]
      · cases h
    · cases h
  · split at h
    · split at h
      · rename_i hc
        cases h
        obtain ⟨_, m, rfl, rfl, hr⟩ := hv
        refine ⟨.ref cL.length :: m, _, ?_, ⟨_, m, rfl, by rw [vH_len hH]; rfl, hr⟩, vH_push hH (vL_self (pnull_nof _))⟩
        simp only [pMem]
        rw [if_pos hc]
      · cases h
    · cases h
  · split at h
    · rename_i q hq
      cases h
      exact ⟨_, cL, by simp only [pMem, hq], ⟨_, cst, rfl, rfl, hv⟩, hH⟩
    · cases h
  · split at h
    · rename_i q hq
      cases h
      exact ⟨_, cL, by simp only [pMem, hq], ⟨_, cst, rfl, rfl, hv⟩, hH⟩
    · cases h
  · split at h
    · rename_i q hq
      cases h
      exact ⟨_, cL, by simp only [pMem, hq], ⟨_, cst, rfl, rfl, hv⟩, hH⟩
    · cases h
  · split at h
    · split at h
      · rename_i q hq
        split at h
        · rename_i w hw
          split at h
          · rename_i hc
            cases h
            obtain ⟨_, _, rfl, rfl, _, _, rfl, rfl, _, _, rfl, rfl, _, _, rfl, rfl, _, m, rfl, rfl, hr⟩ := hv
            obtain ⟨es, g1, g2⟩ := vH_get hH hq
            obtain ⟨fs, g3, g4⟩ := vH_get hH hw
            obtain ⟨c0, c1, c2, c3, c4, c5, c6, c7, c8, c9, c10⟩ := hc
            refine ⟨m, _, ?_, hr, vH_set hH (vL_app (vL_take _ g4) (vL_app (vL_take _ (vL_drop _ g2)) (vL_drop _ g4)))⟩
            simp only [pMem, g1, g3]
            rw [if_pos ⟨c0, c1, c2, c3, c4, c5, by rw [vL_len g2]; exact c6, by rw [vL_len g4]; exact c7, vL_ints g2 c8, vL_ints g4 c9, by rw [vL_cats hr]; exact c10⟩]
          · cases h
        · cases h
      · cases h
    · cases h
  · split at h
    · split at h
      · rename_i hc
        cases h
        obtain ⟨_, m, rfl, rfl, hr⟩ := hv
        refine ⟨m, cL, ?_, hr, hH⟩
        simp only [pMem]
        rw [if_pos ⟨hc.1, by rw [vL_cats hr]; exact hc.2⟩]
      · cases h
    · cases h
end SIM
