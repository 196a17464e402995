/-! RULES OF WHAT ALWAYS HOLDS. A rule: how many names it has (0 is 1), facts, what lies in memory (places from 1000 on: at the number that a name has), at most one place that is written (cell, place, value), places outside the heap that are written then, what is known then (further names are new). -/
abbrev qRu : Type := Nat × List qF × qMm × List (Nat × qF × qF) × qMm × List qF
def mW (ρ : Nat → Int) (l : List (Nat × qF × qF)) (M : sM) : sM := match l with
  | [] => M
  | q :: _ => sU M q.1 (qD ρ q.2.1).toNat (qD ρ q.2.2)
def gU (ρ : Nat → Int) : qMm → sM → sM
  | [], M => M
  | q :: l, M => gU ρ l (sU M q.1 q.2.1 (qD ρ q.2.2))
noncomputable def qRok (r : qRu) : Prop := ∀ (ρ : Nat → Int) (M : sM), ρ 0 = 1 → (∀ f ∈ r.2.1, 0 ≤ qD ρ f) → (∀ q ∈ r.2.2.1, M q.1 (zIx ρ q.2.1) = qD ρ q.2.2) → sI M → ∃ ρ' : Nat → Int, (∀ a, a < r.1 → ρ' a = ρ a) ∧ (∀ f ∈ r.2.2.2.2.2, 0 ≤ qD ρ' f) ∧ sI (gU ρ' r.2.2.2.2.1 (mW ρ r.2.2.2.1 M))
/-- a place outside the heap -/
noncomputable def zGh (o k : Nat) : Bool := Nat.blt k 1000 && (match sLay[o]? with | some c => Nat.ble c.2.length k | none => false)
theorem zgh_hp {lay : List sCl} {M : sM} {o k : Nat} {v : Int} {c : sCl} (hl : lay[o]? = some c) (hk : c.2.length ≤ k) : sHp lay (sU M o k v) = sHp lay M := by
  unfold sHp
  refine List.ext_getElem? fun j => ?_
  rw [List.getElem?_mapIdx, List.getElem?_mapIdx]
  cases hj : lay[j]? with
  | none => rfl
  | some c' =>
    show some (sCell (sU M o k v) j c') = some (sCell M j c')
    by_cases hjo : j = o
    · subst hjo
      rw [hl] at hj
      cases hj
      congr 1
      unfold sCell
      refine Prod.ext rfl (List.ext_getElem? fun i => ?_)
      rw [List.getElem?_mapIdx, List.getElem?_mapIdx]
      cases hi : c.2[i]? with
      | none => rfl
      | some q =>
        have hlt := (List.getElem?_eq_some_iff.mp hi).1
        show some (sE (sC q (sU M j k v j i))) = some (sE (sC q (M j i)))
        rw [sU_ne (fun z => by omega)]
    · rw [scell_ne hjo]
theorem zgh_ok {M : sM} {o k : Nat} {v : Int} (h : zGh o k = true) : sHp sLay (sU M o k v) = sHp sLay M := by
  unfold zGh at h
  rw [Bool.and_eq_true] at h
  have h2 := h.2
  split at h2
  · rename_i c hl
    exact zgh_hp hl (Nat.le_of_ble_eq_true h2)
  · cases h2
noncomputable def qGm (sn : Nat → qF) : qMm → qMm → qMm
  | [], mm => mm
  | q :: l, mm => qGm sn l ((q.1, q.2.1, qSb sn q.2.2) :: qRm mm q.1 q.2.1)
theorem qgm_ok {ρ : Nat → Int} {S : sSt} {M0 : sM} {sn : Nat → qF} : ∀ {gw mm : qMm} {M : sM}, gw.all (fun q => zGh q.1 q.2.1 && sIn S q.1 q.2.1) = true → (∀ q ∈ mm, M q.1 (zIx ρ q.2.1) = qD ρ q.2.2) → sF S M0 M → (∀ q ∈ qGm sn gw mm, gU (fun a => qD ρ (sn a)) gw M q.1 (zIx ρ q.2.1) = qD ρ q.2.2) ∧ sF S M0 (gU (fun a => qD ρ (sn a)) gw M) ∧ sHp sLay (gU (fun a => qD ρ (sn a)) gw M) = sHp sLay M
  | [], mm, M, _, hm, hF => ⟨hm, hF, rfl⟩
  | q :: l, mm, M, h, hm, hF => by
    rw [List.all_cons, Bool.and_eq_true, Bool.and_eq_true] at h
    have hk : Nat.blt q.2.1 1000 = true := by
      have := h.1.1
      unfold zGh at this
      rw [Bool.and_eq_true] at this
      exact this.1
    have ih := qgm_ok (ρ := ρ) (S := S) (M0 := M0) (sn := sn) (gw := l) (mm := (q.1, q.2.1, qSb sn q.2.2) :: qRm mm q.1 q.2.1) (M := sU M q.1 q.2.1 (qD (fun a => qD ρ (sn a)) q.2.2)) h.2 (fun p hp => by
      rcases List.mem_cons.mp hp with rfl | hp
      · show sU M q.1 q.2.1 _ q.1 (zIx ρ q.2.1) = qD ρ (qSb sn q.2.2)
        rw [zix_b hk, sU_at, qd_sb]
      · exact qrm_ok hm p hp) (sf_u hF h.1.2)
    refine ⟨ih.1, ih.2.1, ih.2.2.trans (zgh_ok h.1.1)⟩
/-- places of a rule in a state -/
noncomputable def zKn (f : qF) : Nat := match f with
  | [(1, e)] => 1000 + e
  | _ => 999999999
theorem zkn_ok {ρ : Nat → Int} {f : qF} (h : zKn f < 999999999) : zIx ρ (zKn f) = (qD ρ f).toNat := by
  unfold zKn at h ⊢
  split at h
  · rename_i e
    have hb0 : Nat.blt (1000 + e) 1000 = false := by
      cases hb0 : Nat.blt (1000 + e) 1000 with
      | false => rfl
      | true => have := zblt hb0; omega
    show zIx ρ (1000 + e) = _
    unfold zIx
    rw [hb0, qd_at]
    show (ρ (1000 + e - 1000)).toNat = _
    rw [show 1000 + e - 1000 = e by omega]
    congr 1
    omega
  · exact absurd h (Nat.lt_irrefl _)
noncomputable def zKc (f : qF) : Nat := match qKo f with
  | some c => cond (zNg c) 999999999 (cond (Nat.blt c.toNat 1000) c.toNat 999999999)
  | none => zKn f
theorem zkc_ok {ρ : Nat → Int} (h0 : ρ 0 = 1) {f : qF} (h : zKc f < 999999999) : zIx ρ (zKc f) = (qD ρ f).toNat := by
  unfold zKc at h ⊢
  split at h
  · rename_i c hc
    cases hn : zNg c with
    | true => rw [hn] at h; exact absurd h (Nat.lt_irrefl _)
    | false =>
      rw [hn, cond_false] at h
      rw [cond_false]
      cases hb : Nat.blt c.toNat 1000 with
      | false => rw [hb] at h; exact absurd h (Nat.lt_irrefl _)
      | true => rw [cond_true, zix_b hb, qd_ko h0 hc]
  · exact zkn_ok h
noncomputable def zKey (σ : List qF) (k : Nat) : Nat := cond (Nat.blt k 1000) k (zKc (qSg σ (k - 1000)))
noncomputable def qRa (r : qRu) (g : Nat) (S : sSt) (lv : qLv) (st : List qV) (fs : List qF) (mm mm1 : qMm) (n : Nat) (hs : qHs) : Option qFmH :=
  match qEnts fs (r.2.1.map (qSb (qSg ([(1, 0)] :: hs.take (r.1 - 1))))) (hs.drop (r.1 - 1)) with
  | some hs2 => cond (Nat.blt 0 r.1 && (r.2.2.1.all (fun q => Nat.blt (zKey ([(1, 0)] :: hs.take (r.1 - 1)) q.2.1) 999999999 && qFe mm q.1 (zKey ([(1, 0)] :: hs.take (r.1 - 1)) q.2.1) (qSb (qSg ([(1, 0)] :: hs.take (r.1 - 1))) q.2.2)) && (r.2.2.2.2.1.all (fun q => zGh q.1 q.2.1 && sIn S q.1 q.2.1) && (qScA g n lv st fs mm1 && ((hs.take (r.1 - 1)).all (qSc n) && Nat.ble (qMxM mm) n))))) (some (qPp fs (r.2.2.2.2.2.map (qSb (qSn ([(1, 0)] :: hs.take (r.1 - 1)) r.1 n))), qGm (qSn ([(1, 0)] :: hs.take (r.1 - 1)) r.1 n) r.2.2.2.2.1 mm1, n + 8, hs2)) none
  | none => none
section RA
variable {d K : Nat} {J : pHp} {Q : Option sV → sM → Prop} {M0 : sM} {S : sSt} {g : Nat} {ρ0 : Nat → Int}
/-- mm: what is known ahead of the write, mm1: behind it; M1: the memory behind it -/
theorem qra_ok (hg1 : 0 < g) {r : qRu} (hr : qRok r) {lv : qLv} {st : List qV} {fs : List qF} {mm mm1 : qMm} {n : Nat} {hs : qHs} {q : qFmH} (h : qRa r g S lv st fs mm mm1 n hs = some q) {ρ : Nat → Int} {M M1 : sM} (hg : ∀ a, a < g → ρ a = ρ0 a) (h0 : ρ 0 = 1) (hf : ∀ f ∈ fs, 0 ≤ qD ρ f) (hm : ∀ q ∈ mm, M q.1 (zIx ρ q.2.1) = qD ρ q.2.2) (hm1 : ∀ q ∈ mm1, M1 q.1 (zIx ρ q.2.1) = qD ρ q.2.2) (hI : sI M) (hF : sF S M0 M1) (hM1 : mW (fun a => qD ρ (qSg ([(1, 0)] :: hs.take (r.1 - 1)) a)) r.2.2.2.1 M = M1) :
    ∃ (ρ2 : Nat → Int) (M2 : sM), (∀ a, a < g → ρ2 a = ρ0 a) ∧ ρ2 0 = 1 ∧ (∀ f ∈ q.1, 0 ≤ qD ρ2 f) ∧ (∀ p ∈ q.2.1, M2 p.1 (zIx ρ2 p.2.1) = qD ρ2 p.2.2) ∧ sI M2 ∧ sF S M0 M2 ∧ sHp sLay M2 = sHp sLay M1 ∧ qDL ρ2 lv = qDL ρ lv ∧ qDS ρ2 st = qDS ρ st := by
  unfold qRa at h
  split at h
  · rename_i hs2 hen
    obtain ⟨h1, h2⟩ := zcond h
    cases h2
    rw [Bool.and_eq_true, Bool.and_eq_true, Bool.and_eq_true, Bool.and_eq_true, Bool.and_eq_true] at h1
    obtain ⟨g1, g2, g3, g4, g5, g6⟩ := h1
    generalize hσ : ([(1, 0)] :: hs.take (r.1 - 1) : List qF) = σ at *
    have hn0 : 0 < n := by have := (qsa g4).1; omega
    have hσsc : ∀ b, qSc n (qSg σ b) = true := by
      intro b
      unfold qSg
      cases hb : σ[b]? with
      | none => rfl
      | some f =>
        have hmem := List.mem_of_getElem? hb
        rw [← hσ] at hmem
        rcases List.mem_cons.mp hmem with rfl | hmem
        · show (Nat.blt 0 n && true) = true
          rw [show Nat.blt 0 n = true from Nat.ble_eq_true_of_le hn0]; rfl
        · exact List.all_eq_true.mp g5 f hmem
    have hρ0 : qD ρ (qSg σ 0) = 1 := by
      rw [← hσ]
      show qD ρ [(1, 0)] = 1
      rw [qd_at, h0]; rfl
    have hel : ∀ p ∈ r.2.2.1, M p.1 (zIx (fun a => qD ρ (qSg σ a)) p.2.1) = qD (fun a => qD ρ (qSg σ a)) p.2.2 := by
      intro p hp
      have h3 := List.all_eq_true.mp g2 p hp
      rw [Bool.and_eq_true] at h3
      have h4 := qfind_ok hm (qfe_ok h3.2)
      rw [qd_sb] at h4
      rw [← h4]
      congr 1
      have hlt := zblt h3.1
      unfold zKey at hlt ⊢
      cases hk : Nat.blt p.2.1 1000 with
      | true => rw [hk] at hlt; rw [cond_true, zix_b hk, zix_b hk]
      | false =>
        rw [hk, cond_false] at hlt
        rw [cond_false]
        have hz1 : zIx (fun a => qD ρ (qSg σ a)) p.2.1 = (qD ρ (qSg σ (p.2.1 - 1000))).toNat := by
          unfold zIx
          rw [hk]; rfl
        rw [hz1]
        exact (zkc_ok h0 hlt).symm
    obtain ⟨ρ', e1, e2, e3⟩ := hr (fun a => qD ρ (qSg σ a)) M hρ0 (fun f hf' => by
      have := qents_ok h0 hf hen _ (List.mem_map_of_mem hf')
      rw [qd_sb] at this
      exact this) hel hI
    rw [hM1] at e3
    obtain ⟨a1, a2, a3, a4, a5, a6⟩ := qg_new (ρ1 := fun b => ρ' (r.1 + (b - n))) hg1 g4 hg h0 hf hm1
    generalize hρn : qUp ρ (fun b => ρ' (r.1 + (b - n))) n = ρn at *
    have hlt : ∀ b, b < n → ρn b = ρ b := fun b hb => by rw [← hρn]; exact qup_lt hb
    have hge : ∀ b, ρn (n + b) = ρ' (r.1 + b) := fun b => by
      rw [← hρn, qup_ge (by omega), show n + b - n = b by omega]
    have hsn : ∀ b, qD ρn (qSn σ r.1 n b) = ρ' b := by
      intro b
      unfold qSn
      cases hb : Nat.blt b r.1 with
      | true =>
        show qD ρn (qSg σ b) = ρ' b
        rw [qd_sc hlt (hσsc b), e1 b (zblt hb)]
      | false =>
        show qD ρn [(1, n + (b - r.1))] = ρ' b
        have hb2 : r.1 ≤ b := by
          rcases Nat.lt_or_ge b r.1 with h | h
          · have : Nat.blt b r.1 = true := Nat.ble_eq_true_of_le h
            rw [this] at hb; cases hb
          · exact h
        rw [qd_at, hge, show r.1 + (b - r.1) = b by omega]
        omega
    have hfun : (fun a => qD ρn (qSn σ r.1 n a)) = ρ' := funext hsn
    obtain ⟨c1, c2, c3⟩ := qgm_ok (sn := qSn σ r.1 n) g3 a4 hF
    rw [hfun] at c1 c2 c3
    refine ⟨ρn, gU ρ' r.2.2.2.2.1 M1, a1, a2, ?_, c1, e3, c2, c3, a5, a6⟩
    intro f hf'
    rcases qpp_mem hf' with hf' | hf'
    · exact a3 f hf'
    · obtain ⟨f0, hf0, rfl⟩ := List.mem_map.mp hf'
      rw [qd_sb, hfun]
      exact e2 f0 hf0
  · cases h
theorem sr_hp {lay : List sCl} {pc : Nat} {lv : sLv} {st : List sV} {M M' : sM} (h : sHp lay M = sHp lay M') (k : sR lay d K J pc lv st M Q) : sR lay d K J pc lv st M' Q := by
  obtain ⟨n, rv, M2, h1, h2⟩ := k
  exact ⟨n, rv, M2, by rw [← h]; exact h1, h2⟩
/-- a rule without a write -/
theorem qg_rul (hg1 : 0 < g) {r : qRu} (hr : qRok r) (hw : r.2.2.2.1 = []) {pc : Nat} {lv : qLv} {st : List qV} {fs : List qF} {mm : qMm} {n : Nat} {hs : qHs} {q : qFmH} (h : qRa r g S lv st fs mm mm n hs = some q) (k : qG d K J Q M0 S g ρ0 pc lv st q.1 q.2.1) : qG d K J Q M0 S g ρ0 pc lv st fs mm := by
  intro ρ M hg h0 hf hm hI hF
  obtain ⟨ρ2, M2, e1, e2, e3, e4, e5, e6, e7, e8, e9⟩ := qra_ok (M1 := M) hg1 hr h hg h0 hf hm hm hI hF (by rw [hw]; rfl)
  have h3 := k ρ2 M2 e1 e2 e3 e4 e5 e6
  rw [e8, e9] at h3
  exact sr_hp e7 h3
/-- fields of truth get 0 or 1 as they stand -/
noncomputable def qFb (ci k : Nat) (v : qF) : Bool := qFt ci k 0 none || (match qKo v with | some c => (c == 0 || c == 1) && qFt ci k 0 (some (0, 1)) | none => false)
theorem qfb_ok {ρ : Nat → Int} (h0 : ρ 0 = 1) {c ci k : Nat} {ini : Bool} {v : qF} (h : qFb ci k v = true) : pFit false c ini ci k (sE (0, qD ρ v)) = true := by
  unfold qFb at h
  rw [Bool.or_eq_true] at h
  rcases h with h | h
  · exact qft_ok h (fun _ h => nomatch h)
  · split at h
    · rename_i z hz
      rw [Bool.and_eq_true, Bool.or_eq_true] at h
      have e := qd_ko h0 hz
      refine qft_ok h.2 (fun q hq => ?_)
      cases hq
      rw [e]
      rcases h.1 with h1 | h1
      · have h2 : z = 0 := by simpa using h1
        subst h2
        exact ⟨by decide, by decide⟩
      · have h2 : z = 1 := by simpa using h1
        subst h2
        exact ⟨by decide, by decide⟩
    · cases h
/-- what is known behind a write of an array -/
noncomputable def qWk (mm : qMm) (o : Nat) (x v : qF) : qMm := match qKo x with
  | some c => cond (zNg c) (qRmF mm o 1) (cond (Nat.blt c.toNat 1000) ((o, c.toNat, v) :: qRm mm o c.toNat) (qRmF mm o 1))
  | none => (match x with
    | [(1, e)] => (o, 1000 + e, v) :: qRmF mm o 1
    | _ => qRmF mm o 1)
theorem qwk_ok {ρ : Nat → Int} (h0 : ρ 0 = 1) {M : sM} {mm : qMm} {o : Nat} {x v : qF} (hm : ∀ q ∈ mm, M q.1 (zIx ρ q.2.1) = qD ρ q.2.2) : ∀ p ∈ qWk mm o x v, sU M o (qD ρ x).toNat (qD ρ v) p.1 (zIx ρ p.2.1) = qD ρ p.2.2 := by
  have hmF : ∀ p' ∈ qRmF mm o 1, sU M o (qD ρ x).toNat (qD ρ v) p'.1 (zIx ρ p'.2.1) = qD ρ p'.2.2 := qrmf_ok (Nat.le_refl o) (by omega) hm
  intro p hp
  unfold qWk at hp
  split at hp
  · rename_i c hc
    have ec := qd_ko h0 hc
    cases hn : zNg c with
    | true => rw [hn] at hp; exact hmF p hp
    | false =>
      rw [hn, cond_false] at hp
      cases hb : Nat.blt c.toNat 1000 with
      | false => rw [hb] at hp; exact hmF p hp
      | true =>
        rw [hb, cond_true] at hp
        rw [ec]
        rcases List.mem_cons.mp hp with rfl | hp
        · show sU M o c.toNat (qD ρ v) o (zIx ρ c.toNat) = qD ρ v
          rw [zix_b hb]
          exact sU_at _ _ _ _
        · exact qrm_ok hm p hp
  · split at hp
    · rename_i e _
      rcases List.mem_cons.mp hp with rfl | hp
      · have hb0 : Nat.blt (1000 + e) 1000 = false := by
          cases hb0 : Nat.blt (1000 + e) 1000 with
          | false => rfl
          | true => have := zblt hb0; omega
        have hz2 : zIx ρ (1000 + e) = (ρ e).toNat := by
          unfold zIx
          rw [hb0]
          show (ρ (1000 + e - 1000)).toNat = _
          rw [show 1000 + e - 1000 = e by omega]
        have hxe : qD ρ [(1, e)] = ρ e := by rw [qd_at]; omega
        show sU M o (qD ρ [(1, e)]).toNat (qD ρ v) o (zIx ρ (1000 + e)) = qD ρ v
        rw [hz2, hxe]
        exact sU_at _ _ _ _
      · exact hmF p hp
    · exact hmF p hp
/-- a write by a rule: length, stack, facts, memory, names, hints -/
noncomputable def qWr (r : qRu) (g : Nat) (S : sSt) (i : Instr) (a : Nat) (lv : qLv) (st : List qV) (fs : List qF) (mm : qMm) (n : Nat) (hs : qHs) : Option (Nat × List qV × qFmH) := match i with
  | .putfield _ => match st with
    | (0, v) :: (2, x) :: rest => (match qRef x with
      | some o => (match sLay[o]? with
        | some c => (match c.2[a % 100]? with
          | some (0, _) => (match r.2.2.2.1 with
            | [w] => (match qRa r g S lv rest fs mm ((o, a % 100, v) :: qRm mm o (a % 100)) n hs with
              | some q => cond (Nat.beq c.1 (a / 100) && (Nat.blt c.1 13 && (sIn S o (a % 100) && (qFb c.1 (a % 100) v && (Nat.beq w.1 o && ((qSb (qSg ([(1, 0)] :: hs.take (r.1 - 1))) w.2.1 == qCn ((a % 100 : Nat) : Int)) && (qSb (qSg ([(1, 0)] :: hs.take (r.1 - 1))) w.2.2 == v))))))) (some (3, rest, q)) none
              | none => none)
            | _ => none)
          | _ => none)
        | none => none)
      | none => none)
    | _ => none
  | .iastore => match st with
    | (0, v) :: (0, x) :: (2, y) :: rest => (match qRef y with
      | some o => (match qArr o with
        | some p => (match hs with
          | u :: t :: hs0 => (match r.2.2.2.1 with
            | [w] => (match qRa r g S lv rest fs mm (qWk mm o x v) n hs0 with
              | some q => cond (Nat.beq p.2.1 20 && (qEnt fs x u && (qEnt fs (qSub (qCn ((p.2.2 : Int) - 1)) x) t && (sInX S o x && (Nat.beq w.1 o && ((qSb (qSg ([(1, 0)] :: hs0.take (r.1 - 1))) w.2.1 == x) && (qSb (qSg ([(1, 0)] :: hs0.take (r.1 - 1))) w.2.2 == v))))))) (some (1, rest, q)) none
              | none => none)
            | _ => none)
          | _ => none)
        | none => none)
      | none => none)
    | _ => none
  | _ => none
theorem qwr_ok (hg1 : 0 < g) {r : qRu} (hr : qRok r) {i : Instr} {pc len a : Nat} {lv : qLv} {st : List qV} {fs : List qF} {mm : qMm} {n : Nat} {hs : qHs} {q : Nat × List qV × qFmH} (he : (pc, i, len, a) ∈ pTs.getD K []) (ha : a < 99999) (h : qWr r g S i a lv st fs mm n hs = some q) (hlen : q.1 = len) (k : qG d K J Q M0 S g ρ0 (pc + len) lv q.2.1 q.2.2.1 q.2.2.2.1) : qG d K J Q M0 S g ρ0 pc lv st fs mm := by
  intro ρ M hg h0 hf hm hI hF
  unfold qWr at h
  split at h
  · rename_i ix0
    split at h
    · rename_i v x rest
      split at h
      · rename_i o ho
        have hx := qref_ok h0 ho
        split at h
        · rename_i c hl
          split at h
          · rename_i u hq
            split at h
            · rename_i w hw
              split at h
              · rename_i z hz
                obtain ⟨h1, h2⟩ := zcond h
                subst h2
                subst hlen
                rw [Bool.and_eq_true, Bool.and_eq_true, Bool.and_eq_true, Bool.and_eq_true, Bool.and_eq_true, Bool.and_eq_true] at h1
                obtain ⟨g1, g2, g3, g4, g5, g6, g7⟩ := h1
                have hM1 : mW (fun a => qD ρ (qSg ([(1, 0)] :: hs.take (r.1 - 1)) a)) r.2.2.2.1 M = sU M o (a % 100) (qD ρ v) := by
                  rw [hw]
                  show sU M w.1 (qD _ w.2.1).toNat (qD _ w.2.2) = _
                  rw [← qd_sb, ← qd_sb, eq_of_beq g6, eq_of_beq g7, qd_cn h0, Nat.eq_of_beq_eq_true g5]
                  rfl
                obtain ⟨ρ2, M2, e1, e2, e3, e4, e5, e6, e7, e8, e9⟩ := qra_ok (M1 := sU M o (a % 100) (qD ρ v)) hg1 hr hz hg h0 hf hm (fun p hp => by
                  rcases List.mem_cons.mp hp with rfl | hp
                  · show sU M o (a % 100) (qD ρ v) o (zIx ρ (a % 100)) = qD ρ v
                    rw [zix_lt (by omega)]
                    exact sU_at _ _ _ _
                  · exact qrm_ok hm p hp) hI (sf_u hF g3) hM1
                have h3 := k ρ2 M2 e1 e2 e3 e4 e5 e6
                rw [e8, e9] at h3
                have hp := zm_put (M := M) (J := J) (c := (pMt K).1) (ini := (pMt K).2.1.name == "<init>") (ix := ix0) (rest := (qDS ρ rest).map sE) (v := qD ρ v) hl ⟨Nat.eq_of_beq_eq_true g1, zblt g2⟩ hq (qfb_ok h0 g4)
                refine sr_stp he ha rfl (Or.inr (Or.inr (Or.inr (Or.inr ⟨_, _, ?_, rfl⟩)))) (sr_hp e7 h3)
                refine Eq.trans ?_ hp
                show pMem false _ _ _ a (sE (0, qD ρ v) :: Value.ref (qD ρ x).toNat :: (qDS ρ rest).map sE) _ = _
                rw [hx]
                rfl
              · cases h
            · cases h
          · cases h
        · cases h
      · cases h
    · cases h
  · split at h
    · rename_i v x y rest
      split at h
      · rename_i o ho
        have hy := qref_ok h0 ho
        split at h
        · rename_i p hp
          obtain ⟨hl, hb⟩ := qarr_ok hp
          split at h
          · rename_i u t hs0
            split at h
            · rename_i w hw
              split at h
              · rename_i z hz
                obtain ⟨h1, h2⟩ := zcond h
                subst h2
                subst hlen
                rw [Bool.and_eq_true, Bool.and_eq_true, Bool.and_eq_true, Bool.and_eq_true, Bool.and_eq_true, Bool.and_eq_true] at h1
                obtain ⟨g1, g2, g3, g4, g5, g6, g7⟩ := h1
                have hx0 := qd_ent h0 hf g2
                have hx1 := qd_ent h0 hf g3
                rw [qd_sub, qd_cn h0] at hx1
                have et := Nat.eq_of_beq_eq_true g1
                rw [et] at hl
                have hM1 : mW (fun a => qD ρ (qSg ([(1, 0)] :: hs0.take (r.1 - 1)) a)) r.2.2.2.1 M = sU M o (qD ρ x).toNat (qD ρ v) := by
                  rw [hw]
                  show sU M w.1 (qD _ w.2.1).toNat (qD _ w.2.2) = _
                  rw [← qd_sb, ← qd_sb, eq_of_beq g6, eq_of_beq g7, Nat.eq_of_beq_eq_true g5]
                obtain ⟨ρ2, M2, e1, e2, e3, e4, e5, e6, e7, e8, e9⟩ := qra_ok (M1 := sU M o (qD ρ x).toNat (qD ρ v)) hg1 hr hz hg h0 hf hm (qwk_ok h0 hm) hI (sf_u hF (sinx_ok h0 g4)) hM1
                have h3 := k ρ2 M2 e1 e2 e3 e4 e5 e6
                rw [e8, e9] at h3
                have hp2 := zm_st (M := M) (J := J) (c := (pMt K).1) (ini := (pMt K).2.1.name == "<init>") (a := a) (rest := (qDS ρ rest).map sE) (kd := 0) (i := .iastore) (v := qD ρ v) (w := .int (Int32.ofInt (qD ρ v))) (Or.inl ⟨rfl, rfl, _, rfl, rfl⟩) hl hx0 (by omega) hb
                refine sr_stp he ha rfl (Or.inr (Or.inr (Or.inr (Or.inr ⟨_, _, ?_, rfl⟩)))) (sr_hp e7 h3)
                refine Eq.trans ?_ hp2
                show pMem false _ _ _ a (sE (0, qD ρ v) :: Value.int (Int32.ofInt (qD ρ x)) :: Value.ref (qD ρ y).toNat :: (qDS ρ rest).map sE) _ = _
                rw [hy]
                rfl
              · cases h
            · cases h
          · cases h
        · cases h
      · cases h
    · cases h
  · cases h
end RA
