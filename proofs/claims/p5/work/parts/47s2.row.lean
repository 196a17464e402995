/-! RULES OF THE MACHINE OF LINES: each row of its table is a rule (what lies there: the registers that it names). -/
def tNs (r : tRow) : List Nat := r.1.flatMap (fun f => f.map (fun q => q.2)) ++ r.2.1.flatMap (fun u => u.2.map (fun q => q.2))
def tNk (r : tRow) : List Nat := ((tNs r).filter (fun a => Nat.blt 0 a && Nat.blt a 33) ++ cond (Nat.beq r.2.2.1 1) [26, 28, 32] (cond (Nat.beq r.2.2.1 2) [27] (cond (Nat.beq r.2.2.1 3) [8, 5, 6, 7] [])) ++ (cond ((tNs r).any (fun b => Nat.beq b 33)) [14] [] ++ (cond ((tNs r).any (fun b => Nat.beq b 35)) [16, 29] [] ++ cond ((tNs r).any (fun b => Nat.beq b 36)) [17, 29] []))).eraseDups
def tHas (r : tRow) (a : Nat) : Bool := (tNs r).any (fun b => Nat.beq b a)
def tFl (r : tRow) : List qF := [(-1, 0), (1, 37)] :: r.1 ++ (cond (tHas r 33) [[(1, 14), (-1, 33), (-2, 34)], [(-1, 14), (1, 33), (2, 34)], [(1, 33)], [(1, 0), (-1, 33)]] [] ++ r.2.1.flatMap (fun u => cond (Nat.blt u.1 40) [] (cond (Nat.blt u.1 50) [[(((u.1 - 40 : Nat) : Int), 0), (-1, 39)]] (cond (Nat.blt u.1 60) [[(((u.1 - 50 : Nat) : Int), 0), (-1, 40)]] [[(((u.1 - 60 : Nat) : Int), 0), (-1, 41)]]))))
def tEl (r : tRow) : qMm := [(4, 100, [(1, 37)]), (4, 101, [(1, 38)]), (4, 210, []), (4, 230, [])] ++ (tNk r).map (fun a => (3, 19 + a, [(1, a)])) ++ (cond (r.2.1.any (fun u => Nat.ble 40 u.1)) [(4, 104, [(1, 39)]), (4, 105, [(1, 40)]), (4, 106, [(1, 41)])] [] ++ (cond (tHas r 35) [(91, 240, [(1, 0)]), (91, 241, [(1, 0)]), (91, 242, [(1, 29)]), (91, 244, [(1, 35)]), (91, 246, [(1, 16)])] [] ++ cond (tHas r 36) [(91, 240, [(1, 0)]), (91, 241, [(1, 0)]), (91, 242, [(1, 29)]), (91, 244, [(1, 36)]), (91, 246, [(1, 17)])] []))
def tSw : qMm := [(4, 102, [(1, 28)]), (4, 107, [(1, 26)]), (4, 108, [(1, 32)]), (3, 44, [(1, 42)]), (3, 45, [(1, 43)]), (3, 46, [(1, 44)]), (3, 47, [(1, 45)]), (3, 48, [(1, 46)]), (3, 49, [(1, 47)]), (3, 50, [(1, 48)]), (3, 51, [(1, 49)])]
def tGw (r : tRow) : qMm := r.2.1.map (fun u => (3, 20 + u.1, u.2)) ++ cond (Nat.beq r.2.2.1 1) tSw []
def tCl (r : tRow) : List qF := cond (Nat.beq r.2.2.1 1) [[(-1, 0), (1, 42)], [(41, 0), (-1, 42)], [(-1, 28), (1, 44)], [(-1, 44), (1, 45)], [(1, 38), (-1, 45)], [(1, 0), (1, 46)], [(1, 48)], [(5, 0), (-1, 48)]] []
def tRu (r : tRow) : qRu := (42, tFl r, tEl r, [], tGw r, tCl r)
/-- what is written outside the heap, looked up -/
theorem gu_ne {ρ : Nat → Int} : ∀ {gw : qMm} {M : sM} {o k : Nat}, (∀ q ∈ gw, ¬ (q.1 = o ∧ q.2.1 = k)) → gU ρ gw M o k = M o k
  | [], _, _, _, _ => rfl
  | q :: l, M, o, k, h => by
    show gU ρ l (sU M q.1 q.2.1 (qD ρ q.2.2)) o k = M o k
    rw [gu_ne (fun p hp => h p (List.mem_cons_of_mem _ hp))]
    exact sU_ne (fun z => h q List.mem_cons_self ⟨z.1.symm, z.2.symm⟩)
def gDp : qMm → Bool
  | [] => true
  | q :: l => l.all (fun p => !(Nat.beq p.1 q.1 && Nat.beq p.2.1 q.2.1)) && gDp l
theorem gu_at {ρ : Nat → Int} : ∀ {gw : qMm} {M : sM} {q : Nat × Nat × qF}, gDp gw = true → q ∈ gw → gU ρ gw M q.1 q.2.1 = qD ρ q.2.2
  | [], _, _, _, h => nomatch h
  | p :: l, M, q, h, hq => by
    have h' : (l.all (fun a => !(Nat.beq a.1 p.1 && Nat.beq a.2.1 p.2.1)) && gDp l) = true := h
    rw [Bool.and_eq_true] at h'
    show gU ρ l (sU M p.1 p.2.1 (qD ρ p.2.2)) q.1 q.2.1 = qD ρ q.2.2
    rcases List.mem_cons.mp hq with rfl | hq
    · rw [gu_ne (fun a ha => ?_), sU_at]
      intro z
      have := List.all_eq_true.mp h'.1 a ha
      rw [z.1, z.2, Nat.beq_refl, Nat.beq_refl] at this
      cases this
    · exact gu_at h'.2 hq
/-- ghost places of the cells 3 and 4 -/
theorem srg_3 (k : Nat) : sRg 3 k = none := rfl
theorem srg_4 (k : Nat) : sRg 4 k = none := rfl
theorem si_34 {M M' : sM} (hI : sI M) (h : ∀ o k, o ≠ 3 → o ≠ 4 → M' o k = M o k) (hc : XC M') : sI M' := by
  refine ⟨fun o k r hr => ?_, ?_⟩
  · by_cases h3 : o = 3
    · subst h3; rw [srg_3] at hr; cases hr
    · by_cases h4 : o = 4
      · subst h4; rw [srg_4] at hr; cases hr
      · rw [h o k h3 h4]
        exact hI.1 o k r hr
  · exact xi_34 h hI.2 hc
theorem qd_cg {ρ σ : Nat → Int} : ∀ {f : qF}, (∀ q ∈ f, ρ q.2 = σ q.2) → qD ρ f = qD σ f
  | [], _ => rfl
  | q :: f, h => by
    show q.1 * ρ q.2 + qD ρ f = q.1 * σ q.2 + qD σ f
    rw [h q List.mem_cons_self, qd_cg (fun p hp => h p (List.mem_cons_of_mem _ hp))]
/-- what every row keeps to: registers that are written, names -/
def tFit (r : tRow) : Bool := r.2.1.all (fun u => Nat.blt u.1 24 || (Nat.ble 40 u.1 && Nat.blt u.1 63)) && (gDp (tGw r) && ((tNs r).all (fun a => Nat.beq a 0 || (Nat.blt a 33 || (Nat.blt a 35 && (tHas r 33 && (tNk r).any (fun b => Nat.beq b 14)) || (Nat.beq a 35 && ((tNk r).any (fun b => Nat.beq b 16) && (tNk r).any (fun b => Nat.beq b 29)) || (Nat.beq a 36 && ((tNk r).any (fun b => Nat.beq b 17) && (tNk r).any (fun b => Nat.beq b 29))))))) && r.2.1.all (fun u => Nat.blt u.1 40 || (Nat.blt u.1 49 || (Nat.ble 50 u.1 && Nat.blt u.1 56 || Nat.ble 60 u.1)))))
theorem tfit_all : tTab.all tFit = true := by decide +kernel
section ROW
variable {r : tRow} {ρ : Nat → Int} {M : sM}
/-- the names of a row are the registers -/
theorem trho_eq (hr : tFit r = true) (h0 : ρ 0 = 1) (hf : ∀ f ∈ tFl r, 0 ≤ qD ρ f) (hm : ∀ q ∈ tEl r, M q.1 (zIx ρ q.2.1) = qD ρ q.2.2) (hI : sI M) : ∀ a ∈ tNs r, tRho (tCf M) a = ρ a := by
  intro a ha
  unfold tFit at hr
  rw [Bool.and_eq_true, Bool.and_eq_true, Bool.and_eq_true] at hr
  have h1 := List.all_eq_true.mp hr.2.2.1 a ha
  have hreg : ∀ b, b ∈ tNk r → b < 33 → 0 < b → tCf M (b - 1) = ρ b := fun b hb hb1 hb2 => by
    have h := hm (3, 19 + b, [(1, b)]) (by
      unfold tEl
      refine List.mem_append_left _ (List.mem_append_right _ (List.mem_map.mpr ⟨b, hb, rfl⟩)))
    have e : M 3 (19 + b) = 1 * ρ b + 0 := by
      have e2 : zIx ρ (19 + b) = 19 + b := zix_lt (by omega)
      rw [show M 3 (19 + b) = M 3 (zIx ρ (19 + b)) by rw [e2]]
      exact h
    show (if b - 1 < 70 then M 3 (20 + (b - 1)) else 0) = ρ b
    rw [if_pos (by omega), show 20 + (b - 1) = 19 + b by omega, e]
    omega
  have hany : ∀ {c : Nat}, (tNk r).any (fun b => Nat.beq b c) = true → c ∈ tNk r := fun h => by
    obtain ⟨b, hb, e⟩ := List.any_eq_true.mp h
    rw [← Nat.eq_of_beq_eq_true e]; exact hb
  rw [Bool.or_eq_true, Bool.or_eq_true] at h1
  rcases h1 with h1 | h1 | h1
  · rw [Nat.eq_of_beq_eq_true h1, h0]; rfl
  · have hlt := zblt h1
    by_cases ha0 : a = 0
    · rw [ha0, h0]; rfl
    have hk : a ∈ tNk r := by
      unfold tNk
      rw [List.mem_eraseDups]
      refine List.mem_append_left _ (List.mem_append_left _ (List.mem_filter.mpr ⟨ha, ?_⟩))
      rw [Bool.and_eq_true]
      exact ⟨Nat.ble_eq_true_of_le (by omega), Nat.ble_eq_true_of_le (by omega)⟩
    unfold tRho
    rw [if_neg ha0, if_neg (by omega), if_neg (by omega), if_neg (by omega), if_neg (by omega)]
    exact hreg a hk hlt (by omega)
  · rw [Bool.or_eq_true] at h1
    rcases h1 with h1 | h1
    · rw [Bool.and_eq_true, Bool.and_eq_true] at h1
      obtain ⟨h2, h3, h4⟩ := h1
      have h14 := hreg 14 (hany h4) (by omega) (by omega)
      have g1 := hf [(1, 14), (-1, 33), (-2, 34)] (by unfold tFl; rw [h3]; exact List.mem_append_right _ (List.mem_append_left _ (by simp [cond_true])))
      have g2 := hf [(-1, 14), (1, 33), (2, 34)] (by unfold tFl; rw [h3]; exact List.mem_append_right _ (List.mem_append_left _ (by simp [cond_true])))
      have g3 := hf [(1, 33)] (by unfold tFl; rw [h3]; exact List.mem_append_right _ (List.mem_append_left _ (by simp [cond_true])))
      have g4 := hf [(1, 0), (-1, 33)] (by unfold tFl; rw [h3]; exact List.mem_append_right _ (List.mem_append_left _ (by simp [cond_true])))
      simp only [qD, h0] at g1 g2 g3 g4
      have h14' : tCf M 13 = ρ 14 := h14
      by_cases e33 : a < 33
      · by_cases ha0 : a = 0
        · rw [ha0, h0]; rfl
        have hk : a ∈ tNk r := by
          unfold tNk
          rw [List.mem_eraseDups]
          refine List.mem_append_left _ (List.mem_append_left _ (List.mem_filter.mpr ⟨ha, ?_⟩))
          rw [Bool.and_eq_true]
          exact ⟨Nat.ble_eq_true_of_le (by omega), Nat.ble_eq_true_of_le (by omega)⟩
        unfold tRho
        rw [if_neg ha0, if_neg (by omega), if_neg (by omega), if_neg (by omega), if_neg (by omega)]
        exact hreg a hk e33 (by omega)
      · have hlt := zblt h2
        have e : a = 33 ∨ a = 34 := by omega
        rcases e with rfl | rfl
        · show tCf M 13 % 2 = ρ 33
          rw [h14']; omega
        · show tCf M 13 / 2 = ρ 34
          rw [h14']; omega
    · have hcell : ∀ k f, (91, k, f) ∈ tEl r → k < 1000 → M 91 k = qD ρ f := fun k f h hk => by
        have h2 := hm _ h
        have h3 : M 91 (zIx ρ k) = qD ρ f := h2
        rw [zix_lt hk] at h3
        exact h3
      have hmk : M 91 240 = 1 → M 91 243 = xop 4 (M 91 241) (M 91 242) ∧ M 91 244 = xop 5 (M 91 246) (M 91 243) := fun h => by
        have := gx_xSD hI h
        exact ⟨this.1, this.2.1⟩
      rw [Bool.or_eq_true] at h1
      rcases h1 with h1 | h1
      · rw [Bool.and_eq_true, Bool.and_eq_true] at h1
        obtain ⟨h2, h3, h4⟩ := h1
        have ea := Nat.eq_of_beq_eq_true h2
        subst ea
        have hh : tHas r 35 = true := List.any_eq_true.mpr ⟨35, ha, Nat.beq_refl _⟩
        have hin : ∀ q, q ∈ ([(91, 240, [(1, 0)]), (91, 241, [(1, 0)]), (91, 242, [(1, 29)]), (91, 244, [(1, 35)]), (91, 246, [(1, 16)])] : qMm) → q ∈ tEl r := fun q hq => by
          unfold tEl
          refine List.mem_append_right _ (List.mem_append_right _ (List.mem_append_left _ ?_))
          rw [hh]; exact hq
        have c1 := hcell 240 [(1, 0)] (hin _ (by simp)) (by omega)
        have c2 := hcell 241 [(1, 0)] (hin _ (by simp)) (by omega)
        have c3 := hcell 242 [(1, 29)] (hin _ (by simp)) (by omega)
        have c4 := hcell 244 [(1, 35)] (hin _ (by simp)) (by omega)
        have c5 := hcell 246 [(1, 16)] (hin _ (by simp)) (by omega)
        simp only [qD, h0] at c1 c2 c3 c4 c5
        obtain ⟨k1, k2⟩ := hmk (by omega)
        have r16 : tCf M 15 = ρ 16 := hreg 16 (hany h3) (by omega) (by omega)
        have r29 : tCf M 28 = ρ 29 := hreg 29 (hany h4) (by omega) (by omega)
        show xop 5 (tCf M 15) (xop 4 1 (tCf M 28)) = ρ 35
        rw [r16, r29, ← show M 91 246 = ρ 16 by omega, ← show M 91 242 = ρ 29 by omega, ← show M 91 241 = 1 by omega, ← k1, ← k2]
        omega
      · rw [Bool.and_eq_true, Bool.and_eq_true] at h1
        obtain ⟨h2, h3, h4⟩ := h1
        have ea := Nat.eq_of_beq_eq_true h2
        subst ea
        have hh : tHas r 36 = true := List.any_eq_true.mpr ⟨36, ha, Nat.beq_refl _⟩
        have hin : ∀ q, q ∈ ([(91, 240, [(1, 0)]), (91, 241, [(1, 0)]), (91, 242, [(1, 29)]), (91, 244, [(1, 36)]), (91, 246, [(1, 17)])] : qMm) → q ∈ tEl r := fun q hq => by
          unfold tEl
          refine List.mem_append_right _ (List.mem_append_right _ (List.mem_append_right _ ?_))
          rw [hh]; exact hq
        have c1 := hcell 240 [(1, 0)] (hin _ (by simp)) (by omega)
        have c2 := hcell 241 [(1, 0)] (hin _ (by simp)) (by omega)
        have c3 := hcell 242 [(1, 29)] (hin _ (by simp)) (by omega)
        have c4 := hcell 244 [(1, 36)] (hin _ (by simp)) (by omega)
        have c5 := hcell 246 [(1, 17)] (hin _ (by simp)) (by omega)
        simp only [qD, h0] at c1 c2 c3 c4 c5
        obtain ⟨k1, k2⟩ := hmk (by omega)
        have r17 : tCf M 16 = ρ 17 := hreg 17 (hany h3) (by omega) (by omega)
        have r29 : tCf M 28 = ρ 29 := hreg 29 (hany h4) (by omega) (by omega)
        show xop 5 (tCf M 16) (xop 4 1 (tCf M 28)) = ρ 36
        rw [r17, r29, ← show M 91 246 = ρ 17 by omega, ← show M 91 242 = ρ 29 by omega, ← show M 91 241 = 1 by omega, ← k1, ← k2]
        omega
/-- ghost places that a row with data writes beside -/
def dGk (k : Nat) : Bool := (Nat.ble 104 k && Nat.ble k 106) || (Nat.beq k 311 || (Nat.beq k 313 || Nat.beq k 314))
def dEo (E : qMm) : Bool := E.all (fun q => Nat.beq q.1 4 && dGk q.2.1)
theorem tgw_34 : ∀ q ∈ tGw r, q.1 = 3 ∨ (q.1 = 4 ∧ (q.2.1 = 102 ∨ q.2.1 = 107 ∨ q.2.1 = 108)) := by
  intro q hq
  unfold tGw at hq
  rcases List.mem_append.mp hq with hq | hq
  · obtain ⟨u, _, rfl⟩ := List.mem_map.mp hq
    exact Or.inl rfl
  · cases hb : Nat.beq r.2.2.1 1 with
    | false => rw [hb] at hq; exact absurd hq List.not_mem_nil
    | true =>
      rw [hb, cond_true] at hq
      unfold tSw at hq
      simp only [List.mem_cons, List.not_mem_nil, or_false] at hq
      rcases hq with rfl | rfl | rfl | rfl | rfl | rfl | rfl | rfl | rfl | rfl | rfl
      · exact Or.inr ⟨rfl, Or.inl rfl⟩
      · exact Or.inr ⟨rfl, Or.inr (Or.inl rfl)⟩
      · exact Or.inr ⟨rfl, Or.inr (Or.inr rfl)⟩
      all_goals exact Or.inl rfl
theorem row_keep {z : sSt} {M M' : sM} (ha : ∀ o k, o ≠ 3 → ¬ (o = 4 ∧ (k = 102 ∨ k = 107 ∨ k = 108 ∨ dGk k = true)) → M' o k = M o k) (h3 : sInC z 3 = false) (h4 : sIn z 4 102 = false) (h5 : sIn z 4 107 = false) (h6 : sIn z 4 108 = false) (h7 : ([104, 105, 106, 311, 313, 314].all (fun k => !(sIn z 4 k))) = true) : ∀ o k, sIn z o k = true → M' o k = M o k := by
  intro o k hz
  refine ha o k (fun e => ?_) (fun e => ?_)
  · subst e
    rw [sinc_ok h3] at hz; cases hz
  · obtain ⟨rfl, e⟩ := e
    rcases e with rfl | rfl | rfl | e
    · rw [h4] at hz; cases hz
    · rw [h5] at hz; cases hz
    · rw [h6] at hz; cases hz
    · have hk : k ∈ [104, 105, 106, 311, 313, 314] := by
        unfold dGk at e
        rw [Bool.or_eq_true, Bool.or_eq_true, Bool.or_eq_true, Bool.and_eq_true] at e
        rcases e with e | e | e | e
        · have a := Nat.le_of_ble_eq_true e.1
          have b := Nat.le_of_ble_eq_true e.2
          have c : k = 104 ∨ k = 105 ∨ k = 106 := by omega
          rcases c with rfl | rfl | rfl <;> decide
        · have := Nat.eq_of_beq_eq_true e; subst this; decide
        · have := Nat.eq_of_beq_eq_true e; subst this; decide
        · have := Nat.eq_of_beq_eq_true e; subst this; decide
      have := List.all_eq_true.mp h7 k hk
      rw [hz] at this
      cases this
/-- a register behind a row -/
theorem tgw_reg {ρ' : Nat → Int} {E : qMm} (hE : dEo E = true) (hr : tFit r = true) {k : Nat} (hu : ∀ u ∈ r.2.1, 20 + u.1 ≠ k) (hs : r.2.2.1 = 1 → ¬ (44 ≤ k ∧ k ≤ 51)) : gU ρ' (tGw r ++ E) M 3 k = M 3 k := by
  refine gu_ne (fun q hq z => ?_)
  rcases List.mem_append.mp hq with hq | hq
  case inr =>
    have h := List.all_eq_true.mp hE q hq
    rw [Bool.and_eq_true] at h
    have h2 := Nat.eq_of_beq_eq_true h.1
    rw [z.1] at h2
    cases h2
  unfold tGw at hq
  rcases List.mem_append.mp hq with hq | hq
  · obtain ⟨u, hu', rfl⟩ := List.mem_map.mp hq
    exact hu u hu' z.2
  · cases hb : Nat.beq r.2.2.1 1 with
    | false => rw [hb] at hq; exact absurd hq List.not_mem_nil
    | true =>
      rw [hb, cond_true] at hq
      have h1 := hs (Nat.eq_of_beq_eq_true hb)
      unfold tSw at hq
      simp only [List.mem_cons, List.not_mem_nil, or_false] at hq
      rcases hq with rfl | rfl | rfl | rfl | rfl | rfl | rfl | rfl | rfl | rfl | rfl <;> first | exact absurd z.1 (by decide) | (have z2 := z.2; exact h1 (by have z3 : (_ : Nat) = k := z2; subst z3; exact ⟨by decide, by decide⟩))
theorem tgw_sh {ρ' : Nat → Int} {E : qMm} (hd : gDp (tGw r ++ E) = true) (hk : r.2.2.1 = 1) {q : Nat × Nat × qF} (hq : q ∈ tSw) : gU ρ' (tGw r ++ E) M q.1 q.2.1 = qD ρ' q.2.2 := by
  refine gu_at hd (List.mem_append_left _ ?_)
  unfold tGw
  rw [hk]
  exact List.mem_append_right _ hq
theorem tgw_u {ρ' : Nat → Int} {E : qMm} (hd : gDp (tGw r ++ E) = true) {u : Nat × qF} (hu : u ∈ r.2.1) : gU ρ' (tGw r ++ E) M 3 (20 + u.1) = qD ρ' u.2 := gu_at (q := (3, 20 + u.1, u.2)) hd (List.mem_append_left _ (List.mem_append_left _ (List.mem_map.mpr ⟨u, hu, rfl⟩)))
theorem tfit_u (hr : tFit r = true) {u : Nat × qF} (hu : u ∈ r.2.1) : u.1 < 24 ∨ (40 ≤ u.1 ∧ u.1 < 63) := by
  unfold tFit at hr
  rw [Bool.and_eq_true] at hr
  have := List.all_eq_true.mp hr.1 u hu
  rw [Bool.or_eq_true, Bool.and_eq_true] at this
  rcases this with h | h
  · exact Or.inl (zblt h)
  · exact Or.inr ⟨Nat.le_of_ble_eq_true h.1, zblt h.2⟩
theorem trow_gen {ix : Nat} {E : qMm} (hix : tTab[ix]? = some r) (hk : r.2.2.1 < 2) (hE : dEo E = true) (hdp : gDp (tGw r ++ E) = true) (h0 : ρ 0 = 1) (hf : ∀ f ∈ tFl r, 0 ≤ qD ρ f) (hm : ∀ q ∈ tEl r, M q.1 (zIx ρ q.2.1) = qD ρ q.2.2) (hI : sI M)
    (hfin : ∀ (ρ' : Nat → Int) (M' : sM), (∀ a, a < 42 → ρ' a = ρ a) → (∀ o k, o ≠ 3 → ¬ (o = 4 ∧ (k = 102 ∨ k = 107 ∨ k = 108 ∨ dGk k = true)) → M' o k = M o k) → (∀ q ∈ E, M' q.1 q.2.1 = qD ρ' q.2.2) → (∀ k, dGk k = true → (∀ q ∈ E, q.2.1 ≠ k) → M' 4 k = M 4 k) → (∀ u ∈ r.2.1, M' 3 (20 + u.1) = qD ρ u.2) → (∀ k, (∀ u ∈ r.2.1, 20 + u.1 ≠ k) → (r.2.2.1 = 1 → ¬ (44 ≤ k ∧ k ≤ 51)) → M' 3 k = M 3 k) → M 4 100 ≠ 0 → (∀ a ∈ tNs r, tRho (tCf M) a = ρ a) → tOk (tCf M) r → tCf M' = tNew (M 92) (M 4 101).toNat (tCf M) r → xS4 M' ∧ xS5 M' ∧ xD3 M') :
    ∃ ρ' : Nat → Int, (∀ a, a < 42 → ρ' a = ρ a) ∧ (∀ f ∈ tCl r, 0 ≤ qD ρ' f) ∧ sI (gU ρ' (tGw r ++ E) M) := by
  have hr : r ∈ tTab := List.mem_of_getElem? hix
  have hfit := List.all_eq_true.mp tfit_all r hr
  have hρ := trho_eq hfit h0 hf hm hI
  have hel4 : ∀ k f, (4, k, f) ∈ tEl r → k < 1000 → M 4 k = qD ρ f := fun k f h hk => by
    have h3 : M 4 (zIx ρ k) = qD ρ f := hm _ h
    rw [zix_lt hk] at h3
    exact h3
  have hin0 : ∀ q, q ∈ ([(4, 100, [(1, 37)]), (4, 101, [(1, 38)]), (4, 210, []), (4, 230, [])] : qMm) → q ∈ tEl r := fun q hq => by
    unfold tEl
    exact List.mem_append_left _ (List.mem_append_left _ hq)
  have m100 := hel4 100 [(1, 37)] (hin0 _ (by simp)) (by omega)
  have m101 := hel4 101 [(1, 38)] (hin0 _ (by simp)) (by omega)
  have m210 := hel4 210 [] (hin0 _ (by simp)) (by omega)
  have m230 := hel4 230 [] (hin0 _ (by simp)) (by omega)
  have f37 := hf [(-1, 0), (1, 37)] (by unfold tFl; exact List.mem_append_left _ List.mem_cons_self)
  simp only [qD, h0] at m100 m101 m210 m230 f37
  have hrun : M 4 100 ≠ 0 := by omega
  have hok : tOk (tCf M) r := fun f hf' => by
    rw [qd_cg (σ := ρ) (fun q hq => hρ q.2 (by
      unfold tNs
      exact List.mem_append_left _ (List.mem_flatMap.mpr ⟨f, hf', List.mem_map.mpr ⟨q, hq, rfl⟩⟩)))]
    exact hf f (by unfold tFl; exact List.mem_append_left _ (List.mem_cons_of_mem _ hf'))
  have hup : ∀ u ∈ r.2.1, qD (tRho (tCf M)) u.2 = qD ρ u.2 := fun u hu => qd_cg (fun q hq => hρ q.2 (by
    unfold tNs
    exact List.mem_append_right _ (List.mem_flatMap.mpr ⟨u, hu, List.mem_map.mpr ⟨q, hq, rfl⟩⟩)))
  have hup2 : ∀ u ∈ r.2.1, ∀ q ∈ u.2, q.2 < 42 := fun u hu q hq => by
    have hfit2 := hfit
    unfold tFit at hfit2
    rw [Bool.and_eq_true, Bool.and_eq_true, Bool.and_eq_true] at hfit2
    have h1 := List.all_eq_true.mp hfit2.2.2.1 q.2 (by
      unfold tNs
      exact List.mem_append_right _ (List.mem_flatMap.mpr ⟨u, hu, List.mem_map.mpr ⟨q, hq, rfl⟩⟩))
    rw [Bool.or_eq_true, Bool.or_eq_true, Bool.or_eq_true, Bool.or_eq_true] at h1
    rcases h1 with h1 | h1 | h1 | h1 | h1
    · have := Nat.eq_of_beq_eq_true h1; omega
    · have := zblt h1; omega
    · rw [Bool.and_eq_true] at h1
      have := zblt h1.1; omega
    · rw [Bool.and_eq_true] at h1
      have := Nat.eq_of_beq_eq_true h1.1; omega
    · rw [Bool.and_eq_true] at h1
      have := Nat.eq_of_beq_eq_true h1.1; omega
  obtain ⟨N, hN⟩ : ∃ N : Nat, N = (M 4 101).toNat := ⟨_, rfl⟩
  obtain ⟨c, hc⟩ : ∃ c : tC, c = tCf M := ⟨_, rfl⟩
  obtain ⟨c', hc'⟩ : ∃ c' : tC, c' = tNew (M 92) N c r := ⟨_, rfl⟩
  have hre := gx_xS3 hI hrun
  rw [← hN, ← hc] at hre
  have hre' : tRe (M 92) N (M 4 207) (M 4 208) c' := tre_go hre ⟨r, hr, hk, by rw [hc]; exact hok, hc'⟩
  have hfind : ∀ i, (∃ u ∈ r.2.1, u.1 = i ∧ tUp c r.2.1 i = qD (tRho c) u.2) ∨ ((∀ u ∈ r.2.1, u.1 ≠ i) ∧ tUp c r.2.1 i = c i) := fun i => by
    unfold tUp
    split
    · rename_i u hu
      exact Or.inl ⟨u, List.mem_of_find?_eq_some hu, Nat.eq_of_beq_eq_true (by have h := List.find?_some hu; exact h), rfl⟩
    · rename_i hu
      refine Or.inr ⟨fun u hu' e => ?_, rfl⟩
      have := List.find?_eq_none.mp hu u hu'
      rw [e, Nat.beq_refl] at this
      exact this rfl
  have hreg : ∀ i, 24 ≤ i → i < 40 → tUp c r.2.1 i = c i := fun i h1 h2 => by
    rcases hfind i with ⟨u, hu, e, _⟩ | ⟨_, e⟩
    · have := tfit_u hfit hu
      omega
    · exact e
  have hci : ∀ i, i < 70 → c i = M 3 (20 + i) := fun i hi => by
    rw [hc]
    show (if i < 70 then M 3 (20 + i) else 0) = _
    rw [if_pos hi]
  obtain ⟨o1, o2, o3⟩ := gx_xS2 hI hrun
  obtain ⟨n1, n2, _⟩ := gx_xS1 hI hrun
  have hb := tto_b (M 92) (n := (M 4 101).toNat) (p := (M 4 102).toNat) (M 4 107) (M 4 108) (by omega)
  rw [← o3] at hb
  have hb : ((M 4 102).toNat : Int) ≤ M 3 46 ∧ M 3 46 ≤ M 3 47 ∧ M 3 47 ≤ ((M 4 101).toNat : Int) ∧ _ := hb
  have hb2 := tto_b (M 92) (n := N) (p := (M 3 47).toNat) (M 3 45) (M 3 51) (by omega)
  -- the new names
  refine ⟨fun a => if a < 42 then ρ a else c' (a - 18), fun a ha => if_pos ha, ?_, ?_⟩
  · intro f hf'
    have hf' : f ∈ tCl r := hf'
    unfold tCl at hf'
    cases hb3 : Nat.beq r.2.2.1 1 with
    | false => rw [hb3] at hf'; exact absurd hf' List.not_mem_nil
    | true =>
      rw [hb3, cond_true] at hf'
      have hk1 := Nat.eq_of_beq_eq_true hb3
      have hsh : c' = tSh (M 92) N (tUp c r.2.1) := by
        rw [hc']; unfold tNew; rw [if_pos hk1]
      have e27 : tUp c r.2.1 27 = M 3 47 := (hreg 27 (by omega) (by omega)).trans (hci 27 (by omega))
      have e25 : tUp c r.2.1 25 = M 3 45 := (hreg 25 (by omega) (by omega)).trans (hci 25 (by omega))
      have e31 : tUp c r.2.1 31 = M 3 51 := (hreg 31 (by omega) (by omega)).trans (hci 31 (by omega))
      have v24 : c' 24 = (tTo (M 92) N (M 3 47).toNat (M 3 45) (M 3 51)).1 := by rw [hsh, ← e27, ← e25, ← e31]; rfl
      have v26 : c' 26 = (tTo (M 92) N (M 3 47).toNat (M 3 45) (M 3 51)).2.2.1 := by rw [hsh, ← e27, ← e25, ← e31]; rfl
      have v27 : c' 27 = (tTo (M 92) N (M 3 47).toNat (M 3 45) (M 3 51)).2.2.2.1 := by rw [hsh, ← e27, ← e25, ← e31]; rfl
      have v30 : c' 30 = (tTo (M 92) N (M 3 47).toNat (M 3 45) (M 3 51)).2.2.2.2.1 := by rw [hsh, ← e27, ← e25, ← e31]; rfl
      have v28 : -1 ≤ c' 28 := by
        rw [hsh]
        show -1 ≤ tFo (tUp c r.2.1) _
        unfold tFo
        split
        · exact (tfi_b _ _ _).1
        · split <;> exact (tfi_b _ _ _).1
      have h28 : M 3 47 = ρ 28 := by
        have h : M 3 (zIx ρ 47) = 1 * ρ 28 + 0 := hm (3, 47, [(1, 28)]) (by
          unfold tEl
          refine List.mem_append_left _ (List.mem_append_right _ (List.mem_map.mpr ⟨28, ?_, rfl⟩))
          unfold tNk
          rw [List.mem_eraseDups, hb3]
          exact List.mem_append_left _ (List.mem_append_right _ (by simp [cond_true])))
        rw [zix_lt (by omega)] at h
        omega
      simp only [List.mem_cons, List.not_mem_nil, or_false] at hf'
      rcases hf' with rfl | rfl | rfl | rfl | rfl | rfl | rfl | rfl
      · show 0 ≤ -1 * ρ 0 + (1 * c' 24 + 0); rw [h0]; omega
      · show 0 ≤ 41 * ρ 0 + (-1 * c' 24 + 0); rw [h0]; omega
      · show 0 ≤ -1 * ρ 28 + (1 * c' 26 + 0); omega
      · show 0 ≤ -1 * c' 26 + (1 * c' 27 + 0); omega
      · show 0 ≤ 1 * ρ 38 + (-1 * c' 27 + 0); omega
      · show 0 ≤ 1 * ρ 0 + (1 * c' 28 + 0); rw [h0]; omega
      · show 0 ≤ 1 * c' 30 + 0; omega
      · show 0 ≤ 5 * ρ 0 + (-1 * c' 30 + 0); rw [h0]; omega
  · obtain ⟨ρ', hρ'⟩ : ∃ ρ' : Nat → Int, ρ' = fun a => if a < 42 then ρ a else c' (a - 18) := ⟨_, rfl⟩
    show sI (gU (fun a => if a < 42 then ρ a else c' (a - 18)) (tGw r ++ E) M)
    rw [← hρ']
    have hρ42 : ∀ a, a < 42 → ρ' a = ρ a := fun a ha => by rw [hρ']; exact if_pos ha
    have hρn : ∀ a, 42 ≤ a → ρ' a = c' (a - 18) := fun a ha => by rw [hρ']; exact if_neg (by omega)
    obtain ⟨M', hM'⟩ : ∃ M' : sM, M' = gU ρ' (tGw r ++ E) M := ⟨_, rfl⟩
    rw [← hM']
    have ha : ∀ o k, o ≠ 3 → ¬ (o = 4 ∧ (k = 102 ∨ k = 107 ∨ k = 108 ∨ dGk k = true)) → M' o k = M o k := fun o k h3 h4 => by
      rw [hM']
      refine gu_ne (fun q hq z => ?_)
      rcases List.mem_append.mp hq with hq | hq
      · rcases tgw_34 q hq with e | ⟨e, e2⟩
        · exact h3 (z.1.symm.trans e)
        · refine h4 ⟨z.1.symm.trans e, ?_⟩
          rw [← z.2]
          omega
      · have h := List.all_eq_true.mp hE q hq
        rw [Bool.and_eq_true] at h
        exact h4 ⟨z.1.symm.trans (Nat.eq_of_beq_eq_true h.1), Or.inr (Or.inr (Or.inr (by rw [← z.2]; exact h.2)))⟩
    have haE : ∀ q ∈ E, M' q.1 q.2.1 = qD ρ' q.2.2 := fun q hq => by
      rw [hM']
      exact gu_at hdp (List.mem_append_right _ hq)
    have haN : ∀ k, dGk k = true → (∀ q ∈ E, q.2.1 ≠ k) → M' 4 k = M 4 k := fun k hk hn => by
      rw [hM']
      refine gu_ne (fun q hq z => ?_)
      rcases List.mem_append.mp hq with hq | hq
      · rcases tgw_34 q hq with e | ⟨e, e2⟩
        · rw [z.1] at e; cases e
        · rw [z.2] at e2
          rcases e2 with rfl | rfl | rfl <;> exact absurd hk (by decide)
      · exact hn q hq z.2
    have hU : ∀ u ∈ r.2.1, M' 3 (20 + u.1) = qD ρ u.2 := fun u hu => by
      rw [hM', tgw_u hdp hu]
      exact qd_cg (fun q hq => hρ42 q.2 (hup2 u hu q hq))
    have hK : ∀ k, (∀ u ∈ r.2.1, 20 + u.1 ≠ k) → (r.2.2.1 = 1 → ¬ (44 ≤ k ∧ k ≤ 51)) → M' 3 k = M 3 k := fun k h1 h2 => by
      rw [hM']; exact tgw_reg hE hfit h1 h2
    have hS : r.2.2.1 = 1 → ∀ q ∈ tSw, M' q.1 q.2.1 = qD ρ' q.2.2 := fun h q hq => by rw [hM']; exact tgw_sh hdp h hq
    have hnew : ∀ i, (r.2.2.1 = 1 → ¬ (24 ≤ i ∧ i ≤ 31)) → c' i = tUp c r.2.1 i := fun i h => by
      rw [hc']
      unfold tNew
      split
      · rename_i h1
        have := h h1
        show tSh _ _ _ i = _
        unfold tSh
        rw [if_neg (by omega), if_neg (by omega), if_neg (by omega), if_neg (by omega), if_neg (by omega), if_neg (by omega), if_neg (by omega), if_neg (by omega)]
      · rfl
    have hSr : r.2.2.1 = 1 → ∀ i, 24 ≤ i → i ≤ 31 → M' 3 (20 + i) = c' i := fun h i h1 h2 => by
      have key : ∀ j, 24 ≤ j → j ≤ 31 → (3, 20 + j, [((1 : Int), 18 + j)]) ∈ tSw := fun j h1 h2 => by
        have e : j = 24 ∨ j = 25 ∨ j = 26 ∨ j = 27 ∨ j = 28 ∨ j = 29 ∨ j = 30 ∨ j = 31 := by omega
        rcases e with rfl | rfl | rfl | rfl | rfl | rfl | rfl | rfl <;> decide
      have h3 := hS h _ (key i h1 h2)
      have h4 : M' 3 (20 + i) = 1 * ρ' (18 + i) + 0 := h3
      rw [h4, hρn _ (by omega), show 18 + i - 18 = i by omega]
      omega
    have hcf : tCf M' = c' := by
      funext i
      show (if i < 70 then M' 3 (20 + i) else 0) = c' i
      by_cases hi : i < 70
      · rw [if_pos hi]
        by_cases hs : r.2.2.1 = 1 ∧ (24 ≤ i ∧ i ≤ 31)
        · exact hSr hs.1 i hs.2.1 hs.2.2
        · rw [hnew i (fun h1 h2 => hs ⟨h1, h2⟩)]
          rcases hfind i with ⟨u, hu, e, e2⟩ | ⟨hno, e2⟩
          · rw [e2, ← e, hU u hu, hc, hup u hu]
          · rw [e2, hci i hi]
            exact hK (20 + i) (fun u hu e => hno u hu (by omega)) (fun h1 h2 => hs ⟨h1, by omega⟩)
      · rw [if_neg hi, hnew i (fun _ => by omega)]
        rcases hfind i with ⟨u, hu, e, e2⟩ | ⟨hno, e2⟩
        · have := tfit_u hfit hu
          omega
        · rw [e2, hc]
          show 0 = (if i < 70 then M 3 (20 + i) else 0)
          rw [if_neg hi]
    have h92 : M' 92 = M 92 := funext fun k => ha 92 k (by omega) (by omega)
    have h4 : ∀ k, k ≠ 102 → k ≠ 107 → k ≠ 108 → dGk k = false → M' 4 k = M 4 k := fun k a1 a2 a3 a4 => ha 4 k (by omega) (fun z => by rw [a4] at z; have := z.2; omega)
    have hF := hfin ρ' M' hρ42 ha haE haN hU hK hrun hρ hok (by rw [hcf, hc', hN, hc])
    refine si_34 hI (fun o k h1 h2 => ha o k h1 (by omega)) ⟨?_, ?_, ?_, ?_, ?_, ?_, ?_, ?_, ?_, ?_, ?_, ?_, ?_, ?_, ?_, ?_, ?_, ?_, ?_, ?_, ?_, ?_, hF.2.2, ?_, ?_, ?_, ?_, ?_, ?_, ?_, ?_⟩
    · exact cxS1 (row_keep ha rfl rfl rfl rfl rfl) (gx_xS1 hI)
    · intro h
      rw [h4 100 (by omega) (by omega) (by omega) rfl] at h
      rw [h4 101 (by omega) (by omega) (by omega) rfl, h92]
      by_cases hs : r.2.2.1 = 1
      · have q1 : M' 4 102 = 1 * ρ' 28 + 0 := hS hs (4, 102, [(1, 28)]) (by decide)
        have q2 : M' 4 107 = 1 * ρ' 26 + 0 := hS hs (4, 107, [(1, 26)]) (by decide)
        have q3 : M' 4 108 = 1 * ρ' 32 + 0 := hS hs (4, 108, [(1, 32)]) (by decide)
        have hnk : ∀ b, b ∈ [26, 28, 32] → M 3 (19 + b) = ρ b := fun b hb => by
          have h : M 3 (zIx ρ (19 + b)) = 1 * ρ b + 0 := hm (3, 19 + b, [(1, b)]) (by
            unfold tEl
            refine List.mem_append_left _ (List.mem_append_right _ (List.mem_map.mpr ⟨b, ?_, rfl⟩))
            unfold tNk
            rw [List.mem_eraseDups, hs]
            exact List.mem_append_left _ (List.mem_append_right _ hb))
          have hb' : b < 100 := by
            simp only [List.mem_cons, List.not_mem_nil, or_false] at hb
            omega
          rw [zix_lt (by omega)] at h
          omega
        have w28 : M 3 47 = ρ 28 := hnk 28 (by simp)
        have w26 : M 3 45 = ρ 26 := hnk 26 (by simp)
        have w32 : M 3 51 = ρ 32 := hnk 32 (by simp)
        rw [q1, q2, q3, hρ42 28 (by omega), hρ42 26 (by omega), hρ42 32 (by omega), ← w28, ← w26, ← w32]
        have s24 := hSr hs 24 (by omega) (by omega)
        have s25 := hSr hs 25 (by omega) (by omega)
        have s26 := hSr hs 26 (by omega) (by omega)
        have s27 := hSr hs 27 (by omega) (by omega)
        have s30 := hSr hs 30 (by omega) (by omega)
        have s31 := hSr hs 31 (by omega) (by omega)
        have hsh : c' = tSh (M 92) N (tUp c r.2.1) := by
          rw [hc']; unfold tNew; rw [if_pos hs]
        have e27 : tUp c r.2.1 27 = M 3 47 := (hreg 27 (by omega) (by omega)).trans (hci 27 (by omega))
        have e25 : tUp c r.2.1 25 = M 3 45 := (hreg 25 (by omega) (by omega)).trans (hci 25 (by omega))
        have e31 : tUp c r.2.1 31 = M 3 51 := (hreg 31 (by omega) (by omega)).trans (hci 31 (by omega))
        have tup : (c' 24, c' 25, c' 26, c' 27, c' 30, c' 31) = tTo (M 92) N (M 3 47).toNat (M 3 45) (M 3 51) := by rw [hsh, ← e27, ← e25, ← e31]; rfl
        refine ⟨by omega, by omega, ?_⟩
        show (M' 3 (20 + 24), M' 3 (20 + 25), M' 3 (20 + 26), M' 3 (20 + 27), M' 3 (20 + 30), M' 3 (20 + 31)) = _
        rw [s24, s25, s26, s27, s30, s31, tup, hN, show 1 * M 3 47 + 0 = M 3 47 by omega, show 1 * M 3 45 + 0 = M 3 45 by omega, show 1 * M 3 51 + 0 = M 3 51 by omega]
      · have hno : ∀ k, k = 102 ∨ k = 107 ∨ k = 108 → M' 4 k = M 4 k := fun k hk' => by
          rw [hM']
          refine gu_ne (fun q hq z => ?_)
          rcases List.mem_append.mp hq with hq | hq
          case inr =>
            have h := List.all_eq_true.mp hE q hq
            rw [Bool.and_eq_true, z.2] at h
            rcases hk' with rfl | rfl | rfl <;> exact absurd h.2 (by decide)
          unfold tGw at hq
          rcases List.mem_append.mp hq with hq | hq
          · obtain ⟨u, hu', rfl⟩ := List.mem_map.mp hq
            exact absurd (show (3 : Nat) = 4 from z.1) (by decide)
          · cases hb : Nat.beq r.2.2.1 1 with
            | false => rw [hb] at hq; exact absurd hq List.not_mem_nil
            | true => exact hs (Nat.eq_of_beq_eq_true hb)
        have hkr : ∀ k, 44 ≤ k → k ≤ 51 → M' 3 k = M 3 k := fun k h1 h2 => hK k (fun u hu e => by have := tfit_u hfit hu; omega) (fun h => absurd h hs)
        rw [hno 102 (by omega), hno 107 (by omega), hno 108 (by omega), hkr 44 (by omega) (by omega), hkr 45 (by omega) (by omega), hkr 46 (by omega) (by omega), hkr 47 (by omega) (by omega), hkr 50 (by omega) (by omega), hkr 51 (by omega) (by omega)]
        exact ⟨o1, o2, o3⟩
    · intro h
      rw [h4 101 (by omega) (by omega) (by omega) rfl, h4 207 (by omega) (by omega) (by omega) rfl, h4 208 (by omega) (by omega) (by omega) rfl, h92, hcf, ← hN]
      exact hre'
    · exact hF.1
    · exact hF.2.1
    · intro h
      rw [h4 230 (by omega) (by omega) (by omega) rfl] at h
      omega
    · exact cxS7 (row_keep ha rfl rfl rfl rfl rfl) (gx_xS7 hI)
    · intro h
      rw [h4 210 (by omega) (by omega) (by omega) rfl] at h
      omega
    · exact cxS9 (row_keep ha rfl rfl rfl rfl rfl) (gx_xS9 hI)
    · exact cxSA (row_keep ha rfl rfl rfl rfl rfl) (gx_xSA hI)
    · exact cxSG (row_keep ha rfl rfl rfl rfl rfl) (gx_xSG hI)
    · exact cxSF (row_keep ha rfl rfl rfl rfl rfl) (gx_xSF hI)
    · exact cxSB (row_keep ha rfl rfl rfl rfl rfl) (gx_xSB hI)
    · exact cxSC (row_keep ha rfl rfl rfl rfl rfl) (gx_xSC hI)
    · exact cxSD (row_keep ha rfl rfl rfl rfl rfl) (gx_xSD hI)
    · exact cxSE (row_keep ha rfl rfl rfl rfl rfl) (gx_xSE hI)
    · exact cxSW (row_keep ha rfl rfl rfl rfl rfl) (gx_xSW hI)
    · exact cxST (row_keep ha rfl rfl rfl rfl rfl) (gx_xST hI)
    · exact cxSP (row_keep ha rfl rfl rfl rfl rfl) (gx_xSP hI)
    · exact cxSL (row_keep ha rfl rfl rfl rfl rfl) (gx_xSL hI)
    · exact cxSM (row_keep ha rfl rfl rfl rfl rfl) (gx_xSM hI)
    · exact cxSI (row_keep ha rfl rfl rfl rfl rfl) (gx_xSI hI)
    · exact cxDV (row_keep ha rfl rfl rfl rfl rfl) (gx_xDV hI)
    · exact cxDP (row_keep ha rfl rfl rfl rfl rfl) (gx_xDP hI)
    · exact cxDE (row_keep ha rfl rfl rfl rfl rfl) (gx_xDE hI)
    · exact cxQ5 (row_keep ha rfl rfl rfl rfl rfl) (gx_xQ5 hI)
    · exact cxQL (row_keep ha rfl rfl rfl rfl rfl) (gx_xQL hI)
    · exact cxQW (row_keep ha rfl rfl rfl rfl rfl) (gx_xQW hI)
    · exact cxQM (row_keep ha rfl rfl rfl rfl rfl) (gx_xQM hI)
    · exact cxQH (row_keep ha rfl rfl rfl rfl rfl) (gx_xQH hI)
/-- registers of names that are told stay -/
theorem trow_nm {M' : sM} (hf : ∀ f ∈ tFl r, 0 ≤ qD ρ f) (hm : ∀ q ∈ tEl r, M q.1 (zIx ρ q.2.1) = qD ρ q.2.2) (h0 : ρ 0 = 1) (hK : ∀ k, (∀ u ∈ r.2.1, 20 + u.1 ≠ k) → (r.2.2.1 = 1 → ¬ (44 ≤ k ∧ k ≤ 51)) → M' 3 k = M 3 k) : ∀ k, 60 ≤ k → k < 83 → (k < 70 → ((k - 60 : Nat) : Int) < M 4 104) → (70 ≤ k → k < 80 → ((k - 70 : Nat) : Int) < M 4 105) → (80 ≤ k → ((k - 80 : Nat) : Int) < M 4 106) → M' 3 k = M 3 k := by
    have hel4 : ∀ k f, (4, k, f) ∈ tEl r → k < 1000 → M 4 k = qD ρ f := fun k f h hk => by
      have h3 : M 4 (zIx ρ k) = qD ρ f := hm _ h
      rw [zix_lt hk] at h3
      exact h3
    have htie : ∀ {u : Nat × qF}, u ∈ r.2.1 → 40 ≤ u.1 → (u.1 < 50 → M 4 104 ≤ ((u.1 - 40 : Nat) : Int)) ∧ (50 ≤ u.1 → u.1 < 60 → M 4 105 ≤ ((u.1 - 50 : Nat) : Int)) ∧ (60 ≤ u.1 → M 4 106 ≤ ((u.1 - 60 : Nat) : Int)) := fun {u} hu h40 => by
      have hany : r.2.1.any (fun u => Nat.ble 40 u.1) = true := List.any_eq_true.mpr ⟨u, hu, Nat.ble_eq_true_of_le h40⟩
      have hin : ∀ q, q ∈ ([(4, 104, [(1, 39)]), (4, 105, [(1, 40)]), (4, 106, [(1, 41)])] : qMm) → q ∈ tEl r := fun q hq => by
        unfold tEl
        refine List.mem_append_right _ (List.mem_append_left _ ?_)
        rw [hany]; exact hq
      have t4 := hel4 104 [(1, 39)] (hin _ (by simp)) (by omega)
      have t5 := hel4 105 [(1, 40)] (hin _ (by simp)) (by omega)
      have t6 := hel4 106 [(1, 41)] (hin _ (by simp)) (by omega)
      simp only [qD] at t4 t5 t6
      have hfu : ∀ f, f ∈ (cond (Nat.blt u.1 40) [] (cond (Nat.blt u.1 50) [[(((u.1 - 40 : Nat) : Int), 0), (-1, 39)]] (cond (Nat.blt u.1 60) [[(((u.1 - 50 : Nat) : Int), 0), (-1, 40)]] [[(((u.1 - 60 : Nat) : Int), 0), (-1, 41)]])) : List qF) → 0 ≤ qD ρ f := fun f hf' => hf f (by
        unfold tFl
        exact List.mem_append_right _ (List.mem_append_right _ (List.mem_flatMap.mpr ⟨u, hu, hf'⟩)))
      have hblt : ∀ a b : Nat, b ≤ a → Nat.blt a b = false := fun a b h => by
        cases hh : Nat.blt a b with
        | false => rfl
        | true => have := zblt hh; omega
      have hbgt : ∀ a b : Nat, a < b → Nat.blt a b = true := fun a b h => Nat.ble_eq_true_of_le h
      rw [hblt _ _ h40, cond_false] at hfu
      refine ⟨fun h50 => ?_, fun h50 h60 => ?_, fun h60 => ?_⟩
      · rw [hbgt _ _ h50, cond_true] at hfu
        have := hfu _ (List.mem_singleton.mpr rfl)
        simp only [qD, h0] at this
        omega
      · rw [hblt _ _ h50, cond_false, hbgt _ _ h60, cond_true] at hfu
        have := hfu _ (List.mem_singleton.mpr rfl)
        simp only [qD, h0] at this
        omega
      · rw [hblt _ _ (by omega : 50 ≤ u.1), cond_false, hblt _ _ h60, cond_false] at hfu
        have := hfu _ (List.mem_singleton.mpr rfl)
        simp only [qD, h0] at this
        omega
    show ∀ k, 60 ≤ k → k < 83 → (k < 70 → ((k - 60 : Nat) : Int) < M 4 104) → (70 ≤ k → k < 80 → ((k - 70 : Nat) : Int) < M 4 105) → (80 ≤ k → ((k - 80 : Nat) : Int) < M 4 106) → M' 3 k = M 3 k
    intro k h1 h2 h3 h5 h6
    refine hK k (fun u hu e => ?_) (fun _ => by omega)
    · have t := htie hu (by omega)
      by_cases k1 : k < 70
      · have a1 := t.1 (by omega)
        have a2 := h3 k1
        have a3 : u.1 - 40 = k - 60 := by omega
        rw [a3] at a1; omega
      · by_cases k2 : k < 80
        · have a1 := t.2.1 (by omega) (by omega)
          have a2 := h5 (by omega) k2
          have a3 : u.1 - 50 = k - 70 := by omega
          rw [a3] at a1; omega
        · have a1 := t.2.2 (by omega)
          have a2 := h6 (by omega)
          have a3 : u.1 - 60 = k - 80 := by omega
          rw [a3] at a1; omega
/-- names behind a row: those that are new as told -/
theorem s45_row {M' : sM} (hI : sI M) (ha : ∀ o k, o ≠ 3 → ¬ (o = 4 ∧ (k = 102 ∨ k = 107 ∨ k = 108 ∨ dGk k = true)) → M' o k = M o k) (hnm : ∀ k, 60 ≤ k → k < 83 → (k < 70 → ((k - 60 : Nat) : Int) < M 4 104) → (70 ≤ k → k < 80 → ((k - 70 : Nat) : Int) < M 4 105) → (80 ≤ k → ((k - 80 : Nat) : Int) < M 4 106) → M' 3 k = M 3 k) (n1 : ∀ j : Nat, j < 9 → (j : Int) < M' 4 104 → (j : Int) < M 4 104 ∨ ((M 4 100 = 1 → tN1 M (M 4 103) j = M' 3 (60 + j)) ∧ (M 4 100 = 2 → M 94 (9 + j) = M' 3 (60 + j)))) (n2 : ∀ j : Nat, j < 6 → (j : Int) < M' 4 105 → (j : Int) < M 4 105 ∨ ((M 4 100 = 1 → tN2 M (M 4 103) j = M' 3 (70 + j)) ∧ (M 4 100 = 2 → M 100 (6 + j) = M' 3 (70 + j)))) (n3 : ∀ j : Nat, j < 3 → (j : Int) < M' 4 106 → (j : Int) < M 4 106 ∨ ((M 4 100 = 1 → tN3 M (M 4 103) j = M' 3 (80 + j)) ∧ (M 4 100 = 2 → M 104 (3 + j) = M' 3 (80 + j)))) : xS4 M' ∧ xS5 M' := by
  have hcell : ∀ o k, 5 ≤ o → M' o k = M o k := fun o k ho => ha o k (by omega) (by omega)
  have e100 : M' 4 100 = M 4 100 := ha 4 100 (by decide) (by decide)
  have e103 : M' 4 103 = M 4 103 := ha 4 103 (by decide) (by decide)
  have t1 : ∀ q j, tN1 M' q j = tN1 M q j := fun q j => by unfold tN1; rw [hcell _ _ (by omega), hcell _ _ (by omega)]
  have t2 : ∀ q j, tN2 M' q j = tN2 M q j := fun q j => by unfold tN2; rw [hcell _ _ (by omega), hcell _ _ (by omega)]
  have t3 : ∀ q j, tN3 M' q j = tN3 M q j := fun q j => by unfold tN3; rw [hcell _ _ (by omega), hcell _ _ (by omega)]
  refine ⟨fun h => ?_, fun h => ?_⟩
  · rw [e100] at h
    obtain ⟨a1, a2, a3⟩ := gx_xS4 hI h
    rw [e103]
    refine ⟨fun j hj ht => ?_, fun j hj ht => ?_, fun j hj ht => ?_⟩
    · rw [t1]
      rcases n1 j hj ht with hl | hn
      · rw [hnm (60 + j) (by omega) (by omega) (fun _ => by rw [show 60 + j - 60 = j by omega]; exact hl) (fun h => by omega) (fun h => by omega)]
        exact a1 j hj hl
      · exact hn.1 h
    · rw [t2]
      rcases n2 j hj ht with hl | hn
      · rw [hnm (70 + j) (by omega) (by omega) (fun h => by omega) (fun _ _ => by rw [show 70 + j - 70 = j by omega]; exact hl) (fun h => by omega)]
        exact a2 j hj hl
      · exact hn.1 h
    · rw [t3]
      rcases n3 j hj ht with hl | hn
      · rw [hnm (80 + j) (by omega) (by omega) (fun h => by omega) (fun _ h => by omega) (fun _ => by rw [show 80 + j - 80 = j by omega]; exact hl)]
        exact a3 j hj hl
      · exact hn.1 h
  · rw [e100] at h
    obtain ⟨a1, a2, a3⟩ := gx_xS5 hI h
    refine ⟨fun j hj ht => ?_, fun j hj ht => ?_, fun j hj ht => ?_⟩
    · rw [hcell 94 _ (by omega)]
      rcases n1 j hj ht with hl | hn
      · rw [hnm (60 + j) (by omega) (by omega) (fun _ => by rw [show 60 + j - 60 = j by omega]; exact hl) (fun h => by omega) (fun h => by omega)]
        exact a1 j hj hl
      · exact hn.2 h
    · rw [hcell 100 _ (by omega)]
      rcases n2 j hj ht with hl | hn
      · rw [hnm (70 + j) (by omega) (by omega) (fun h => by omega) (fun _ _ => by rw [show 70 + j - 70 = j by omega]; exact hl) (fun h => by omega)]
        exact a2 j hj hl
      · exact hn.2 h
    · rw [hcell 104 _ (by omega)]
      rcases n3 j hj ht with hl | hn
      · rw [hnm (80 + j) (by omega) (by omega) (fun h => by omega) (fun _ h => by omega) (fun _ => by rw [show 80 + j - 80 = j by omega]; exact hl)]
        exact a3 j hj hl
      · exact hn.2 h
/-- the data behind a row -/
def dPn (M : sM) (d : Nat → Int) : Prop := M 4 314 = M 4 104 ∨ (M 4 314 + 1 = M 4 104 ∧ 0 ≤ M 4 314 ∧ d (6 * (M 4 314).toNat + 2) = M 4 313 ∧ d (6 * (M 4 314).toNat + 3) = 0 ∧ d (6 * (M 4 314).toNat + 4) = 0 ∧ d (6 * (M 4 314).toNat + 5) = 0)
def dTd (M : sM) (i : Nat) : Prop := i < 116 ∧ dTi (M 4 104) (M 4 314) (M 4 105) (M 4 106) i ∧ (i : Int) ≠ M 4 311
theorem drn_34 {M' : sM} (ha : ∀ o k, o ≠ 3 → ¬ (o = 4 ∧ (k = 102 ∨ k = 107 ∨ k = 108 ∨ dGk k = true)) → M' o k = M o k) (i : Nat) : dRn M' i = dRn M i := by
  have e100 : M' 4 100 = M 4 100 := ha 4 100 (by decide) (by decide)
  have e103 : M' 4 103 = M 4 103 := ha 4 103 (by decide) (by decide)
  unfold dRn
  rw [e100, e103, dcl_c (fun o k hz => ha o k (fun e => by subst e; rw [sinc_ok (S := zDC) rfl] at hz; cases hz) (fun e => by rw [e.1, sinc_ok (S := zDC) rfl] at hz; cases hz)), dru_c (fun o k hz => ha o k (fun e => by subst e; rw [sinc_ok (S := zDU) rfl] at hz; cases hz) (fun e => by rw [e.1, sinc_ok (S := zDU) rfl] at hz; cases hz))]
theorem d3_row {M' : sM} {ix : Nat} (hI : sI M) (hix : tTab[ix]? = some r) (hk : r.2.2.1 < 2) (ha : ∀ o k, o ≠ 3 → ¬ (o = 4 ∧ (k = 102 ∨ k = 107 ∨ k = 108 ∨ dGk k = true)) → M' o k = M o k) (hrun : M 4 100 ≠ 0) (hok : tOk (tCf M) r) (hcf : tCf M' = tNew (M 92) (M 4 101).toNat (tCf M) r) (H : ∀ d, dPn M d → (∀ i, dTd M i → dRn M i = d i) → dPn M' (tDu (tCf M) (tDd.getD ix []) d) ∧ ∀ i, dTd M' i → dRn M i = tDu (tCf M) (tDd.getD ix []) d i) : xD3 M' := by
  intro _
  obtain ⟨d, d1, d2, d3⟩ := gx_xD3 hI hrun
  obtain ⟨h1, h2⟩ := H d d2 (fun i hi => d3 i hi.1 hi.2.1 hi.2.2)
  have h92 : M' 92 = M 92 := funext fun k => ha 92 k (by omega) (by omega)
  refine ⟨_, ?_, h1, fun i hi ht hh => (drn_34 ha i).trans (h2 i ⟨hi, ht, hh⟩)⟩
  rw [h92, ha 4 101 (by decide) (by decide), ha 4 207 (by decide) (by decide), ha 4 208 (by decide) (by decide), hcf]
  exact tred_go d1 hix hk hok
/-- a row that tells no data -/
theorem trow_ok {ix : Nat} (hix : tTab[ix]? = some r) (hd : tDd.getD ix [] = []) (hk : r.2.2.1 < 2) : qRok (tRu r) := by
  intro ρ M h0 hf hm hI
  have hf : ∀ f ∈ tFl r, 0 ≤ qD ρ f := hf
  have hm : ∀ q ∈ tEl r, M q.1 (zIx ρ q.2.1) = qD ρ q.2.2 := hm
  have hfit := List.all_eq_true.mp tfit_all r (List.mem_of_getElem? hix)
  have hdp : gDp (tGw r ++ []) = true := by
    rw [List.append_nil]
    unfold tFit at hfit
    rw [Bool.and_eq_true, Bool.and_eq_true] at hfit
    exact hfit.2.1
  have key := trow_gen (E := []) hix hk rfl hdp h0 hf hm hI (by
    intro ρ' M' _ ha _ haN _ hK hrun _ hok hcf
    have eg : ∀ k, dGk k = true → M' 4 k = M 4 k := fun k hk => haN k hk (fun q hq => nomatch hq)
    obtain ⟨s4, s5⟩ := s45_row hI ha (trow_nm hf hm h0 hK) (fun j _ h => Or.inl (by rw [eg 104 rfl] at h; exact h)) (fun j _ h => Or.inl (by rw [eg 105 rfl] at h; exact h)) (fun j _ h => Or.inl (by rw [eg 106 rfl] at h; exact h))
    refine ⟨s4, s5, d3_row hI hix hk ha hrun hok hcf (fun d h1 h2 => ?_)⟩
    rw [hd, tdu_no]
    refine ⟨?_, fun i hi => h2 i ?_⟩
    · unfold dPn at h1 ⊢
      rw [eg 314 rfl, eg 104 rfl, eg 313 rfl]; exact h1
    · unfold dTd at hi ⊢
      rw [eg 314 rfl, eg 104 rfl, eg 105 rfl, eg 106 rfl, eg 311 rfl] at hi; exact hi)
  rw [List.append_nil] at key
  exact key
theorem tdu_out {c : tC} {u : List (Nat × qF)} {d : Nat → Int} {i : Nat} (h : ∀ q ∈ u, q.1 ≠ i) : tDu c u d i = d i := by
  unfold tDu
  cases e : u.find? (fun q => Nat.beq q.1 i) with
  | none => rfl
  | some q =>
    have h1 := List.mem_of_find?_eq_some e
    have h2 : Nat.beq q.1 i = true := by have h := List.find?_some e; exact h
    exact absurd (Nat.eq_of_beq_eq_true h2) (h q h1)
def dNd : List (Nat × qF) → Bool
  | [] => true
  | q :: l => l.all (fun p => !(Nat.beq p.1 q.1)) && dNd l
theorem tdu_in {c : tC} {d : Nat → Int} {i : Nat} {f : qF} : ∀ {u : List (Nat × qF)}, dNd u = true → (i, f) ∈ u → tDu c u d i = qD (tRho c) f
  | [], _, h => nomatch h
  | q :: l, hn, h => by
    have hn' : (l.all (fun p => !(Nat.beq p.1 q.1)) && dNd l) = true := hn
    rw [Bool.and_eq_true] at hn'
    rcases List.mem_cons.mp h with e | hl
    · subst e
      unfold tDu
      rw [List.find?_cons_of_pos (by exact Nat.beq_refl _)]
    · have ne : q.1 ≠ i := fun e => by
        have := List.all_eq_true.mp hn'.1 _ hl
        rw [e, Nat.beq_refl] at this
        cases this
      have ih := tdu_in (c := c) (d := d) hn'.2 hl
      unfold tDu at ih ⊢
      rw [List.find?_cons_of_neg (by intro e; exact ne (Nat.eq_of_beq_eq_true e))]
      exact ih
/-! A ROW WITH DATA: what it tells lies there already (or is not tied). -/
def dNm (u : List (Nat × qF)) : List Nat := (u.flatMap (fun q => q.2.map (fun p => p.2))).filter (fun a => Nat.blt 0 a)
def tRuD (r : tRow) (u : List (Nat × qF)) (E elx : qMm) : qRu := (42, tFl r, tEl r ++ ((dNm u).map (fun a => (3, 19 + a, [((1 : Int), a)])) ++ elx), [], tGw r ++ E, tCl r)
/-- what the data of a row and the memory behind it must be -/
def dHyp (r : tRow) (u : List (Nat × qF)) (E elx : qMm) : Prop := ∀ (ρ : Nat → Int) (M M' : sM), ρ 0 = 1 → sI M → (∀ q ∈ elx, M q.1 (zIx ρ q.2.1) = qD ρ q.2.2) → (∀ q ∈ E, M' q.1 q.2.1 = qD ρ q.2.2) → (∀ k, dGk k = true → (∀ q ∈ E, q.2.1 ≠ k) → M' 4 k = M 4 k) → (∀ v ∈ r.2.1, M' 3 (20 + v.1) = qD ρ v.2) →
  ((∀ j : Nat, j < 9 → (j : Int) < M' 4 104 → (j : Int) < M 4 104 ∨ ((M 4 100 = 1 → tN1 M (M 4 103) j = M' 3 (60 + j)) ∧ (M 4 100 = 2 → M 94 (9 + j) = M' 3 (60 + j)))) ∧ (∀ j : Nat, j < 6 → (j : Int) < M' 4 105 → (j : Int) < M 4 105 ∨ ((M 4 100 = 1 → tN2 M (M 4 103) j = M' 3 (70 + j)) ∧ (M 4 100 = 2 → M 100 (6 + j) = M' 3 (70 + j)))) ∧ (∀ j : Nat, j < 3 → (j : Int) < M' 4 106 → (j : Int) < M 4 106 ∨ ((M 4 100 = 1 → tN3 M (M 4 103) j = M' 3 (80 + j)) ∧ (M 4 100 = 2 → M 104 (3 + j) = M' 3 (80 + j))))) ∧
  (∀ d, dPn M d → ∀ d' : Nat → Int, (∀ q ∈ u, d' q.1 = qD ρ q.2) → (∀ i, (∀ q ∈ u, q.1 ≠ i) → d' i = d i) → dPn M' d') ∧
  (∀ i, dTd M' i → (∃ f, (i, f) ∈ u ∧ dRn M i = qD ρ f) ∨ ((∀ q ∈ u, q.1 ≠ i) ∧ dTd M i))
theorem trowd_ok {ix : Nat} {u : List (Nat × qF)} {E elx : qMm} (H : dHyp r u E elx) (hix : tTab[ix]? = some r) (hu : tDd.getD ix [] = u) (hk : r.2.2.1 < 2) (hE : dEo E = true) (hEc : E.all (fun q => q.2.2.all (fun p => Nat.blt p.2 42)) = true) (hdp : gDp (tGw r ++ E) = true) (hnd : dNd u = true) (hun : u.all (fun q => q.2.all (fun p => Nat.blt p.2 33)) = true) : qRok (tRuD r u E elx) := by
  intro ρ M h0 hf hm hI
  have hf : ∀ f ∈ tFl r, 0 ≤ qD ρ f := hf
  have hm : ∀ q ∈ tEl r ++ ((dNm u).map (fun a => (3, 19 + a, [((1 : Int), a)])) ++ elx), M q.1 (zIx ρ q.2.1) = qD ρ q.2.2 := hm
  have hm1 : ∀ q ∈ tEl r, M q.1 (zIx ρ q.2.1) = qD ρ q.2.2 := fun q hq => hm q (List.mem_append_left _ hq)
  refine trow_gen hix hk hE hdp h0 hf hm1 hI ?_
  intro ρ' M' hρ42 ha haE haN hU hK hrun hρ hok hcf
  have haE2 : ∀ q ∈ E, M' q.1 q.2.1 = qD ρ q.2.2 := fun q hq => by
    rw [haE q hq]
    exact qd_cg (fun p hp => hρ42 p.2 (zblt (List.all_eq_true.mp (List.all_eq_true.mp hEc q hq) p hp)))
  obtain ⟨⟨n1, n2, n3⟩, hP, hT⟩ := H ρ M M' h0 hI (fun q hq => hm q (List.mem_append_right _ (List.mem_append_right _ hq))) haE2 haN hU
  obtain ⟨s4, s5⟩ := s45_row hI ha (trow_nm hf hm1 h0 hK) n1 n2 n3
  -- the forms of the data are the registers'
  have hreg : ∀ q ∈ u, qD (tRho (tCf M)) q.2 = qD ρ q.2 := fun q hq => qd_cg (fun p hp => by
    have hlt := zblt (List.all_eq_true.mp (List.all_eq_true.mp hun q hq) p hp)
    by_cases ha0 : p.2 = 0
    · rw [ha0, h0]; rfl
    have h := hm (3, 19 + p.2, [(1, p.2)]) (by
      refine List.mem_append_right _ (List.mem_append_left _ (List.mem_map.mpr ⟨p.2, ?_, rfl⟩))
      unfold dNm
      refine List.mem_filter.mpr ⟨List.mem_flatMap.mpr ⟨q, hq, List.mem_map.mpr ⟨p, hp, rfl⟩⟩, Nat.ble_eq_true_of_le (by omega)⟩)
    have h : M 3 (zIx ρ (19 + p.2)) = 1 * ρ p.2 + 0 := h
    rw [zix_lt (by omega)] at h
    unfold tRho
    rw [if_neg ha0, if_neg (by omega), if_neg (by omega), if_neg (by omega), if_neg (by omega)]
    show (if p.2 - 1 < 70 then M 3 (20 + (p.2 - 1)) else 0) = ρ p.2
    rw [if_pos (by omega), show 20 + (p.2 - 1) = 19 + p.2 by omega, h]
    omega)
  refine ⟨s4, s5, d3_row hI hix hk ha hrun hok hcf (fun d h1 h2 => ?_)⟩
  rw [hu]
  have hin : ∀ q ∈ u, tDu (tCf M) u d q.1 = qD ρ q.2 := fun q hq => by
    rw [tdu_in (f := q.2) hnd hq, hreg q hq]
  refine ⟨hP d h1 _ hin (fun i hi => tdu_out hi), fun i hi => ?_⟩
  rcases hT i hi with ⟨f, hf1, hf2⟩ | ⟨ho, ht⟩
  · rw [hf2, hin _ hf1]
  · rw [tdu_out ho]; exact h2 i ht
/-! the kinds of rows with data (ro: the road 2, 28, or 0 for the reference) -/
def dEr (ro : Nat) : qMm := if ro = 0 then [(4, 100, [(2, 0)])] else [(4, 100, [(1, 0)]), (4, 103, [((ro : Int), 0)])]
def dEp (ro : Nat) (u : List (Nat × qF)) : qMm := u.map (fun q => if ro = 0 then ((dUp.getD q.1 (0, 0)).1, (dUp.getD q.1 (0, 0)).2, q.2) else (dBc ro q.1, dBk q.1, q.2))
theorem dep_k : (List.range 116).all (fun i => Nat.blt (dBk i) 1000 && Nat.blt (dUp.getD i (0, 0)).2 1000) = true := by decide +kernel
theorem dep_ok {ro : Nat} (hro : ro = 0 ∨ ro = 2 ∨ ro = 28) {u : List (Nat × qF)} (h0 : ρ 0 = 1) (h : ∀ q ∈ dEr ro ++ dEp ro u, M q.1 (zIx ρ q.2.1) = qD ρ q.2.2) : ∀ q ∈ u, q.1 < 116 → dRn M q.1 = qD ρ q.2 := by
  intro q hq hi
  have hk := List.all_eq_true.mp dep_k q.1 (List.mem_range.mpr hi)
  rw [Bool.and_eq_true] at hk
  unfold dRn
  rcases hro with rfl | hro
  · have m1 : M 4 100 = 2 * ρ 0 + 0 := h (4, 100, [(2, 0)]) (by unfold dEr; simp)
    rw [if_pos (by omega), dru_g hi]
    have m2 := h _ (List.mem_append_right _ (List.mem_map.mpr ⟨q, hq, rfl⟩))
    have m2 : M (dUp.getD q.1 (0, 0)).1 (zIx ρ (dUp.getD q.1 (0, 0)).2) = qD ρ q.2 := m2
    rw [zix_lt (zblt hk.2)] at m2
    exact m2
  · have hz : ro ≠ 0 := by omega
    have m1 : M 4 100 = 1 * ρ 0 + 0 := h (4, 100, [(1, 0)]) (by unfold dEr; rw [if_neg hz]; simp)
    have m3 : M 4 103 = (ro : Int) * ρ 0 + 0 := h (4, 103, [((ro : Int), 0)]) (by unfold dEr; rw [if_neg hz]; simp)
    rw [h0] at m3
    rw [if_neg (by omega)]
    have m2 := h _ (List.mem_append_right _ (List.mem_map.mpr ⟨q, hq, rfl⟩))
    rw [if_neg hz] at m2
    have m2 : M (dBc ro q.1) (zIx ρ (dBk q.1)) = qD ρ q.2 := m2
    rw [zix_lt (zblt hk.1)] at m2
    rw [← m2, dcl_g hi]
    rcases hro with rfl | rfl
    · rw [if_pos (by omega)]; rfl
    · rw [if_neg (by omega)]; rfl
theorem drn_1 {v : Int} {j : Nat} (hj : j < 9) (h : dRn M (6 * j) = v) : (M 4 100 = 1 → tN1 M (M 4 103) j = v) ∧ (M 4 100 = 2 → M 94 (9 + j) = v) := by
  unfold dRn at h
  refine ⟨fun e => ?_, fun e => ?_⟩
  · rw [if_neg (by omega)] at h
    rw [tn1_d hj]; exact h
  · rw [if_pos e] at h
    have e : j = 0 ∨ j = 1 ∨ j = 2 ∨ j = 3 ∨ j = 4 ∨ j = 5 ∨ j = 6 ∨ j = 7 ∨ j = 8 := by omega
    rcases e with rfl | rfl | rfl | rfl | rfl | rfl | rfl | rfl | rfl <;> exact h
theorem drn_2 {v : Int} {j : Nat} (hj : j < 6) (h : dRn M (54 + 4 * j) = v) : (M 4 100 = 1 → tN2 M (M 4 103) j = v) ∧ (M 4 100 = 2 → M 100 (6 + j) = v) := by
  unfold dRn at h
  refine ⟨fun e => ?_, fun e => ?_⟩
  · rw [if_neg (by omega)] at h
    rw [tn2_d hj]; exact h
  · rw [if_pos e] at h
    have e : j = 0 ∨ j = 1 ∨ j = 2 ∨ j = 3 ∨ j = 4 ∨ j = 5 := by omega
    rcases e with rfl | rfl | rfl | rfl | rfl | rfl <;> exact h
theorem drn_3 {v : Int} {j : Nat} (hj : j < 3) (h : dRn M (78 + 3 * j) = v) : (M 4 100 = 1 → tN3 M (M 4 103) j = v) ∧ (M 4 100 = 2 → M 104 (3 + j) = v) := by
  unfold dRn at h
  refine ⟨fun e => ?_, fun e => ?_⟩
  · rw [if_neg (by omega)] at h
    rw [tn3_d hj]; exact h
  · rw [if_pos e] at h
    have e : j = 0 ∨ j = 1 ∨ j = 2 := by omega
    rcases e with rfl | rfl | rfl <;> exact h
/-- one place that the hole keeps open -/
theorem dhT {ro x : Nat} {f : qF} (hro : ro = 0 ∨ ro = 2 ∨ ro = 28) (hx : x < 116) : dHyp r [(x, f)] [(4, 311, [(999, 0)])] ((dEr ro ++ dEp ro [(x, f)]) ++ [(4, 311, [((x : Int), 0)]), (4, 104, [(1, 39)]), (4, 314, [(1, 39)])]) := by
  intro ρ M M' h0 hI hm hE hN hU
  have hp := dep_ok hro h0 (fun q hq => hm q (List.mem_append_left _ hq)) (x, f) (by simp) hx
  have m1 : M 4 311 = (x : Int) * ρ 0 + 0 := hm (4, 311, [((x : Int), 0)]) (List.mem_append_right _ (by simp))
  have m2 : M 4 104 = 1 * ρ 39 + 0 := hm (4, 104, [(1, 39)]) (List.mem_append_right _ (by simp))
  have m3 : M 4 314 = 1 * ρ 39 + 0 := hm (4, 314, [(1, 39)]) (List.mem_append_right _ (by simp))
  rw [h0] at m1
  have e104 : M' 4 104 = M 4 104 := hN 104 rfl (by simp)
  have e105 : M' 4 105 = M 4 105 := hN 105 rfl (by simp)
  have e106 : M' 4 106 = M 4 106 := hN 106 rfl (by simp)
  have e314 : M' 4 314 = M 4 314 := hN 314 rfl (by simp)
  refine ⟨⟨fun j _ h => Or.inl (by rw [e104] at h; exact h), fun j _ h => Or.inl (by rw [e105] at h; exact h), fun j _ h => Or.inl (by rw [e106] at h; exact h)⟩, fun d _ d' _ _ => Or.inl (by omega), fun i hi => ?_⟩
  by_cases e : i = x
  · subst e
    exact Or.inl ⟨f, by simp, hp⟩
  · refine Or.inr ⟨fun q hq => ?_, ?_⟩
    · rw [List.mem_singleton.mp hq]; exact fun z => e z.symm
    · unfold dTd at hi ⊢
      rw [e104, e105, e106, e314] at hi
      exact ⟨hi.1, hi.2.1, by omega⟩
/-- wide, not tied yet (the reference) -/
theorem dhW {j : Nat} (hj : j < 9) : dHyp r [(6 * j + 2, [(1, 0)])] [(4, 313, [(1, 0)])] [(4, 314, [((j : Int), 0)]), (4, 104, [(((j + 1 : Nat) : Int), 0)])] := by
  intro ρ M M' h0 hI hm hE hN hU
  have m2 : M 4 314 = (j : Int) * ρ 0 + 0 := hm (4, 314, [((j : Int), 0)]) (by simp)
  have m3 : M 4 104 = ((j + 1 : Nat) : Int) * ρ 0 + 0 := hm (4, 104, [(((j + 1 : Nat) : Int), 0)]) (by simp)
  have m4 : M' 4 313 = 1 * ρ 0 + 0 := hE (4, 313, [(1, 0)]) (by simp)
  rw [h0] at m2 m3 m4
  have e104 : M' 4 104 = M 4 104 := hN 104 rfl (by simp)
  have e105 : M' 4 105 = M 4 105 := hN 105 rfl (by simp)
  have e106 : M' 4 106 = M 4 106 := hN 106 rfl (by simp)
  have e314 : M' 4 314 = M 4 314 := hN 314 rfl (by simp)
  have e311 : M' 4 311 = M 4 311 := hN 311 rfl (by simp)
  refine ⟨⟨fun j _ h => Or.inl (by rw [e104] at h; exact h), fun j _ h => Or.inl (by rw [e105] at h; exact h), fun j _ h => Or.inl (by rw [e106] at h; exact h)⟩, fun d hd d' hin hout => ?_, fun i hi => ?_⟩
  · unfold dPn at hd ⊢
    rcases hd with hd | ⟨h1, h2, h3, h4, h5, h6⟩
    · omega
    · have eb : (M 4 314).toNat = j := by omega
      rw [e314, e104, m4, eb]
      rw [eb] at h3 h4 h5 h6
      refine Or.inr ⟨h1, h2, ?_, ?_, ?_, ?_⟩
      · have := hin (6 * j + 2, [(1, 0)]) (by simp)
        have this : d' (6 * j + 2) = 1 * ρ 0 + 0 := this
        rw [this, h0]
      · rw [hout _ (fun q hq => by rw [List.mem_singleton.mp hq]; show 6 * j + 2 ≠ 6 * j + 3; omega)]; exact h4
      · rw [hout _ (fun q hq => by rw [List.mem_singleton.mp hq]; show 6 * j + 2 ≠ 6 * j + 4; omega)]; exact h5
      · rw [hout _ (fun q hq => by rw [List.mem_singleton.mp hq]; show 6 * j + 2 ≠ 6 * j + 5; omega)]; exact h6
  · unfold dTd at hi
    rw [e104, e105, e106, e314, e311] at hi
    refine Or.inr ⟨fun q hq => ?_, hi⟩
    rw [List.mem_singleton.mp hq]
    intro z
    have z : 6 * j + 2 = i := z
    have t := hi.2.1.1 (by omega)
    rw [if_neg (by omega)] at t
    omega
/-- a bend more of the class -/
theorem dhN1 {ro j : Nat} {f0 f1 : qF} (hro : ro = 0 ∨ ro = 2 ∨ ro = 28) (hj : j < 9) (hr : (40 + j, f0) ∈ r.2.1) : dHyp r [(6 * j, f0), (6 * j + 1, f1), (6 * j + 2, []), (6 * j + 3, []), (6 * j + 4, []), (6 * j + 5, [])] [(4, 104, [(((j + 1 : Nat) : Int), 0)]), (4, 314, [(((j + 1 : Nat) : Int), 0)])] ((dEr ro ++ dEp ro [(6 * j, f0), (6 * j + 1, f1), (6 * j + 2, []), (6 * j + 3, []), (6 * j + 4, []), (6 * j + 5, [])]) ++ [(4, 104, [((j : Int), 0)]), (4, 314, [((j : Int), 0)])]) := by
  intro ρ M M' h0 hI hm hE hN hU
  have hp := dep_ok hro h0 (fun q hq => hm q (List.mem_append_left _ hq))
  have m1 : M 4 104 = (j : Int) * ρ 0 + 0 := hm (4, 104, [((j : Int), 0)]) (List.mem_append_right _ (by simp))
  have m2 : M 4 314 = (j : Int) * ρ 0 + 0 := hm (4, 314, [((j : Int), 0)]) (List.mem_append_right _ (by simp))
  have m3 : M' 4 104 = ((j + 1 : Nat) : Int) * ρ 0 + 0 := hE (4, 104, [(((j + 1 : Nat) : Int), 0)]) (by simp)
  have m4 : M' 4 314 = ((j + 1 : Nat) : Int) * ρ 0 + 0 := hE (4, 314, [(((j + 1 : Nat) : Int), 0)]) (by simp)
  rw [h0] at m1 m2 m3 m4
  have e105 : M' 4 105 = M 4 105 := hN 105 rfl (by simp)
  have e106 : M' 4 106 = M 4 106 := hN 106 rfl (by simp)
  have e311 : M' 4 311 = M 4 311 := hN 311 rfl (by simp)
  have p0 := hp (6 * j, f0) (by simp) (by show 6 * j < 116; omega)
  refine ⟨⟨fun j' h9 h => ?_, fun j _ h => Or.inl (by rw [e105] at h; exact h), fun j _ h => Or.inl (by rw [e106] at h; exact h)⟩, fun d _ d' _ _ => Or.inl (by omega), fun i hi => ?_⟩
  · by_cases e : j' = j
    · subst e
      refine Or.inr (drn_1 h9 (p0.trans ?_))
      have := hU (40 + j', f0) hr
      rw [show 60 + j' = 20 + (40 + j') by omega]
      exact this.symm
    · exact Or.inl (by omega)
  · unfold dTd at hi
    rw [e105, e106, e311, m3, m4] at hi
    by_cases e : 6 * j ≤ i ∧ i ≤ 6 * j + 5
    · have c : i = 6 * j ∨ i = 6 * j + 1 ∨ i = 6 * j + 2 ∨ i = 6 * j + 3 ∨ i = 6 * j + 4 ∨ i = 6 * j + 5 := by omega
      rcases c with rfl | rfl | rfl | rfl | rfl | rfl
      · exact Or.inl ⟨f0, by simp, p0⟩
      · exact Or.inl ⟨f1, by simp, hp (6 * j + 1, f1) (by simp) hi.1⟩
      · exact Or.inl ⟨[], by simp, hp (6 * j + 2, []) (by simp) hi.1⟩
      · exact Or.inl ⟨[], by simp, hp (6 * j + 3, []) (by simp) hi.1⟩
      · exact Or.inl ⟨[], by simp, hp (6 * j + 4, []) (by simp) hi.1⟩
      · exact Or.inl ⟨[], by simp, hp (6 * j + 5, []) (by simp) hi.1⟩
    · refine Or.inr ⟨fun q hq => ?_, hi.1, ⟨fun h => ?_, hi.2.1.2⟩, hi.2.2⟩
      · simp only [List.mem_cons, List.not_mem_nil, or_false] at hq
        rcases hq with rfl | rfl | rfl | rfl | rfl | rfl <;> (intro z; have z2 := z; simp only at z2; omega)
      · have t := hi.2.1.1 h
        rw [m1, m2]
        split at t <;> split <;> omega
/-- a bend more of the reference: its name and height -/
theorem dhN2 {j : Nat} {f0 f1 : qF} (hj : j < 9) (hr : (40 + j, f0) ∈ r.2.1) : dHyp r [(6 * j, f0), (6 * j + 1, f1), (6 * j + 2, []), (6 * j + 3, []), (6 * j + 4, []), (6 * j + 5, [])] [(4, 104, [(((j + 1 : Nat) : Int), 0)]), (4, 313, [])] ((dEr 0 ++ dEp 0 [(6 * j, f0), (6 * j + 1, f1)]) ++ [(4, 104, [((j : Int), 0)]), (4, 314, [((j : Int), 0)])]) := by
  intro ρ M M' h0 hI hm hE hN hU
  have hp := dep_ok (ro := 0) (Or.inl rfl) h0 (fun q hq => hm q (List.mem_append_left _ hq))
  have m1 : M 4 104 = (j : Int) * ρ 0 + 0 := hm (4, 104, [((j : Int), 0)]) (List.mem_append_right _ (by simp))
  have m2 : M 4 314 = (j : Int) * ρ 0 + 0 := hm (4, 314, [((j : Int), 0)]) (List.mem_append_right _ (by simp))
  have m3 : M' 4 104 = ((j + 1 : Nat) : Int) * ρ 0 + 0 := hE (4, 104, [(((j + 1 : Nat) : Int), 0)]) (by simp)
  have m4 : M' 4 313 = 0 := hE (4, 313, []) (by simp)
  rw [h0] at m1 m2 m3
  have e105 : M' 4 105 = M 4 105 := hN 105 rfl (by simp)
  have e106 : M' 4 106 = M 4 106 := hN 106 rfl (by simp)
  have e311 : M' 4 311 = M 4 311 := hN 311 rfl (by simp)
  have e314 : M' 4 314 = M 4 314 := hN 314 rfl (by simp)
  have p0 := hp (6 * j, f0) (by simp) (by show 6 * j < 116; omega)
  refine ⟨⟨fun j' h9 h => ?_, fun j _ h => Or.inl (by rw [e105] at h; exact h), fun j _ h => Or.inl (by rw [e106] at h; exact h)⟩, fun d _ d' hin _ => Or.inr ?_, fun i hi => ?_⟩
  · by_cases e : j' = j
    · subst e
      refine Or.inr (drn_1 h9 (p0.trans ?_))
      have := hU (40 + j', f0) hr
      rw [show 60 + j' = 20 + (40 + j') by omega]
      exact this.symm
    · exact Or.inl (by omega)
  · have eb : (M 4 314).toNat = j := by omega
    rw [e314, eb, m3, m4]
    exact ⟨by omega, by omega, hin (6 * j + 2, []) (by simp), hin (6 * j + 3, []) (by simp), hin (6 * j + 4, []) (by simp), hin (6 * j + 5, []) (by simp)⟩
  · unfold dTd at hi
    rw [e105, e106, e311, e314, m3] at hi
    by_cases e : 6 * j ≤ i ∧ i ≤ 6 * j + 5
    · have t := hi.2.1.1 (by omega)
      by_cases c2 : i % 6 < 2
      · have c : i = 6 * j ∨ i = 6 * j + 1 := by omega
        rcases c with rfl | rfl
        · exact Or.inl ⟨f0, by simp, p0⟩
        · exact Or.inl ⟨f1, by simp, hp (6 * j + 1, f1) (by simp) hi.1⟩
      · rw [if_neg c2] at t
        omega
    · refine Or.inr ⟨fun q hq => ?_, hi.1, ⟨fun h => ?_, hi.2.1.2⟩, hi.2.2⟩
      · simp only [List.mem_cons, List.not_mem_nil, or_false] at hq
        rcases hq with rfl | rfl | rfl | rfl | rfl | rfl <;> (intro z; have z2 := z; simp only at z2; omega)
      · have t := hi.2.1.1 h
        rw [m1]
        split at t <;> split <;> omega
theorem dhG {ro j : Nat} {f0 f1 f2 f3 : qF} (hro : ro = 0 ∨ ro = 2 ∨ ro = 28) (hj : j < 6) (hr : (50 + j, f0) ∈ r.2.1) : dHyp r [(54 + 4 * j, f0), (54 + 4 * j + 1, f1), (54 + 4 * j + 2, f2), (54 + 4 * j + 3, f3)] [(4, 105, [(((j + 1 : Nat) : Int), 0)])] ((dEr ro ++ dEp ro [(54 + 4 * j, f0), (54 + 4 * j + 1, f1), (54 + 4 * j + 2, f2), (54 + 4 * j + 3, f3)]) ++ [(4, 105, [((j : Int), 0)]), (4, 104, [(1, 39)]), (4, 314, [(1, 39)])]) := by
  intro ρ M M' h0 hI hm hE hN hU
  have hp := dep_ok hro h0 (fun q hq => hm q (List.mem_append_left _ hq))
  have m1 : M 4 105 = (j : Int) * ρ 0 + 0 := hm (4, 105, [((j : Int), 0)]) (List.mem_append_right _ (by simp))
  have m2 : M 4 104 = 1 * ρ 39 + 0 := hm (4, 104, [(1, 39)]) (List.mem_append_right _ (by simp))
  have m5 : M 4 314 = 1 * ρ 39 + 0 := hm (4, 314, [(1, 39)]) (List.mem_append_right _ (by simp))
  have m3 : M' 4 105 = ((j + 1 : Nat) : Int) * ρ 0 + 0 := hE (4, 105, [(((j + 1 : Nat) : Int), 0)]) (by simp)
  rw [h0] at m1 m3
  have e104 : M' 4 104 = M 4 104 := hN 104 rfl (by simp)
  have e106 : M' 4 106 = M 4 106 := hN 106 rfl (by simp)
  have e311 : M' 4 311 = M 4 311 := hN 311 rfl (by simp)
  have e314 : M' 4 314 = M 4 314 := hN 314 rfl (by simp)
  have p0 := hp (54 + 4 * j, f0) (by simp) (by show 54 + 4 * j < 116; omega)
  refine ⟨⟨fun j _ h => Or.inl (by rw [e104] at h; exact h), fun j' h9 h => ?_, fun j _ h => Or.inl (by rw [e106] at h; exact h)⟩, fun d _ d' _ _ => Or.inl (by omega), fun i hi => ?_⟩
  · by_cases e : j' = j
    · subst e
      refine Or.inr (drn_2 h9 (p0.trans ?_))
      have := hU (50 + j', f0) hr
      rw [show 70 + j' = 20 + (50 + j') by omega]
      exact this.symm
    · exact Or.inl (by omega)
  · unfold dTd at hi
    rw [e104, e106, e311, e314, m3] at hi
    by_cases e : 54 + 4 * j ≤ i ∧ i ≤ 54 + 4 * j + 3
    · have c : i = 54 + 4 * j ∨ i = 54 + 4 * j + 1 ∨ i = 54 + 4 * j + 2 ∨ i = 54 + 4 * j + 3 := by omega
      rcases c with rfl | rfl | rfl | rfl
      · exact Or.inl ⟨f0, by simp, p0⟩
      · exact Or.inl ⟨f1, by simp, hp (54 + 4 * j + 1, f1) (by simp) hi.1⟩
      · exact Or.inl ⟨f2, by simp, hp (54 + 4 * j + 2, f2) (by simp) hi.1⟩
      · exact Or.inl ⟨f3, by simp, hp (54 + 4 * j + 3, f3) (by simp) hi.1⟩
    · refine Or.inr ⟨fun q hq => ?_, hi.1, ⟨hi.2.1.1, fun h h' => ?_, hi.2.1.2.2⟩, hi.2.2⟩
      · simp only [List.mem_cons, List.not_mem_nil, or_false] at hq
        rcases hq with rfl | rfl | rfl | rfl <;> (intro z; have z2 := z; simp only at z2; omega)
      · have t := hi.2.1.2.1 h h'
        omega
theorem dhS {ro j : Nat} {f0 f1 f2 : qF} (hro : ro = 0 ∨ ro = 2 ∨ ro = 28) (hj : j < 3) (hr : (60 + j, f0) ∈ r.2.1) : dHyp r [(78 + 3 * j, f0), (78 + 3 * j + 1, f1), (78 + 3 * j + 2, f2)] [(4, 106, [(((j + 1 : Nat) : Int), 0)])] ((dEr ro ++ dEp ro [(78 + 3 * j, f0), (78 + 3 * j + 1, f1), (78 + 3 * j + 2, f2)]) ++ [(4, 106, [((j : Int), 0)]), (4, 104, [(1, 39)]), (4, 314, [(1, 39)])]) := by
  intro ρ M M' h0 hI hm hE hN hU
  have hp := dep_ok hro h0 (fun q hq => hm q (List.mem_append_left _ hq))
  have m1 : M 4 106 = (j : Int) * ρ 0 + 0 := hm (4, 106, [((j : Int), 0)]) (List.mem_append_right _ (by simp))
  have m2 : M 4 104 = 1 * ρ 39 + 0 := hm (4, 104, [(1, 39)]) (List.mem_append_right _ (by simp))
  have m5 : M 4 314 = 1 * ρ 39 + 0 := hm (4, 314, [(1, 39)]) (List.mem_append_right _ (by simp))
  have m3 : M' 4 106 = ((j + 1 : Nat) : Int) * ρ 0 + 0 := hE (4, 106, [(((j + 1 : Nat) : Int), 0)]) (by simp)
  rw [h0] at m1 m3
  have e104 : M' 4 104 = M 4 104 := hN 104 rfl (by simp)
  have e105 : M' 4 105 = M 4 105 := hN 105 rfl (by simp)
  have e311 : M' 4 311 = M 4 311 := hN 311 rfl (by simp)
  have e314 : M' 4 314 = M 4 314 := hN 314 rfl (by simp)
  have p0 := hp (78 + 3 * j, f0) (by simp) (by show 78 + 3 * j < 116; omega)
  refine ⟨⟨fun j _ h => Or.inl (by rw [e104] at h; exact h), fun j _ h => Or.inl (by rw [e105] at h; exact h), fun j' h9 h => ?_⟩, fun d _ d' _ _ => Or.inl (by omega), fun i hi => ?_⟩
  · by_cases e : j' = j
    · subst e
      refine Or.inr (drn_3 h9 (p0.trans ?_))
      have := hU (60 + j', f0) hr
      rw [show 80 + j' = 20 + (60 + j') by omega]
      exact this.symm
    · exact Or.inl (by omega)
  · unfold dTd at hi
    rw [e104, e105, e311, e314, m3] at hi
    by_cases e : 78 + 3 * j ≤ i ∧ i ≤ 78 + 3 * j + 2
    · have c : i = 78 + 3 * j ∨ i = 78 + 3 * j + 1 ∨ i = 78 + 3 * j + 2 := by omega
      rcases c with rfl | rfl | rfl
      · exact Or.inl ⟨f0, by simp, p0⟩
      · exact Or.inl ⟨f1, by simp, hp (78 + 3 * j + 1, f1) (by simp) hi.1⟩
      · exact Or.inl ⟨f2, by simp, hp (78 + 3 * j + 2, f2) (by simp) hi.1⟩
    · refine Or.inr ⟨fun q hq => ?_, hi.1, ⟨hi.2.1.1, hi.2.1.2.1, fun h h' => ?_⟩, hi.2.2⟩
      · simp only [List.mem_cons, List.not_mem_nil, or_false] at hq
        rcases hq with rfl | rfl | rfl <;> (intro z; have z2 := z; simp only at z2; omega)
      · have t := hi.2.1.2.2 h h'
        omega
end ROW
