/-! RULES OF THE MACHINE OF LINES: each row of its table is a rule (what lies there: the registers that it names). -/
def tNs (r : tRow) : List Nat := r.1.flatMap (fun f => f.map (fun q => q.2)) ++ r.2.1.flatMap (fun u => u.2.map (fun q => q.2))
def tNk (r : tRow) : List Nat := ((tNs r).filter (fun a => Nat.blt 0 a && Nat.blt a 33) ++ cond (Nat.beq r.2.2.1 1) [26, 28, 32] (cond (Nat.beq r.2.2.1 2) [27] (cond (Nat.beq r.2.2.1 3) [8, 5, 6, 7] [])) ++ (cond ((tNs r).any (fun b => Nat.beq b 33)) [14] [] ++ (cond ((tNs r).any (fun b => Nat.beq b 35)) [16, 29] [] ++ cond ((tNs r).any (fun b => Nat.beq b 36)) [17, 29] []))).eraseDups
def tHas (r : tRow) (a : Nat) : Bool := (tNs r).any (fun b => Nat.beq b a)
def tFl (r : tRow) : List qF := [(-1, 0), (1, 37)] :: r.1 ++ (cond (tHas r 33) [[(1, 14), (-1, 33), (-2, 34)], [(-1, 14), (1, 33), (2, 34)], [(1, 33)], [(1, 0), (-1, 33)]] [] ++ r.2.1.flatMap (fun u => cond (Nat.blt u.1 40) [] (cond (Nat.blt u.1 50) [[(((u.1 - 40 : Nat) : Int), 0), (-1, 39)]] (cond (Nat.blt u.1 60) [[(((u.1 - 50 : Nat) : Int), 0), (-1, 40)]] [[(((u.1 - 60 : Nat) : Int), 0), (-1, 41)]]))))
def tEl (r : tRow) : qMm := [(4, 100, [(1, 37)]), (4, 101, [(1, 38)]), (4, 210, []), (4, 230, [])] ++ (tNk r).map (fun a => (3, 19 + a, [(1, a)])) ++ (cond (r.2.1.any (fun u => Nat.ble 40 u.1)) [(4, 104, [(1, 39)]), (4, 105, [(1, 40)]), (4, 106, [(1, 41)])] [] ++ (cond (tHas r 35) [(91, 240, [(1, 0)]), (91, 241, [(1, 0)]), (91, 242, [(1, 29)]), (91, 244, [(1, 35)]), (91, 246, [(1, 16)])] [] ++ cond (tHas r 36) [(91, 240, [(1, 0)]), (91, 241, [(1, 0)]), (91, 242, [(1, 29)]), (91, 244, [(1, 36)]), (91, 246, [(1, 17)])] []))
def tSw : qMm := [(4, 102, [(1, 28)]), (4, 107, [(1, 26)]), (4, 108, [(1, 32)]), (3, 44, [(1, 42)]), (3, 45, [(1, 43)]), (3, 46, [(1, 44)]), (3, 47, [(1, 45)]), (3, 48, [(1, 46)]), (3, 49, [(1, 47)]), (3, 50, [(1, 48)]), (3, 51, [(1, 49)])]
def tGw (r : tRow) : qMm := r.2.1.map (fun u => (3, 20 + u.1, u.2)) ++ cond (Nat.beq r.2.2.1 1) tSw []
def tCl (r : tRow) : List qF := cond (Nat.beq r.2.2.1 1) [[(-1, 0), (1, 42)], [(41, 0), (-1, 42)], [(-1, 28), (1, 44)], [(-1, 44), (1, 45)], [(1, 38), (-1, 45)], [(1, 0), (1, 46)], [(1, 48)], [(5, 0), (-1, 48)]] []
def tRu (r : tRow) : qRu := (42, tFl r, tEl r, [], tGw r, tCl r)
/-- what is written outside the heap, looked up -/
theorem gu_ne {ρ : Nat → Int} : ∀ {gw : qMm} {M : sM} {o k : Nat}, (∀ q ∈ gw, ¬ (q.1 = o ∧ q.2.1 = k)) → gU ρ gw M o k = M o k
  | [], _, _, _, _ => rfl
  | q :: l, M, o, k, h => by
    show gU ρ l (sU M q.1 q.2.1 (qD ρ q.2.2)) o k = M o k
    rw [gu_ne (fun p hp => h p (List.mem_cons_of_mem _ hp))]
    exact sU_ne (fun z => h q List.mem_cons_self ⟨z.1.symm, z.2.symm⟩)
def gDp : qMm → Bool
  | [] => true
  | q :: l => l.all (fun p => !(Nat.beq p.1 q.1 && Nat.beq p.2.1 q.2.1)) && gDp l
theorem gu_at {ρ : Nat → Int} : ∀ {gw : qMm} {M : sM} {q : Nat × Nat × qF}, gDp gw = true → q ∈ gw → gU ρ gw M q.1 q.2.1 = qD ρ q.2.2
  | [], _, _, _, h => nomatch h
  | p :: l, M, q, h, hq => by
    have h' : (l.all (fun a => !(Nat.beq a.1 p.1 && Nat.beq a.2.1 p.2.1)) && gDp l) = true := h
    rw [Bool.and_eq_true] at h'
    show gU ρ l (sU M p.1 p.2.1 (qD ρ p.2.2)) q.1 q.2.1 = qD ρ q.2.2
    rcases List.mem_cons.mp hq with rfl | hq
    · rw [gu_ne (fun a ha => ?_), sU_at]
      intro z
      have := List.all_eq_true.mp h'.1 a ha
      rw [z.1, z.2, Nat.beq_refl, Nat.beq_refl] at this
      cases this
    · exact gu_at h'.2 hq
/-- ghost places of the cells 3 and 4 -/
theorem srg_3 (k : Nat) : sRg 3 k = none := rfl
theorem srg_4 (k : Nat) : sRg 4 k = none := rfl
theorem si_34 {M M' : sM} (hI : sI M) (h : ∀ o k, o ≠ 3 → o ≠ 4 → M' o k = M o k) (hc : XC M') : sI M' := by
  refine ⟨fun o k r hr => ?_, ?_⟩
  · by_cases h3 : o = 3
    · subst h3; rw [srg_3] at hr; cases hr
    · by_cases h4 : o = 4
      · subst h4; rw [srg_4] at hr; cases hr
      · rw [h o k h3 h4]
        exact hI.1 o k r hr
  · exact xi_34 h hI.2 hc
theorem qd_cg {ρ σ : Nat → Int} : ∀ {f : qF}, (∀ q ∈ f, ρ q.2 = σ q.2) → qD ρ f = qD σ f
  | [], _ => rfl
  | q :: f, h => by
    show q.1 * ρ q.2 + qD ρ f = q.1 * σ q.2 + qD σ f
    rw [h q List.mem_cons_self, qd_cg (fun p hp => h p (List.mem_cons_of_mem _ hp))]
/-- what every row keeps to: registers that are written, names -/
def tFit (r : tRow) : Bool := r.2.1.all (fun u => Nat.blt u.1 24 || (Nat.ble 40 u.1 && Nat.blt u.1 63)) && (gDp (tGw r) && ((tNs r).all (fun a => Nat.beq a 0 || (Nat.blt a 33 || (Nat.blt a 35 && (tHas r 33 && (tNk r).any (fun b => Nat.beq b 14)) || (Nat.beq a 35 && ((tNk r).any (fun b => Nat.beq b 16) && (tNk r).any (fun b => Nat.beq b 29)) || (Nat.beq a 36 && ((tNk r).any (fun b => Nat.beq b 17) && (tNk r).any (fun b => Nat.beq b 29))))))) && r.2.1.all (fun u => Nat.blt u.1 40 || (Nat.blt u.1 49 || (Nat.ble 50 u.1 && Nat.blt u.1 56 || Nat.ble 60 u.1)))))
theorem tfit_all : tTab.all tFit = true := by decide +kernel
section ROW
variable {r : tRow} {ρ : Nat → Int} {M : sM}
/-- the names of a row are the registers -/
theorem trho_eq (hr : tFit r = true) (h0 : ρ 0 = 1) (hf : ∀ f ∈ tFl r, 0 ≤ qD ρ f) (hm : ∀ q ∈ tEl r, M q.1 (zIx ρ q.2.1) = qD ρ q.2.2) (hI : sI M) : ∀ a ∈ tNs r, tRho (tCf M) a = ρ a := by
  intro a ha
  unfold tFit at hr
  rw [Bool.and_eq_true, Bool.and_eq_true, Bool.and_eq_true] at hr
  have h1 := List.all_eq_true.mp hr.2.2.1 a ha
  have hreg : ∀ b, b ∈ tNk r → b < 33 → 0 < b → tCf M (b - 1) = ρ b := fun b hb hb1 hb2 => by
    have h := hm (3, 19 + b, [(1, b)]) (by
      unfold tEl
      refine List.mem_append_left _ (List.mem_append_right _ (List.mem_map.mpr ⟨b, hb, rfl⟩)))
    have e : M 3 (19 + b) = 1 * ρ b + 0 := by
      have e2 : zIx ρ (19 + b) = 19 + b := zix_lt (by omega)
      rw [show M 3 (19 + b) = M 3 (zIx ρ (19 + b)) by rw [e2]]
      exact h
    show (if b - 1 < 70 then M 3 (20 + (b - 1)) else 0) = ρ b
    rw [if_pos (by omega), show 20 + (b - 1) = 19 + b by omega, e]
    omega
  have hany : ∀ {c : Nat}, (tNk r).any (fun b => Nat.beq b c) = true → c ∈ tNk r := fun h => by
    obtain ⟨b, hb, e⟩ := List.any_eq_true.mp h
    rw [← Nat.eq_of_beq_eq_true e]; exact hb
  rw [Bool.or_eq_true, Bool.or_eq_true] at h1
  rcases h1 with h1 | h1 | h1
  · rw [Nat.eq_of_beq_eq_true h1, h0]; rfl
  · have hlt := zblt h1
    by_cases ha0 : a = 0
    · rw [ha0, h0]; rfl
    have hk : a ∈ tNk r := by
      unfold tNk
      rw [List.mem_eraseDups]
      refine List.mem_append_left _ (List.mem_append_left _ (List.mem_filter.mpr ⟨ha, ?_⟩))
      rw [Bool.and_eq_true]
      exact ⟨Nat.ble_eq_true_of_le (by omega), Nat.ble_eq_true_of_le (by omega)⟩
    unfold tRho
    rw [if_neg ha0, if_neg (by omega), if_neg (by omega), if_neg (by omega), if_neg (by omega)]
    exact hreg a hk hlt (by omega)
  · rw [Bool.or_eq_true] at h1
    rcases h1 with h1 | h1
    · rw [Bool.and_eq_true, Bool.and_eq_true] at h1
      obtain ⟨h2, h3, h4⟩ := h1
      have h14 := hreg 14 (hany h4) (by omega) (by omega)
      have g1 := hf [(1, 14), (-1, 33), (-2, 34)] (by unfold tFl; rw [h3]; exact List.mem_append_right _ (List.mem_append_left _ (by simp [cond_true])))
      have g2 := hf [(-1, 14), (1, 33), (2, 34)] (by unfold tFl; rw [h3]; exact List.mem_append_right _ (List.mem_append_left _ (by simp [cond_true])))
      have g3 := hf [(1, 33)] (by unfold tFl; rw [h3]; exact List.mem_append_right _ (List.mem_append_left _ (by simp [cond_true])))
      have g4 := hf [(1, 0), (-1, 33)] (by unfold tFl; rw [h3]; exact List.mem_append_right _ (List.mem_append_left _ (by simp [cond_true])))
      simp only [qD, h0] at g1 g2 g3 g4
      have h14' : tCf M 13 = ρ 14 := h14
      by_cases e33 : a < 33
      · by_cases ha0 : a = 0
        · rw [ha0, h0]; rfl
        have hk : a ∈ tNk r := by
          unfold tNk
          rw [List.mem_eraseDups]
          refine List.mem_append_left _ (List.mem_append_left _ (List.mem_filter.mpr ⟨ha, ?_⟩))
          rw [Bool.and_eq_true]
          exact ⟨Nat.ble_eq_true_of_le (by omega), Nat.ble_eq_true_of_le (by omega)⟩
        unfold tRho
        rw [if_neg ha0, if_neg (by omega), if_neg (by omega), if_neg (by omega), if_neg (by omega)]
        exact hreg a hk e33 (by omega)
      · have hlt := zblt h2
        have e : a = 33 ∨ a = 34 := by omega
        rcases e with rfl | rfl
        · show tCf M 13 % 2 = ρ 33
          rw [h14']; omega
        · show tCf M 13 / 2 = ρ 34
          rw [h14']; omega
    · have hcell : ∀ k f, (91, k, f) ∈ tEl r → k < 1000 → M 91 k = qD ρ f := fun k f h hk => by
        have h2 := hm _ h
        have h3 : M 91 (zIx ρ k) = qD ρ f := h2
        rw [zix_lt hk] at h3
        exact h3
      have hmk : M 91 240 = 1 → M 91 243 = xop 4 (M 91 241) (M 91 242) ∧ M 91 244 = xop 5 (M 91 246) (M 91 243) := fun h => by
        have := gx_xSD hI h
        exact ⟨this.1, this.2.1⟩
      rw [Bool.or_eq_true] at h1
      rcases h1 with h1 | h1
      · rw [Bool.and_eq_true, Bool.and_eq_true] at h1
        obtain ⟨h2, h3, h4⟩ := h1
        have ea := Nat.eq_of_beq_eq_true h2
        subst ea
        have hh : tHas r 35 = true := List.any_eq_true.mpr ⟨35, ha, Nat.beq_refl _⟩
        have hin : ∀ q, q ∈ ([(91, 240, [(1, 0)]), (91, 241, [(1, 0)]), (91, 242, [(1, 29)]), (91, 244, [(1, 35)]), (91, 246, [(1, 16)])] : qMm) → q ∈ tEl r := fun q hq => by
          unfold tEl
          refine List.mem_append_right _ (List.mem_append_right _ (List.mem_append_left _ ?_))
          rw [hh]; exact hq
        have c1 := hcell 240 [(1, 0)] (hin _ (by simp)) (by omega)
        have c2 := hcell 241 [(1, 0)] (hin _ (by simp)) (by omega)
        have c3 := hcell 242 [(1, 29)] (hin _ (by simp)) (by omega)
        have c4 := hcell 244 [(1, 35)] (hin _ (by simp)) (by omega)
        have c5 := hcell 246 [(1, 16)] (hin _ (by simp)) (by omega)
        simp only [qD, h0] at c1 c2 c3 c4 c5
        obtain ⟨k1, k2⟩ := hmk (by omega)
        have r16 : tCf M 15 = ρ 16 := hreg 16 (hany h3) (by omega) (by omega)
        have r29 : tCf M 28 = ρ 29 := hreg 29 (hany h4) (by omega) (by omega)
        show xop 5 (tCf M 15) (xop 4 1 (tCf M 28)) = ρ 35
        rw [r16, r29, ← show M 91 246 = ρ 16 by omega, ← show M 91 242 = ρ 29 by omega, ← show M 91 241 = 1 by omega, ← k1, ← k2]
        omega
      · rw [Bool.and_eq_true, Bool.and_eq_true] at h1
        obtain ⟨h2, h3, h4⟩ := h1
        have ea := Nat.eq_of_beq_eq_true h2
        subst ea
        have hh : tHas r 36 = true := List.any_eq_true.mpr ⟨36, ha, Nat.beq_refl _⟩
        have hin : ∀ q, q ∈ ([(91, 240, [(1, 0)]), (91, 241, [(1, 0)]), (91, 242, [(1, 29)]), (91, 244, [(1, 36)]), (91, 246, [(1, 17)])] : qMm) → q ∈ tEl r := fun q hq => by
          unfold tEl
          refine List.mem_append_right _ (List.mem_append_right _ (List.mem_append_right _ ?_))
          rw [hh]; exact hq
        have c1 := hcell 240 [(1, 0)] (hin _ (by simp)) (by omega)
        have c2 := hcell 241 [(1, 0)] (hin _ (by simp)) (by omega)
        have c3 := hcell 242 [(1, 29)] (hin _ (by simp)) (by omega)
        have c4 := hcell 244 [(1, 36)] (hin _ (by simp)) (by omega)
        have c5 := hcell 246 [(1, 17)] (hin _ (by simp)) (by omega)
        simp only [qD, h0] at c1 c2 c3 c4 c5
        obtain ⟨k1, k2⟩ := hmk (by omega)
        have r17 : tCf M 16 = ρ 17 := hreg 17 (hany h3) (by omega) (by omega)
        have r29 : tCf M 28 = ρ 29 := hreg 29 (hany h4) (by omega) (by omega)
        show xop 5 (tCf M 16) (xop 4 1 (tCf M 28)) = ρ 36
        rw [r17, r29, ← show M 91 246 = ρ 17 by omega, ← show M 91 242 = ρ 29 by omega, ← show M 91 241 = 1 by omega, ← k1, ← k2]
        omega
theorem tgw_34 : ∀ q ∈ tGw r, q.1 = 3 ∨ (q.1 = 4 ∧ (q.2.1 = 102 ∨ q.2.1 = 107 ∨ q.2.1 = 108)) := by
  intro q hq
  unfold tGw at hq
  rcases List.mem_append.mp hq with hq | hq
  · obtain ⟨u, _, rfl⟩ := List.mem_map.mp hq
    exact Or.inl rfl
  · cases hb : Nat.beq r.2.2.1 1 with
    | false => rw [hb] at hq; exact absurd hq List.not_mem_nil
    | true =>
      rw [hb, cond_true] at hq
      unfold tSw at hq
      simp only [List.mem_cons, List.not_mem_nil, or_false] at hq
      rcases hq with rfl | rfl | rfl | rfl | rfl | rfl | rfl | rfl | rfl | rfl | rfl
      · exact Or.inr ⟨rfl, Or.inl rfl⟩
      · exact Or.inr ⟨rfl, Or.inr (Or.inl rfl)⟩
      · exact Or.inr ⟨rfl, Or.inr (Or.inr rfl)⟩
      all_goals exact Or.inl rfl
theorem row_keep {z : sSt} {M M' : sM} (ha : ∀ o k, o ≠ 3 → ¬ (o = 4 ∧ (k = 102 ∨ k = 107 ∨ k = 108)) → M' o k = M o k) (h3 : sInC z 3 = false) (h4 : sIn z 4 102 = false) (h5 : sIn z 4 107 = false) (h6 : sIn z 4 108 = false) : ∀ o k, sIn z o k = true → M' o k = M o k := by
  intro o k hz
  refine ha o k (fun e => ?_) (fun e => ?_)
  · subst e
    rw [sinc_ok h3] at hz; cases hz
  · obtain ⟨rfl, e⟩ := e
    rcases e with rfl | rfl | rfl
    · rw [h4] at hz; cases hz
    · rw [h5] at hz; cases hz
    · rw [h6] at hz; cases hz
/-- a register behind a row -/
theorem tgw_reg {ρ' : Nat → Int} (hr : tFit r = true) {k : Nat} (hu : ∀ u ∈ r.2.1, 20 + u.1 ≠ k) (hs : r.2.2.1 = 1 → ¬ (44 ≤ k ∧ k ≤ 51)) : gU ρ' (tGw r) M 3 k = M 3 k := by
  refine gu_ne (fun q hq z => ?_)
  unfold tGw at hq
  rcases List.mem_append.mp hq with hq | hq
  · obtain ⟨u, hu', rfl⟩ := List.mem_map.mp hq
    exact hu u hu' z.2
  · cases hb : Nat.beq r.2.2.1 1 with
    | false => rw [hb] at hq; exact absurd hq List.not_mem_nil
    | true =>
      rw [hb, cond_true] at hq
      have h1 := hs (Nat.eq_of_beq_eq_true hb)
      unfold tSw at hq
      simp only [List.mem_cons, List.not_mem_nil, or_false] at hq
      rcases hq with rfl | rfl | rfl | rfl | rfl | rfl | rfl | rfl | rfl | rfl | rfl <;> first | exact absurd z.1 (by decide) | (have z2 := z.2; exact h1 (by have z3 : (_ : Nat) = k := z2; subst z3; exact ⟨by decide, by decide⟩))
theorem tgw_sh {ρ' : Nat → Int} (hr : tFit r = true) (hk : r.2.2.1 = 1) {q : Nat × Nat × qF} (hq : q ∈ tSw) : gU ρ' (tGw r) M q.1 q.2.1 = qD ρ' q.2.2 := by
  unfold tFit at hr
  rw [Bool.and_eq_true, Bool.and_eq_true] at hr
  refine gu_at hr.2.1 ?_
  unfold tGw
  rw [hk]
  exact List.mem_append_right _ hq
theorem tgw_u {ρ' : Nat → Int} (hr : tFit r = true) {u : Nat × qF} (hu : u ∈ r.2.1) : gU ρ' (tGw r) M 3 (20 + u.1) = qD ρ' u.2 := by
  unfold tFit at hr
  rw [Bool.and_eq_true, Bool.and_eq_true] at hr
  exact gu_at (q := (3, 20 + u.1, u.2)) hr.2.1 (List.mem_append_left _ (List.mem_map.mpr ⟨u, hu, rfl⟩))
theorem tfit_u (hr : tFit r = true) {u : Nat × qF} (hu : u ∈ r.2.1) : u.1 < 24 ∨ (40 ≤ u.1 ∧ u.1 < 63) := by
  unfold tFit at hr
  rw [Bool.and_eq_true] at hr
  have := List.all_eq_true.mp hr.1 u hu
  rw [Bool.or_eq_true, Bool.and_eq_true] at this
  rcases this with h | h
  · exact Or.inl (zblt h)
  · exact Or.inr ⟨Nat.le_of_ble_eq_true h.1, zblt h.2⟩
theorem trow_ok (hr : r ∈ tTab) (hk : r.2.2.1 < 2) : qRok (tRu r) := by
  intro ρ M h0 hf hm hI
  have hf : ∀ f ∈ tFl r, 0 ≤ qD ρ f := hf
  have hm : ∀ q ∈ tEl r, M q.1 (zIx ρ q.2.1) = qD ρ q.2.2 := hm
  have hfit := List.all_eq_true.mp tfit_all r hr
  have hρ := trho_eq hfit h0 hf hm hI
  have hel4 : ∀ k f, (4, k, f) ∈ tEl r → k < 1000 → M 4 k = qD ρ f := fun k f h hk => by
    have h3 : M 4 (zIx ρ k) = qD ρ f := hm _ h
    rw [zix_lt hk] at h3
    exact h3
  have hin0 : ∀ q, q ∈ ([(4, 100, [(1, 37)]), (4, 101, [(1, 38)]), (4, 210, []), (4, 230, [])] : qMm) → q ∈ tEl r := fun q hq => by
    unfold tEl
    exact List.mem_append_left _ (List.mem_append_left _ hq)
  have m100 := hel4 100 [(1, 37)] (hin0 _ (by simp)) (by omega)
  have m101 := hel4 101 [(1, 38)] (hin0 _ (by simp)) (by omega)
  have m210 := hel4 210 [] (hin0 _ (by simp)) (by omega)
  have m230 := hel4 230 [] (hin0 _ (by simp)) (by omega)
  have f37 := hf [(-1, 0), (1, 37)] (by unfold tFl; exact List.mem_append_left _ List.mem_cons_self)
  simp only [qD, h0] at m100 m101 m210 m230 f37
  have hrun : M 4 100 ≠ 0 := by omega
  have hok : tOk (tCf M) r := fun f hf' => by
    rw [qd_cg (σ := ρ) (fun q hq => hρ q.2 (by
      unfold tNs
      exact List.mem_append_left _ (List.mem_flatMap.mpr ⟨f, hf', List.mem_map.mpr ⟨q, hq, rfl⟩⟩)))]
    exact hf f (by unfold tFl; exact List.mem_append_left _ (List.mem_cons_of_mem _ hf'))
  have hup : ∀ u ∈ r.2.1, qD (tRho (tCf M)) u.2 = qD ρ u.2 := fun u hu => qd_cg (fun q hq => hρ q.2 (by
    unfold tNs
    exact List.mem_append_right _ (List.mem_flatMap.mpr ⟨u, hu, List.mem_map.mpr ⟨q, hq, rfl⟩⟩)))
  have hup2 : ∀ u ∈ r.2.1, ∀ q ∈ u.2, q.2 < 42 := fun u hu q hq => by
    have hfit2 := hfit
    unfold tFit at hfit2
    rw [Bool.and_eq_true, Bool.and_eq_true, Bool.and_eq_true] at hfit2
    have h1 := List.all_eq_true.mp hfit2.2.2.1 q.2 (by
      unfold tNs
      exact List.mem_append_right _ (List.mem_flatMap.mpr ⟨u, hu, List.mem_map.mpr ⟨q, hq, rfl⟩⟩))
    rw [Bool.or_eq_true, Bool.or_eq_true, Bool.or_eq_true, Bool.or_eq_true] at h1
    rcases h1 with h1 | h1 | h1 | h1 | h1
    · have := Nat.eq_of_beq_eq_true h1; omega
    · have := zblt h1; omega
    · rw [Bool.and_eq_true] at h1
      have := zblt h1.1; omega
    · rw [Bool.and_eq_true] at h1
      have := Nat.eq_of_beq_eq_true h1.1; omega
    · rw [Bool.and_eq_true] at h1
      have := Nat.eq_of_beq_eq_true h1.1; omega
  obtain ⟨N, hN⟩ : ∃ N : Nat, N = (M 4 101).toNat := ⟨_, rfl⟩
  obtain ⟨c, hc⟩ : ∃ c : tC, c = tCf M := ⟨_, rfl⟩
  obtain ⟨c', hc'⟩ : ∃ c' : tC, c' = tNew (M 92) N c r := ⟨_, rfl⟩
  have hre := gx_xS3 hI hrun
  rw [← hN, ← hc] at hre
  have hre' : tRe (M 92) N (M 4 207) (M 4 208) c' := tre_go hre ⟨r, hr, hk, by rw [hc]; exact hok, hc'⟩
  have hfind : ∀ i, (∃ u ∈ r.2.1, u.1 = i ∧ tUp c r.2.1 i = qD (tRho c) u.2) ∨ ((∀ u ∈ r.2.1, u.1 ≠ i) ∧ tUp c r.2.1 i = c i) := fun i => by
    unfold tUp
    split
    · rename_i u hu
      exact Or.inl ⟨u, List.mem_of_find?_eq_some hu, Nat.eq_of_beq_eq_true (by have h := List.find?_some hu; exact h), rfl⟩
    · rename_i hu
      refine Or.inr ⟨fun u hu' e => ?_, rfl⟩
      have := List.find?_eq_none.mp hu u hu'
      rw [e, Nat.beq_refl] at this
      exact this rfl
  have hreg : ∀ i, 24 ≤ i → i < 40 → tUp c r.2.1 i = c i := fun i h1 h2 => by
    rcases hfind i with ⟨u, hu, e, _⟩ | ⟨_, e⟩
    · have := tfit_u hfit hu
      omega
    · exact e
  have hci : ∀ i, i < 70 → c i = M 3 (20 + i) := fun i hi => by
    rw [hc]
    show (if i < 70 then M 3 (20 + i) else 0) = _
    rw [if_pos hi]
  obtain ⟨o1, o2, o3⟩ := gx_xS2 hI hrun
  obtain ⟨n1, n2, _⟩ := gx_xS1 hI hrun
  have hb := tto_b (M 92) (n := (M 4 101).toNat) (p := (M 4 102).toNat) (M 4 107) (M 4 108) (by omega)
  rw [← o3] at hb
  have hb : ((M 4 102).toNat : Int) ≤ M 3 46 ∧ M 3 46 ≤ M 3 47 ∧ M 3 47 ≤ ((M 4 101).toNat : Int) ∧ _ := hb
  have hb2 := tto_b (M 92) (n := N) (p := (M 3 47).toNat) (M 3 45) (M 3 51) (by omega)
  -- the new names
  refine ⟨fun a => if a < 42 then ρ a else c' (a - 18), fun a ha => if_pos ha, ?_, ?_⟩
  · intro f hf'
    have hf' : f ∈ tCl r := hf'
    unfold tCl at hf'
    cases hb3 : Nat.beq r.2.2.1 1 with
    | false => rw [hb3] at hf'; exact absurd hf' List.not_mem_nil
    | true =>
      rw [hb3, cond_true] at hf'
      have hk1 := Nat.eq_of_beq_eq_true hb3
      have hsh : c' = tSh (M 92) N (tUp c r.2.1) := by
        rw [hc']; unfold tNew; rw [if_pos hk1]
      have e27 : tUp c r.2.1 27 = M 3 47 := (hreg 27 (by omega) (by omega)).trans (hci 27 (by omega))
      have e25 : tUp c r.2.1 25 = M 3 45 := (hreg 25 (by omega) (by omega)).trans (hci 25 (by omega))
      have e31 : tUp c r.2.1 31 = M 3 51 := (hreg 31 (by omega) (by omega)).trans (hci 31 (by omega))
      have v24 : c' 24 = (tTo (M 92) N (M 3 47).toNat (M 3 45) (M 3 51)).1 := by rw [hsh, ← e27, ← e25, ← e31]; rfl
      have v26 : c' 26 = (tTo (M 92) N (M 3 47).toNat (M 3 45) (M 3 51)).2.2.1 := by rw [hsh, ← e27, ← e25, ← e31]; rfl
      have v27 : c' 27 = (tTo (M 92) N (M 3 47).toNat (M 3 45) (M 3 51)).2.2.2.1 := by rw [hsh, ← e27, ← e25, ← e31]; rfl
      have v30 : c' 30 = (tTo (M 92) N (M 3 47).toNat (M 3 45) (M 3 51)).2.2.2.2.1 := by rw [hsh, ← e27, ← e25, ← e31]; rfl
      have v28 : -1 ≤ c' 28 := by
        rw [hsh]
        show -1 ≤ tFo (tUp c r.2.1) _
        unfold tFo
        split
        · exact (tfi_b _ _ _).1
        · split <;> exact (tfi_b _ _ _).1
      have h28 : M 3 47 = ρ 28 := by
        have h : M 3 (zIx ρ 47) = 1 * ρ 28 + 0 := hm (3, 47, [(1, 28)]) (by
          unfold tEl
          refine List.mem_append_left _ (List.mem_append_right _ (List.mem_map.mpr ⟨28, ?_, rfl⟩))
          unfold tNk
          rw [List.mem_eraseDups, hb3]
          exact List.mem_append_left _ (List.mem_append_right _ (by simp [cond_true])))
        rw [zix_lt (by omega)] at h
        omega
      simp only [List.mem_cons, List.not_mem_nil, or_false] at hf'
      rcases hf' with rfl | rfl | rfl | rfl | rfl | rfl | rfl | rfl
      · show 0 ≤ -1 * ρ 0 + (1 * c' 24 + 0); rw [h0]; omega
      · show 0 ≤ 41 * ρ 0 + (-1 * c' 24 + 0); rw [h0]; omega
      · show 0 ≤ -1 * ρ 28 + (1 * c' 26 + 0); omega
      · show 0 ≤ -1 * c' 26 + (1 * c' 27 + 0); omega
      · show 0 ≤ 1 * ρ 38 + (-1 * c' 27 + 0); omega
      · show 0 ≤ 1 * ρ 0 + (1 * c' 28 + 0); rw [h0]; omega
      · show 0 ≤ 1 * c' 30 + 0; omega
      · show 0 ≤ 5 * ρ 0 + (-1 * c' 30 + 0); rw [h0]; omega
  · obtain ⟨ρ', hρ'⟩ : ∃ ρ' : Nat → Int, ρ' = fun a => if a < 42 then ρ a else c' (a - 18) := ⟨_, rfl⟩
    show sI (gU (fun a => if a < 42 then ρ a else c' (a - 18)) (tGw r) M)
    rw [← hρ']
    have hρ42 : ∀ a, a < 42 → ρ' a = ρ a := fun a ha => by rw [hρ']; exact if_pos ha
    have hρn : ∀ a, 42 ≤ a → ρ' a = c' (a - 18) := fun a ha => by rw [hρ']; exact if_neg (by omega)
    obtain ⟨M', hM'⟩ : ∃ M' : sM, M' = gU ρ' (tGw r) M := ⟨_, rfl⟩
    rw [← hM']
    have ha : ∀ o k, o ≠ 3 → ¬ (o = 4 ∧ (k = 102 ∨ k = 107 ∨ k = 108)) → M' o k = M o k := fun o k h3 h4 => by
      rw [hM']
      refine gu_ne (fun q hq z => ?_)
      rcases tgw_34 q hq with e | ⟨e, e2⟩
      · exact h3 (z.1.symm.trans e)
      · exact h4 ⟨z.1.symm.trans e, by rw [← z.2]; exact e2⟩
    have hU : ∀ u ∈ r.2.1, M' 3 (20 + u.1) = qD ρ u.2 := fun u hu => by
      rw [hM', tgw_u hfit hu]
      exact qd_cg (fun q hq => hρ42 q.2 (hup2 u hu q hq))
    have hK : ∀ k, (∀ u ∈ r.2.1, 20 + u.1 ≠ k) → (r.2.2.1 = 1 → ¬ (44 ≤ k ∧ k ≤ 51)) → M' 3 k = M 3 k := fun k h1 h2 => by
      rw [hM']; exact tgw_reg hfit h1 h2
    have hS : r.2.2.1 = 1 → ∀ q ∈ tSw, M' q.1 q.2.1 = qD ρ' q.2.2 := fun h q hq => by rw [hM']; exact tgw_sh hfit h hq
    have hnew : ∀ i, (r.2.2.1 = 1 → ¬ (24 ≤ i ∧ i ≤ 31)) → c' i = tUp c r.2.1 i := fun i h => by
      rw [hc']
      unfold tNew
      split
      · rename_i h1
        have := h h1
        show tSh _ _ _ i = _
        unfold tSh
        rw [if_neg (by omega), if_neg (by omega), if_neg (by omega), if_neg (by omega), if_neg (by omega), if_neg (by omega), if_neg (by omega), if_neg (by omega)]
      · rfl
    have hSr : r.2.2.1 = 1 → ∀ i, 24 ≤ i → i ≤ 31 → M' 3 (20 + i) = c' i := fun h i h1 h2 => by
      have key : ∀ j, 24 ≤ j → j ≤ 31 → (3, 20 + j, [((1 : Int), 18 + j)]) ∈ tSw := fun j h1 h2 => by
        have e : j = 24 ∨ j = 25 ∨ j = 26 ∨ j = 27 ∨ j = 28 ∨ j = 29 ∨ j = 30 ∨ j = 31 := by omega
        rcases e with rfl | rfl | rfl | rfl | rfl | rfl | rfl | rfl <;> decide
      have h3 := hS h _ (key i h1 h2)
      have h4 : M' 3 (20 + i) = 1 * ρ' (18 + i) + 0 := h3
      rw [h4, hρn _ (by omega), show 18 + i - 18 = i by omega]
      omega
    have hcf : tCf M' = c' := by
      funext i
      show (if i < 70 then M' 3 (20 + i) else 0) = c' i
      by_cases hi : i < 70
      · rw [if_pos hi]
        by_cases hs : r.2.2.1 = 1 ∧ (24 ≤ i ∧ i ≤ 31)
        · exact hSr hs.1 i hs.2.1 hs.2.2
        · rw [hnew i (fun h1 h2 => hs ⟨h1, h2⟩)]
          rcases hfind i with ⟨u, hu, e, e2⟩ | ⟨hno, e2⟩
          · rw [e2, ← e, hU u hu, hc, hup u hu]
          · rw [e2, hci i hi]
            exact hK (20 + i) (fun u hu e => hno u hu (by omega)) (fun h1 h2 => hs ⟨h1, by omega⟩)
      · rw [if_neg hi, hnew i (fun _ => by omega)]
        rcases hfind i with ⟨u, hu, e, e2⟩ | ⟨hno, e2⟩
        · have := tfit_u hfit hu
          omega
        · rw [e2, hc]
          show 0 = (if i < 70 then M 3 (20 + i) else 0)
          rw [if_neg hi]
    have h92 : M' 92 = M 92 := funext fun k => ha 92 k (by omega) (by omega)
    have h4 : ∀ k, k ≠ 102 → k ≠ 107 → k ≠ 108 → M' 4 k = M 4 k := fun k a1 a2 a3 => ha 4 k (by omega) (by omega)
    have htie : ∀ {u : Nat × qF}, u ∈ r.2.1 → 40 ≤ u.1 → (u.1 < 50 → M 4 104 ≤ ((u.1 - 40 : Nat) : Int)) ∧ (50 ≤ u.1 → u.1 < 60 → M 4 105 ≤ ((u.1 - 50 : Nat) : Int)) ∧ (60 ≤ u.1 → M 4 106 ≤ ((u.1 - 60 : Nat) : Int)) := fun {u} hu h40 => by
      have hany : r.2.1.any (fun u => Nat.ble 40 u.1) = true := List.any_eq_true.mpr ⟨u, hu, Nat.ble_eq_true_of_le h40⟩
      have hin : ∀ q, q ∈ ([(4, 104, [(1, 39)]), (4, 105, [(1, 40)]), (4, 106, [(1, 41)])] : qMm) → q ∈ tEl r := fun q hq => by
        unfold tEl
        refine List.mem_append_right _ (List.mem_append_left _ ?_)
        rw [hany]; exact hq
      have t4 := hel4 104 [(1, 39)] (hin _ (by simp)) (by omega)
      have t5 := hel4 105 [(1, 40)] (hin _ (by simp)) (by omega)
      have t6 := hel4 106 [(1, 41)] (hin _ (by simp)) (by omega)
      simp only [qD] at t4 t5 t6
      have hfu : ∀ f, f ∈ (cond (Nat.blt u.1 40) [] (cond (Nat.blt u.1 50) [[(((u.1 - 40 : Nat) : Int), 0), (-1, 39)]] (cond (Nat.blt u.1 60) [[(((u.1 - 50 : Nat) : Int), 0), (-1, 40)]] [[(((u.1 - 60 : Nat) : Int), 0), (-1, 41)]])) : List qF) → 0 ≤ qD ρ f := fun f hf' => hf f (by
        unfold tFl
        exact List.mem_append_right _ (List.mem_append_right _ (List.mem_flatMap.mpr ⟨u, hu, hf'⟩)))
      have hblt : ∀ a b : Nat, b ≤ a → Nat.blt a b = false := fun a b h => by
        cases hh : Nat.blt a b with
        | false => rfl
        | true => have := zblt hh; omega
      have hbgt : ∀ a b : Nat, a < b → Nat.blt a b = true := fun a b h => Nat.ble_eq_true_of_le h
      rw [hblt _ _ h40, cond_false] at hfu
      refine ⟨fun h50 => ?_, fun h50 h60 => ?_, fun h60 => ?_⟩
      · rw [hbgt _ _ h50, cond_true] at hfu
        have := hfu _ (List.mem_singleton.mpr rfl)
        simp only [qD, h0] at this
        omega
      · rw [hblt _ _ h50, cond_false, hbgt _ _ h60, cond_true] at hfu
        have := hfu _ (List.mem_singleton.mpr rfl)
        simp only [qD, h0] at this
        omega
      · rw [hblt _ _ (by omega : 50 ≤ u.1), cond_false, hblt _ _ h60, cond_false] at hfu
        have := hfu _ (List.mem_singleton.mpr rfl)
        simp only [qD, h0] at this
        omega
    have hnm : ∀ k, 60 ≤ k → k < 83 → (k < 70 → ((k - 60 : Nat) : Int) < M 4 104) → (70 ≤ k → k < 80 → ((k - 70 : Nat) : Int) < M 4 105) → (80 ≤ k → ((k - 80 : Nat) : Int) < M 4 106) → M' 3 k = M 3 k := fun k h1 h2 h3 h5 h6 => by
      refine hK k (fun u hu e => ?_) (fun _ => by omega)
      have t := htie hu (by omega)
      by_cases k1 : k < 70
      · have a1 := t.1 (by omega)
        have a2 := h3 k1
        have a3 : u.1 - 40 = k - 60 := by omega
        rw [a3] at a1; omega
      · by_cases k2 : k < 80
        · have a1 := t.2.1 (by omega) (by omega)
          have a2 := h5 (by omega) k2
          have a3 : u.1 - 50 = k - 70 := by omega
          rw [a3] at a1; omega
        · have a1 := t.2.2 (by omega)
          have a2 := h6 (by omega)
          have a3 : u.1 - 60 = k - 80 := by omega
          rw [a3] at a1; omega
    refine si_34 hI (fun o k h1 h2 => ha o k h1 (by omega)) ⟨?_, ?_, ?_, ?_, ?_, ?_, ?_, ?_, ?_, ?_, ?_, ?_, ?_, ?_, ?_, ?_, ?_, ?_, ?_, ?_, ?_, ?_⟩
    · exact cxS1 (row_keep ha rfl rfl rfl rfl) (gx_xS1 hI)
    · intro h
      rw [h4 100 (by omega) (by omega) (by omega)] at h
      rw [h4 101 (by omega) (by omega) (by omega), h92]
      by_cases hs : r.2.2.1 = 1
      · have q1 : M' 4 102 = 1 * ρ' 28 + 0 := hS hs (4, 102, [(1, 28)]) (by decide)
        have q2 : M' 4 107 = 1 * ρ' 26 + 0 := hS hs (4, 107, [(1, 26)]) (by decide)
        have q3 : M' 4 108 = 1 * ρ' 32 + 0 := hS hs (4, 108, [(1, 32)]) (by decide)
        have hnk : ∀ b, b ∈ [26, 28, 32] → M 3 (19 + b) = ρ b := fun b hb => by
          have h : M 3 (zIx ρ (19 + b)) = 1 * ρ b + 0 := hm (3, 19 + b, [(1, b)]) (by
            unfold tEl
            refine List.mem_append_left _ (List.mem_append_right _ (List.mem_map.mpr ⟨b, ?_, rfl⟩))
            unfold tNk
            rw [List.mem_eraseDups, hs]
            exact List.mem_append_left _ (List.mem_append_right _ hb))
          have hb' : b < 100 := by
            simp only [List.mem_cons, List.not_mem_nil, or_false] at hb
            omega
          rw [zix_lt (by omega)] at h
          omega
        have w28 : M 3 47 = ρ 28 := hnk 28 (by simp)
        have w26 : M 3 45 = ρ 26 := hnk 26 (by simp)
        have w32 : M 3 51 = ρ 32 := hnk 32 (by simp)
        rw [q1, q2, q3, hρ42 28 (by omega), hρ42 26 (by omega), hρ42 32 (by omega), ← w28, ← w26, ← w32]
        have s24 := hSr hs 24 (by omega) (by omega)
        have s25 := hSr hs 25 (by omega) (by omega)
        have s26 := hSr hs 26 (by omega) (by omega)
        have s27 := hSr hs 27 (by omega) (by omega)
        have s30 := hSr hs 30 (by omega) (by omega)
        have s31 := hSr hs 31 (by omega) (by omega)
        have hsh : c' = tSh (M 92) N (tUp c r.2.1) := by
          rw [hc']; unfold tNew; rw [if_pos hs]
        have e27 : tUp c r.2.1 27 = M 3 47 := (hreg 27 (by omega) (by omega)).trans (hci 27 (by omega))
        have e25 : tUp c r.2.1 25 = M 3 45 := (hreg 25 (by omega) (by omega)).trans (hci 25 (by omega))
        have e31 : tUp c r.2.1 31 = M 3 51 := (hreg 31 (by omega) (by omega)).trans (hci 31 (by omega))
        have tup : (c' 24, c' 25, c' 26, c' 27, c' 30, c' 31) = tTo (M 92) N (M 3 47).toNat (M 3 45) (M 3 51) := by rw [hsh, ← e27, ← e25, ← e31]; rfl
        refine ⟨by omega, by omega, ?_⟩
        show (M' 3 (20 + 24), M' 3 (20 + 25), M' 3 (20 + 26), M' 3 (20 + 27), M' 3 (20 + 30), M' 3 (20 + 31)) = _
        rw [s24, s25, s26, s27, s30, s31, tup, hN, show 1 * M 3 47 + 0 = M 3 47 by omega, show 1 * M 3 45 + 0 = M 3 45 by omega, show 1 * M 3 51 + 0 = M 3 51 by omega]
      · have hno : ∀ k, k = 102 ∨ k = 107 ∨ k = 108 → M' 4 k = M 4 k := fun k hk' => by
          rw [hM']
          refine gu_ne (fun q hq z => ?_)
          unfold tGw at hq
          rcases List.mem_append.mp hq with hq | hq
          · obtain ⟨u, hu', rfl⟩ := List.mem_map.mp hq
            exact absurd (show (3 : Nat) = 4 from z.1) (by decide)
          · cases hb : Nat.beq r.2.2.1 1 with
            | false => rw [hb] at hq; exact absurd hq List.not_mem_nil
            | true => exact hs (Nat.eq_of_beq_eq_true hb)
        have hkr : ∀ k, 44 ≤ k → k ≤ 51 → M' 3 k = M 3 k := fun k h1 h2 => hK k (fun u hu e => by have := tfit_u hfit hu; omega) (fun h => absurd h hs)
        rw [hno 102 (by omega), hno 107 (by omega), hno 108 (by omega), hkr 44 (by omega) (by omega), hkr 45 (by omega) (by omega), hkr 46 (by omega) (by omega), hkr 47 (by omega) (by omega), hkr 50 (by omega) (by omega), hkr 51 (by omega) (by omega)]
        exact ⟨o1, o2, o3⟩
    · intro h
      rw [h4 101 (by omega) (by omega) (by omega), h4 207 (by omega) (by omega) (by omega), h4 208 (by omega) (by omega) (by omega), h92, hcf, ← hN]
      exact hre'
    · intro h
      rw [h4 100 (by omega) (by omega) (by omega)] at h
      obtain ⟨a1, a2, a3⟩ := gx_xS4 hI h
      rw [h4 103 (by omega) (by omega) (by omega), h4 104 (by omega) (by omega) (by omega), h4 105 (by omega) (by omega) (by omega), h4 106 (by omega) (by omega) (by omega)]
      have hcell : ∀ o k, 5 ≤ o → M' o k = M o k := fun o k ho => ha o k (by omega) (by omega)
      refine ⟨fun j hj ht => ?_, fun j hj ht => ?_, fun j hj ht => ?_⟩
      · rw [hnm (60 + j) (by omega) (by omega) (fun _ => by rw [show 60 + j - 60 = j by omega]; exact ht) (fun h => by omega) (fun h => by omega), ← a1 j hj ht]
        unfold tN1
        rw [hcell _ _ (by omega), hcell _ _ (by omega)]
      · rw [hnm (70 + j) (by omega) (by omega) (fun h => by omega) (fun _ _ => by rw [show 70 + j - 70 = j by omega]; exact ht) (fun h => by omega), ← a2 j hj ht]
        unfold tN2
        rw [hcell _ _ (by omega), hcell _ _ (by omega)]
      · rw [hnm (80 + j) (by omega) (by omega) (fun h => by omega) (fun _ h => by omega) (fun _ => by rw [show 80 + j - 80 = j by omega]; exact ht), ← a3 j hj ht]
        unfold tN3
        rw [hcell _ _ (by omega), hcell _ _ (by omega)]
    · intro h
      rw [h4 100 (by omega) (by omega) (by omega)] at h
      obtain ⟨a1, a2, a3⟩ := gx_xS5 hI h
      rw [h4 104 (by omega) (by omega) (by omega), h4 105 (by omega) (by omega) (by omega), h4 106 (by omega) (by omega) (by omega)]
      have hcell : ∀ o k, 5 ≤ o → M' o k = M o k := fun o k ho => ha o k (by omega) (by omega)
      refine ⟨fun j hj ht => ?_, fun j hj ht => ?_, fun j hj ht => ?_⟩
      · rw [hnm (60 + j) (by omega) (by omega) (fun _ => by rw [show 60 + j - 60 = j by omega]; exact ht) (fun h => by omega) (fun h => by omega), ← a1 j hj ht]
        exact hcell _ _ (by omega)
      · rw [hnm (70 + j) (by omega) (by omega) (fun h => by omega) (fun _ _ => by rw [show 70 + j - 70 = j by omega]; exact ht) (fun h => by omega), ← a2 j hj ht]
        exact hcell _ _ (by omega)
      · rw [hnm (80 + j) (by omega) (by omega) (fun h => by omega) (fun _ h => by omega) (fun _ => by rw [show 80 + j - 80 = j by omega]; exact ht), ← a3 j hj ht]
        exact hcell _ _ (by omega)
    · intro h
      rw [h4 230 (by omega) (by omega) (by omega)] at h
      omega
    · exact cxS7 (row_keep ha rfl rfl rfl rfl) (gx_xS7 hI)
    · intro h
      rw [h4 210 (by omega) (by omega) (by omega)] at h
      omega
    · exact cxS9 (row_keep ha rfl rfl rfl rfl) (gx_xS9 hI)
    · exact cxSA (row_keep ha rfl rfl rfl rfl) (gx_xSA hI)
    · exact cxSG (row_keep ha rfl rfl rfl rfl) (gx_xSG hI)
    · exact cxSF (row_keep ha rfl rfl rfl rfl) (gx_xSF hI)
    · exact cxSB (row_keep ha rfl rfl rfl rfl) (gx_xSB hI)
    · exact cxSC (row_keep ha rfl rfl rfl rfl) (gx_xSC hI)
    · exact cxSD (row_keep ha rfl rfl rfl rfl) (gx_xSD hI)
    · exact cxSE (row_keep ha rfl rfl rfl rfl) (gx_xSE hI)
    · exact cxSW (row_keep ha rfl rfl rfl rfl) (gx_xSW hI)
    · exact cxST (row_keep ha rfl rfl rfl rfl) (gx_xST hI)
    · exact cxSP (row_keep ha rfl rfl rfl rfl) (gx_xSP hI)
    · exact cxSL (row_keep ha rfl rfl rfl rfl) (gx_xSL hI)
    · exact cxSM (row_keep ha rfl rfl rfl rfl) (gx_xSM hI)
    · exact cxSI (row_keep ha rfl rfl rfl rfl) (gx_xSI hI)
end ROW
