/-! A TEXT IS BEGUN: all registers 0, the first token looked at. -/
def tSg4 (run : Int) : qMm := [(4, 100, [(run, 0)]), (4, 101, [(1, 1)]), (4, 102, []), (4, 103, [(1, 5)]), (4, 104, []), (4, 105, []), (4, 106, []), (4, 107, [(1, 3)]), (4, 108, [(1, 4)]), (4, 207, [(1, 3)]), (4, 208, [(1, 4)])]
def tSg3 : qMm := (List.range 70).map (fun i => (3, 20 + i, cond (Nat.ble 24 i && Nat.ble i 31) [(1, i - 18)] []))
def tS1 : qRu := (6, [[(1, 1)], [(1, 2), (-1, 1)], [(700, 0), (-1, 1)]], [(4, 100, []), (4, 200, []), (4, 210, []), (4, 230, []), (4, 214, []), (4, 220, []), (4, 261, [(1, 2)]), (56, 5, [(1, 3)]), (91, 30, [(1, 4)])], [], tSg4 1 ++ tSg3, [[(-1, 0), (1, 6)], [(41, 0), (-1, 6)], [(1, 8)], [(-1, 8), (1, 9)], [(1, 1), (-1, 9)], [(1, 0), (1, 10)], [(1, 12)], [(5, 0), (-1, 12)]])
def tS2 : qRu := (6, [[(1, 1)], [(1, 2), (-1, 1)], [(700, 0), (-1, 1)]], [(4, 100, []), (4, 200, [(1, 0)]), (4, 210, []), (4, 230, []), (4, 214, []), (4, 220, []), (4, 261, [(1, 2)]), (4, 101, [(1, 1)]), (4, 207, [(1, 3)]), (4, 208, [(1, 4)])], [], tSg4 2 ++ tSg3, [[(-1, 0), (1, 6)], [(41, 0), (-1, 6)], [(1, 8)], [(-1, 8), (1, 9)], [(1, 1), (-1, 9)], [(1, 0), (1, 10)], [(1, 12)], [(5, 0), (-1, 12)]])
theorem tsg_dp (run : Int) : gDp (tSg4 run ++ tSg3) = true := by
  have h : gDp ((tSg4 0 ++ tSg3).map (fun q => (q.1, q.2.1, ([] : qF)))) = true := by decide +kernel
  have key : ∀ l : qMm, gDp (l.map (fun q => (q.1, q.2.1, ([] : qF)))) = gDp l := by
    intro l
    induction l with
    | nil => rfl
    | cons q l ih =>
      show ((l.map (fun q => (q.1, q.2.1, ([] : qF)))).all (fun p => !(Nat.beq p.1 q.1 && Nat.beq p.2.1 q.2.1)) && gDp (l.map (fun q => (q.1, q.2.1, ([] : qF))))) = (l.all (fun p => !(Nat.beq p.1 q.1 && Nat.beq p.2.1 q.2.1)) && gDp l)
      rw [ih, List.all_map]
      rfl
  rw [← key]
  exact h
theorem tsg_34 (run : Int) : ∀ q ∈ tSg4 run ++ tSg3, q.1 = 3 ∨ (q.1 = 4 ∧ ((100 ≤ q.2.1 ∧ q.2.1 ≤ 108) ∨ q.2.1 = 207 ∨ q.2.1 = 208)) := by
  intro q hq
  rcases List.mem_append.mp hq with hq | hq
  · unfold tSg4 at hq
    simp only [List.mem_cons, List.not_mem_nil, or_false] at hq
    rcases hq with rfl | rfl | rfl | rfl | rfl | rfl | rfl | rfl | rfl | rfl | rfl <;> exact Or.inr ⟨rfl, by simp⟩
  · obtain ⟨i, _, rfl⟩ := List.mem_map.mp hq
    exact Or.inl rfl
section STA
variable {ρ : Nat → Int} {M : sM}
theorem tstart (run : Int) (hr1 : run ≠ 0) (h0 : ρ 0 = 1) (f1 : 0 ≤ ρ 1) (f2 : ρ 1 ≤ M 4 261) (f3 : ρ 1 ≤ 700) (hI : sI M) (z210 : M 4 210 = 0) (z230 : M 4 230 = 0) (z214 : M 4 214 ≠ 1) (z220 : M 4 220 ≠ 1) (h7 : M 4 200 = 1 → M 4 101 = ρ 1 ∧ M 4 207 = ρ 3 ∧ M 4 208 = ρ 4) : ∃ ρ' : Nat → Int, (∀ a, a < 6 → ρ' a = ρ a) ∧ (∀ f ∈ ([[(-1, 0), (1, 6)], [(41, 0), (-1, 6)], [(1, 8)], [(-1, 8), (1, 9)], [(1, 1), (-1, 9)], [(1, 0), (1, 10)], [(1, 12)], [(5, 0), (-1, 12)]] : List qF), 0 ≤ qD ρ' f) ∧ sI (gU ρ' (tSg4 run ++ tSg3) M) := by
  obtain ⟨N, hN⟩ : ∃ N : Nat, N = (ρ 1).toNat := ⟨_, rfl⟩
  obtain ⟨c, hc⟩ : ∃ c : tC, c = tC0 (M 92) N (ρ 3) (ρ 4) := ⟨_, rfl⟩
  have hb := tto_b (M 92) (n := N) (p := 0) (ρ 3) (ρ 4) (by omega)
  have tup : (c 24, c 25, c 26, c 27, c 30, c 31) = tTo (M 92) N 0 (ρ 3) (ρ 4) := by rw [hc]; rfl
  have t24 : c 24 = (tTo (M 92) N 0 (ρ 3) (ρ 4)).1 := by rw [← tup]
  have t26 : c 26 = (tTo (M 92) N 0 (ρ 3) (ρ 4)).2.2.1 := by rw [← tup]
  have t27 : c 27 = (tTo (M 92) N 0 (ρ 3) (ρ 4)).2.2.2.1 := by rw [← tup]
  have t30 : c 30 = (tTo (M 92) N 0 (ρ 3) (ρ 4)).2.2.2.2.1 := by rw [← tup]
  have t28 : -1 ≤ c 28 := by
    rw [hc]
    unfold tC0
    rw [(tsh_fi _ _ _).1]
    unfold tFo
    split
    · exact (tfi_b _ _ _).1
    · split <;> exact (tfi_b _ _ _).1
  have czero : ∀ i, i < 24 ∨ 32 ≤ i → c i = 0 := fun i hi => by
    rw [hc]
    unfold tC0
    rw [tsh_out _ _ _ hi, if_neg (by omega), if_neg (by omega)]
  refine ⟨fun a => if a < 6 then ρ a else c (a + 18), fun a ha => if_pos ha, fun f hf => ?_, ?_⟩
  · simp only [List.mem_cons, List.not_mem_nil, or_false] at hf
    rcases hf with rfl | rfl | rfl | rfl | rfl | rfl | rfl | rfl
    · show 0 ≤ -1 * ρ 0 + (1 * c 24 + 0); rw [h0]; omega
    · show 0 ≤ 41 * ρ 0 + (-1 * c 24 + 0); rw [h0]; omega
    · show 0 ≤ 1 * c 26 + 0; omega
    · show 0 ≤ -1 * c 26 + (1 * c 27 + 0); omega
    · show 0 ≤ 1 * ρ 1 + (-1 * c 27 + 0); omega
    · show 0 ≤ 1 * ρ 0 + (1 * c 28 + 0); rw [h0]; omega
    · show 0 ≤ 1 * c 30 + 0; omega
    · show 0 ≤ 5 * ρ 0 + (-1 * c 30 + 0); rw [h0]; omega
  · obtain ⟨ρ', hρ'⟩ : ∃ ρ' : Nat → Int, ρ' = fun a => if a < 6 then ρ a else c (a + 18) := ⟨_, rfl⟩
    rw [← hρ']
    have hr6 : ∀ a, a < 6 → ρ' a = ρ a := fun a ha => by rw [hρ']; exact if_pos ha
    have hrn : ∀ a, 6 ≤ a → ρ' a = c (a + 18) := fun a ha => by rw [hρ']; exact if_neg (by omega)
    obtain ⟨M', hM'⟩ : ∃ M' : sM, M' = gU ρ' (tSg4 run ++ tSg3) M := ⟨_, rfl⟩
    rw [← hM']
    have ha : ∀ o k, o ≠ 3 → ¬ (o = 4 ∧ ((100 ≤ k ∧ k ≤ 108) ∨ k = 207 ∨ k = 208)) → M' o k = M o k := fun o k h3 h4 => by
      rw [hM']
      refine gu_ne (fun q hq z => ?_)
      rcases tsg_34 run q hq with e | ⟨e, e2⟩
      · exact h3 (z.1.symm.trans e)
      · exact h4 ⟨z.1.symm.trans e, by rw [← z.2]; exact e2⟩
    have h4 : ∀ q ∈ tSg4 run, M' q.1 q.2.1 = qD ρ' q.2.2 := fun q hq => by rw [hM']; exact gu_at (tsg_dp run) (List.mem_append_left _ hq)
    have h3 : ∀ i, i < 70 → M' 3 (20 + i) = c i := fun i hi => by
      have h := gu_at (ρ := ρ') (M := M) (q := (3, 20 + i, cond (Nat.ble 24 i && Nat.ble i 31) [(1, i - 18)] [])) (tsg_dp run) (List.mem_append_right _ (List.mem_map.mpr ⟨i, List.mem_range.mpr hi, rfl⟩))
      rw [← hM'] at h
      have h : M' 3 (20 + i) = qD ρ' (cond (Nat.ble 24 i && Nat.ble i 31) [(1, i - 18)] []) := h
      rw [h]
      by_cases h1 : 24 ≤ i ∧ i ≤ 31
      · rw [Nat.ble_eq_true_of_le h1.1, Nat.ble_eq_true_of_le h1.2]
        show 1 * ρ' (i - 18) + 0 = c i
        rw [hrn _ (by omega), show i - 18 + 18 = i by omega]
        omega
      · have e : (Nat.ble 24 i && Nat.ble i 31) = false := by
          cases hh : (Nat.ble 24 i && Nat.ble i 31) with
          | false => rfl
          | true =>
            rw [Bool.and_eq_true] at hh
            exact absurd ⟨Nat.le_of_ble_eq_true hh.1, Nat.le_of_ble_eq_true hh.2⟩ h1
        rw [e, czero i (by omega)]
        rfl
    have hcf : tCf M' = c := by
      funext i
      show (if i < 70 then M' 3 (20 + i) else 0) = c i
      by_cases hi : i < 70
      · rw [if_pos hi]; exact h3 i hi
      · rw [if_neg hi, czero i (by omega)]
    have e100 : M' 4 100 = run := by
      have h : M' 4 100 = run * ρ' 0 + 0 := h4 (4, 100, [(run, 0)]) (by unfold tSg4; simp)
      rw [h, hr6 0 (by omega), h0]; omega
    have e101 : M' 4 101 = ρ 1 := by
      have h : M' 4 101 = 1 * ρ' 1 + 0 := h4 (4, 101, [(1, 1)]) (by unfold tSg4; simp)
      rw [h, hr6 1 (by omega)]; omega
    have e102 : M' 4 102 = 0 := h4 (4, 102, []) (by unfold tSg4; simp)
    have e104 : M' 4 104 = 0 := h4 (4, 104, []) (by unfold tSg4; simp)
    have e105 : M' 4 105 = 0 := h4 (4, 105, []) (by unfold tSg4; simp)
    have e106 : M' 4 106 = 0 := h4 (4, 106, []) (by unfold tSg4; simp)
    have e107 : M' 4 107 = ρ 3 := by
      have h : M' 4 107 = 1 * ρ' 3 + 0 := h4 (4, 107, [(1, 3)]) (by unfold tSg4; simp)
      rw [h, hr6 3 (by omega)]; omega
    have e108 : M' 4 108 = ρ 4 := by
      have h : M' 4 108 = 1 * ρ' 4 + 0 := h4 (4, 108, [(1, 4)]) (by unfold tSg4; simp)
      rw [h, hr6 4 (by omega)]; omega
    have e207 : M' 4 207 = ρ 3 := by
      have h : M' 4 207 = 1 * ρ' 3 + 0 := h4 (4, 207, [(1, 3)]) (by unfold tSg4; simp)
      rw [h, hr6 3 (by omega)]; omega
    have e208 : M' 4 208 = ρ 4 := by
      have h : M' 4 208 = 1 * ρ' 4 + 0 := h4 (4, 208, [(1, 4)]) (by unfold tSg4; simp)
      rw [h, hr6 4 (by omega)]; omega
    have e92 : M' 92 = M 92 := funext fun k => ha 92 k (by omega) (by omega)
    have e1 : M' 1 = M 1 := funext fun k => ha 1 k (by omega) (by omega)
    have k4 : ∀ k, ¬ ((100 ≤ k ∧ k ≤ 108) ∨ k = 207 ∨ k = 208) → M' 4 k = M 4 k := fun k hk => ha 4 k (by omega) (fun z => hk z.2)
    have hk : ∀ {z : sSt}, sInC z 3 = false → ((List.range 9).all (fun j => !(sIn z 4 (100 + j))) && (!(sIn z 4 207) && !(sIn z 4 208))) = true → ∀ o k, sIn z o k = true → M' o k = M o k := fun {z} a3 a4 o k hz => by
      rw [Bool.and_eq_true, Bool.and_eq_true, Bool.not_eq_true', Bool.not_eq_true'] at a4
      refine ha o k (fun e => ?_) (fun e => ?_)
      · subst e
        rw [sinc_ok a3] at hz; cases hz
      · obtain ⟨rfl, e⟩ := e
        rcases e with e | rfl | rfl
        · have := List.all_eq_true.mp a4.1 (k - 100) (List.mem_range.mpr (by omega))
          rw [show 100 + (k - 100) = k by omega, hz] at this
          cases this
        · rw [a4.2.1] at hz; cases hz
        · rw [a4.2.2] at hz; cases hz
    refine si_34 hI (fun o k h1 h2 => ha o k h1 (by omega)) ⟨?_, ?_, ?_, ?_, ?_, ?_, ?_, ?_, ?_, ?_, ?_, ?_, ?_, ?_, ?_, ?_, ?_, ?_, ?_, ?_, ?_, ?_⟩
    · intro _
      rw [e101, e1, e92]
      exact ⟨f1, f3, fun i hi => gx_xST hI i (by omega)⟩
    · intro _
      rw [e101, e102, e107, e108, e92]
      refine ⟨by omega, by omega, ?_⟩
      show (M' 3 (20 + 24), M' 3 (20 + 25), M' 3 (20 + 26), M' 3 (20 + 27), M' 3 (20 + 30), M' 3 (20 + 31)) = _
      rw [h3 24 (by omega), h3 25 (by omega), h3 26 (by omega), h3 27 (by omega), h3 30 (by omega), h3 31 (by omega), tup, hN]
      rfl
    · intro _
      rw [e101, e207, e208, e92, hcf, ← hN]
      exact ⟨0, hc⟩
    · intro _
      rw [e104, e105, e106]
      exact ⟨fun j _ h => by omega, fun j _ h => by omega, fun j _ h => by omega⟩
    · intro _
      rw [e104, e105, e106]
      exact ⟨fun j _ h => by omega, fun j _ h => by omega, fun j _ h => by omega⟩
    · intro h
      rw [k4 230 (by omega), z230] at h
      cases h
    · intro h
      rw [k4 200 (by omega)] at h
      obtain ⟨a1, a2, a3⟩ := h7 h
      have g := gx_xS7 hI h
      rw [e101, e207, e208, e92, k4 201 (by omega), k4 202 (by omega), k4 203 (by omega), k4 204 (by omega), k4 205 (by omega), k4 206 (by omega), ← a1, ← a2, ← a3]
      exact g
    · intro h
      rw [k4 210 (by omega), z210] at h
      cases h
    · exact cxS9 (hk rfl rfl) (gx_xS9 hI)
    · intro h
      exact absurd h (by rw [k4 214 (by omega)]; exact fun h2 => z214 h2)
    · exact cxSG (hk rfl rfl) (gx_xSG hI)
    · exact cxSF (hk rfl rfl) (gx_xSF hI)
    · intro h
      exact absurd h (by rw [k4 220 (by omega)]; exact fun h2 => z220 h2)
    · exact cxSC (hk rfl rfl) (gx_xSC hI)
    · exact cxSD (hk rfl rfl) (gx_xSD hI)
    · exact cxSE (hk rfl rfl) (gx_xSE hI)
    · exact cxSW (hk rfl rfl) (gx_xSW hI)
    · exact cxST (hk rfl rfl) (gx_xST hI)
    · exact cxSP (hk rfl rfl) (gx_xSP hI)
    · exact cxSL (hk rfl rfl) (gx_xSL hI)
    · exact cxSM (hk rfl rfl) (gx_xSM hI)
    · exact cxSI (hk rfl rfl) (gx_xSI hI)
end STA
theorem tstart1_ok : qRok tS1 := by
  intro ρ M h0 hf hm hI
  have f1 := hf [(1, 1)] (by decide)
  have f2 := hf [(1, 2), (-1, 1)] (by decide)
  have f3 := hf [(700, 0), (-1, 1)] (by decide)
  simp only [qD, h0] at f1 f2 f3
  have m1 : M 4 261 = 1 * ρ 2 + 0 := hm (4, 261, [(1, 2)]) (by decide)
  have z1 : M 4 200 = 0 := hm (4, 200, []) (by decide)
  have z2 : M 4 210 = 0 := hm (4, 210, []) (by decide)
  have z3 : M 4 230 = 0 := hm (4, 230, []) (by decide)
  have z4 : M 4 214 = 0 := hm (4, 214, []) (by decide)
  have z5 : M 4 220 = 0 := hm (4, 220, []) (by decide)
  exact tstart (M := M) (ρ := ρ) 1 (by decide) h0 (by omega) (by omega) (by omega) hI z2 z3 (by omega) (by omega) (fun h => by omega)
theorem tstart2_ok : qRok tS2 := by
  intro ρ M h0 hf hm hI
  have f1 := hf [(1, 1)] (by decide)
  have f2 := hf [(1, 2), (-1, 1)] (by decide)
  have f3 := hf [(700, 0), (-1, 1)] (by decide)
  simp only [qD, h0] at f1 f2 f3
  have m1 : M 4 261 = 1 * ρ 2 + 0 := hm (4, 261, [(1, 2)]) (by decide)
  have m2 : M 4 101 = 1 * ρ 1 + 0 := hm (4, 101, [(1, 1)]) (by decide)
  have m3 : M 4 207 = 1 * ρ 3 + 0 := hm (4, 207, [(1, 3)]) (by decide)
  have m4 : M 4 208 = 1 * ρ 4 + 0 := hm (4, 208, [(1, 4)]) (by decide)
  have z2 : M 4 210 = 0 := hm (4, 210, []) (by decide)
  have z3 : M 4 230 = 0 := hm (4, 230, []) (by decide)
  have z4 : M 4 214 = 0 := hm (4, 214, []) (by decide)
  have z5 : M 4 220 = 0 := hm (4, 220, []) (by decide)
  exact tstart (M := M) (ρ := ρ) 2 (by decide) h0 (by omega) (by omega) (by omega) hI z2 z3 (by omega) (by omega) (fun _ => by omega)
