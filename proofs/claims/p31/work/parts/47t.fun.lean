/-! FUNCTIONS OF THE MACHINE BY WHAT LIES OUTSIDE: an instruction whose answer a place outside the heap holds already (xFT: which function, its arguments' places, the answer's place, the flag's place), and a test whose outcome lies at 91/879. -/
abbrev xFe : Type := Nat × (Nat × Nat) × (Int × (Nat × Nat) × Int) × Nat × Nat
def xFT : List xFe := [(0, (91, 950), (1, (91, 951), 0), 952, 949), (1, (91, 952), (0, (91, 952), 1), 953, 949), (0, (91, 931), (2, (91, 934), 0), 935, 930), (1, (91, 935), (0, (91, 935), 3), 936, 930), (2, (91, 936), (1, (91, 925), 0), 937, 930), (2, (91, 927), (1, (93, 6), 0), 929, 928), (3, (91, 916), (0, (91, 916), 24), 917, 915), (3, (91, 908), (0, (91, 908), 24), 906, 907), (4, (91, 241), (1, (91, 242), 0), 243, 240), (5, (91, 246), (1, (91, 243), 0), 244, 240), (5, (91, 243), (1, (91, 245), 0), 247, 240), (0, (91, 250), (1, (91, 251), 0), 252, 249), (1, (91, 252), (0, (91, 252), 1), 253, 249), (1, (91, 255), (1, (91, 243), 0), 256, 249), (1, (91, 252), (0, (91, 252), 255), 257, 249)]
theorem xft_ok {M : sM} (hI : sI M) {q : xFe} (hq : q ∈ xFT) (hf : M 91 q.2.2.2.2 = 1) : M 91 q.2.2.2.1 = xop q.1 (M q.2.1.1 q.2.1.2) (q.2.2.1.1 * M q.2.2.1.2.1.1 q.2.2.1.2.1.2 + q.2.2.1.2.2) := by
  simp only [xFT, List.mem_cons, List.not_mem_nil, or_false] at hq
  rcases hq with rfl | rfl | rfl | rfl | rfl | rfl | rfl | rfl | rfl | rfl | rfl | rfl | rfl | rfl | rfl
  · have h := (hI.2.2.2.2.1 hf).2.1
    show M 91 952 = xop 0 (M 91 950) (1 * M 91 951 + 0)
    rw [show 1 * M 91 951 + 0 = M 91 951 by omega]
    exact h
  · have h := (hI.2.2.2.2.1 hf).2.2.1
    show M 91 953 = xop 1 (M 91 952) (0 * M 91 952 + 1)
    rw [show 0 * M 91 952 + 1 = 1 by omega]
    exact h
  · have h := (hI.2.2.2.2.2.1 hf).2.1
    show M 91 935 = xop 0 (M 91 931) (2 * M 91 934 + 0)
    rw [show 2 * M 91 934 + 0 = 2 * M 91 934 by omega]
    exact h
  · have h := (hI.2.2.2.2.2.1 hf).2.2.1
    show M 91 936 = xop 1 (M 91 935) (0 * M 91 935 + 3)
    rw [show 0 * M 91 935 + 3 = 3 by omega]
    exact h
  · have h := (hI.2.2.2.2.2.1 hf).2.2.2.2.1
    show M 91 937 = xop 2 (M 91 936) (1 * M 91 925 + 0)
    rw [show 1 * M 91 925 + 0 = M 91 925 by omega]
    exact h
  · have h := hI.2.2.2.2.2.2.1 hf
    show M 91 929 = xop 2 (M 91 927) (1 * M 93 6 + 0)
    rw [show 1 * M 93 6 + 0 = M 93 6 by omega]
    exact h
  · have h := hI.2.2.2.2.2.2.2.1 hf
    show M 91 917 = xop 3 (M 91 916) (0 * M 91 916 + 24)
    rw [show 0 * M 91 916 + 24 = 24 by omega]
    exact h
  · have h := hI.2.2.2.2.2.2.2.2.1 hf
    show M 91 906 = xop 3 (M 91 908) (0 * M 91 908 + 24)
    rw [show 0 * M 91 908 + 24 = 24 by omega]
    exact h
  · have h := (gx_xSD hI hf).1
    show M 91 243 = xop 4 (M 91 241) (1 * M 91 242 + 0)
    rw [show 1 * M 91 242 + 0 = M 91 242 by omega]
    exact h
  · have h := (gx_xSD hI hf).2.1
    show M 91 244 = xop 5 (M 91 246) (1 * M 91 243 + 0)
    rw [show 1 * M 91 243 + 0 = M 91 243 by omega]
    exact h
  · have h := (gx_xSD hI hf).2.2
    show M 91 247 = xop 5 (M 91 243) (1 * M 91 245 + 0)
    rw [show 1 * M 91 245 + 0 = M 91 245 by omega]
    exact h
  · have h := (gx_xSE hI hf).1
    show M 91 252 = xop 0 (M 91 250) (1 * M 91 251 + 0)
    rw [show 1 * M 91 251 + 0 = M 91 251 by omega]
    exact h
  · have h := (gx_xSE hI hf).2.1
    show M 91 253 = xop 1 (M 91 252) (0 * M 91 252 + 1)
    rw [show 0 * M 91 252 + 1 = 1 by omega]
    exact h
  · have h := (gx_xSE hI hf).2.2.1
    show M 91 256 = xop 1 (M 91 255) (1 * M 91 243 + 0)
    rw [show 1 * M 91 243 + 0 = M 91 243 by omega]
    exact h
  · have h := (gx_xSE hI hf).2.2.2
    show M 91 257 = xop 1 (M 91 252) (0 * M 91 252 + 255)
    rw [show 0 * M 91 252 + 255 = 255 by omega]
    exact h
noncomputable def qOi (i : Instr) (op : Nat) (x : qF) : Bool := match i, op with
  | .ishr, 0 => true
  | .iand, 1 => true
  | .imul, 2 => true
  | .irem, 3 => x == [(24, 0)]
  | .ishl, 4 => true
  | .ior, 5 => true
  | _, _ => false
theorem qoi_ok {i : Instr} {op : Nat} {x : qF} (h : qOi i op x = true) {ρ : Nat → Int} (h0 : ρ 0 = 1) (a : Int) (r : List Value) : pStk i (.int (Int32.ofInt (qD ρ x)) :: .int (Int32.ofInt a) :: r) = some (1, .int (Int32.ofInt (xop op a (qD ρ x))) :: r) := by
  unfold qOi at h
  split at h
  · show some (1, Value.int (Int32.ofInt a >>> (Int32.ofInt (qD ρ x) &&& 31)) :: r) = some (1, Value.int (Int32.ofInt (Int32.ofInt a >>> (Int32.ofInt (qD ρ x) &&& 31)).toInt) :: r)
    rw [i32_of]
  · show some (1, Value.int (Int32.ofInt a &&& Int32.ofInt (qD ρ x)) :: r) = some (1, Value.int (Int32.ofInt (Int32.ofInt a &&& Int32.ofInt (qD ρ x)).toInt) :: r)
    rw [i32_of]
  · show some (1, Value.int (Int32.ofInt a * Int32.ofInt (qD ρ x)) :: r) = some (1, Value.int (Int32.ofInt (a * qD ρ x)) :: r)
    rw [Int32.ofInt_mul]
  · have e : qD ρ x = 24 := by
      rw [eq_of_beq h, qd_at, h0]
      rfl
    rw [e]
    show (if (Int32.ofInt 24) = 0 then none else some (1, Value.int (Int32.ofInt a - Int32.ofInt a / Int32.ofInt 24 * Int32.ofInt 24) :: r)) = some (1, Value.int (Int32.ofInt (Int32.ofInt a - Int32.ofInt a / Int32.ofInt 24 * Int32.ofInt 24).toInt) :: r)
    rw [if_neg (by decide), i32_of]
  · show some (1, Value.int (Int32.ofInt a <<< (Int32.ofInt (qD ρ x) &&& 31)) :: r) = some (1, Value.int (Int32.ofInt (Int32.ofInt a <<< (Int32.ofInt (qD ρ x) &&& 31)).toInt) :: r)
    rw [i32_of]
  · show some (1, Value.int (Int32.ofInt a ||| Int32.ofInt (qD ρ x)) :: r) = some (1, Value.int (Int32.ofInt (Int32.ofInt a ||| Int32.ofInt (qD ρ x)).toInt) :: r)
    rw [i32_of]
  · cases h
noncomputable def qFn0 (i : Instr) (len : Nat) (s : qS) (j : Nat) (hs : qHs) : Option (qS × qHs) := match xFT[j]?, s.2.2.1, hs with
  | some q, (0, x) :: (0, y) :: r, a :: b :: a' :: b' :: hs' =>
    (match qFind s.2.2.2.2.1 91 q.2.2.2.2, qFind s.2.2.2.2.1 q.2.1.1 q.2.1.2, qFind s.2.2.2.2.1 q.2.2.1.2.1.1 q.2.2.1.2.1.2, qFind s.2.2.2.2.1 91 q.2.2.2.1 with
    | some fl, some f1, some f2, some f3 => cond (Nat.beq len 1 && ((fl == [(1, 0)]) && (qOi i q.1 x && ((qEnt s.2.2.2.1 (qSub y f1) a && qEnt s.2.2.2.1 (qSub f1 y) b) && (qEnt s.2.2.2.1 (qSub x (qAdd (qScl q.2.2.1.1 f2) (qCn q.2.2.1.2.2))) a' && (qEnt s.2.2.2.1 (qSub (qAdd (qScl q.2.2.1.1 f2) (qCn q.2.2.1.2.2)) x) b' && (Nat.blt q.2.1.2 1000 && Nat.blt q.2.2.1.2.1.2 1000))))))) (some ((s.1 + 1, s.2.1, (0, f3) :: r, s.2.2.2), hs')) none
    | _, _, _, _ => none)
  | _, _, _ => none
section FUN
variable {d K : Nat} {J : pHp} {Q : Option sV → sM → Prop} {M0 : sM} {S : sSt} {g : Nat} {ρ0 : Nat → Int}
theorem xft_lt : xFT.all (fun q => Nat.blt q.2.2.2.1 1000 && Nat.blt q.2.2.2.2 1000) = true := by decide
theorem qfn0_ok {i : Instr} {len a : Nat} {s : qS} {j : Nat} {hs hs' : qHs} {s' : qS} (he : (s.1, i, len, a) ∈ pTs.getD K []) (ha : a < 99999) (h : qFn0 i len s j hs = some (s', hs')) (k : qGS d K J Q M0 S g ρ0 s') : qGS d K J Q M0 S g ρ0 s := by
  obtain ⟨pc, lv, st, fs, mm, n⟩ := s
  have he : (pc, i, len, a) ∈ pTs.getD K [] := he
  unfold qFn0 at h
  split at h
  · rename_i q x y r u v u' v' hs2 hj hst
    have hst : st = (0, x) :: (0, y) :: r := hst
    subst hst
    have hq := List.mem_of_getElem? hj
    split at h
    · rename_i fl f1 f2 f3 g1 g2 g3 g4
      obtain ⟨h1, h2⟩ := zcond h
      cases h2
      rw [Bool.and_eq_true, Bool.and_eq_true, Bool.and_eq_true, Bool.and_eq_true, Bool.and_eq_true, Bool.and_eq_true, Bool.and_eq_true, Bool.and_eq_true] at h1
      obtain ⟨c1, c2, c3, ⟨c4, c5⟩, c6, c7, c8, c9⟩ := h1
      have e1 := Nat.eq_of_beq_eq_true c1
      subst e1
      intro ρ M hg h0 hf hm hI hF
      have b := List.all_eq_true.mp xft_lt q hq
      rw [Bool.and_eq_true] at b
      have m1 := qfind_ok hm g1
      have m2 := qfind_ok hm g2
      have m3 := qfind_ok hm g3
      have m4 := qfind_ok hm g4
      rw [zix_b b.2, eq_of_beq c2, qd_at, h0] at m1
      rw [zix_b c8] at m2
      rw [zix_b c9] at m3
      rw [zix_b b.1] at m4
      have t1 := qd_ent h0 hf c4
      have t2 := qd_ent h0 hf c5
      have t3 := qd_ent h0 hf c6
      have t4 := qd_ent h0 hf c7
      rw [qd_sub] at t1 t2 t3 t4
      rw [qd_add, qd_scl, qd_cn h0] at t3 t4
      have hx := xft_ok hI hq (by omega)
      rw [m2, m3, m4, show qD ρ f1 = qD ρ y by omega, show q.2.2.1.1 * qD ρ f2 + q.2.2.1.2.2 = qD ρ x by omega] at hx
      have h6 := k ρ M hg h0 hf hm hI hF
      refine sr_stp he ha rfl (Or.inl ⟨_, ?_, rfl⟩) h6
      show pStk i (.int (Int32.ofInt (qD ρ x)) :: .int (Int32.ofInt (qD ρ y)) :: (qDS ρ r).map sE) = some (1, .int (Int32.ofInt (qD ρ f3)) :: (qDS ρ r).map sE)
      rw [hx]
      exact qoi_ok c3 h0 _ _
    · cases h
  · cases h
/-- a test by its outcome -/
noncomputable def zSw (c : Jvm.ClassFile.Cond) : Option (Bool × Bool) := match c with
  | .lt => some (false, true)
  | .ge => some (false, false)
  | .gt => some (true, true)
  | .le => some (true, false)
  | _ => none
noncomputable def qBm (i : Instr) (len : Nat) (s : qS) (hs : qHs) : Option (List qS × qHs) := match i, s.2.2.1, hs with
  | .if_icmp c off, (0, y) :: (0, x) :: r, a :: b :: a' :: b' :: hs' =>
    (match zSw c, pTo s.1 off, qFind s.2.2.2.2.1 91 876, qFind s.2.2.2.2.1 91 877, qFind s.2.2.2.2.1 91 878, qFind s.2.2.2.2.1 91 879 with
    | some w, some t, some fl, some f1, some f2, some f3 => cond (Nat.beq len 3 && ((fl == [(1, 0)]) && ((qEnt s.2.2.2.1 (qSub (cond w.1 y x) f1) a && qEnt s.2.2.2.1 (qSub f1 (cond w.1 y x)) b) && (qEnt s.2.2.2.1 (qSub (cond w.1 x y) f2) a' && qEnt s.2.2.2.1 (qSub f2 (cond w.1 x y)) b'))))
      (some ([(t, s.2.1, r, qPp s.2.2.2.1 [cond w.2 (qSub f3 (qCn 1)) (qSub (qCn 0) f3)], s.2.2.2.2.1, s.2.2.2.2.2), (s.1 + 3, s.2.1, r, qPp s.2.2.2.1 [cond w.2 (qSub (qCn 0) f3) (qSub f3 (qCn 1))], s.2.2.2.2.1, s.2.2.2.2.2)], hs')) none
    | _, _, _, _, _, _ => none)
  | _, _, _ => none
theorem xsw_ok {c : Jvm.ClassFile.Cond} {w : Bool × Bool} (h : zSw c = some w) (x y : Int) : pCmp c (Int32.ofInt x) (Int32.ofInt y) = cond w.2 (decide (xlt (cond w.1 y x) (cond w.1 x y) = 1)) (decide (xlt (cond w.1 y x) (cond w.1 x y) = 0)) := by
  have h1 : ∀ a b : Int, (xlt a b = 1) = (Int32.ofInt a < Int32.ofInt b) := fun a b => by
    unfold xlt
    by_cases hc : Int32.ofInt a < Int32.ofInt b
    · rw [if_pos hc]; simp [hc]
    · rw [if_neg hc]; simp [hc]
  have h2 : ∀ a b : Int, (xlt a b = 0) = ¬ (Int32.ofInt a < Int32.ofInt b) := fun a b => by
    unfold xlt
    by_cases hc : Int32.ofInt a < Int32.ofInt b
    · rw [if_pos hc]; simp [hc]
    · rw [if_neg hc]; simp [hc]
  cases c <;> cases h
  · show decide (Int32.ofInt x < Int32.ofInt y) = decide (xlt x y = 1)
    simp only [h1]
  · show decide (Int32.ofInt y ≤ Int32.ofInt x) = decide (xlt x y = 0)
    simp only [h2, Int32.not_lt]
  · show decide (Int32.ofInt y < Int32.ofInt x) = decide (xlt y x = 1)
    simp only [h1]
  · show decide (Int32.ofInt x ≤ Int32.ofInt y) = decide (xlt y x = 0)
    simp only [h2, Int32.not_lt]
theorem qbm_ok {i : Instr} {len a : Nat} {s : qS} {hs hs' : qHs} {su : List qS} (he : (s.1, i, len, a) ∈ pTs.getD K []) (ha : a < 99999) (h : qBm i len s hs = some (su, hs')) (k : ∀ t ∈ su, qGS d K J Q M0 S g ρ0 t) : qGS d K J Q M0 S g ρ0 s := by
  obtain ⟨pc, lv, st, fs, mm, n⟩ := s
  have he : (pc, i, len, a) ∈ pTs.getD K [] := he
  unfold qBm at h
  split at h
  · rename_i c off y x r u v u' v' hs2 hst hz
    have hst : st = (0, y) :: (0, x) :: r := hst
    subst hst
    split at h
    · rename_i w t fl f1 f2 f3 gw gt g1 g2 g3 g4
      obtain ⟨h1, h2⟩ := zcond h
      cases h2
      rw [Bool.and_eq_true, Bool.and_eq_true, Bool.and_eq_true, Bool.and_eq_true, Bool.and_eq_true] at h1
      obtain ⟨c1, c2, ⟨c4, c5⟩, c6, c7⟩ := h1
      have e1 := Nat.eq_of_beq_eq_true c1
      subst e1
      intro ρ M hg h0 hf hm hI hF
      have m1 := qfind_ok hm g1
      have m2 := qfind_ok hm g2
      have m3 := qfind_ok hm g3
      have m4 := qfind_ok hm g4
      rw [zix_lt (by decide), eq_of_beq c2, qd_at, h0] at m1
      rw [zix_lt (by decide)] at m2 m3 m4
      have t1 := qd_ent h0 hf c4
      have t2 := qd_ent h0 hf c5
      have t3 := qd_ent h0 hf c6
      have t4 := qd_ent h0 hf c7
      rw [qd_sub] at t1 t2 t3 t4
      have hx : M 91 879 = xlt (M 91 877) (M 91 878) := hI.2.2.2.2.2.2.2.2.2.1 (by omega)
      have hb := xlt_b (M 91 877) (M 91 878)
      have hX : qD ρ (cond w.1 y x) = M 91 877 := by omega
      have hY : qD ρ (cond w.1 x y) = M 91 878 := by omega
      have hX' : cond w.1 (qD ρ y) (qD ρ x) = M 91 877 := by rw [← hX]; cases w.1 <;> rfl
      have hY' : cond w.1 (qD ρ x) (qD ρ y) = M 91 878 := by rw [← hY]; cases w.1 <;> rfl
      have hc := xsw_ok gw (qD ρ x) (qD ρ y)
      rw [hX', hY', ← hx] at hc
      have hj : pJmp (.if_icmp c off) pc 3 ((qDS ρ ((0, y) :: (0, x) :: r)).map sE) = some (if pCmp c (Int32.ofInt (qD ρ x)) (Int32.ofInt (qD ρ y)) = true then t else pc + 3, (qDS ρ r).map sE) := by
        show (if 3 = 3 then (pTo pc off).map (fun t => (if pCmp c (Int32.ofInt (qD ρ x)) (Int32.ofInt (qD ρ y)) = true then t else pc + 3, (qDS ρ r).map sE)) else none) = _
        rw [if_pos rfl, gt]
        rfl
      cases hp : pCmp c (Int32.ofInt (qD ρ x)) (Int32.ofInt (qD ρ y)) with
      | true =>
        rw [hp] at hj hc
        have h6 := k _ List.mem_cons_self ρ M hg h0 (fun f hf' => by
          rcases qpp_mem hf' with hf' | hf'
          · exact hf f hf'
          · rw [List.mem_singleton] at hf'
            subst hf'
            cases hw : w.2 with
            | true =>
              rw [hw] at hc
              have hc2 := of_decide_eq_true hc.symm
              rw [cond_true, qd_sub, qd_cn h0]
              omega
            | false =>
              rw [hw] at hc
              have hc2 := of_decide_eq_true hc.symm
              rw [cond_false, qd_sub, qd_cn h0]
              omega) hm hI hF
        exact sr_stp he ha rfl (Or.inr (Or.inr (Or.inl ⟨_, _, hj, rfl⟩))) h6
      | false =>
        rw [hp] at hj hc
        have h6 := k _ (List.mem_cons_of_mem _ List.mem_cons_self) ρ M hg h0 (fun f hf' => by
          rcases qpp_mem hf' with hf' | hf'
          · exact hf f hf'
          · rw [List.mem_singleton] at hf'
            subst hf'
            cases hw : w.2 with
            | true =>
              rw [hw] at hc
              have hc2 := of_decide_eq_false hc.symm
              rw [cond_true, qd_sub, qd_cn h0]
              omega
            | false =>
              rw [hw] at hc
              have hc2 := of_decide_eq_false hc.symm
              rw [cond_false, qd_sub, qd_cn h0]
              omega) hm hI hF
        exact sr_stp he ha rfl (Or.inr (Or.inr (Or.inl ⟨_, _, hj, rfl⟩))) h6
    · cases h
  · cases h
/-- a byte of a number, by what lies outside -/
noncomputable def qIb (len : Nat) (s : qS) (hs : qHs) : Option (qS × qHs) := match s.2.2.1, hs with
  | (0, x) :: r, a :: b :: hs' =>
    (match qFind s.2.2.2.2.1 91 259, qFind s.2.2.2.2.1 91 248, qFind s.2.2.2.2.1 91 258 with
    | some fl, some f1, some f3 => cond (Nat.beq len 1 && ((fl == [(1, 0)]) && (qEnt s.2.2.2.1 (qSub x f1) a && qEnt s.2.2.2.1 (qSub f1 x) b))) (some ((s.1 + 1, s.2.1, (0, f3) :: r, s.2.2.2), hs')) none
    | _, _, _ => none)
  | _, _ => none
theorem qib_ok {len a : Nat} {s : qS} {hs hs' : qHs} {s' : qS} (he : (s.1, Instr.i2b, len, a) ∈ pTs.getD K []) (ha : a < 99999) (h : qIb len s hs = some (s', hs')) (k : qGS d K J Q M0 S g ρ0 s') : qGS d K J Q M0 S g ρ0 s := by
  obtain ⟨pc, lv, st, fs, mm, n⟩ := s
  have he : (pc, Instr.i2b, len, a) ∈ pTs.getD K [] := he
  unfold qIb at h
  split at h
  · rename_i x r u v hs2 hst
    have hst : st = (0, x) :: r := hst
    subst hst
    split at h
    · rename_i fl f1 f3 g1 g2 g3
      obtain ⟨h1, h2⟩ := zcond h
      cases h2
      rw [Bool.and_eq_true, Bool.and_eq_true, Bool.and_eq_true] at h1
      obtain ⟨c1, c2, c4, c5⟩ := h1
      have e1 := Nat.eq_of_beq_eq_true c1
      subst e1
      intro ρ M hg h0 hf hm hI hF
      have m1 := qfind_ok hm g1
      have m2 := qfind_ok hm g2
      have m4 := qfind_ok hm g3
      rw [zix_lt (by decide), eq_of_beq c2, qd_at, h0] at m1
      rw [zix_lt (by decide)] at m2 m4
      have t1 := qd_ent h0 hf c4
      have t2 := qd_ent h0 hf c5
      rw [qd_sub] at t1 t2
      have hx := gx_xSI hI (by omega)
      rw [m2, m4, show qD ρ f1 = qD ρ x by omega] at hx
      have h6 := k ρ M hg h0 hf hm hI hF
      refine sr_stp he ha rfl (Or.inl ⟨_, ?_, rfl⟩) h6
      show some (1, Value.int (Int32.ofInt (qD ρ x)).toInt8.toInt32 :: (qDS ρ r).map sE) = some (1, .int (Int32.ofInt (qD ρ f3)) :: (qDS ρ r).map sE)
      rw [hx, i32_of]
    · cases h
  · cases h
/-- a rest by 4 of a known number -/
theorem zir_ok : (List.range 32).all (fun a => Int32.ofInt (a : Int) - Int32.ofInt (a : Int) / Int32.ofInt 4 * Int32.ofInt 4 == Int32.ofInt ((a % 4 : Nat) : Int)) = true := by decide +kernel
noncomputable def qIr (len : Nat) (s : qS) (hs : qHs) : Option (qS × qHs) := match s.2.2.1 with
  | (0, y) :: (0, x) :: r => (match qKo x with
    | some c => cond (Nat.beq len 1 && ((y == [(4, 0)]) && (!(zNg c) && Nat.blt c.toNat 32))) (some ((s.1 + 1, s.2.1, (0, qCn ((c.toNat % 4 : Nat) : Int)) :: r, s.2.2.2), hs)) none
    | none => none)
  | _ => none
theorem qir_ok {len a : Nat} {s : qS} {hs hs' : qHs} {s' : qS} (he : (s.1, Instr.irem, len, a) ∈ pTs.getD K []) (ha : a < 99999) (h : qIr len s hs = some (s', hs')) (k : qGS d K J Q M0 S g ρ0 s') : qGS d K J Q M0 S g ρ0 s := by
  obtain ⟨pc, lv, st, fs, mm, n⟩ := s
  have he : (pc, Instr.irem, len, a) ∈ pTs.getD K [] := he
  unfold qIr at h
  split at h
  · rename_i y x r hst
    have hst : st = (0, y) :: (0, x) :: r := hst
    subst hst
    split at h
    · rename_i c hc
      obtain ⟨h1, h2⟩ := zcond h
      cases h2
      rw [Bool.and_eq_true, Bool.and_eq_true, Bool.and_eq_true, Bool.not_eq_true'] at h1
      obtain ⟨c1, c2, c3, c4⟩ := h1
      have e1 := Nat.eq_of_beq_eq_true c1
      subst e1
      intro ρ M hg h0 hf hm hI hF
      have h6 := k ρ M hg h0 hf hm hI hF
      refine sr_stp he ha rfl (Or.inl ⟨_, ?_, rfl⟩) h6
      have ey : qD ρ y = 4 := by
        rw [eq_of_beq c2, qd_at, h0]
        rfl
      have ex : qD ρ x = c := qd_ko h0 hc
      have hz := eq_of_beq (List.all_eq_true.mp zir_ok c.toNat (List.mem_range.mpr (zblt c4)))
      have hcn : ((c.toNat : Nat) : Int) = c := by
        cases c with
        | ofNat z => rfl
        | negSucc z => cases c3
      rw [hcn] at hz
      show (if (Int32.ofInt (qD ρ y)) = 0 then none else some (1, Value.int (Int32.ofInt (qD ρ x) - Int32.ofInt (qD ρ x) / Int32.ofInt (qD ρ y) * Int32.ofInt (qD ρ y)) :: (qDS ρ r).map sE)) = some (1, .int (Int32.ofInt (qD ρ (qCn ((c.toNat % 4 : Nat) : Int)))) :: (qDS ρ r).map sE)
      rw [ey, ex, if_neg (by decide), hz, qd_cn h0]
    · cases h
  · cases h
noncomputable def qFn (i : Instr) (len : Nat) (s : qS) (j : Nat) (hs : qHs) : Option (qS × qHs) := match i with
  | .i2b => qIb len s hs
  | .irem => cond (Nat.beq j 99) (qIr len s hs) (qFn0 .irem len s j hs)
  | i => qFn0 i len s j hs
theorem qfn_ok {i : Instr} {len a : Nat} {s : qS} {j : Nat} {hs hs' : qHs} {s' : qS} (he : (s.1, i, len, a) ∈ pTs.getD K []) (ha : a < 99999) (h : qFn i len s j hs = some (s', hs')) (k : qGS d K J Q M0 S g ρ0 s') : qGS d K J Q M0 S g ρ0 s := by
  unfold qFn at h
  split at h
  · exact qib_ok he ha h k
  · cases hj : Nat.beq j 99 with
    | true => rw [hj, cond_true] at h; exact qir_ok he ha h k
    | false => rw [hj, cond_false] at h; exact qfn0_ok he ha h k
  · exact qfn0_ok he ha h k
/-- a byte is written by a rule -/
theorem zi8_ok : (List.range 256).all (fun k => (Int32.ofInt ((k : Int) - 128)).toInt8.toInt32 == Int32.ofInt ((k : Int) - 128)) = true := by decide +kernel
theorem zi8 {v : Int} (h : -128 ≤ v) (h' : v ≤ 127) : (Int32.ofInt v).toInt8.toInt32 = Int32.ofInt v := by
  have hz := eq_of_beq (List.all_eq_true.mp zi8_ok (v + 128).toNat (List.mem_range.mpr (by omega)))
  rw [show (((v + 128).toNat : Nat) : Int) - 128 = v by omega] at hz
  exact hz
noncomputable def qWb (r : qRu) (g : Nat) (S : sSt) (lv : qLv) (st : List qV) (fs : List qF) (mm : qMm) (n : Nat) (hs : qHs) : Option (Nat × List qV × qFmH) := match st with
  | (0, v) :: (0, x) :: (2, y) :: rest => (match qRef y with
    | some o => (match qArr o with
      | some p => (match hs with
        | u :: t :: b1 :: b2 :: hs0 => (match r.2.2.2.1 with
          | [w] => (match qRa r g S lv rest fs mm (qWk mm o x v) n hs0 with
            | some q => cond (Nat.beq p.2.1 21 && (qEnt fs x u && (qEnt fs (qSub (qCn ((p.2.2 : Int) - 1)) x) t && ((qEnt fs (qAdd v (qCn 128)) b1 && qEnt fs (qSub (qCn 127) v) b2) && (sInA S o && (Nat.beq w.1 o && ((qSb (qSg ([(1, 0)] :: hs0.take (r.1 - 1))) w.2.1 == x) && (qSb (qSg ([(1, 0)] :: hs0.take (r.1 - 1))) w.2.2 == v)))))))) (some (1, rest, q)) none
            | none => none)
          | _ => none)
        | _ => none)
      | none => none)
    | none => none)
  | _ => none
theorem qwb_ok (hg1 : 0 < g) {r : qRu} (hr : qRok r) {pc len a : Nat} {lv : qLv} {st : List qV} {fs : List qF} {mm : qMm} {n : Nat} {hs : qHs} {q : Nat × List qV × qFmH} (he : (pc, Instr.bastore, len, a) ∈ pTs.getD K []) (ha : a < 99999) (h : qWb r g S lv st fs mm n hs = some q) (hlen : q.1 = len) (k : qG d K J Q M0 S g ρ0 (pc + len) lv q.2.1 q.2.2.1 q.2.2.2.1) : qG d K J Q M0 S g ρ0 pc lv st fs mm := by
  intro ρ M hg h0 hf hm hI hF
  unfold qWb at h
  split at h
  · rename_i v x y rest
    split at h
    · rename_i o ho
      have hy := qref_ok h0 ho
      split at h
      · rename_i p hp
        obtain ⟨hl, hb⟩ := qarr_ok hp
        split at h
        · rename_i u t b1 b2 hs0
          split at h
          · rename_i w hw
            split at h
            · rename_i z hz
              obtain ⟨h1, h2⟩ := zcond h
              subst h2
              subst hlen
              rw [Bool.and_eq_true, Bool.and_eq_true, Bool.and_eq_true, Bool.and_eq_true, Bool.and_eq_true, Bool.and_eq_true, Bool.and_eq_true, Bool.and_eq_true] at h1
              obtain ⟨g1, g2, g3, ⟨g8, g9⟩, g4, g5, g6, g7⟩ := h1
              have hx0 := qd_ent h0 hf g2
              have hx1 := qd_ent h0 hf g3
              have hv0 := qd_ent h0 hf g8
              have hv1 := qd_ent h0 hf g9
              rw [qd_sub, qd_cn h0] at hx1 hv1
              rw [qd_add, qd_cn h0] at hv0
              have et := Nat.eq_of_beq_eq_true g1
              rw [et] at hl
              have hM1 : mW (fun a => qD ρ (qSg ([(1, 0)] :: hs0.take (r.1 - 1)) a)) r.2.2.2.1 M = sU M o (qD ρ x).toNat (qD ρ v) := by
                rw [hw]
                show sU M w.1 (qD _ w.2.1).toNat (qD _ w.2.2) = _
                rw [← qd_sb, ← qd_sb, eq_of_beq g6, eq_of_beq g7, Nat.eq_of_beq_eq_true g5]
              obtain ⟨ρ2, M2, e1, e2, e3, e4, e5, e6, e7, e8, e9⟩ := qra_ok (M1 := sU M o (qD ρ x).toNat (qD ρ v)) hg1 hr hz hg h0 hf hm (qwk_ok h0 hm) hI (sf_u hF (sina_ok g4 _)) hM1
              have h3 := k ρ2 M2 e1 e2 e3 e4 e5 e6
              rw [e8, e9] at h3
              have hp2 := zm_st (M := M) (J := J) (c := (pMt K).1) (ini := (pMt K).2.1.name == "<init>") (a := a) (rest := (qDS ρ rest).map sE) (kd := 0) (i := .bastore) (v := qD ρ v) (w := .int (Int32.ofInt (qD ρ v))) (Or.inr (Or.inl ⟨rfl, Or.inl rfl, _, rfl, (show Value.int (Int32.ofInt (qD ρ v)) = Value.int (Int32.ofInt (qD ρ v)).toInt8.toInt32 from by rw [zi8 (by omega) (by omega)])⟩)) hl hx0 (by omega) hb
              refine sr_stp he ha rfl (Or.inr (Or.inr (Or.inr (Or.inr ⟨_, _, ?_, rfl⟩)))) (sr_hp e7 h3)
              refine Eq.trans ?_ hp2
              show pMem false _ _ _ a (sE (0, qD ρ v) :: Value.int (Int32.ofInt (qD ρ x)) :: Value.ref (qD ρ y).toNat :: (qDS ρ rest).map sE) _ = _
              rw [hy]
              rfl
            · cases h
          · cases h
        · cases h
      · cases h
    · cases h
  · cases h
noncomputable def qWv (r : qRu) (g : Nat) (S : sSt) (i : Instr) (a : Nat) (lv : qLv) (st : List qV) (fs : List qF) (mm : qMm) (n : Nat) (hs : qHs) : Option (Nat × List qV × qFmH) := match i with
  | .bastore => qWb r g S lv st fs mm n hs
  | i => qWr r g S i a lv st fs mm n hs
theorem qwv_ok (hg1 : 0 < g) {r : qRu} (hr : qRok r) {i : Instr} {pc len a : Nat} {lv : qLv} {st : List qV} {fs : List qF} {mm : qMm} {n : Nat} {hs : qHs} {q : Nat × List qV × qFmH} (he : (pc, i, len, a) ∈ pTs.getD K []) (ha : a < 99999) (h : qWv r g S i a lv st fs mm n hs = some q) (hlen : q.1 = len) (k : qG d K J Q M0 S g ρ0 (pc + len) lv q.2.1 q.2.2.1 q.2.2.2.1) : qG d K J Q M0 S g ρ0 pc lv st fs mm := by
  unfold qWv at h
  split at h
  · exact qwb_ok hg1 hr he ha h hlen k
  · exact qwr_ok hg1 hr he ha h hlen k
end FUN
