/-! THE HEAP, second part: arrays, constants, copies; then all instructions together. -/
section MEM2
variable {p : Program} {l : Launch} {e : Env} {R : Room} {s : State} {m : MethodId} {args : Array Value} {below : List Frame} {meth : Method} {c : Code} {H : Heap} {locs : List Loc} {cells slots : Nat} {Q : State → Prop}
variable {cc : ByteArray} {pc : Nat} {ls : Array Slot} {G : pG}
theorem pin_of {cA : ClassId} {n : Nat} {f : Nat → Value} {x : Int32} (h : ¬ (x < 0 ∨ n ≤ x.toNatClampNeg)) : ¬ (x < 0 ∨ (arrV cA n f).slots.size ≤ x.toNatClampNeg) := by rw [arrV_size]; exact h
theorem psl_of {cA : ClassId} {es : List Value} {j : Nat} {v : Value} (hj : j < es.length) (hv : es.getD j .null = v) : (arrV cA es.length (fun j => pSh G (es.getD j .null))).slots[j]? = some (pSh G v) := by rw [arrV_read _ _ hj, hv]
theorem ps_iald (hx : p.tables.exec = Jvm.exec) (hb : c.code = cc) (hK : pKk G s) {L : pHp} (hH : pH G L H) {x : Int32} {o : Nat} {q : pOb} {v : Value} {r : List Value} (hq : L[o]? = some q) (ht : q.1 = 20) (hv : pLd q.2 x = some v) (hd : decode cc pc = .ok (.iaload, 1))
    (kk : W p l e R s m args below meth c H locs cells slots Q (F0 m (pc + 1) ls (pSh G v :: r))) : W p l e R s m args below meth c H locs cells slots Q (F0 m pc ls (.int x :: .ref (pB G + o) :: r)) := by
  obtain ⟨h1, h2, h3⟩ := pLd_of hv
  have hc := (hH.2.2 o q hq).arr (by omega)
  rw [ht] at hc
  exact W.iald hx hb hc ((pty_at hK (t := 20) (by decide) (by decide)).1 _ _) (fun z => by cases z) (pin_of h1) (psl_of h2 h3) rfl rfl hd kk
theorem ps_bald (hx : p.tables.exec = Jvm.exec) (hb : c.code = cc) (hK : pKk G s) {L : pHp} (hH : pH G L H) {x : Int32} {o : Nat} {q : pOb} {v : Value} {r : List Value} (hq : L[o]? = some q) (ht : q.1 = 21 ∨ q.1 = 22) (hv : pLd q.2 x = some v) (hd : decode cc pc = .ok (.baload, 1))
    (kk : W p l e R s m args below meth c H locs cells slots Q (F0 m (pc + 1) ls (pSh G v :: r))) : W p l e R s m args below meth c H locs cells slots Q (F0 m pc ls (.int x :: .ref (pB G + o) :: r)) := by
  obtain ⟨h1, h2, h3⟩ := pLd_of hv
  have hc := (hH.2.2 o q hq).arr (by omega)
  rcases ht with ht | ht
  · rw [ht] at hc
    exact W.bald hx hb hc ((pty_at hK (t := 21) (by decide) (by decide)).1 _ _) (fun z => by cases z) (pin_of h1) (psl_of h2 h3) rfl rfl hd kk
  · rw [ht] at hc
    exact W.zald hx hb hc ((pty_at hK (t := 22) (by decide) (by decide)).1 _ _) (fun z => by cases z) (pin_of h1) (psl_of h2 h3) rfl rfl hd kk
theorem ps_lald (hx : p.tables.exec = Jvm.exec) (hb : c.code = cc) (hK : pKk G s) {L : pHp} (hH : pH G L H) {x : Int32} {o : Nat} {q : pOb} {v : Value} {r : List Value} (hq : L[o]? = some q) (ht : q.1 = 23) (hv : pLd q.2 x = some v) (hd : decode cc pc = .ok (.laload, 1))
    (kk : W p l e R s m args below meth c H locs cells slots Q (F0 m (pc + 1) ls (pSh G v :: r))) : W p l e R s m args below meth c H locs cells slots Q (F0 m pc ls (.int x :: .ref (pB G + o) :: r)) := by
  obtain ⟨h1, h2, h3⟩ := pLd_of hv
  have hc := (hH.2.2 o q hq).arr (by omega)
  rw [ht] at hc
  exact W.lald hx hb hc ((pty_at hK (t := 23) (by decide) (by decide)).1 _ _) (fun z => by cases z) (pin_of h1) (psl_of h2 h3) rfl rfl hd kk
theorem ps_aald (hx : p.tables.exec = Jvm.exec) (hb : c.code = cc) (hK : pKk G s) {L : pHp} (hH : pH G L H) {x : Int32} {o : Nat} {q : pOb} {v : Value} {r : List Value} (hq : L[o]? = some q) (ht : q.1 = 24 ∨ q.1 = 25) (hv : pLd q.2 x = some v) (hd : decode cc pc = .ok (.aaload, 1))
    (kk : W p l e R s m args below meth c H locs cells slots Q (F0 m (pc + 1) ls (pSh G v :: r))) : W p l e R s m args below meth c H locs cells slots Q (F0 m pc ls (.int x :: .ref (pB G + o) :: r)) := by
  obtain ⟨h1, h2, h3⟩ := pLd_of hv
  have hc := (hH.2.2 o q hq).arr (by omega)
  rcases ht with ht | ht
  · rw [ht] at hc
    exact W.aald (ty := pAty 24) hx hb hc ((pty_at hK (t := 24) (by decide) (by decide)).1 _ _) rfl (fun z => by cases z) (pin_of h1) (psl_of h2 h3) rfl rfl hd kk
  · rw [ht] at hc
    exact W.aald (ty := pAty 25) hx hb hc ((pty_at hK (t := 25) (by decide) (by decide)).1 _ _) rfl (fun z => by cases z) (pin_of h1) (psl_of h2 h3) rfl rfl hd kk
/-- a store into an array: the new heap -/
theorem ph_ast {L : pHp} {H H1 : Heap} (hH : pH G L H) {o j : Nat} {q : pOb} {v : Value} (hq : L[o]? = some q) (h20 : 20 ≤ q.1) (h25 : q.1 ≤ 25) (hj : j < q.2.length) (he : H1[pB G + o]? = some ((arrV (G.2.2.1 q.1) q.2.length (fun j => pSh G (q.2.getD j .null))).setSlot j (pSh G v))) (hz : H1.size = H.size) (ho : ∀ z, z ≠ pB G + o → H1[z]? = H[z]?) : pH G (L.set o (q.1, q.2.set j v)) H1 :=
  ph_set hH hq (Or.inr (Or.inl ⟨h20, h25, by rw [he, par_set hj]⟩)) hz ho
theorem plo_app (hlo : ∀ q ∈ locs, pB G ≤ q.base) {o k : Nat} : ∀ q ∈ locs ++ [⟨pB G + o, k⟩], pB G ≤ q.base := by
  intro z hz
  rcases List.mem_append.mp hz with hz | hz
  · exact hlo z hz
  · rw [List.mem_singleton.mp hz]
    exact Nat.le_add_right _ _
theorem ps_iast (hx : p.tables.exec = Jvm.exec) (hb : c.code = cc) (hK : pKk G s) {L : pHp} (hH : pH G L H) (hlo : ∀ q ∈ locs, pB G ≤ q.base) {x y : Int32} {o j : Nat} {q : pOb} {r : List Value} (hq : L[o]? = some q) (ht : q.1 = 20) (hj : pIx x q.2.length = some j) (hd : decode cc pc = .ok (.iastore, 1))
    (kk : ∀ H' locs', pH G (L.set o (q.1, q.2.set j (.int y))) H' → (∀ q ∈ locs', pB G ≤ q.base) → W p l e R s m args below meth c H' locs' cells slots Q (F0 m (pc + 1) ls r)) : W p l e R s m args below meth c H locs cells slots Q (F0 m pc ls (.int y :: .int x :: .ref (pB G + o) :: r)) := by
  obtain ⟨h1, rfl, h3⟩ := pIx_of hj
  have hc := (hH.2.2 o q hq).arr (by omega)
  have ha : s.isArrayOf (arrV (G.2.2.1 q.1) q.2.length (fun j => pSh G (q.2.getD j .null))) .int := by rw [ht]; exact (pty_at hK (t := 20) (by decide) (by decide)).1 q.2.length _
  exact W.iast hx hb hc ha (fun z => by cases z) (pin_of h1) rfl rfl hd (fun H1 e1 z oq => kk H1 _ (ph_ast hH hq (by omega) (by omega) h3 e1 z oq) (plo_app hlo))
theorem ps_bast (hx : p.tables.exec = Jvm.exec) (hb : c.code = cc) (hK : pKk G s) {L : pHp} (hH : pH G L H) (hlo : ∀ q ∈ locs, pB G ≤ q.base) {x y : Int32} {o j : Nat} {q : pOb} {r : List Value} (hq : L[o]? = some q) (ht : q.1 = 21 ∨ q.1 = 22) (hj : pIx x q.2.length = some j) (hd : decode cc pc = .ok (.bastore, 1))
    (kk : ∀ H' locs', pH G (L.set o (q.1, q.2.set j (narrow (pAty q.1) (.int y)))) H' → (∀ q ∈ locs', pB G ≤ q.base) → W p l e R s m args below meth c H' locs' cells slots Q (F0 m (pc + 1) ls r)) : W p l e R s m args below meth c H locs cells slots Q (F0 m pc ls (.int y :: .int x :: .ref (pB G + o) :: r)) := by
  obtain ⟨h1, rfl, h3⟩ := pIx_of hj
  have hc := (hH.2.2 o q hq).arr (by omega)
  rcases ht with ht | ht
  · have ha := (pty_at hK (t := 21) (by decide) (by decide)).1 q.2.length (fun j => pSh G (q.2.getD j .null))
    rw [ht] at hc kk
    exact W.bast hx hb hc ha (fun z => by cases z) (pin_of h1) rfl rfl hd (fun H1 e1 z oq => kk H1 _ (by have h9 := ph_ast (v := narrow (pAty 21) (.int y)) hH hq (by omega) (by omega) h3 (by rw [ht]; exact e1) z oq; rw [ht] at h9; exact h9) (plo_app hlo))
  · have ha := (pty_at hK (t := 22) (by decide) (by decide)).1 q.2.length (fun j => pSh G (q.2.getD j .null))
    rw [ht] at hc kk
    exact W.zast hx hb hc ha (fun z => by cases z) (pin_of h1) rfl rfl hd (fun H1 e1 z oq => kk H1 _ (by have h9 := ph_ast (v := narrow (pAty 22) (.int y)) hH hq (by omega) (by omega) h3 (by rw [ht]; exact e1) z oq; rw [ht] at h9; exact h9) (plo_app hlo))
theorem ps_last (hx : p.tables.exec = Jvm.exec) (hb : c.code = cc) (hK : pKk G s) {L : pHp} (hH : pH G L H) (hlo : ∀ q ∈ locs, pB G ≤ q.base) {x : Int32} {y : Int64} {o j : Nat} {q : pOb} {r : List Value} (hq : L[o]? = some q) (ht : q.1 = 23) (hj : pIx x q.2.length = some j) (hd : decode cc pc = .ok (.lastore, 1))
    (kk : ∀ H' locs', pH G (L.set o (q.1, q.2.set j (.long y))) H' → (∀ q ∈ locs', pB G ≤ q.base) → W p l e R s m args below meth c H' locs' cells slots Q (F0 m (pc + 1) ls r)) : W p l e R s m args below meth c H locs cells slots Q (F0 m pc ls (.long y :: .int x :: .ref (pB G + o) :: r)) := by
  obtain ⟨h1, rfl, h3⟩ := pIx_of hj
  have hc := (hH.2.2 o q hq).arr (by omega)
  have ha : s.isArrayOf (arrV (G.2.2.1 q.1) q.2.length (fun j => pSh G (q.2.getD j .null))) .long := by rw [ht]; exact (pty_at hK (t := 23) (by decide) (by decide)).1 q.2.length _
  exact W.last hx hb hc ha (fun z => by cases z) (pin_of h1) rfl rfl hd (fun H1 e1 z oq => kk H1 _ (ph_ast hH hq (by omega) (by omega) h3 e1 z oq) (plo_app hlo))
theorem ps_aast (hx : p.tables.exec = Jvm.exec) (hb : c.code = cc) (hK : pKk G s) {L : pHp} (hH : pH G L H) (hlo : ∀ q ∈ locs, pB G ≤ q.base) {x : Int32} {o v j : Nat} {q w : pOb} {r : List Value} (hq : L[o]? = some q) (hw : L[v]? = some w) (ht : (q.1 = 24 ∧ w.1 = 1) ∨ (q.1 = 25 ∧ w.1 = 4)) (hj : pIx x q.2.length = some j) (hd : decode cc pc = .ok (.aastore, 1))
    (kk : ∀ H' locs', pH G (L.set o (q.1, q.2.set j (.ref v))) H' → (∀ q ∈ locs', pB G ≤ q.base) → W p l e R s m args below meth c H' locs' cells slots Q (F0 m (pc + 1) ls r)) : W p l e R s m args below meth c H locs cells slots Q (F0 m pc ls (.ref (pB G + v) :: .int x :: .ref (pB G + o) :: r)) := by
  obtain ⟨h1, rfl, h3⟩ := pIx_of hj
  have hc := (hH.2.2 o q hq).arr (by omega)
  have hw13 : w.1 < 13 := by omega
  obtain ⟨-, cellV, g1, g2, g3, -⟩ := (hH.2.2 v w hw).obj hw13
  have hcls := (hK.1.1 w.1 _ (pCl_at w.1 hw13)).2
  have hra : va_RA s (G.2.2.1 q.1) (.object (pR w.1)) := by
    rcases ht with ⟨a, b⟩ | ⟨a, b⟩
    · rw [a, b]; exact (pty_at hK (t := 24) (by decide) (by decide)).2
    · rw [a, b]; exact (pty_at hK (t := 25) (by decide) (by decide)).2
  obtain ⟨kA, comp, k1, k2, k3, -⟩ := hra
  have hcomp : comp = G.1 w.1 := Option.some.inj (k3.symm.trans hcls.1)
  subst hcomp
  obtain ⟨kC, hkC, -⟩ := hcls.2
  exact W.aast hx hb hc (fun z h => by cases h) (fun h => by cases h) k1 k2 rfl hkC ⟨fun z => h1 (Or.inl z), by rw [arrV_size]; exact h3⟩ g1 (fun z h => by rw [g3] at h; cases h) (by rw [g2]; exact hkC) (by rw [g2]; exact va_assign hcls) rfl rfl hd
    (fun H1 e1 z oq => kk H1 _ (ph_ast (v := .ref v) hH hq (by omega) (by omega) h3 e1 z oq) (plo_app hlo))
theorem ps_alen (hx : p.tables.exec = Jvm.exec) (hb : c.code = cc) (hK : pKk G s) {L : pHp} (hH : pH G L H) {o : Nat} {q : pOb} {r : List Value} (hq : L[o]? = some q) (h20 : 20 ≤ q.1) (h25 : q.1 ≤ 25) (hd : decode cc pc = .ok (.arraylength, 1))
    (kk : W p l e R s m args below meth c H locs cells slots Q (F0 m (pc + 1) ls (.int (Int32.ofNat q.2.length) :: r))) : W p l e R s m args below meth c H locs cells slots Q (F0 m pc ls (.ref (pB G + o) :: r)) := by
  have hc := (hH.2.2 o q hq).arr h20
  exact W.alen hx hb hc ((pty_at hK h20 h25).1 _ _) (by rw [arrV_size]) rfl rfl hd kk
theorem pcp_at {α : Type} {es ds : List α} {sp dp n j : Nat} (h1 : sp + n ≤ es.length) (h2 : dp + n ≤ ds.length) : (ds.take dp ++ ((es.drop sp).take n ++ ds.drop (dp + n)))[j]? = if dp ≤ j ∧ j < dp + n then es[sp + (j - dp)]? else ds[j]? := by
  have l1 : (ds.take dp).length = dp := by rw [List.length_take]; omega
  have l2 : ((es.drop sp).take n).length = n := by rw [List.length_take, List.length_drop]; omega
  by_cases a : j < dp
  · rw [if_neg (by omega), List.getElem?_append_left (by omega), List.getElem?_take, if_pos a]
  · rw [List.getElem?_append_right (by omega), l1]
    by_cases b : j < dp + n
    · rw [if_pos ⟨by omega, b⟩, List.getElem?_append_left (by omega), List.getElem?_take, if_pos (by omega), List.getElem?_drop]
    · rw [if_neg (by omega), List.getElem?_append_right (by omega), l2, List.getElem?_drop]
      congr 1
      omega
theorem pcp_len {α : Type} {es ds : List α} {sp dp n : Nat} (h1 : sp + n ≤ es.length) (h2 : dp + n ≤ ds.length) : (ds.take dp ++ ((es.drop sp).take n ++ ds.drop (dp + n))).length = ds.length := by
  rw [List.length_append, List.length_append, List.length_take, List.length_take, List.length_drop, List.length_drop]
  omega
theorem ps_copy (hx : p.tables.exec = Jvm.exec) (hb : c.code = cc) (hml : c.maxLocals = ls.size) {M : pMe} (hown : s.vm.findClass (pR M.1) = some m.cls) (hts : ∀ w ∈ pAll, w.before args s = true) (hK : pKk G s) {L : pHp} (hH : pH G L H) (hlo : ∀ q ∈ locs, pB G ≤ q.base) {x : Nat} (ha : (M.1, x, 5000) ∈ pCs) {sp dp n : Int32} {o d : Nat} {q w : pOb} {r : List Value} (hq : L[o]? = some q) (hw : L[d]? = some w) (q20 : q.1 = 20) (w20 : w.1 = 20)
    (h1 : ¬ sp < 0) (h2 : ¬ dp < 0) (h3 : ¬ n < 0) (h4 : sp.toNatClampNeg + n.toNatClampNeg ≤ q.2.length) (h5 : dp.toNatClampNeg + n.toNatClampNeg ≤ w.2.length) (hqi : q.2.all (pInt false) = true) (hwi : w.2.all (pInt false) = true) (hframes : 1 ≤ R.frames) (hlocals : (r.map fun v => v.category).sum + (nativeFrameWords "java/lang/System" "arraycopy" 5 + 11) ≤ R.locals) (hdg : decode cc pc = .ok (.invokestatic x, 3))
    (kk : ∀ H' locs', pH G (L.set d (w.1, w.2.take dp.toNatClampNeg ++ ((q.2.drop sp.toNatClampNeg).take n.toNatClampNeg ++ w.2.drop (dp.toNatClampNeg + n.toNatClampNeg)))) H' → (∀ q ∈ locs', pB G ≤ q.base) → W p l e R s m args below meth c H' locs' cells slots Q (F0 m (pc + 3) ls r)) :
    W p l e R s m args below meth c H locs cells slots Q (F0 m pc ls (.int n :: .int dp :: .ref (pB G + d) :: .int sp :: .ref (pB G + o) :: r)) := by
  have nn : ∀ z : Int32, ¬ z < 0 → z.toInt = (z.toNatClampNeg : Int) := by
    intro z hz
    have hz0 : (0 : Int) ≤ z.toInt := by
      have := Int32.not_lt.mp hz
      simpa using Int32.le_iff_toInt_le.mp this
    show z.toInt = ((z.toInt.toNat : Nat) : Int)
    omega
  obtain ⟨f, hf⟩ : ∃ f : Nat → Int32, f = fun j => pToI (q.2.getD j .null) := ⟨_, rfl⟩
  obtain ⟨g, hg⟩ : ∃ g : Nat → Int32, g = fun j => pToI (w.2.getD j .null) := ⟨_, rfl⟩
  have hc0 : H[pB G + o]? = some (vp_cell (G.2.2.1 20) (q.2.length, .inl f)) := by
    have hc := (hH.2.2 o q hq).arr (by omega)
    rw [par_ints hqi, q20, ← hf] at hc
    exact hc
  have hc1 : H[pB G + d]? = some (vp_cell (G.2.2.1 20) (w.2.length, .inl g)) := by
    have hc := (hH.2.2 d w hw).arr (by omega)
    rw [par_ints hwi, w20, ← hg] at hc
    exact hc
  have hT20 := (pty_at hK (t := 20) (by decide) (by decide)).1
  obtain ⟨-, k0, hk0, cm0, hkk0⟩ := hT20 q.2.length (fun j => .int (f j))
  obtain ⟨-, k1, hk1, cm1, hkk1⟩ := hT20 w.2.length (fun j => .int (g j))
  have hlink : (Cond.methodLink (pR M.1) x arraycopyName).before args s = true := by have h := hts _ (pa_c ha); simpa [pWc, pWy] using h
  intro T hT X
  obtain ⟨vm', X', step⟩ := X.arraycopy hx hown hlink (hts _ (pa_o (List.mem_of_getElem? (i := 2) rfl))) (hts _ (pa_o (List.mem_of_getElem? (i := 3) rfl))) (hts _ (pa_o (List.mem_of_getElem? (i := 4) rfl))) (src := pB G + o) (dst := pB G + d) (cs := vp_cell (G.2.2.1 20) (q.2.length, .inl f)) (cd := vp_cell (G.2.2.1 20) (w.2.length, .inl g)) (srcPos := sp) (destPos := dp) (n := n) (by rw [hT]; exact hc0) (by rw [hT]; exact hc1)
    (fun _ h => by cases h) (fun _ h => by cases h) (fun h => by cases h) (fun h => by cases h) hk0 hk1 hkk0 hkk1 (by simp [pAty, refKind]) h1 h2 h3
    (by rw [nn sp h1, nn n h3]; show ¬ _ > ((arrV _ q.2.length (fun j => .int (f j))).slots.size : Int); rw [arrV_size]; omega)
    (by rw [nn dp h2, nn n h3]; show ¬ _ > ((arrV _ w.2.length (fun j => .int (g j))).slots.size : Int); rw [arrV_size]; omega)
    (fun vm₁ _ i hi => by
      have e : (vp_cell (G.2.2.1 20) (q.2.length, .inl f)).slots.getD (sp.toNatClampNeg + i) .null = .int (f (sp.toNatClampNeg + i)) := by
        show (arrV _ q.2.length (fun j => .int (f j))).slots.getD _ _ = _
        rw [Array.getD_eq_getD_getElem?, arrV_read _ _ (by omega)]
        rfl
      refine ⟨?_, ?_⟩
      · rw [e]
        rfl
      · rw [e]
        exact trivial)
    (g := F0 m pc ls (.int n :: .int dp :: .ref (pB G + d) :: .int sp :: .ref (pB G + o) :: r)) rfl (by rw [hml]) (rest := r) rfl (by rw [hb]; exact hdg) hframes (by show 2 * 0 + _ + _ ≤ _; omega)
  have e1 : copied (vp_cell (G.2.2.1 20) (q.2.length, .inl f)) (vp_cell (G.2.2.1 20) (w.2.length, .inl g)) sp dp n = vp_cell (G.2.2.1 20) (w.2.length, .inl (va_cpy f g sp.toNatClampNeg dp.toNatClampNeg n.toNatClampNeg)) := va_copied (fun z => .int z) _ _ f g h4
  rw [e1] at X' step
  have hl : pB G + d < H.size := (Array.getElem?_eq_some_iff.mp hc1).1
  generalize hN : vp_cell (G.2.2.1 20) (w.2.length, .inl (va_cpy f g sp.toNatClampNeg dp.toNatClampNeg n.toNatClampNeg)) = cN at X' step
  have hheap : ((T.setVm vm').setCell (pB G + d) cN).heap = H.setIfInBounds (pB G + d) cN := by rw [← hT]; rfl
  have oq : ∀ z : Nat, z ≠ pB G + d → (H.setIfInBounds (pB G + d) cN)[z]? = H[z]? := fun z hz => by simp [Array.getElem?_setIfInBounds, Ne.symm hz]
  have hall : (w.2.take dp.toNatClampNeg ++ ((q.2.drop sp.toNatClampNeg).take n.toNatClampNeg ++ w.2.drop (dp.toNatClampNeg + n.toNatClampNeg))).all (pInt false) = true := by
    rw [List.all_append, List.all_append, Bool.and_eq_true, Bool.and_eq_true]
    refine ⟨?_, ?_, ?_⟩ <;> rw [List.all_eq_true] <;> intro v hv
    · exact List.all_eq_true.mp hwi v (List.mem_of_mem_take hv)
    · exact List.all_eq_true.mp hqi v (List.mem_of_mem_drop (List.mem_of_mem_take hv))
    · exact List.all_eq_true.mp hwi v (List.mem_of_mem_drop hv)
  have hnew : pAt G (pB G + d) (w.1, w.2.take dp.toNatClampNeg ++ ((q.2.drop sp.toNatClampNeg).take n.toNatClampNeg ++ w.2.drop (dp.toNatClampNeg + n.toNatClampNeg))) (H.setIfInBounds (pB G + d) cN) := by
    refine Or.inr (Or.inl ⟨by show 20 ≤ w.1; omega, by show w.1 ≤ 25; omega, ?_⟩)
    rw [par_ints hall]
    show (H.setIfInBounds (pB G + d) cN)[pB G + d]? = some (vp_cell (G.2.2.1 w.1) _)
    rw [w20, pcp_len h4 h5, ← hN]
    simp only [Array.getElem?_setIfInBounds, if_true, hl, Option.some.injEq]
    rw [vp_cell_i, vp_cell_i]
    refine arrV_cg (fun j hj => ?_)
    rw [List.getD_eq_getElem?_getD, pcp_at h4 h5]
    simp only [va_cpy]
    by_cases a : dp.toNatClampNeg ≤ j ∧ j < dp.toNatClampNeg + n.toNatClampNeg
    · rw [if_pos a, if_pos a, hf]
      simp only [List.getD_eq_getElem?_getD]
    · rw [if_neg a, if_neg a, hg]
      simp only [List.getD_eq_getElem?_getD]
  obtain ⟨t, a1, b1⟩ := kk _ _ (ph_set hH hw hnew (by simp) oq) (fun z hz => by
      rcases List.mem_append.mp hz with h | h
      · exact hlo z h
      · obtain ⟨y, -, hy⟩ := List.mem_map.mp h
        rw [← hy]
        exact Nat.le_add_right _ _) _ hheap X'
  exact ⟨t, step t a1, b1⟩
end MEM2
