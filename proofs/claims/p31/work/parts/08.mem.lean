/-! ONE INSTRUCTION of the small machine is one of the great one: the heap. -/
theorem arrV_cg {cA : ClassId} {N : Nat} {f g : Nat → Value} (h : ∀ j, j < N → f j = g j) : arrV cA N f = arrV cA N g := by
  unfold arrV
  rw [show (fun j : Fin N => f j.val) = fun j => g j.val from funext fun j => h j.1 j.2]
theorem par_set {G : pG} {cA : ClassId} {es : List Value} {j : Nat} (hj : j < es.length) (v : Value) : (arrV cA es.length (fun i => pSh G (es.getD i .null))).setSlot j (pSh G v) = arrV cA (es.set j v).length (fun i => pSh G ((es.set j v).getD i .null)) := by
  rw [arrV_store, List.length_set]
  refine arrV_cg (fun i hi => ?_)
  by_cases hij : i = j
  · subst hij
    simp [updV, List.getD_eq_getElem?_getD, hj]
  · simp [updV, hij, List.getD_eq_getElem?_getD, Ne.symm hij]
theorem pIx_of {x : Int32} {n j : Nat} (h : pIx x n = some j) : ¬ (x < 0 ∨ n ≤ x.toNatClampNeg) ∧ j = x.toNatClampNeg ∧ j < n := by
  unfold pIx at h
  split at h
  · cases h
  · rename_i hc
    cases h
    exact ⟨hc, rfl, Nat.not_le.mp fun q => hc (Or.inr q)⟩
theorem omap {α β : Type} {o : Option α} {f : α → β} {r : β} (h : o.map f = some r) : ∃ x, o = some x ∧ f x = r := by
  cases o with
  | none => cases h
  | some x => exact ⟨x, rfl, Option.some.inj h⟩
theorem pLd_of {es : List Value} {x : Int32} {v : Value} (h : pLd es x = some v) : ¬ (x < 0 ∨ es.length ≤ x.toNatClampNeg) ∧ x.toNatClampNeg < es.length ∧ es.getD x.toNatClampNeg .null = v := by
  unfold pLd at h
  split at h
  · rename_i j hj
    obtain ⟨h1, rfl, h3⟩ := pIx_of hj
    exact ⟨h1, h3, by rw [List.getD_eq_getElem?_getD, h]; rfl⟩
  · cases h
def pToI (v : Value) : Int32 := match v with
  | .int x => x
  | _ => 0
theorem par_ints {G : pG} {cA : ClassId} {es : List Value} (h : es.all (pInt false) = true) : arrV cA es.length (fun j => pSh G (es.getD j .null)) = vp_cell cA (es.length, .inl (fun j => pToI (es.getD j .null))) := by
  rw [vp_cell_i]
  refine arrV_cg (fun j hj => ?_)
  have hm : es[j]? = some es[j] := List.getElem?_eq_getElem hj
  obtain ⟨x, hx⟩ := pint_of (List.all_eq_true.mp h _ (List.mem_of_getElem? hm))
  rw [List.getD_eq_getElem?_getD, hm]
  simp only [Option.getD_some, hx]
  rfl
theorem pAt.arr {G : pG} {a : Nat} {o : pOb} {H : Heap} (h : pAt G a o H) (ht : 20 ≤ o.1) : H[a]? = some (arrV (G.2.2.1 o.1) o.2.length (fun j => pSh G (o.2.getD j .null))) := by
  rcases h with ⟨h1, -⟩ | ⟨-, -, h3⟩ | h1
  · omega
  · exact h3
  · omega
theorem pAt.obj {G : pG} {a : Nat} {o : pOb} {H : Heap} (h : pAt G a o H) (ht : o.1 < 13) : o.2.length = pN o.1 ∧ t_OB a (G.1 o.1) (pN o.1) (G.2.1 o.1) H (vp_V (o.2.map (pSh G))) := by
  rcases h with ⟨-, h2⟩ | ⟨h1, -⟩ | h1
  · exact h2
  · omega
  · omega
theorem pfit_of {G : pG} {c : Nat} {ini : Bool} {ci k : Nat} {v : Value} (h : pFit false c ini ci k v = true) : k < pN ci ∧ fits (pTy ci k) (pSh G v) = true ∧ narrow (pTy ci k) (pSh G v) = pSh G v ∧ ((pT ci k).2.2.2 = false ∨ (ini = true ∧ (pT ci k).1 = pR c)) := by
  simp only [pFit, Bool.and_eq_true, Bool.or_eq_true, Bool.false_and, Bool.false_eq_true, false_or, decide_eq_true_eq, Bool.not_eq_true'] at h
  obtain ⟨⟨h1, ⟨h2, h3⟩, h4⟩, h5⟩ := h
  refine ⟨h1, ?_, ?_, h5⟩
  · cases v with
    | float u => cases h2
    | ref a => cases hty : pTy ci k <;> rw [hty] at h3 <;> first | rfl | cases h3
    | _ => exact h3
  · cases v with
    | float u => cases h2
    | ref a => cases pTy ci k <;> rfl
    | _ => exact h4
theorem pDef_sh (G : pG) : ∀ ci, ci < 13 → (pDef ci).map (pSh G) = pDef ci := by
  intro ci h
  match ci, h with
  | 0, _ => rfl
  | 1, _ => rfl
  | 2, _ => rfl
  | 3, _ => rfl
  | 4, _ => rfl
  | 5, _ => rfl
  | 6, _ => rfl
  | 7, _ => rfl
  | 8, _ => rfl
  | 9, _ => rfl
  | 10, _ => rfl
  | 11, _ => rfl
  | 12, _ => rfl
  | n + 13, h => exact absurd h (by omega)
theorem pDef_at (G : pG) {ci j : Nat} (h : ci < 13) (hj : j < pN ci) : defaultValue (pTy ci j) = vp_V ((pDef ci).map (pSh G)) j := by
  rw [pDef_sh G ci h, vp_V, pDef, List.getD_eq_getElem?_getD, List.getElem?_map, List.getElem?_range hj]
  rfl
theorem pDef_len (ci : Nat) : (pDef ci).length = pN ci := by rw [pDef, List.length_map, List.length_range]
theorem pIz_all : ∀ a, a < 13 → a ∈ pIz := by decide +kernel
theorem pZz_all : ∀ a, a < 17 → a ∈ pZz := by decide +kernel
theorem pXx_all : .int ∈ pXx ∧ .byte ∈ pXx ∧ .boolean ∈ pXx ∧ .long ∈ pXx := by decide +kernel
section MEM
variable {p : Program} {l : Launch} {e : Env} {R : Room} {s : State} {m : MethodId} {args : Array Value} {below : List Frame} {meth : Method} {c : Code} {H : Heap} {locs : List Loc} {cells slots : Nat} {Q : State → Prop}
variable {cc : ByteArray} {pc : Nat} {ls : Array Slot} {G : pG}
theorem ps_getf (hx : p.tables.exec = Jvm.exec) (hb : c.code = cc) {M : pMe} (hown : s.vm.findClass (pR M.1) = some m.cls) (hts : ∀ w ∈ pAll, w.before args s = true) (hK : pKk G s) {L : pHp} (hH : pH G L H) {x a o : Nat} {q : pOb} {v : Value} {r : List Value} (ha : (M.1, x, a) ∈ pFs) (hq : L[o]? = some q) (h1 : q.1 = a / 100) (h2 : q.1 < 13) (h3 : a % 100 < pN q.1) (hv : q.2[a % 100]? = some v) (hd : decode cc pc = .ok (.getfield x, 3))
    (kk : W p l e R s m args below meth c H locs cells slots Q (F0 m (pc + 3) ls (pSh G v :: r))) : W p l e R s m args below meth c H locs cells slots Q (F0 m pc ls (.ref (pB G + o) :: r)) := by
  have hO := ((hH.2.2 o q hq).obj h2).2
  have hP : va_P (G.1, G.2.1) vwCl [(pB G + o, .inr (q.1, q.2.map (pSh G)))] H := by
    intro k z hz
    cases k with
    | zero => cases hz; exact ⟨_, pCl_at q.1 h2, hO⟩
    | succ k => cases hz
  have hw := hts _ (pa_f ha)
  unfold pWf at hw
  rw [← h1] at hw
  exact va_get hx hb hts (pLay_in h2) hown hK.1 hP 0 rfl (pCl_at q.1 h2) (a % 100) h3 hw (fun _ h => h) (by rw [List.getElem?_map, hv]; rfl) hd kk
theorem ps_putf (hx : p.tables.exec = Jvm.exec) (hb : c.code = cc) {M : pMe} (hown : s.vm.findClass (pR M.1) = some m.cls) (hini : M.2.1.name = "<init>" → meth.name = "<init>") (hts : ∀ w ∈ pAll, w.before args s = true) (hK : pKk G s) {L : pHp} (hH : pH G L H) (hlo : ∀ q ∈ locs, pB G ≤ q.base) {x a o : Nat} {q : pOb} {v : Value} {r : List Value} (ha : (M.1, x, a) ∈ pFs) (hq : L[o]? = some q) (h1 : q.1 = a / 100) (h2 : q.1 < 13) (h3 : a % 100 < q.2.length) (hf : pFit false M.1 (M.2.1.name == "<init>") q.1 (a % 100) v = true) (hd : decode cc pc = .ok (.putfield x, 3))
    (kk : ∀ H' locs', pH G (L.set o (q.1, q.2.set (a % 100) v)) H' → (∀ q ∈ locs', pB G ≤ q.base) → W p l e R s m args below meth c H' locs' cells slots Q (F0 m (pc + 3) ls r)) : W p l e R s m args below meth c H locs cells slots Q (F0 m pc ls (pSh G v :: .ref (pB G + o) :: r)) := by
  obtain ⟨hlen, cell, q1, q2, q3, q4⟩ := (hH.2.2 o q hq).obj h2
  obtain ⟨f1, f2, f3, f4⟩ := pfit_of (G := G) hf
  have hw := hts _ (pa_f ha)
  unfold pWf at hw
  rw [← h1] at hw
  have hc := pCl_at q.1 h2
  have hap := va_apart (own := pR M.1) hts (pLay_in h2) (pTy q.1) (pTy_ok q.1 h2) (pNm_ok q.1 h2) hK.1 hc
  obtain ⟨hS, hfc, kC, hkC, hkind⟩ := hK.1.1 q.1 _ hc
  obtain ⟨cf, kf, fi, f, hi, hsl⟩ := hS (a % 100) f1
  have hlay := hts _ (pLay_in h2 _ (u_in_lay f1))
  have hst := (u_facts hfc hkC (u_lays hts (pLay_in h2) f1) hi).1
  have key : ∀ H' : Heap, H'[pB G + o]? = some (cell.setSlot f.slot (pSh G v)) → H'.size = H.size → (∀ z, z ≠ pB G + o → H'[z]? = H[z]?) → W p l e R s m args below meth c H' (locs ++ [⟨pB G + o, f.slot⟩]) cells slots Q (F0 m (pc + 3) ls r) := by
    intro H' e1 e2 e3
    rw [hsl] at e1 ⊢
    refine kk H' _ (ph_set hH hq (Or.inl ⟨h2, by rw [List.length_set]; exact hlen, ?_⟩) e2 e3) ?_
    · have ht : t_OB (pB G + o) (G.1 q.1) (pN q.1) (G.2.1 q.1) H' (updV (vp_V (q.2.map (pSh G))) (a % 100) (pSh G v)) := ⟨_, e1, q2, q3, t_set q4 hap f1 _⟩
      refine ht.to (fun j _ => ?_)
      rw [vp_updV_set (by rw [List.length_map]; exact h3), List.map_set]
    · intro z hz
      rcases List.mem_append.mp hz with hz | hz
      · exact hlo z hz
      · rw [List.mem_singleton.mp hz]
        exact Nat.le_add_right _ _
  unfold u_lay at hlay
  by_cases hfin : (pT q.1 (a % 100)).2.2.2 = true
  · rw [if_pos hfin] at hlay
    obtain ⟨g1, g2⟩ : (M.2.1.name == "<init>") = true ∧ (pT q.1 (a % 100)).1 = pR M.1 := by
      rcases f4 with z | z
      · rw [hfin] at z; cases z
      · exact z
    have hcf : m.cls = cf := by
      obtain ⟨_, _, c', _, _, _, -, -, hf', -, -, -, hown2, -⟩ := Cond.laysFinal_spec hlay
      have e1 : c' = cf := by have := hi.symm.trans hf'; simp at this; exact this.1.symm
      rw [g2] at hown2
      rw [← e1]; exact Option.some.inj (hown.symm.trans hown2)
    have h6 := u_fits hfc hkC hkind (Or.inr hlay) hi (pTy_ok q.1 h2 _ f1) f3 f2
    exact W.putFinK hx hb hown hw hi hst hcf (hini (by simpa using g1)) (by rw [q2]; exact h6) q1 q3 (by rw [hsl]; exact k2_hasslot (q4 _ f1)) rfl rfl hd key
  · rw [if_neg hfin] at hlay
    have h6 := u_store hfc hkC hkind hlay hi (pTy_ok q.1 h2 _ f1) f3 f2
    exact W.putK hx hb (f := f) ⟨hown, hw, ⟨_, _, _, hi⟩, hst⟩ (by rw [q2]; exact h6) q1 q3 (by rw [hsl]; exact k2_hasslot (q4 _ f1)) rfl rfl hd key
theorem ps_new (hx : p.tables.exec = Jvm.exec) (hb : c.code = cc) {M : pMe} (hown : s.vm.findClass (pR M.1) = some m.cls) (hts : ∀ w ∈ pAll, w.before args s = true) (hK : pKk G s) {L : pHp} (hH : pH G L H) {x a : Nat} {st : List Value} (ha : (M.1, x, a) ∈ pNs) (h2 : a < 13) (hc : cells + 1 ≤ R.cells) (hs : slots + pN a ≤ R.slots) (hd : decode cc pc = .ok (.new x, 3))
    (kk : ∀ H', pH G (L ++ [(a, pDef a)]) H' → W p l e R s m args below meth c H' locs (cells + 1) (slots + pN a) Q (F0 m (pc + 3) ls (.ref (pB G + L.length) :: st))) : W p l e R s m args below meth c H locs cells slots Q (F0 m pc ls st) := by
  have hKn := hK.1.1 a _ (pCl_at a h2)
  refine W.newcK hx hb hown (hts _ (pa_n ha)) (hts _ (pa_i (pIz_all a h2))) (hts _ (pa_z (pZz_all a (by omega)))) rfl hd hc hs hKn.2.1 hH.2.1 fun H1 kC hkC e1 z1 o1 => ?_
  refine kk H1 (ph_push hH (Or.inl ⟨h2, pDef_len a, ?_⟩) (by rw [z1, hH.2.1]) (fun z hz => o1 z (by rw [← hH.2.1]; exact hz)))
  exact (u_born (pTy a) hts (pLay_in h2) hKn hkC e1 (pTy_ok a h2)).to (fun j hj => pDef_at G h2 hj)
theorem pty_at (hK : pKk G s) {t : Nat} (h1 : 20 ≤ t) (h2 : t ≤ 25) : ArrOfT s (G.2.2.1 t) (pAty t) ∧ va_RA s (G.2.2.1 t) (pAty t) := by
  match t, h1, h2 with
  | 20, _, _ => exact hK.1.2 0 _ rfl
  | 21, _, _ => exact hK.1.2 1 _ rfl
  | 22, _, _ => exact hK.1.2 2 _ rfl
  | 23, _, _ => exact hK.1.2 3 _ rfl
  | 24, _, _ => exact hK.1.2 4 _ rfl
  | 25, _, _ => exact hK.1.2 5 _ rfl
  | n + 26, _, h => exact absurd h (by omega)
theorem ps_newa (hx : p.tables.exec = Jvm.exec) (hb : c.code = cc) (hts : ∀ w ∈ pAll, w.before args s = true) (hK : pKk G s) {L : pHp} (hH : pH G L H) {t : ArrayType} {g : Nat} {n : Int32} {r : List Value} (ht : pTag t = some g) (hn : ¬ (n < 0 ∨ 4096 < n.toNatClampNeg)) (hc : cells + 1 ≤ R.cells) (hs : slots + n.toNatClampNeg ≤ R.slots) (hd : decode cc pc = .ok (.newarray t, 2))
    (kk : ∀ H', pH G (L ++ [(g, List.replicate n.toNatClampNeg (defaultValue (pAty g)))]) H' → W p l e R s m args below meth c H' locs (cells + 1) (slots + n.toNatClampNeg) Q (F0 m (pc + 2) ls (.ref (pB G + L.length) :: r))) : W p l e R s m args below meth c H locs cells slots Q (F0 m pc ls (.int n :: r)) := by
  have hg : newarray.typeOf t = pAty g ∧ 20 ≤ g ∧ g ≤ 25 ∧ pAty g ∈ pXx ∧ pSh G (defaultValue (pAty g)) = defaultValue (pAty g) ∧ componentBytes (pAty g) ≤ 8 ∧ (va_RA s (G.2.2.1 g) (pAty g) → s.vm.findClass ("[" ++ (pAty g).toString) = some (G.2.2.1 g)) := by
    cases t with
    | int => cases ht; exact ⟨rfl, by decide, by decide, pXx_all.1, rfl, by decide, fun h => h⟩
    | byte => cases ht; exact ⟨rfl, by decide, by decide, pXx_all.2.1, rfl, by decide, fun h => h⟩
    | boolean => cases ht; exact ⟨rfl, by decide, by decide, pXx_all.2.2.1, rfl, by decide, fun h => h⟩
    | long => cases ht; exact ⟨rfl, by decide, by decide, pXx_all.2.2.2, rfl, by decide, fun h => h⟩
    | _ => cases ht
  obtain ⟨g1, g2, g3, g4, g5, g6, g7⟩ := hg
  obtain ⟨k1, k2⟩ := pty_at hK g2 g3
  have hle : n.toNatClampNeg ≤ 4096 := Nat.not_lt.mp fun z => hn (Or.inr z)
  have hbytes : n.toNatClampNeg * componentBytes (newarray.typeOf t) ≤ 536870912 := by
    rw [g1]
    exact Nat.le_trans (Nat.mul_le_mul hle g6) (by decide)
  refine va_newaK hx hb (by rw [g1]; exact hts _ (pa_x g4)) rfl hd rfl (fun z => hn (Or.inl z)) rfl hbytes hc hs hH.2.1 fun H1 cA e1 z1 o1 hAr hNm => ?_
  rw [g1] at e1 hNm
  have hcA : cA = G.2.2.1 g := Option.some.inj (hNm.symm.trans (g7 k2))
  subst hcA
  refine kk H1 (ph_push hH (Or.inr (Or.inl ⟨g2, g3, ?_⟩)) (by rw [z1, hH.2.1]) (fun z hz => o1 z (by rw [← hH.2.1]; exact hz)))
  rw [e1]
  simp only [List.length_replicate]
  congr 1
  refine arrV_cg (fun j hj => ?_)
  rw [List.getD_eq_getElem?_getD, List.getElem?_replicate, if_pos hj]
  exact g5.symm
theorem ps_anew (hx : p.tables.exec = Jvm.exec) (hb : c.code = cc) {M : pMe} (hown : s.vm.findClass (pR M.1) = some m.cls) (hts : ∀ w ∈ pAll, w.before args s = true) (hK : pKk G s) {L : pHp} (hH : pH G L H) {x a : Nat} {n : Int32} {r : List Value} (ha : (M.1, x, a) ∈ pAn) (h2 : a = 24 ∨ a = 25) (hn : ¬ (n < 0 ∨ 4096 < n.toNatClampNeg)) (hc : cells + 1 ≤ R.cells) (hs : slots + n.toNatClampNeg ≤ R.slots) (hd : decode cc pc = .ok (.anewarray x, 3))
    (kk : ∀ H', pH G (L ++ [(a, List.replicate n.toNatClampNeg .null)]) H' → W p l e R s m args below meth c H' locs (cells + 1) (slots + n.toNatClampNeg) Q (F0 m (pc + 3) ls (.ref (pB G + L.length) :: r))) : W p l e R s m args below meth c H locs cells slots Q (F0 m pc ls (.int n :: r)) := by
  have hle : n.toNatClampNeg ≤ 4096 := Nat.not_lt.mp fun z => hn (Or.inr z)
  have hw := hts _ (pa_a ha)
  obtain ⟨C, hC, hov, h20, h25, hty⟩ : ∃ C : String, (if a = 24 then RX1 else RX4) = C ∧ va_AO C s ∧ 20 ≤ a ∧ a ≤ 25 ∧ pAty a = .object C := by
    rcases h2 with rfl | rfl
    · exact ⟨_, rfl, hK.2.2.1, by decide, by decide, rfl⟩
    · exact ⟨_, rfl, hK.2.2.2.1, by decide, by decide, rfl⟩
  unfold pWa at hw
  rw [hC] at hw
  obtain ⟨k1, k2⟩ := pty_at hK h20 h25
  rw [hty] at k1 k2
  obtain ⟨kA', comp', g1, g2, g3, g4⟩ := k2
  refine W.anew hx hb hown hw (va_AO.use hov) rfl hd rfl (fun z => hn (Or.inl z)) (by omega) hc hs fun cA kA comp f1 f2 f3 f4 => ?_
  have hcA : cA = G.2.2.1 a := Option.some.inj (f1.symm.trans g4)
  subst hcA
  rw [hH.2.1]
  refine kk _ (ph_push hH (Or.inr (Or.inl ⟨h20, h25, ?_⟩)) (by rw [Array.size_push]) (fun z hz => by rw [Array.getElem?_push, if_neg (Nat.ne_of_lt hz)]))
  rw [← hH.2.1, Array.getElem?_push_size, arrV_new]
  simp only [List.length_replicate]
  congr 1
  refine arrV_cg (fun j hj => ?_)
  rw [List.getD_eq_getElem?_getD, List.getElem?_replicate, if_pos hj]
  rfl
end MEM
