/-! THE SMALL MACHINE AND THE GREAT ONE: a small heap as the machine's, from a base on. G: classes, slots, array classes, (base, the text, its bytes, the JDK's thing), the heap below the base. -/
abbrev pG : Type := (Nat → ClassId) × (Nat → Nat → Nat) × (Nat → ClassId) × (Nat × Nat × Nat × Value) × Heap
def pB (G : pG) : Nat := G.2.2.2.1.1
def pA (G : pG) : Nat → Prop := fun q => pB G ≤ q
def pSh (G : pG) : Value → Value
  | .ref k => .ref (pB G + k)
  | .float u => if u.toNat = 0 then .ref G.2.2.2.1.2.1 else if u.toNat = 1 then .ref G.2.2.2.1.2.2.1 else G.2.2.2.1.2.2.2
  | .int x => .int x
  | .long x => .long x
  | .double x => .double x
  | .null => .null
  | v => v
theorem psh_int (G : pG) (x : Int32) : pSh G (.int x) = .int x := rfl
theorem psh_long (G : pG) (x : Int64) : pSh G (.long x) = .long x := rfl
theorem psh_ref (G : pG) (k : Nat) : pSh G (.ref k) = .ref (pB G + k) := rfl
theorem psh_null (G : pG) : pSh G .null = .null := rfl
theorem psh_f0 (G : pG) : pSh G (.float 0) = .ref G.2.2.2.1.2.1 := rfl
theorem psh_f1 (G : pG) : pSh G (.float 1) = .ref G.2.2.2.1.2.2.1 := rfl
theorem psh_f2 (G : pG) : pSh G (.float 2) = G.2.2.2.1.2.2.2 := rfl
def pV1 (G : pG) : Prop := G.2.2.2.1.2.2.2.category = 1
theorem psh_cat {G : pG} (hV : pV1 G) (v : Value) : (pSh G v).category = v.category := by
  cases v with
  | float u =>
    show (if u.toNat = 0 then Value.ref G.2.2.2.1.2.1 else if u.toNat = 1 then .ref G.2.2.2.1.2.2.1 else G.2.2.2.1.2.2.2).category = _
    by_cases h0 : u.toNat = 0
    · rw [if_pos h0]; rfl
    · rw [if_neg h0]
      by_cases h1 : u.toNat = 1
      · rw [if_pos h1]; rfl
      · rw [if_neg h1]; exact hV
  | _ => rfl
theorem psh_cats {G : pG} (hV : pV1 G) (r : List Value) : ((r.map (pSh G)).map fun v => v.category) = r.map fun v => v.category := by
  rw [List.map_map]
  exact List.map_congr_left (fun v _ => psh_cat hV v)
def pSz (L : pHp) : Nat := (L.map (fun o => o.2.length)).sum
def pLm (G : pG) (lv : pLv) : pLv := lv.map (fun q => (q.1, pSh G q.2))
/-- a cell of the small heap in the great one (19: of a class that the small machine doesn't know) -/
def pAt (G : pG) (a : Nat) (o : pOb) (H : Heap) : Prop := (o.1 < 13 ∧ o.2.length = pN o.1 ∧ t_OB a (G.1 o.1) (pN o.1) (G.2.1 o.1) H (vp_V (o.2.map (pSh G)))) ∨
  (20 ≤ o.1 ∧ o.1 ≤ 25 ∧ H[a]? = some (arrV (G.2.2.1 o.1) o.2.length (fun j => pSh G (o.2.getD j .null)))) ∨ o.1 = 19
def pH (G : pG) (L : pHp) (H : Heap) : Prop := (∀ q, q < pB G → H[q]? = G.2.2.2.2[q]?) ∧ H.size = pB G + L.length ∧ ∀ (k : Nat) (o : pOb), L[k]? = some o → pAt G (pB G + k) o H
def pTys (G : pG) : List (ClassId × FieldType) := [(G.2.2.1 20, .int), (G.2.2.1 21, .byte), (G.2.2.1 22, .boolean), (G.2.2.1 23, .long), (G.2.2.1 24, .object RX1), (G.2.2.1 25, .object RX4)]
def pTx : String := "bend goods bag depot thief warm horse rope stone seed law wide wind lift pull or and not size height air hour gust slope "
/-- what holds of the tables, and of what lies outside -/
def pKk (G : pG) (U : State) : Prop := va_K (G.1, G.2.1) vwCl (pTys G) U ∧ (∀ q ∈ pC3, va_Nw (.methodLinkNest (pR q.1) q.2.1 (pMy (q.2.2 % 1000)) pHost) U) ∧ va_AO RX1 U ∧ va_AO RX4 U ∧ pV1 G ∧
  vk_R RX10 19 pTx G.2.2.2.1.2.1 U ∧ vk_R RX12 187 pTx G.2.2.2.1.2.1 U ∧ va_O RJ0 G.2.2.2.1.2.1 (pA G) U G.2.2.2.2 ∧ va_OF RJ0 "coder" "B" (.int 0) G.2.2.2.1.2.1 (pA G) U G.2.2.2.2 ∧ va_OF RJ0 "value" "[B" (.ref G.2.2.2.1.2.2.1) G.2.2.2.1.2.1 (pA G) U G.2.2.2.2 ∧
  va_T .byte G.2.2.2.1.2.2.1 pLang.length (fun j => pLang.getD j .null) (pA G) U G.2.2.2.2 ∧ va_Z RJ0 "COMPACT_STRINGS" "Z" (.int 1) (pA G) U G.2.2.2.2 ∧ va_Z RJ3 "SIOOBE_FORMATTER" "Ljava/util/function/BiFunction;" G.2.2.2.1.2.2.2 (pA G) U G.2.2.2.2
theorem pKk.warm {G : pG} {s U : State} (hW : s.WarmedH U.vm) (h : pKk G s) : pKk G U := by
  obtain ⟨h1, h2, h3, h4, h5, h6, h7, h8, h9, h10, h11, h12, h13⟩ := h
  exact ⟨va_K.moved hW.alike h1, fun q hq => va_Nw.warmM hW (h2 q hq), va_AO.moved hW.alike h3, va_AO.moved hW.alike h4, h5, vk_R.warm hW h6, vk_R.warm hW h7, va_O.moved hW.alike h8, va_OF.moved hW.alike h9, va_OF.moved hW.alike h10, va_T.moved hW.alike h11, va_Z.moved hW.alike h12, va_Z.moved hW.alike h13⟩
theorem pKk.same {G : pG} {u U : State} (hv : u.vm = U.vm) (h : pKk G u) : pKk G U := by
  have ha : u.vm.Alike U.vm := hv ▸ Vm.Alike.refl u.vm
  obtain ⟨h1, h2, h3, h4, h5, h6, h7, h8, h9, h10, h11, h12, h13⟩ := h
  exact ⟨va_K.moved ha h1, fun q hq => va_Nw.same rfl hv (h2 q hq), va_AO.moved ha h3, va_AO.moved ha h4, h5, vk_R.same hv.symm h6, vk_R.same hv.symm h7, va_O.moved ha h8, va_OF.moved ha h9, va_OF.moved ha h10, va_T.moved ha h11, va_Z.moved ha h12, va_Z.moved ha h13⟩
-- the tables of the classes, by number
theorem pCl_at : ∀ ci, ci < 13 → vwCl[ci]? = some (pR ci, pT ci, pN ci) := by
  intro ci h
  match ci, h with
  | 0, _ => rfl
  | 1, _ => rfl
  | 2, _ => rfl
  | 3, _ => rfl
  | 4, _ => rfl
  | 5, _ => rfl
  | 6, _ => rfl
  | 7, _ => rfl
  | 8, _ => rfl
  | 9, _ => rfl
  | 10, _ => rfl
  | 11, _ => rfl
  | 12, _ => rfl
  | n + 13, h => exact absurd h (by omega)
theorem pTy_ok : ∀ ci, ci < 13 → ∀ k, k < pN ci → parseFieldDescriptor (pT ci k).2.2.1 = some (pTy ci k) := by
  intro ci h
  match ci, h with
  | 0, _ => exact tyX0_ok
  | 1, _ => exact tyX1_ok
  | 2, _ => exact tyX2_ok
  | 3, _ => exact tyX3_ok
  | 4, _ => exact tyX4_ok
  | 5, _ => exact tyX5_ok
  | 6, _ => exact tyX6_ok
  | 7, _ => exact tyX7_ok
  | 8, _ => exact tyX8_ok
  | 9, _ => exact tyX9_ok
  | 10, _ => exact tyX10_ok
  | 11, _ => exact tyX11_ok
  | 12, _ => exact tyX12_ok
  | n + 13, h => exact absurd h (by omega)
theorem pNm_ok : ∀ ci, ci < 13 → ∀ a, a < pN ci → ∀ b, b < pN ci → a ≠ b → (pT ci a).2.1 ≠ (pT ci b).2.1 := by
  intro ci h
  match ci, h with
  | 0, _ => exact nmX0
  | 1, _ => exact nmX1
  | 2, _ => exact nmX2
  | 3, _ => exact nmX3
  | 4, _ => exact nmX4
  | 5, _ => exact nmX5
  | 6, _ => exact nmX6
  | 7, _ => exact nmX7
  | 8, _ => exact nmX8
  | 9, _ => exact nmX9
  | 10, _ => exact nmX10
  | 11, _ => exact nmX11
  | 12, _ => exact nmX12
  | n + 13, h => exact absurd h (by omega)
theorem pUu_all : ∀ ci, ci < 13 → ∀ k, k < pN ci → (ci, k) ∈ pUu := by decide +kernel
/-- all words, but a method's own -/
def pAll : List Cond := pMs.map pWm ++ (pFs.map pWf ++ (pCs.map pWc ++ (pJs.map pWj ++ (pSs.map pWs ++ (pTt.map pWt ++ (pKs.map pWk ++ (pK2.map pWl ++ (pNs.map pWn ++ (pAn.map pWa ++ (pIz.map pWi ++ (pZz.map pWz ++ (pUu.map pWu ++ (pQs.map pWq ++ (pXx.map pWx ++ [.instanceMethod objectInit, .code objectInit ⟨#[0xb1]⟩ 1 none, .native arraycopyName, .static arraycopyName, .initialized "java/lang/System"]))))))))))))))
section PA
variable {w : Cond}
theorem pa_m {M : pMe} (h : M ∈ pMs) : pWm M ∈ pAll := List.mem_append_left _ (List.mem_map_of_mem h)
theorem pa_f {q : Nat × Nat × Nat} (h : q ∈ pFs) : pWf q ∈ pAll := List.mem_append_right _ (List.mem_append_left _ (List.mem_map_of_mem h))
theorem pa_c {q : Nat × Nat × Nat} (h : q ∈ pCs) : pWc q ∈ pAll := List.mem_append_right _ (List.mem_append_right _ (List.mem_append_left _ (List.mem_map_of_mem h)))
theorem pa_j {q : Nat} (h : q ∈ pJs) : pWj q ∈ pAll := List.mem_append_right _ (List.mem_append_right _ (List.mem_append_right _ (List.mem_append_left _ (List.mem_map_of_mem h))))
theorem pa_s {q : Nat} (h : q ∈ pSs) : pWs q ∈ pAll := List.mem_append_right _ (List.mem_append_right _ (List.mem_append_right _ (List.mem_append_right _ (List.mem_append_left _ (List.mem_map_of_mem h)))))
theorem pa_t {q : Nat} (h : q ∈ pTt) : pWt q ∈ pAll := List.mem_append_right _ (List.mem_append_right _ (List.mem_append_right _ (List.mem_append_right _ (List.mem_append_right _ (List.mem_append_left _ (List.mem_map_of_mem h))))))
def pAll7 : List Cond := pKs.map pWk ++ (pK2.map pWl ++ (pNs.map pWn ++ (pAn.map pWa ++ (pIz.map pWi ++ (pZz.map pWz ++ (pUu.map pWu ++ (pQs.map pWq ++ (pXx.map pWx ++ [.instanceMethod objectInit, .code objectInit ⟨#[0xb1]⟩ 1 none, .native arraycopyName, .static arraycopyName, .initialized "java/lang/System"]))))))))
theorem pa_7 (h : w ∈ pAll7) : w ∈ pAll := List.mem_append_right _ (List.mem_append_right _ (List.mem_append_right _ (List.mem_append_right _ (List.mem_append_right _ (List.mem_append_right _ h)))))
theorem pa_k {q : Nat × Nat × Int32} (h : q ∈ pKs) : pWk q ∈ pAll := pa_7 (List.mem_append_left _ (List.mem_map_of_mem h))
theorem pa_l {q : Nat × Nat × Int64} (h : q ∈ pK2) : pWl q ∈ pAll := pa_7 (List.mem_append_right _ (List.mem_append_left _ (List.mem_map_of_mem h)))
theorem pa_n {q : Nat × Nat × Nat} (h : q ∈ pNs) : pWn q ∈ pAll := pa_7 (List.mem_append_right _ (List.mem_append_right _ (List.mem_append_left _ (List.mem_map_of_mem h))))
theorem pa_a {q : Nat × Nat × Nat} (h : q ∈ pAn) : pWa q ∈ pAll := pa_7 (List.mem_append_right _ (List.mem_append_right _ (List.mem_append_right _ (List.mem_append_left _ (List.mem_map_of_mem h)))))
theorem pa_i {q : Nat} (h : q ∈ pIz) : pWi q ∈ pAll := pa_7 (List.mem_append_right _ (List.mem_append_right _ (List.mem_append_right _ (List.mem_append_right _ (List.mem_append_left _ (List.mem_map_of_mem h))))))
theorem pa_z {q : Nat} (h : q ∈ pZz) : pWz q ∈ pAll := pa_7 (List.mem_append_right _ (List.mem_append_right _ (List.mem_append_right _ (List.mem_append_right _ (List.mem_append_right _ (List.mem_append_left _ (List.mem_map_of_mem h)))))))
theorem pa_u {q : Nat × Nat} (h : q ∈ pUu) : pWu q ∈ pAll := pa_7 (List.mem_append_right _ (List.mem_append_right _ (List.mem_append_right _ (List.mem_append_right _ (List.mem_append_right _ (List.mem_append_right _ (List.mem_append_left _ (List.mem_map_of_mem h))))))))
theorem pa_q {q : Nat × Nat × Nat} (h : q ∈ pQs) : pWq q ∈ pAll := pa_7 (List.mem_append_right _ (List.mem_append_right _ (List.mem_append_right _ (List.mem_append_right _ (List.mem_append_right _ (List.mem_append_right _ (List.mem_append_right _ (List.mem_append_left _ (List.mem_map_of_mem h)))))))))
theorem pa_x {q : FieldType} (h : q ∈ pXx) : pWx q ∈ pAll := pa_7 (List.mem_append_right _ (List.mem_append_right _ (List.mem_append_right _ (List.mem_append_right _ (List.mem_append_right _ (List.mem_append_right _ (List.mem_append_right _ (List.mem_append_right _ (List.mem_append_left _ (List.mem_map_of_mem h))))))))))
theorem pa_o (h : w ∈ ([.instanceMethod objectInit, .code objectInit ⟨#[0xb1]⟩ 1 none, .native arraycopyName, .static arraycopyName, .initialized "java/lang/System"] : List Cond)) : w ∈ pAll := pa_7 (List.mem_append_right _ (List.mem_append_right _ (List.mem_append_right _ (List.mem_append_right _ (List.mem_append_right _ (List.mem_append_right _ (List.mem_append_right _ (List.mem_append_right _ (List.mem_append_right _ h)))))))))
end PA
set_option maxRecDepth 100000 in
theorem pAll_good : GoodIn lw_tbl pAll := goodIn_app pIn_m (goodIn_app pIn_f (goodIn_app pIn_c (goodIn_app pIn_j (goodIn_app pIn_s (goodIn_app pIn_t (goodIn_app pIn_k (goodIn_app pIn_l (goodIn_app pIn_n (goodIn_app pIn_a (goodIn_app pIn_i (goodIn_app pIn_z (goodIn_app pIn_u (goodIn_app pIn_q (goodIn_app pIn_x (gi_c (pt_1 _ (List.mem_of_getElem? (i := 31) rfl)) rfl (gi_c (pt_1 _ (List.mem_of_getElem? (i := 32) rfl)) rfl (gi_c (pt_4 _ (List.mem_of_getElem? (i := 184) rfl)) rfl (gi_c (pt_4 _ (List.mem_of_getElem? (i := 183) rfl)) rfl (gi_c (pt_1 _ (List.mem_of_getElem? (i := 24) rfl)) rfl (gi_n))))))))))))))))))))
theorem pLay_in {ci : Nat} (h : ci < 13) : ∀ w ∈ u_ws (pR ci) (pT ci) (pN ci), w ∈ pAll := by
  intro w hw
  obtain ⟨k, hk, rfl⟩ := List.mem_map.mp hw
  exact pa_u (pUu_all ci h k (List.mem_range.mp hk))
def pWM (M : pMe) : List Cond := pWm M :: pAll
theorem pWM_good {M K : pMe} (hK : K ∈ pMs) : GoodIn (pWM M) (pWM K) := by
  intro w hw
  rcases List.mem_cons.mp hw with rfl | hw
  · exact ⟨List.mem_cons_of_mem _ (pa_m hK), (pAll_good _ (pa_m hK)).2⟩
  · exact ⟨List.mem_cons_of_mem _ hw, (pAll_good _ hw).2⟩
-- locals
theorem pget_mem {lv : pLv} {i : Nat} {v : Value} : pGet lv i = some v → (i, v) ∈ lv := by
  induction lv with
  | nil => intro h; cases h
  | cons q l ih =>
    intro h
    rw [pGet] at h
    by_cases hq : q.1 = i
    · rw [if_pos hq] at h
      cases h
      rw [← hq]
      exact List.mem_cons_self
    · rw [if_neg hq] at h
      exact List.mem_cons_of_mem _ (ih h)
theorem pget_at {G : pG} {ls : Array Slot} {n : Nat} {lv : pLv} {i : Nat} {v : Value} (hl : lv_has ls n (pLm G lv)) (h : pGet lv i = some v) : ls[i]? = some (.val (pSh G v)) :=
  hl.2.2 (i, pSh G v) (List.mem_map.mpr ⟨(i, v), pget_mem h, rfl⟩)
theorem pput1_map {G : pG} (hV : pV1 G) (lv : pLv) (i : Nat) (v : Value) : (i, pSh G v) :: (pLm G lv).filter (fun q => !(q.1 == i) && !(q.1 + 1 == i && q.2.category == 2)) = pLm G (pPut1 lv i v) := by
  simp only [pPut1, pLm, List.map_cons, List.filter_map, List.cons.injEq, true_and]
  congr 1
  apply List.filter_congr
  intro q _
  simp only [Function.comp, psh_cat hV]
theorem pput2_map {G : pG} (hV : pV1 G) (lv : pLv) (i : Nat) (v : Value) : (i, pSh G v) :: (pLm G lv).filter (fun q => !(q.1 == i) && (!(q.1 == i + 1) && !(q.1 + 1 == i && q.2.category == 2))) = pLm G (pPut2 lv i v) := by
  simp only [pPut2, pLm, List.map_cons, List.filter_map, List.cons.injEq, true_and]
  congr 1
  apply List.filter_congr
  intro q _
  simp only [Function.comp, psh_cat hV]
theorem pargs_map {G : pG} (hV : pV1 G) : ∀ (vs : List Value) (i : Nat), lv_args i (vs.map (pSh G)) = pLm G (lv_args i vs)
  | [], _ => rfl
  | v :: vs, i => by
    rw [List.map_cons, lv_args, lv_args, psh_cat hV, pargs_map hV vs]
    rfl
-- the heap
theorem pAt.kept {G : pG} {a : Nat} {o : pOb} {H H1 : Heap} (h : pAt G a o H) (hq : H1[a]? = H[a]?) : pAt G a o H1 := by
  rcases h with ⟨h1, h2, h3⟩ | ⟨h1, h2, h3⟩ | h1
  · exact Or.inl ⟨h1, h2, h3.kept hq⟩
  · exact Or.inr (Or.inl ⟨h1, h2, hq.trans h3⟩)
  · exact Or.inr (Or.inr h1)
theorem ph_set {G : pG} {L : pHp} {H H1 : Heap} {o : Nat} {q q1 : pOb} (h : pH G L H) (ho : L[o]? = some q) (he : pAt G (pB G + o) q1 H1) (hz : H1.size = H.size) (hq : ∀ x, x ≠ pB G + o → H1[x]? = H[x]?) : pH G (L.set o q1) H1 := by
  obtain ⟨h1, h2, h3⟩ := h
  have hl := (List.getElem?_eq_some_iff.mp ho).1
  refine ⟨fun x hx => (hq x (by omega)).trans (h1 x hx), by rw [hz, h2, List.length_set], fun k r hk => ?_⟩
  by_cases hko : k = o
  · subst hko
    rw [List.getElem?_set_self hl] at hk
    cases hk
    exact he
  · rw [List.getElem?_set_ne (Ne.symm hko)] at hk
    exact (h3 k r hk).kept (hq _ (by omega))
theorem ph_push {G : pG} {L : pHp} {H H1 : Heap} {q1 : pOb} (h : pH G L H) (he : pAt G (pB G + L.length) q1 H1) (hz : H1.size = H.size + 1) (hq : ∀ x, x < H.size → H1[x]? = H[x]?) : pH G (L ++ [q1]) H1 := by
  obtain ⟨h1, h2, h3⟩ := h
  refine ⟨fun x hx => (hq x (by omega)).trans (h1 x hx), by rw [hz, h2, List.length_append]; rfl, fun k r hk => ?_⟩
  by_cases hko : k < L.length
  · rw [List.getElem?_append_left hko] at hk
    exact (h3 k r hk).kept (hq _ (by omega))
  · rw [List.getElem?_append_right (by omega)] at hk
    have hz : k - L.length < 1 := (List.getElem?_eq_some_iff.mp hk).1
    have hk0 : k = L.length := by omega
    subst hk0
    rw [Nat.sub_self] at hk
    cases hk
    exact he
theorem psz_set {L : pHp} {o : Nat} {q q1 : pOb} (ho : L[o]? = some q) (h : q1.2.length = q.2.length) : pSz (L.set o q1) = pSz L := by
  have e : (L.set o q1).map (fun x => x.2.length) = L.map (fun x => x.2.length) := by
    apply List.ext_getElem?
    intro i
    rw [List.getElem?_map, List.getElem?_map]
    by_cases hi : i = o
    · subst hi
      rw [List.getElem?_set_self (List.getElem?_eq_some_iff.mp ho).1, ho]
      simp [h]
    · rw [List.getElem?_set_ne (Ne.symm hi)]
  rw [pSz, e, pSz]
theorem psz_push (L : pHp) (q : pOb) : pSz (L ++ [q]) = pSz L + q.2.length := by
  simp [pSz]
/-- since the method's start nothing below the base has changed -/
theorem ph_S {G : pG} {L0 L : pHp} {s : State} {H : Heap} {locs : List Loc} (h0 : pH G L0 s.heap) (h : pH G L H) (hn : L0.length ≤ L.length) (hl : ∀ q ∈ locs, pB G ≤ q.base) : va_S (pA G) s.heap H locs :=
  ⟨by rw [h0.2.1, h.2.1]; omega, fun q _ hq => (h.1 q (Nat.not_le.mp hq)).trans (h0.1 q (Nat.not_le.mp hq)).symm, hl⟩
theorem ph_keep {G : pG} {L0 : pHp} {s : State} (h0 : pH G L0 s.heap) : ∀ a : Nat, a < G.2.2.2.2.size → ¬ pA G a → s.heap[a]? = G.2.2.2.2[a]? := fun a _ ha => h0.1 a (Nat.not_le.mp ha)
