/-! ONE INSTRUCTION of the small machine is one of the great one. -/
section STP
variable {p : Program} {l : Launch} {e : Env} {R : Room} {s : State} {m : MethodId} {args : Array Value} {below : List Frame} {meth : Method} {c : Code} {H : Heap} {locs : List Loc} {cells slots : Nat} {Q : State → Prop}
variable {cc : ByteArray} {pc : Nat} {ls : Array Slot} {G : pG}
set_option maxHeartbeats 4000000 in
theorem ps_stk (hx : p.tables.exec = Jvm.exec) (hb : c.code = cc) (hV : pV1 G) {i : Instr} {k : Nat} {st st' : List Value} (h : pStk i st = some (k, st')) (hd : decode cc pc = .ok (i, k))
    (kk : W p l e R s m args below meth c H locs cells slots Q (F0 m (pc + k) ls (st'.map (pSh G)))) : W p l e R s m args below meth c H locs cells slots Q (F0 m pc ls (st.map (pSh G))) := by
  unfold pStk at h
  split at h
  case h_1 => cases h; exact lv_iconst hx hb hd rfl kk
  case h_2 => cases h; exact lv_bipush hx hb hd rfl kk
  case h_3 => cases h; exact lv_sipush hx hb hd rfl kk
  case h_4 => cases h; exact lv_lconst hx hb hd rfl kk
  case h_5 =>
    split at h
    · cases h
      exact lv_iadd hx hb hd kk
    · cases h
  case h_6 =>
    split at h
    · cases h
      exact lv_isub hx hb hd kk
    · cases h
  case h_7 =>
    split at h
    · cases h
      exact lv_imul hx hb hd kk
    · cases h
  case h_8 =>
    split at h
    · cases h
      exact lv_iand hx hb hd kk
    · cases h
  case h_9 =>
    split at h
    · cases h
      exact lv_ior hx hb hd kk
    · cases h
  case h_10 =>
    split at h
    · cases h
      exact lv_ixor hx hb hd kk
    · cases h
  case h_11 =>
    split at h
    · cases h
      exact lv_ishl hx hb hd kk
    · cases h
  case h_12 =>
    split at h
    · cases h
      exact lv_ishr hx hb hd kk
    · cases h
  case h_13 =>
    split at h
    · split at h
      · cases h
      · rename_i hc
        cases h
        exact lv_idiv hx hb hd hc kk
    · cases h
  case h_14 =>
    split at h
    · split at h
      · cases h
      · rename_i hc
        cases h
        exact lv_irem hx hb hd hc kk
    · cases h
  case h_15 =>
    split at h
    · cases h
      exact lv_ineg hx hb hd kk
    · cases h
  case h_16 =>
    split at h
    · cases h
      exact lv_i2l hx hb hd rfl kk
    · cases h
  case h_17 =>
    split at h
    · cases h
      exact lv_l2i hx hb hd rfl kk
    · cases h
  case h_18 =>
    split at h
    · cases h
      exact lv_i2c hx hb hd rfl kk
    · cases h
  case h_19 =>
    split at h
    · cases h
      exact lv_i2b hx hb hd rfl kk
    · cases h
  case h_20 =>
    split at h
    · cases h
      exact lv_ladd hx hb hd kk
    · cases h
  case h_21 =>
    split at h
    · cases h
      exact lv_lsub hx hb hd kk
    · cases h
  case h_22 =>
    split at h
    · cases h
      exact lv_lmul hx hb hd kk
    · cases h
  case h_23 =>
    split at h
    · cases h
      exact lv_land hx hb hd kk
    · cases h
  case h_24 =>
    split at h
    · split at h
      · cases h
      · rename_i hc
        cases h
        exact lv_ldiv hx hb hd hc kk
    · cases h
  case h_25 =>
    split at h
    · split at h
      · cases h
      · rename_i hc
        cases h
        exact lv_lrem hx hb hd hc kk
    · cases h
  case h_26 =>
    split at h
    · cases h
      exact lv_lneg hx hb hd kk
    · cases h
  case h_27 =>
    split at h
    · cases h
      exact W.lcmp hx hb hd kk
    · cases h
  case h_28 =>
    split at h
    · split at h
      · rename_i hc
        cases h
        exact lv_dup hx hb hd (by rw [psh_cat hV]; exact hc) kk
      · cases h
    · cases h
  case h_29 =>
    split at h
    · split at h
      · rename_i hc
        cases h
        exact lv_pop hx hb hd (by rw [psh_cat hV]; exact hc) kk
      · cases h
    · cases h
  case h_30 =>
    split at h
    · split at h
      · rename_i hc
        cases h
        exact lv_dup2_11 hx hb hd (by rw [psh_cat hV]; exact hc.1) (by rw [psh_cat hV]; exact hc.2) kk
      · cases h
    · cases h
  case h_31 => cases h
theorem pint_of {v : Value} (h : pInt false v = true) : ∃ x, v = .int x := by
  cases v with
  | int x => exact ⟨x, rfl⟩
  | _ => cases h
theorem pLang_ints : pLang.all (pInt false) = true := by decide +kernel
theorem pref_of {G : pG} {v : Value} (h : pRef v = true) : ∃ a, pSh G v = .ref a := by
  cases v with
  | ref k => exact ⟨_, rfl⟩
  | float u =>
    have hu : u.toNat < 2 := by simpa [pRef, pOut] using h
    show ∃ a, (if u.toNat = 0 then Value.ref G.2.2.2.1.2.1 else if u.toNat = 1 then .ref G.2.2.2.1.2.2.1 else G.2.2.2.1.2.2.2) = .ref a
    by_cases h0 : u.toNat = 0
    · exact ⟨_, if_pos h0⟩
    · exact ⟨_, (if_neg h0).trans (if_pos (by omega))⟩
  | _ => cases h
set_option maxHeartbeats 4000000 in
theorem ps_loc (hx : p.tables.exec = Jvm.exec) (hb : c.code = cc) (hV : pV1 G) {i : Instr} {k mx : Nat} {lv lv' : pLv} {st st' : List Value} (h : pLoc false mx i lv st = some (k, lv', st')) (hd : decode cc pc = .ok (i, k)) (hl : lv_has ls mx (pLm G lv))
    (kk : ∀ ls', lv_has ls' mx (pLm G lv') → W p l e R s m args below meth c H locs cells slots Q (F0 m (pc + k) ls' (st'.map (pSh G)))) : W p l e R s m args below meth c H locs cells slots Q (F0 m pc ls (st.map (pSh G))) := by
  unfold pLoc at h
  split at h
  case h_1 =>
    split at h
    · rename_i v hg
      split at h
      · rename_i hv
        obtain ⟨x, rfl⟩ := pint_of hv
        cases h
        exact lv_iload_n hx hb hd rfl (pget_at hl hg) (kk ls hl)
      · cases h
    · cases h
  case h_2 =>
    split at h
    · rename_i v hg
      split at h
      · rename_i hv
        obtain ⟨x, rfl⟩ := pint_of hv
        cases h
        exact lv_iload hx hb hd (pget_at hl hg) (kk ls hl)
      · cases h
    · cases h
  case h_3 =>
    split at h
    · rename_i x hg
      cases h
      exact lv_lload_n hx hb hd rfl (pget_at hl hg) (kk ls hl)
    · cases h
  case h_4 =>
    split at h
    · rename_i x hg
      cases h
      exact lv_lload hx hb hd (pget_at hl hg) (kk ls hl)
    · cases h
  case h_5 =>
    split at h
    · rename_i v hg
      split at h
      · rename_i hv
        obtain ⟨a, ha⟩ := pref_of (G := G) hv
        cases h
        have hk := kk ls hl
        rw [List.map_cons, ha] at hk
        exact lv_aload_n hx hb hd rfl (by rw [← ha]; exact pget_at hl hg) hk
      · cases h
    · cases h
  case h_6 =>
    split at h
    · rename_i v hg
      split at h
      · rename_i hv
        obtain ⟨a, ha⟩ := pref_of (G := G) hv
        cases h
        have hk := kk ls hl
        rw [List.map_cons, ha] at hk
        exact lv_aload hx hb hd (by rw [← ha]; exact pget_at hl hg) hk
      · cases h
    · cases h
  case h_7 =>
    split at h
    · split at h
      · rename_i hv
        obtain ⟨x, rfl⟩ := pint_of hv.1
        cases h
        exact lv_istore_n hx hb hd rfl hl hv.2 (pput1_map hV _ _ (.int x)) kk
      · cases h
    · cases h
  case h_8 =>
    split at h
    · split at h
      · rename_i hv
        obtain ⟨x, rfl⟩ := pint_of hv.1
        cases h
        exact lv_istore hx hb hd hl hv.2 (pput1_map hV _ _ (.int x)) kk
      · cases h
    · cases h
  case h_9 =>
    split at h
    · rename_i x r
      split at h
      · rename_i hv
        cases h
        exact lv_lstore_n hx hb hd rfl hl hv (pput2_map hV _ _ (.long x)) kk
      · cases h
    · cases h
  case h_10 =>
    split at h
    · rename_i x r
      split at h
      · rename_i hv
        cases h
        exact lv_lstore hx hb hd hl hv (pput2_map hV _ _ (.long x)) kk
      · cases h
    · cases h
  case h_11 =>
    split at h
    · rename_i x r
      split at h
      · rename_i hv
        cases h
        exact lv_astore_n hx hb hd rfl hl hv (pput1_map hV _ _ (.ref x)) kk
      · cases h
    · cases h
  case h_12 =>
    split at h
    · rename_i x r
      split at h
      · rename_i hv
        cases h
        exact lv_astore hx hb hd hl hv (pput1_map hV _ _ (.ref x)) kk
      · cases h
    · cases h
  case h_13 =>
    split at h
    · rename_i x hg
      split at h
      · rename_i hv
        cases h
        obtain ⟨j, hj⟩ := List.getElem?_of_mem (List.mem_map.mpr ⟨_, pget_mem hg, rfl⟩ : _ ∈ pLm G lv)
        exact lv_iinc hx hb hd hl hj rfl hv (pput1_map hV lv _ (.int _)) kk
      · cases h
    · cases h
  case h_14 => cases h
theorem pto_of {pc : Nat} {off : Int} {t : Nat} (h : pTo pc off = some t) : (pc : Int) + off = (t : Int) := by
  unfold pTo at h
  split at h
  · cases h
    omega
  · cases h
theorem pto_map {α : Type} {pc : Nat} {off : Int} {f : Nat → α} {r : α} (h : (pTo pc off).map f = some r) : ∃ t : Nat, (pc : Int) + off = (t : Int) ∧ f t = r := by
  cases hp : pTo pc off with
  | none => rw [hp] at h; cases h
  | some t' =>
    rw [hp] at h
    exact ⟨t', pto_of hp, Option.some.inj h⟩
set_option maxHeartbeats 4000000 in
theorem ps_jmp (hx : p.tables.exec = Jvm.exec) (hb : c.code = cc) {i : Instr} {t len : Nat} {st st' : List Value} (h : pJmp i pc len st = some (t, st')) (hd : decode cc pc = .ok (i, len))
    (kk : W p l e R s m args below meth c H locs cells slots Q (F0 m t ls (st'.map (pSh G)))) : W p l e R s m args below meth c H locs cells slots Q (F0 m pc ls (st.map (pSh G))) := by
  unfold pJmp at h
  split at h
  · split at h
    · rename_i hl
      subst hl
      obtain ⟨t', h1, h2⟩ := pto_map h
      cases h2
      exact lv_goto hx hb hd h1 kk
    · cases h
  · rename_i cd off
    split at h
    · rename_i x r
      split at h
      · rename_i hl
        subst hl
        obtain ⟨t', h1, h2⟩ := pto_map h
        obtain ⟨h3, rfl⟩ := Prod.mk.inj h2
        have kt : pCmp cd x 0 = true → W p l e R s m args below meth c H locs cells slots Q (F0 m t' ls (r.map (pSh G))) := fun hc => by rw [if_pos hc] at h3; rw [h3]; exact kk
        have kf : ¬ pCmp cd x 0 = true → W p l e R s m args below meth c H locs cells slots Q (F0 m (pc + 3) ls (r.map (pSh G))) := fun hc => by rw [if_neg hc] at h3; rw [h3]; exact kk
        rw [List.map_cons, psh_int]
        cases cd with
        | eq => exact lv_if_eq hx hb hd h1 (fun q => kt (decide_eq_true q)) (fun q => kf (fun z => q (of_decide_eq_true z)))
        | ne => exact lv_if_ne hx hb hd h1 (fun q => kt (decide_eq_true q)) (fun q => kf (fun z => (of_decide_eq_true z) q))
        | lt => exact lv_if_lt hx hb hd h1 (fun q => kt (decide_eq_true q)) (fun q => kf (fun z => q (of_decide_eq_true z)))
        | ge => exact lv_if_ge hx hb hd h1 (fun q => kt (decide_eq_true q)) (fun q => kf (fun z => q (of_decide_eq_true z)))
        | gt => exact lv_if_gt hx hb hd h1 (fun q => kt (decide_eq_true q)) (fun q => kf (fun z => q (of_decide_eq_true z)))
        | le => exact lv_if_le hx hb hd h1 (fun q => kt (decide_eq_true q)) (fun q => kf (fun z => q (of_decide_eq_true z)))
      · cases h
    · cases h
  · rename_i cd off
    split at h
    · rename_i y x r
      split at h
      · rename_i hl
        subst hl
        obtain ⟨t', h1, h2⟩ := pto_map h
        obtain ⟨h3, rfl⟩ := Prod.mk.inj h2
        have kt : pCmp cd x y = true → W p l e R s m args below meth c H locs cells slots Q (F0 m t' ls (r.map (pSh G))) := fun hc => by rw [if_pos hc] at h3; rw [h3]; exact kk
        have kf : ¬ pCmp cd x y = true → W p l e R s m args below meth c H locs cells slots Q (F0 m (pc + 3) ls (r.map (pSh G))) := fun hc => by rw [if_neg hc] at h3; rw [h3]; exact kk
        rw [List.map_cons, List.map_cons, psh_int, psh_int]
        cases cd with
        | eq => exact lv_icmp_eq hx hb hd h1 (fun q => kt (decide_eq_true q)) (fun q => kf (fun z => q (of_decide_eq_true z)))
        | ne => exact lv_icmp_ne hx hb hd h1 (fun q => kt (decide_eq_true q)) (fun q => kf (fun z => (of_decide_eq_true z) q))
        | lt => exact lv_icmp_lt hx hb hd h1 (fun q => kt (decide_eq_true q)) (fun q => kf (fun z => q (of_decide_eq_true z)))
        | ge => exact lv_icmp_ge hx hb hd h1 (fun q => kt (decide_eq_true q)) (fun q => kf (fun z => q (of_decide_eq_true z)))
        | gt => exact lv_icmp_gt hx hb hd h1 (fun q => kt (decide_eq_true q)) (fun q => kf (fun z => q (of_decide_eq_true z)))
        | le => exact lv_icmp_le hx hb hd h1 (fun q => kt (decide_eq_true q)) (fun q => kf (fun z => q (of_decide_eq_true z)))
      · cases h
    · cases h
  · split at h
    · split at h
      · rename_i hc
        obtain ⟨t', h1, h2⟩ := pto_map h
        cases h2
        exact lv_tableOut hx hb hd hc h1 kk
      · rename_i hc
        split at h
        · rename_i o ho
          obtain ⟨t', h1, h2⟩ := pto_map h
          cases h2
          exact lv_tableIn hx hb hd (fun q => hc (Or.inl q)) (fun q => hc (Or.inr q)) ho h1 kk
        · cases h
    · cases h
  · split at h
    · split at h
      · rename_i hs
        obtain ⟨t', h1, h2⟩ := pto_map h
        cases h2
        exact lv_lookup hx hb hd hs rfl h1 kk
      · cases h
    · cases h
  · cases h
/-- what lies outside: the text of the language -/
theorem ps_xtr (hx : p.tables.exec = Jvm.exec) (hb : c.code = cc) {M : pMe} (hown : s.vm.findClass (pR M.1) = some m.cls) (hts : ∀ w ∈ pAll, w.before args s = true) (hK : pKk G s) {L0 L : pHp} (h0 : pH G L0 s.heap) (hH : pH G L H) (hn : L0.length ≤ L.length) (hlo : ∀ q ∈ locs, pB G ≤ q.base)
    {i : Instr} {a k : Nat} {st st' : List Value} (h : pXtr i a st = some (k, st')) (ha : pAux M.1 i a = true) (hd : decode cc pc = .ok (i, k))
    (kk : W p l e R s m args below meth c H locs cells slots Q (F0 m (pc + k) ls (st'.map (pSh G)))) : W p l e R s m args below meth c H locs cells slots Q (F0 m pc ls (st.map (pSh G))) := by
  have hS := ph_S h0 hH hn hlo
  have hq := ph_keep h0
  obtain ⟨h1, h2, h3, h4, h5, h6, h7, h8, h9, h10, h11, h12, h13⟩ := hK
  unfold pXtr at h
  split at h
  · rename_i x
    split at h
    · rename_i he
      subst he
      cases h
      have hc : (M.1 = 10 ∧ x = 19) ∨ (M.1 = 12 ∧ x = 187) := by
        have hz : (pKs[900]?).any (fun q => q.1 == M.1 && q.2.1 == x) = false := rfl
        simp only [pAux, hz, Bool.or_false, beq_self_eq_true, Bool.true_and, Bool.or_eq_true, Bool.and_eq_true, beq_iff_eq] at ha
        exact ha
      rcases hc with ⟨hc, rfl⟩ | ⟨hc, rfl⟩
      · rw [hc] at hown
        exact va_ldcS hx hb hown h6 hd kk
      · rw [hc] at hown
        exact va_ldcS hx hb hown h7 hd kk
    · cases h
  · rename_i x
    have hw : (M.1, x, a) ∈ pQs := by simpa [pAux] using ha
    split at h
    · rename_i he
      subst he
      cases h
      exact va_gets hx hb (h12.kept hq) hS hown (hts _ (pa_q hw)) (fun _ h => h) hd kk
    · split at h
      · rename_i he
        subst he
        cases h
        exact va_gets hx hb (h13.kept hq) hS hown (hts _ (pa_q hw)) (fun _ h => h) hd kk
      · cases h
  · rename_i x
    split at h
    · rename_i u r
      split at h
      · rename_i he
        obtain ⟨rfl, rfl⟩ := he
        cases h
        have hw : (M.1, x, 9000) ∈ pQs := by simpa [pAux] using ha
        exact vk_getf hx hb (h10.kept hq) hS hown (hts _ (pa_q hw)) (fun _ h => h) hd kk
      · split at h
        · rename_i he
          obtain ⟨rfl, rfl⟩ := he
          cases h
          have hw : (M.1, x, 9001) ∈ pQs := by simpa [pAux] using ha
          exact vk_getf hx hb (h9.kept hq) hS hown (hts _ (pa_q hw)) (fun _ h => h) hd kk
        · cases h
    · cases h
  · split at h
    · split at h
      · rename_i he
        subst he
        cases h
        exact va_tlen hx hb (h11.kept hq) hS rfl hd kk
      · cases h
    · cases h
  · split at h
    · rename_i x u r
      split at h
      · rename_i he
        subst he
        unfold pLd pIx at h
        by_cases hin : x < 0 ∨ pLang.length ≤ x.toNatClampNeg
        · rw [if_pos hin] at h
          cases h
        · rw [if_neg hin] at h
          simp only at h
          cases hv : pLang[x.toNatClampNeg]? with
          | none => rw [hv] at h; cases h
          | some v =>
            rw [hv] at h
            cases h
            have hi : pSh G v = v := by
              obtain ⟨z, rfl⟩ := pint_of (List.all_eq_true.mp pLang_ints v (List.mem_of_getElem? hv))
              rfl
            rw [List.map_cons, hi] at kk
            exact va_tb hx hb (h11.kept hq) hS hin (by rw [List.getD_eq_getElem?_getD, hv]; rfl) hd kk
      · cases h
    · cases h
  · cases h
end STP
