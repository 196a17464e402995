section LKT
variable {p : Program} {l : Launch} {e : Env} {R : Room} {s : State} {m : MethodId} {args : Array Value} {below : List Frame} {meth : Method} {c : Code} {H : Heap} {locs : List Loc} {cells slots : Nat} {Q : State → Prop}
variable {mc ms : Nat} {free : Addr → Prop} {A0 A1 : Nat → Prop} {H0 : Heap} {a : Array Value} {ls : Array Slot} {st0 rest : List Value}
variable {Qc : Array Value → State → Outcome → State → Prop} {XC : String → State → State → Prop}
theorem lk_throwS {cc : ByteArray} {pc : Nat} (hexec : p.tables.exec = Jvm.exec) (hb : c.code = cc) (hl : l.stackTraces = false) {own cls text : String} {names : List String} {ik is ic mc ms sa : Nat} {A : Nat → Prop}
    (hown : s.vm.findClass own = some m.cls) (hcls : Bundle.fit cls = true) (hnames : ∀ n ∈ names, Bundle.fit n = true)
    (hk : (Cond.classLink own ik cls).before args s = true) (hini : (Cond.initialized cls).before args s = true) (hstr : vk_R own is text sa s) (hat : ∀ w ∈ vx_atS own ic cls names, w.before args s = true)
    (hgood : ∀ w ∈ Cond.classLink own ik cls :: Cond.initialized cls :: vx_atS own ic cls names, vx_ot w = true)
    (hU : vx_Zq Bundle.tN "UNASSIGNED_STACK" Bundle.steD A s s.heap) (hN : vx_Zq Bundle.tN "SUPPRESSED_SENTINEL" Bundle.listD A s s.heap) (hS : va_S A s.heap H locs) (hsize : ls.size = c.maxLocals)
    (d0 : decode cc pc = .ok (.new ik, 3)) (d3 : decode cc (pc + 3) = .ok (.dup, 1)) (d4 : decode cc (pc + 4) = .ok (.ldc is, 2)) (d6 : decode cc (pc + 6) = .ok (.invokespecial ic, 3)) (d9 : decode cc (pc + 9) = .ok (.athrow, 1))
    (hout : ∀ x ∈ c.exceptionTable.toList, covers x (pc + 9) = false)
    (hRframes : names.length + 3 < R.frames) (hRlocals : (rest.map fun v => v.category).sum + (13 * (names.length + 1) + 43) ≤ R.locals) (hRcells : cells + 1 ≤ R.cells) (hRslots : slots + 6 ≤ R.slots) (hlocks : meth.locks = false)
    (hx : ∀ t : State, s.vm.Alike t.vm → t.heap.size = H.size + 1 → (∀ q : Nat, q < H.size → t.heap[q]? = H[q]?) → XC cls s t)
    (hf : ∀ z ∈ locs, free z.base) (hc : cells + 1 ≤ mc) (hs : slots + 6 ≤ ms) :
    W p l e R s m args below meth c H locs cells slots (vx_MQ below Qc XC args s mc ms free) (F0 m pc ls rest) := by
  intro T hT X
  have htr : e.platform.stackTraces = false := (show e.platform.stackTraces = l.stackTraces by rw [X.admits.platform]).trans hl
  have Y := vx_rebase X (R' := { frames := R.frames, locals := R.locals, cells := 1, slots := 6 }) (Nat.le_refl _) (Nat.le_refl _) hRcells hRslots
  obtain ⟨s', hA⟩ : ∃ z, z = (T.setVm s.vm).setFrames (.invoking m args :: below) := ⟨_, rfl⟩
  rw [← hA] at Y
  have hvm : s'.vm = s.vm := by rw [hA]; rfl
  have hhp : s'.heap = H := by rw [hA]; exact hT
  have hW0 : s.WarmedH s'.vm := by rw [hvm]; exact State.WarmedH.refl s
  have hat' : ∀ w ∈ vx_atS own ic cls names, w.before args s' = true := fun w hw => vx_ot_at hW0 hvm.symm (hgood w (List.mem_cons_of_mem _ (List.mem_cons_of_mem _ hw))) (hat w hw)
  have hk' : (Cond.classLink own ik cls).before args s' = true := vx_ot_at hW0 hvm.symm (hgood _ List.mem_cons_self) hk
  have hini' : (Cond.initialized cls).before args s' = true := vx_ot_at hW0 hvm.symm (hgood _ (List.mem_cons_of_mem _ List.mem_cons_self)) hini
  have hU' : vx_Zq Bundle.tN "UNASSIGNED_STACK" Bundle.steD A s' s'.heap := by rw [hhp]; exact vx_Zq.moved hW0.alike (hU.kept hS.2.1)
  have hN' : vx_Zq Bundle.tN "SUPPRESSED_SENTINEL" Bundle.listD A s' s'.heap := by rw [hhp]; exact vx_Zq.moved hW0.alike (hN.kept hS.2.1)
  have h : ∀ w ∈ Bundle.ownAtoms own ic cls names, w.before args s' = true := vx_own hat' (vx_isRefq hU'.1) (vx_isRefq hN'.1) hU'.2.word hN'.2.word
  have hown' : s'.vm.findClass own = some m.cls := by rw [hvm]; exact hown
  have hins : (Cond.instantiable cls 6).before args s' = true := h _ (by simp [Bundle.ownAtoms])
  obtain ⟨vm₁, cX, kX, hfX, hkX, -, -, X₁, st1⟩ := Y.newCold hexec (own := own) (C := cls) (index := ik) (n := 6) hown' hk' hins hini'
    (g := F0 m pc ls rest) rfl (by rw [hb]; exact d0) (Nat.le_refl _) (Nat.le_refl _)
  generalize hT1 : (T.setVm vm₁).pushCell { cls := cX, slots := kX.instanceTypes.map defaultValue, vm := .none } = T1 at X₁ st1
  have hcat : (Value.ref T.heap.size).category = 1 := rfl
  have hcellA : T1.heap[T.heap.size]? = some (freshCell cX kX) := by rw [← hT1]; exact State.heap_pushCell_size _ _
  have d3' : decode c.code (pc + 3) = .ok (.dup, 1) := by rw [hb]; exact d3
  have d4' : decode c.code (pc + 4) = .ok (.ldc is, 2) := by rw [hb]; exact d4
  have hstr' : vk_R own is text sa s' := vk_R.warm hW0 hstr
  obtain ⟨U, hsteps, hrun, hend, hW, hsame, ce, hce, hO⟩ := X₁.ctorThrowS hexec htr (own := own) (cls := cls) (names := names) (ic := ic) hown' hcls hnames h (fun x hx => nomatch hx) hfX hkX hcellA (by rw [hhp, hT]; exact Nat.le_refl _) (msg := .ref sa) rfl
    (g := { method := m, pc := pc + 6, locals := ls, stack := .ref sa :: .ref T.heap.size :: .ref T.heap.size :: rest, locked := none }) rfl hsize rfl rfl (rest := rest) rfl
    (by rw [hb]; exact d6) (by rw [hb]; exact d9) hout hRframes (by simp only [List.map_cons, List.sum_cons, hcat]; omega) hlocks
  obtain ⟨-, f2⟩ := vx_frame hsame
  rw [hhp] at f2
  have f1 : U.heap.size = H.size + 1 := by
    have a1 : U.heap.size ≤ s'.heap.size + (0 + 1) := hsame.2.2.1
    have a2 := (Array.getElem?_eq_some_iff.mp hce).1
    rw [hhp] at a1
    rw [hT] at a2
    omega
  have hWs : s.WarmedH U.vm := State.WarmedH.trans hW0 hW
  have hcl : s.vm.findClass cls = some ce.cls := by
    have h9 := hO.cls
    rw [hvm] at h9
    exact h9
  have hall : s.sameButNew ({ U with vm := s.vm } : State) locs mc ms := by
    subst hA
    obtain ⟨e1, e2⟩ := hsame
    rw [State.setFrames_setFrames] at e1
    have h2 : (T.setVm s.vm).sameButNew ({ U with vm := s.vm } : State) [] (0 + 1) (0 + 6) := ⟨e1, e2⟩
    have h3 := X.same.trans h2
    rw [List.append_nil] at h3
    exact h3.mono hc hs
  refine ⟨U, ?_, .threw T.heap.size, hrun, hend, Or.inr ⟨T.heap.size, rfl, cls, ce, locs, hx U hWs.alike f1 (fun q hq => f2 q hq (fun z hz => nomatch hz)), hce, hO.vm, hcl, hWs, hall, hf⟩⟩
  refine st1 _ ?_
  show Steps p.tables e below (T1.setTop { method := m, pc := pc + 3, locals := ls, stack := .ref T.heap.size :: rest, locked := none }) _
  jvm_step X₁.here [X₁.here.top, hexec, d3', Value.category]
  exact X₁.ldcString hexec (own := own) (text := text) (index := is) (a := sa) hown' hstr'.1 hstr'.2
    (g := { method := m, pc := pc + 4, locals := ls, stack := .ref T.heap.size :: .ref T.heap.size :: rest, locked := none }) rfl d4' _ hsteps
theorem lk_throwN {cc : ByteArray} {pc : Nat} (hexec : p.tables.exec = Jvm.exec) (hb : c.code = cc) (hl : l.stackTraces = false) {own cls Y1 text : String} {names : List String} {ik is ic mc ms sa : Nat} {A : Nat → Prop}
    (hown : s.vm.findClass own = some m.cls) (hcls : Bundle.fit cls = true) (hY1 : Bundle.fit Y1 = true) (hnames : ∀ n ∈ names, Bundle.fit n = true)
    (hk : (Cond.classLink own ik cls).before args s = true) (hini : (Cond.initialized cls).before args s = true) (hstr : vk_R own is text sa s) (hat : ∀ w ∈ lkn_at own ic cls Y1 names, w.before args s = true)
    (hgood : ∀ w ∈ Cond.classLink own ik cls :: Cond.initialized cls :: lkn_at own ic cls Y1 names, vx_ot w = true)
    (hU : vx_Zq Bundle.tN "UNASSIGNED_STACK" Bundle.steD A s s.heap) (hN : vx_Zq Bundle.tN "SUPPRESSED_SENTINEL" Bundle.listD A s s.heap) (hS : va_S A s.heap H locs) (hsize : ls.size = c.maxLocals)
    (d0 : decode cc pc = .ok (.new ik, 3)) (d3 : decode cc (pc + 3) = .ok (.dup, 1)) (d4 : decode cc (pc + 4) = .ok (.ldc is, 2)) (d6 : decode cc (pc + 6) = .ok (.invokespecial ic, 3)) (d9 : decode cc (pc + 9) = .ok (.athrow, 1))
    (hout : ∀ x ∈ c.exceptionTable.toList, covers x (pc + 9) = false)
    (hRframes : names.length + 4 < R.frames) (hRlocals : (rest.map fun v => v.category).sum + (13 * (names.length + 2) + 43) ≤ R.locals) (hRcells : cells + 1 ≤ R.cells) (hRslots : slots + 6 ≤ R.slots) (hlocks : meth.locks = false)
    (hx : ∀ t : State, s.vm.Alike t.vm → t.heap.size = H.size + 1 → (∀ q : Nat, q < H.size → t.heap[q]? = H[q]?) → XC cls s t)
    (hf : ∀ z ∈ locs, free z.base) (hc : cells + 1 ≤ mc) (hs : slots + 6 ≤ ms) :
    W p l e R s m args below meth c H locs cells slots (vx_MQ below Qc XC args s mc ms free) (F0 m pc ls rest) := by
  intro T hT X
  have htr : e.platform.stackTraces = false := (show e.platform.stackTraces = l.stackTraces by rw [X.admits.platform]).trans hl
  have Y := vx_rebase X (R' := { frames := R.frames, locals := R.locals, cells := 1, slots := 6 }) (Nat.le_refl _) (Nat.le_refl _) hRcells hRslots
  obtain ⟨s', hA⟩ : ∃ z, z = (T.setVm s.vm).setFrames (.invoking m args :: below) := ⟨_, rfl⟩
  rw [← hA] at Y
  have hvm : s'.vm = s.vm := by rw [hA]; rfl
  have hhp : s'.heap = H := by rw [hA]; exact hT
  have hW0 : s.WarmedH s'.vm := by rw [hvm]; exact State.WarmedH.refl s
  have hat' : ∀ w ∈ lkn_at own ic cls Y1 names, w.before args s' = true := fun w hw => vx_ot_at hW0 hvm.symm (hgood w (List.mem_cons_of_mem _ (List.mem_cons_of_mem _ hw))) (hat w hw)
  have hk' : (Cond.classLink own ik cls).before args s' = true := vx_ot_at hW0 hvm.symm (hgood _ List.mem_cons_self) hk
  have hini' : (Cond.initialized cls).before args s' = true := vx_ot_at hW0 hvm.symm (hgood _ (List.mem_cons_of_mem _ List.mem_cons_self)) hini
  have hU' : vx_Zq Bundle.tN "UNASSIGNED_STACK" Bundle.steD A s' s'.heap := by rw [hhp]; exact vx_Zq.moved hW0.alike (hU.kept hS.2.1)
  have hN' : vx_Zq Bundle.tN "SUPPRESSED_SENTINEL" Bundle.listD A s' s'.heap := by rw [hhp]; exact vx_Zq.moved hW0.alike (hN.kept hS.2.1)
  have h : ∀ w ∈ lkn_own own ic cls Y1 names, w.before args s' = true := vx_own hat' (vx_isRefq hU'.1) (vx_isRefq hN'.1) hU'.2.word hN'.2.word
  have hown' : s'.vm.findClass own = some m.cls := by rw [hvm]; exact hown
  have hins : (Cond.instantiable cls 6).before args s' = true := h _ (by simp [lkn_own, lkn_tl])
  obtain ⟨vm₁, cX, kX, hfX, hkX, -, -, X₁, st1⟩ := Y.newCold hexec (own := own) (C := cls) (index := ik) (n := 6) hown' hk' hins hini'
    (g := F0 m pc ls rest) rfl (by rw [hb]; exact d0) (Nat.le_refl _) (Nat.le_refl _)
  generalize hT1 : (T.setVm vm₁).pushCell { cls := cX, slots := kX.instanceTypes.map defaultValue, vm := .none } = T1 at X₁ st1
  have hcat : (Value.ref T.heap.size).category = 1 := rfl
  have hcellA : T1.heap[T.heap.size]? = some (freshCell cX kX) := by rw [← hT1]; exact State.heap_pushCell_size _ _
  have d3' : decode c.code (pc + 3) = .ok (.dup, 1) := by rw [hb]; exact d3
  have d4' : decode c.code (pc + 4) = .ok (.ldc is, 2) := by rw [hb]; exact d4
  have hstr' : vk_R own is text sa s' := vk_R.warm hW0 hstr
  obtain ⟨U, hsteps, hrun, hend, hW, hsame, ce, hce, hOv, hOc⟩ := lkn_ctor X₁ hexec htr (own := own) (cls := cls) (Y1 := Y1) (names := names) (ic := ic) hown' hcls hY1 hnames h rfl hfX hkX hcellA (by rw [hhp, hT]; exact Nat.le_refl _) (msg := .ref sa) rfl
    (g := { method := m, pc := pc + 6, locals := ls, stack := .ref sa :: .ref T.heap.size :: .ref T.heap.size :: rest, locked := none }) rfl hsize rfl rfl (rest := rest) rfl
    (by rw [hb]; exact d6) (by rw [hb]; exact d9) hout hRframes (by simp only [List.map_cons, List.sum_cons, hcat]; omega) hlocks
  obtain ⟨-, f2⟩ := vx_frame hsame
  rw [hhp] at f2
  have f1 : U.heap.size = H.size + 1 := by
    have a1 : U.heap.size ≤ s'.heap.size + (0 + 1) := hsame.2.2.1
    have a2 := (Array.getElem?_eq_some_iff.mp hce).1
    rw [hhp] at a1
    rw [hT] at a2
    omega
  have hWs : s.WarmedH U.vm := State.WarmedH.trans hW0 hW
  have hcl : s.vm.findClass cls = some ce.cls := by
    have h9 := hOc
    rw [hvm] at h9
    exact h9
  have hall : s.sameButNew ({ U with vm := s.vm } : State) locs mc ms := by
    subst hA
    obtain ⟨e1, e2⟩ := hsame
    rw [State.setFrames_setFrames] at e1
    have h2 : (T.setVm s.vm).sameButNew ({ U with vm := s.vm } : State) [] (0 + 1) (0 + 6) := ⟨e1, e2⟩
    have h3 := X.same.trans h2
    rw [List.append_nil] at h3
    exact h3.mono hc hs
  refine ⟨U, ?_, .threw T.heap.size, hrun, hend, Or.inr ⟨T.heap.size, rfl, cls, ce, locs, hx U hWs.alike f1 (fun q hq => f2 q hq (fun z hz => nomatch hz)), hce, hOv, hcl, hWs, hall, hf⟩⟩
  refine st1 _ ?_
  show Steps p.tables e below (T1.setTop { method := m, pc := pc + 3, locals := ls, stack := .ref T.heap.size :: rest, locked := none }) _
  jvm_step X₁.here [X₁.here.top, hexec, d3', Value.category]
  exact X₁.ldcString hexec (own := own) (text := text) (index := is) (a := sa) hown' hstr'.1 hstr'.2
    (g := { method := m, pc := pc + 4, locals := ls, stack := .ref T.heap.size :: .ref T.heap.size :: rest, locked := none }) rfl d4' _ hsteps
end LKT
theorem dX11_look_0 : decode cX11_look 0 = .ok (.aload_n 0, 1) := by decide +kernel
theorem dX11_look_1 : decode cX11_look 1 = .ok (.iload_n 1, 1) := by decide +kernel
theorem dX11_look_2 : decode cX11_look 2 = .ok (.invokevirtual 137, 3) := by decide +kernel
theorem dX11_look_5 : decode cX11_look 5 = .ok (.ifCond .ne 13, 3) := by decide +kernel
theorem dX11_look_8 : decode cX11_look 8 = .ok (.new 141, 3) := by decide +kernel
theorem dX11_look_11 : decode cX11_look 11 = .ok (.dup, 1) := by decide +kernel
theorem dX11_look_12 : decode cX11_look 12 = .ok (.ldc 143, 2) := by decide +kernel
theorem dX11_look_14 : decode cX11_look 14 = .ok (.invokespecial 145, 3) := by decide +kernel
theorem dX11_look_17 : decode cX11_look 17 = .ok (.athrow, 1) := by decide +kernel
theorem dX11_look_115 : decode cX11_look 115 = .ok (.new 172, 3) := by decide +kernel
theorem dX11_look_118 : decode cX11_look 118 = .ok (.dup, 1) := by decide +kernel
theorem dX11_look_119 : decode cX11_look 119 = .ok (.ldc 174, 2) := by decide +kernel
theorem dX11_look_121 : decode cX11_look 121 = .ok (.invokespecial 176, 3) := by decide +kernel
theorem dX11_look_124 : decode cX11_look 124 = .ok (.athrow, 1) := by decide +kernel
theorem dL_look_0 : decode cL_look 0 = .ok (.aload_n 3, 1) := by decide +kernel
theorem dL_look_1 : decode cL_look 1 = .ok (.iconst 0, 1) := by decide +kernel
theorem dL_look_2 : decode cL_look 2 = .ok (.aload_n 0, 1) := by decide +kernel
theorem dL_look_3 : decode cL_look 3 = .ok (.iload_n 1, 1) := by decide +kernel
theorem dL_look_4 : decode cL_look 4 = .ok (.iload_n 2, 1) := by decide +kernel
theorem dL_look_5 : decode cL_look 5 = .ok (.invokevirtual 7, 3) := by decide +kernel
theorem dL_look_8 : decode cL_look 8 = .ok (.i2l, 1) := by decide +kernel
theorem dL_look_9 : decode cL_look 9 = .ok (.lastore, 1) := by decide +kernel
theorem dL_look_10 : decode cL_look 10 = .ok (.goto 11, 3) := by decide +kernel
theorem dL_look_13 : decode cL_look 13 = .ok (.astore 4, 2) := by decide +kernel
theorem dL_look_15 : decode cL_look 15 = .ok (.iconst 1, 1) := by decide +kernel
theorem dL_look_16 : decode cL_look 16 = .ok (.ireturn, 1) := by decide +kernel
theorem dL_look_17 : decode cL_look 17 = .ok (.astore 4, 2) := by decide +kernel
theorem dL_look_19 : decode cL_look 19 = .ok (.iconst 2, 1) := by decide +kernel
theorem dL_look_20 : decode cL_look 20 = .ok (.ireturn, 1) := by decide +kernel
theorem dL_look_21 : decode cL_look 21 = .ok (.iconst 0, 1) := by decide +kernel
theorem dL_look_22 : decode cL_look 22 = .ok (.ireturn, 1) := by decide +kernel
/-- what the throws need beside the words that go along -/
def lk_X (G : pG) (sa sb : Nat) (U : State) : Prop := (∀ w ∈ lkB, va_Nw w U) ∧ vk_R RX11 143 "no such bend" sa U ∧ vk_R RX11 174 "no such what" sb U ∧ va_Nc "java/util/NoSuchElementException" "java/lang/IndexOutOfBoundsException" U ∧ vx_Zq Bundle.tN "UNASSIGNED_STACK" Bundle.steD (pA G) U G.2.2.2.2 ∧ vx_Zq Bundle.tN "SUPPRESSED_SENTINEL" Bundle.listD (pA G) U G.2.2.2.2
theorem lkB_ot : ∀ w ∈ lkB, w.onTables = true := by decide +kernel
theorem lk_X.warm {G : pG} {sa sb : Nat} {s U : State} (hW : s.WarmedH U.vm) (h : lk_X G sa sb s) : lk_X G sa sb U := by
  obtain ⟨h1, h2, h5, h6, h3, h4⟩ := h
  refine ⟨?_, vk_R.warm hW h2, vk_R.warm hW h5, va_Nc.moved hW.alike h6, vx_Zq.moved hW.alike h3, vx_Zq.moved hW.alike h4⟩
  exact List.forall_mem_cons.mpr ⟨va_Nw.warmD hW (h1 _ (List.mem_of_getElem? (i := 0) rfl)), List.forall_mem_cons.mpr ⟨va_Nw.warmD hW (h1 _ (List.mem_of_getElem? (i := 1) rfl)), List.forall_mem_cons.mpr ⟨va_Nw.warmD hW (h1 _ (List.mem_of_getElem? (i := 2) rfl)), List.forall_mem_cons.mpr ⟨va_Nw.warmC hW (h1 _ (List.mem_of_getElem? (i := 3) rfl)), List.forall_mem_cons.mpr ⟨va_Nw.warmC hW (h1 _ (List.mem_of_getElem? (i := 4) rfl)), fun _ h => absurd h List.not_mem_nil⟩⟩⟩⟩⟩
theorem lk_X.same {G : pG} {sa sb : Nat} {u U : State} (hv : u.vm = U.vm) (h : lk_X G sa sb u) : lk_X G sa sb U := by
  have ha : u.vm.Alike U.vm := hv ▸ Vm.Alike.refl u.vm
  obtain ⟨h1, h2, h5, h6, h3, h4⟩ := h
  exact ⟨fun w hw => va_Nw.same (lkB_ot w hw) hv (h1 w hw), vk_R.same hv.symm h2, vk_R.same hv.symm h5, va_Nc.moved ha h6, vx_Zq.moved ha h3, vx_Zq.moved ha h4⟩
def lk_Pc (G : pG) (sa sb : Nat) (as : List Value) (L : pHp) : Array Value → State → Prop := fun a U => a = as.toArray ∧ pH G L U.heap ∧ pKk G U ∧ lk_X G sa sb U
theorem lk_blind {G : pG} {sa sb : Nat} {as : List Value} {L : pHp} : FrameBlind (lk_Pc G sa sb as L) := fun _ U g mk h => ⟨h.1, h.2.1, pKk.same (u := U) rfl h.2.2.1, lk_X.same (u := U) rfl h.2.2.2⟩
def lk_XC (E0 : String) (G : pG) (L : pHp) : String → State → State → Prop := fun E _ t => E = E0 ∧ pH G (L ++ [(19, [])]) t.heap
def lk_Ws : List Cond := Cond.code yX11_look cX11_look 4 (some .int) :: (pAll ++ lkA)
theorem lk_mt : pMt 165 = (11, yX11_look, cX11_look, 4, some .int, 2) := rfl
theorem lk_165 : 165 < pMs.length := by decide +kernel
theorem lk_77 : 77 < pMs.length := by decide +kernel
theorem lk_good : GoodIn lw_tbl lk_Ws := by
  intro w hw
  rcases List.mem_cons.mp hw with rfl | hw
  · have h9 := lw_good lk_165 (pWm (pMt 165)) List.mem_cons_self
    rw [lk_mt] at h9
    exact h9
  · rcases List.mem_append.mp hw with h | h
    · exact pAll_good _ h
    · exact lkA_good _ h
def lk_arg (x0 : Int32) (L : pHp) : Prop := pArg (2, .invokevirtual 137, 3, 77) [.int x0, .ref 0] L = some (77, [.ref 0, .int x0], [])
set_option maxRecDepth 100000 in
set_option maxHeartbeats 4000000 in
theorem lk_i {l : Launch} (hl : l.stackTraces = false) (G : pG) (hTab : ∀ K, K < pMs.length → ∀ en ∈ pTs.getD K [], pOkE (pMt K).1 (pMt K).2.2.1 en = true) (sa sb : Nat) (x0 x1 : Int32) {L : pHp} (hib : pEx 299 77 [.ref 0, .int x0] L (some (.int 0)) L) (harg : lk_arg x0 L) :
    vx_Met l yX11_look lk_Ws (pRm 300 1 6) (lk_Pc G sa sb [.ref (pB G + 0), .int x0, .int x1] L) (fun _ _ _ _ => False) (lk_XC "java/lang/IndexOutOfBoundsException" G L) 1 6 (pA G) := by
  refine vx_ofW (cc := cX11_look) (maxL := 4) (ret := some .int) (by decide +kernel) rfl ?_
  intro p e s m args below meth c s₁ B hml hout hP
  obtain ⟨rfl, hH, hK, hX⟩ := hP
  obtain ⟨y1, y2, y5, y6, y3, y4⟩ := id hX
  have hts : ∀ w ∈ lk_Ws, w.before _ s = true := atoms_spec (ws := lk_Ws) B.pre
  have hown : s.vm.findClass RX11 = some m.cls := findClass_of_methodNamed B.named
  have hl0 := lv_entry [Value.ref (pB G + 0), .int x0, .int x1] (n := 4) (Nat.le_of_ble_eq_true rfl)
  rw [lg_entry_eq]
  obtain ⟨ls, hls⟩ : ∃ z, z = (lg_sl [Value.ref (pB G + 0), .int x0, .int x1] ++ List.replicate (4 - (lg_sl [Value.ref (pB G + 0), .int x0, .int x1]).length) Slot.unset).toArray := ⟨_, rfl⟩
  rw [← hls] at hl0 ⊢
  have hl1 : lv_has ls 4 [(0, .ref (pB G + 0)), (1, .int x0), (2, .int x1)] := hl0
  have hl2 : lv_has ls (pMt 165).2.2.2.1 (pLm G [(0, .ref 0), (1, .int x0), (2, .int x1)]) := hl1
  have F : pFx G (pMt 165) p (headSpec lk_Ws (pRm 300 1 6)).room s m [Value.ref (pB G + 0), .int x0, .int x1].toArray meth c L := by
    rw [lk_mt]
    refine ⟨B.exec, B.bytes, hml, hown, fun h => absurd h (by decide +kernel), fun w hw => ?_, hK, hH, B.notSynchronized, B.returns, Nat.le_of_ble_eq_true rfl, Nat.le_of_ble_eq_true rfl⟩
    rcases List.mem_cons.mp hw with rfl | h
    · exact hts _ List.mem_cons_self
    · exact hts _ (List.mem_cons_of_mem _ (List.mem_append_left _ h))
  refine lv_aload_n B.exec B.bytes dX11_look_0 rfl (lv_at hl1 0 rfl) ?_
  refine lv_iload_n B.exec B.bytes dX11_look_1 rfl (lv_at hl1 1 rfl) ?_
  refine ps_arg (l := l) F (en := (2, .invokevirtual 137, 3, 77)) (hTab 165 lk_165 _ (List.mem_of_getElem? (i := 2) rfl)) (Nat.le_of_ble_eq_true rfl) (lv := [(0, .ref 0), (1, .int x0), (2, .int x1)]) (st := [.int x0, .ref 0]) harg (pSound l G hTab 299 77 _ L _ L hib lk_77) (Nat.le_refl _) (Nat.le_refl _) hH (fun q hq => nomatch hq) hl2 (by rw [Nat.sub_self]; exact Nat.zero_le _) (by rw [Nat.sub_self]; exact Nat.zero_le _) fun H1 locs1 h1 l1 => ?_
  rw [Nat.sub_self, Nat.sub_self]
  show W p l e _ s m _ below meth c H1 locs1 0 0 _ (F0 m 5 ls [.int 0])
  refine lv_if_ne B.exec B.bytes dX11_look_5 (tgt := 18) rfl (fun h => absurd rfl h) (fun _ => ?_)
  have hat : ∀ w ∈ vx_atS RX11 145 "java/lang/IndexOutOfBoundsException" ["java/lang/RuntimeException", "java/lang/Exception"], w.before [Value.ref (pB G + 0), .int x0, .int x1].toArray s = true :=
    fun w hw => (List.mem_append.mp (lk_subi w hw)).elim (fun h => hts w (List.mem_cons_of_mem _ (List.mem_append_right _ h))) (fun h => va_Nw.use (lkB_ot w h) (y1 w h))
  exact lk_throwS (A := pA G) (own := RX11) (cls := "java/lang/IndexOutOfBoundsException") (text := "no such bend") (names := ["java/lang/RuntimeException", "java/lang/Exception"]) B.exec B.bytes hl hown (by decide +kernel) (by decide +kernel)
    (hts _ (List.mem_cons_of_mem _ (List.mem_append_right _ (List.mem_of_getElem? (i := 2) rfl)))) (hts _ (List.mem_cons_of_mem _ (List.mem_append_right _ (List.mem_of_getElem? (i := 1) rfl)))) y2 hat lk_oti
    (vx_Zq.kept y3 (ph_keep hH)) (vx_Zq.kept y4 (ph_keep hH)) (ph_S hH h1 (Nat.le_refl _) l1) (hl1.1.trans hml.symm) dX11_look_8 dX11_look_11 dX11_look_12 dX11_look_14 dX11_look_17 (fun x hx => (hout x hx).elim)
    (Nat.le_of_ble_eq_true rfl) (Nat.le_of_ble_eq_true rfl) (Nat.le_of_ble_eq_true rfl) (Nat.le_of_ble_eq_true rfl) B.notSynchronized (fun t _ hz hq => ⟨rfl, ph_push h1 (Or.inr (Or.inr rfl)) hz hq⟩) l1 (Nat.le_of_ble_eq_true rfl) (Nat.le_of_ble_eq_true rfl)
set_option maxRecDepth 100000 in
set_option maxHeartbeats 4000000 in
theorem lk_n {l : Launch} (hl : l.stackTraces = false) (G : pG) (hTab : ∀ K, K < pMs.length → ∀ en ∈ pTs.getD K [], pOkE (pMt K).1 (pMt K).2.2.1 en = true) (sa sb : Nat) (x0 x1 : Int32) {L : pHp} (hib : pEx 299 77 [.ref 0, .int x0] L (some (.int 1)) L) (harg : lk_arg x0 L) {o1 o2 o3 : Nat}
    (g1 : pMem false (pMt 165).1 ((pMt 165).2.1.name == "<init>") (.getfield 22) 1105 [.ref 0] L = some (3, [.ref o1], L)) (g2 : pMem false (pMt 165).1 ((pMt 165).2.1.name == "<init>") (.getfield 148) 800 [.ref o1] L = some (3, [.ref o2], L)) (g3 : pMem false (pMt 165).1 ((pMt 165).2.1.name == "<init>") .aaload 0 [.int x0, .ref o2] L = some (1, [.ref o3], L)) (hx1 : x1.toInt < 0 ∨ 5 < x1.toInt) :
    vx_Met l yX11_look lk_Ws (pRm 300 1 6) (lk_Pc G sa sb [.ref (pB G + 0), .int x0, .int x1] L) (fun _ _ _ _ => False) (lk_XC "java/util/NoSuchElementException" G L) 1 6 (pA G) := by
  refine vx_ofW (cc := cX11_look) (maxL := 4) (ret := some .int) (by decide +kernel) rfl ?_
  intro p e s m args below meth c s₁ B hml hout hP
  obtain ⟨rfl, hH, hK, hX⟩ := hP
  obtain ⟨y1, y2, y5, y6, y3, y4⟩ := id hX
  have hts : ∀ w ∈ lk_Ws, w.before _ s = true := atoms_spec (ws := lk_Ws) B.pre
  have hown : s.vm.findClass RX11 = some m.cls := findClass_of_methodNamed B.named
  have hl0 := lv_entry [Value.ref (pB G + 0), .int x0, .int x1] (n := 4) (Nat.le_of_ble_eq_true rfl)
  rw [lg_entry_eq]
  obtain ⟨ls, hls⟩ : ∃ z, z = (lg_sl [Value.ref (pB G + 0), .int x0, .int x1] ++ List.replicate (4 - (lg_sl [Value.ref (pB G + 0), .int x0, .int x1]).length) Slot.unset).toArray := ⟨_, rfl⟩
  rw [← hls] at hl0 ⊢
  have hl1 : lv_has ls 4 [(0, .ref (pB G + 0)), (1, .int x0), (2, .int x1)] := hl0
  have hl2 : lv_has ls (pMt 165).2.2.2.1 (pLm G [(0, .ref 0), (1, .int x0), (2, .int x1)]) := hl1
  have F : pFx G (pMt 165) p (headSpec lk_Ws (pRm 300 1 6)).room s m [Value.ref (pB G + 0), .int x0, .int x1].toArray meth c L := by
    rw [lk_mt]
    refine ⟨B.exec, B.bytes, hml, hown, fun h => absurd h (by decide +kernel), fun w hw => ?_, hK, hH, B.notSynchronized, B.returns, Nat.le_of_ble_eq_true rfl, Nat.le_of_ble_eq_true rfl⟩
    rcases List.mem_cons.mp hw with rfl | h
    · exact hts _ List.mem_cons_self
    · exact hts _ (List.mem_cons_of_mem _ (List.mem_append_left _ h))
  have z0 : 0 = L.length - L.length := (Nat.sub_self _).symm
  have z1 : 0 = pSz L - pSz L := (Nat.sub_self _).symm
  have r0 : L.length - L.length ≤ (headSpec lk_Ws (pRm 300 1 6)).room.cells := by rw [Nat.sub_self]; exact Nat.zero_le _
  have r1 : pSz L - pSz L ≤ (headSpec lk_Ws (pRm 300 1 6)).room.slots := by rw [Nat.sub_self]; exact Nat.zero_le _
  have st : ∀ {en : pEn} {lv : pLv} {s0 : List Value} {t : Nat × pLv × List Value} {H : Heap} {locs : List Loc} {ls : Array Slot} {Q : State → Prop}, en ∈ pTs.getD 165 [] → en.2.2.2 < 99999 → pStp (pMt 165) en lv s0 L (t.1, t.2.1, t.2.2, L) → pH G L H → (∀ q ∈ locs, pB G ≤ q.base) → lv_has ls (pMt 165).2.2.2.1 (pLm G lv) →
      (∀ H' locs' ls', pH G L H' → (∀ q ∈ locs', pB G ≤ q.base) → lv_has ls' (pMt 165).2.2.2.1 (pLm G t.2.1) → W p l e (headSpec lk_Ws (pRm 300 1 6)).room s m [Value.ref (pB G + 0), .int x0, .int x1].toArray below meth c H' locs' 0 0 Q (F0 m t.1 ls' (t.2.2.map (pSh G)))) →
      W p l e (headSpec lk_Ws (pRm 300 1 6)).room s m [Value.ref (pB G + 0), .int x0, .int x1].toArray below meth c H locs 0 0 Q (F0 m en.1 ls (s0.map (pSh G))) := by
    intro en lv s0 t H locs ls Q h1 h2 h3 h4 h5 h6 kk
    refine ps_step (l := l) F (hTab 165 lk_165 _ h1) h2 h3 h4 h5 h6 (Nat.le_refl _) (Nat.le_refl _) z0 z1 r0 r1 fun H' locs' c' s' ls' a1 a2 a3 a4 a5 => ?_
    rw [a4, a5, Nat.sub_self, Nat.sub_self]
    exact kk H' locs' ls' a1 a2 a3
  refine lv_aload_n B.exec B.bytes dX11_look_0 rfl (lv_at hl1 0 rfl) ?_
  refine lv_iload_n B.exec B.bytes dX11_look_1 rfl (lv_at hl1 1 rfl) ?_
  refine ps_arg (l := l) F (en := (2, .invokevirtual 137, 3, 77)) (hTab 165 lk_165 _ (List.mem_of_getElem? (i := 2) rfl)) (Nat.le_of_ble_eq_true rfl) (lv := [(0, .ref 0), (1, .int x0), (2, .int x1)]) (st := [.int x0, .ref 0]) harg (pSound l G hTab 299 77 _ L _ L hib lk_77) (Nat.le_refl _) (Nat.le_refl _) hH (fun q hq => nomatch hq) hl2 (by rw [Nat.sub_self]; exact Nat.zero_le _) (by rw [Nat.sub_self]; exact Nat.zero_le _) fun H1 locs1 h1 l1 => ?_
  rw [Nat.sub_self, Nat.sub_self]
  show W p l e _ s m _ below meth c H1 locs1 0 0 _ (F0 m 5 ls [.int 1])
  refine lv_if_ne B.exec B.bytes dX11_look_5 (tgt := 18) rfl (fun _ => ?_) (fun h => absurd h (by decide))
  refine st (en := (18, .aload_n 0, 1, 0)) (lv := [(0, .ref 0), (1, .int x0), (2, .int x1)]) (s0 := []) (t := (19, _, [.ref 0])) (List.mem_of_getElem? (i := 9) rfl) (by decide) (Or.inr (Or.inl ⟨_, _, rfl, rfl⟩)) h1 l1 hl2 fun H2 locs2 ls2 h2 l2 k2 => ?_
  refine st (en := (19, .getfield 22, 3, 1105)) (s0 := [.ref 0]) (t := (22, _, [.ref o1])) (List.mem_of_getElem? (i := 10) rfl) (by decide) (Or.inr (Or.inr (Or.inr (Or.inr ⟨_, _, g1, rfl⟩)))) h2 l2 k2 fun H3 locs3 ls3 h3 l3 k3 => ?_
  refine st (en := (22, .getfield 148, 3, 800)) (s0 := [.ref o1]) (t := (25, _, [.ref o2])) (List.mem_of_getElem? (i := 11) rfl) (by decide) (Or.inr (Or.inr (Or.inr (Or.inr ⟨_, _, g2, rfl⟩)))) h3 l3 k3 fun H4 locs4 ls4 h4 l4 k4 => ?_
  refine st (en := (25, .iload_n 1, 1, 0)) (s0 := [.ref o2]) (t := (26, _, [.int x0, .ref o2])) (List.mem_of_getElem? (i := 12) rfl) (by decide) (Or.inr (Or.inl ⟨_, _, rfl, rfl⟩)) h4 l4 k4 fun H5 locs5 ls5 h5 l5 k5 => ?_
  refine st (en := (26, .aaload, 1, 0)) (s0 := [.int x0, .ref o2]) (t := (27, _, [.ref o3])) (List.mem_of_getElem? (i := 13) rfl) (by decide) (Or.inr (Or.inr (Or.inr (Or.inr ⟨_, _, g3, rfl⟩)))) h5 l5 k5 fun H6 locs6 ls6 h6 l6 k6 => ?_
  refine st (en := (27, .astore_n 3, 1, 0)) (s0 := [.ref o3]) (t := (28, [(3, .ref o3), (0, .ref 0), (1, .int x0), (2, .int x1)], [])) (List.mem_of_getElem? (i := 14) rfl) (by decide) (Or.inr (Or.inl ⟨_, _, rfl, rfl⟩)) h6 l6 k6 fun H7 locs7 ls7 h7 l7 k7 => ?_
  refine st (en := (28, .iload_n 2, 1, 0)) (s0 := []) (t := (29, _, [.int x1])) (List.mem_of_getElem? (i := 15) rfl) (by decide) (Or.inr (Or.inl ⟨_, _, rfl, rfl⟩)) h7 l7 k7 fun H8 locs8 ls8 h8 l8 k8 => ?_
  have hj : pJmp (.tableswitch 86 0 5 #[39, 44, 57, 62, 72, 77]) 29 39 [.int x1] = some (115, []) := by
    show (if x1.toInt < 0 ∨ 5 < x1.toInt then (pTo 29 86).map (fun t => (t, ([] : List Value))) else _) = _
    rw [if_pos hx1]
    rfl
  refine st (en := (29, .tableswitch 86 0 5 #[39, 44, 57, 62, 72, 77], 39, 0)) (s0 := [.int x1]) (t := (115, _, [])) (List.mem_of_getElem? (i := 16) rfl) (by decide) (Or.inr (Or.inr (Or.inl ⟨_, _, hj, rfl⟩))) h8 l8 k8 fun H9 locs9 ls9 h9 l9 k9 => ?_
  have hat : ∀ w ∈ lkn_at RX11 176 "java/util/NoSuchElementException" "java/lang/RuntimeException" ["java/lang/Exception"], w.before [Value.ref (pB G + 0), .int x0, .int x1].toArray s = true :=
    fun w hw => (List.mem_append.mp (lk_subn w hw)).elim (fun h => hts w (List.mem_cons_of_mem _ (List.mem_append_right _ h))) (fun h => va_Nw.use (lkB_ot w h) (y1 w h))
  exact lk_throwN (A := pA G) (own := RX11) (cls := "java/util/NoSuchElementException") (Y1 := "java/lang/RuntimeException") (text := "no such what") (names := ["java/lang/Exception"]) B.exec B.bytes hl hown (by decide +kernel) (by decide +kernel) (by decide +kernel)
    (hts _ (List.mem_cons_of_mem _ (List.mem_append_right _ (List.mem_of_getElem? (i := 48) rfl)))) (hts _ (List.mem_cons_of_mem _ (List.mem_append_right _ (List.mem_of_getElem? (i := 47) rfl)))) y5 hat lk_otn
    (vx_Zq.kept y3 (ph_keep hH)) (vx_Zq.kept y4 (ph_keep hH)) (ph_S hH h9 (Nat.le_refl _) l9) (k9.1.trans hml.symm) dX11_look_115 dX11_look_118 dX11_look_119 dX11_look_121 dX11_look_124 (fun x hx => (hout x hx).elim)
    (Nat.le_of_ble_eq_true rfl) (Nat.le_of_ble_eq_true rfl) (Nat.le_of_ble_eq_true rfl) (Nat.le_of_ble_eq_true rfl) B.notSynchronized (fun t _ hz hq => ⟨rfl, ph_push h9 (Or.inr (Or.inr rfl)) hz hq⟩) l9 (Nat.le_of_ble_eq_true rfl) (Nat.le_of_ble_eq_true rfl)
section LKC
variable {p : Program} {l : Launch} {e : Env} {R : Room} {s : State} {m : MethodId} {args : Array Value} {below : List Frame} {meth : Method} {c : Code} {H : Heap} {locs : List Loc} {cells slots : Nat} {Q : State → Prop}
variable {mc ms pc : Nat} {ls : Array Slot} {st0 rest : List Value} {G : pG} {L : pHp} {E0 : String}
theorem lk_call (hr : vx_Run p l e R s m args below meth c H locs cells slots mc ms (F0 m pc ls st0) rest (fun _ _ _ => False) (lk_XC E0 G L) (pA G)) (hlo : ∀ q ∈ locs, pB G ≤ q.base)
    (kx : ∀ (q9 : Addr) (ce : Cell) (H1 : Heap) (locs1 : List Loc), pH G (L ++ [(19, [])]) H1 → (∀ q ∈ locs1, pB G ≤ q.base) → H1[q9]? = some ce → ce.vm = .none → s.vm.findClass E0 = some ce.cls → vx_W p l e R s m args below meth c H1 locs1 (cells + mc) (slots + ms) Q (F0 m pc ls rest) q9) : W p l e R s m args below meth c H locs cells slots Q (F0 m pc ls st0) := by
  intro T hT X
  rcases hr T hT X with ⟨v, st₀, t, T', L', h0, X', hL, e1, e2, hf, st⟩ | ⟨q, st₀, t, T', L', E, ce, h0, X', hL, e1, e2, ⟨hE, hp⟩, hce, hcv, hcl, st⟩
  · exact hf.elim
  · subst hE
    obtain ⟨t2, a1, b1⟩ := kx q ce T'.heap (locs ++ L') (by rw [e1]; exact hp) (fun z hz => (List.mem_append.mp hz).elim (hlo z) (hL z)) (by rw [e1]; exact hce) hcv hcl T' rfl X'
    exact ⟨t2, st.trans a1, b1⟩
end LKC
def lk_V : List Cond := [Cond.classLink RL 13 "java/lang/IndexOutOfBoundsException", Cond.methodLink RL 7 yX11_look, Cond.instanceMethod yX11_look, Cond.selects RX11 yX11_look yX11_look, Cond.initialized RX11, Cond.classLink RL 15 "java/util/NoSuchElementException"]
theorem lk_V_in : ∀ w ∈ lk_V, w ∈ lw_tbl := List.forall_mem_cons.mpr ⟨(pt_6 _ (List.mem_of_getElem? (i := 3) rfl)), List.forall_mem_cons.mpr ⟨(pt_6 _ (List.mem_of_getElem? (i := 5) rfl)), List.forall_mem_cons.mpr ⟨(pt_6 _ (List.mem_of_getElem? (i := 6) rfl)), List.forall_mem_cons.mpr ⟨(pt_6 _ (List.mem_of_getElem? (i := 7) rfl)), List.forall_mem_cons.mpr ⟨(pt_1 _ (List.mem_of_getElem? (i := 1) rfl)), List.forall_mem_cons.mpr ⟨(pt_6 _ (List.mem_of_getElem? (i := 4) rfl)), fun _ h => absurd h List.not_mem_nil⟩⟩⟩⟩⟩⟩
theorem lk_V_good : GoodIn lw_tbl lk_V := goodIn_sub lk_V_in (by decide +kernel)
def lk_W2 : List Cond := Cond.codeWith yL_look cL_look 5 (some .int) [(0, 10, 13, 13), (0, 10, 17, 15)] :: (lk_Ws ++ lk_V)
theorem lk_good2 : GoodIn lw_tbl lk_W2 := by
  intro w hw
  rcases List.mem_cons.mp hw with rfl | hw
  · exact ⟨(pt_6 _ (List.mem_of_getElem? (i := 2) rfl)), good_of_word rfl⟩
  · rcases List.mem_append.mp hw with h | h
    · exact lk_good _ h
    · exact lk_V_good _ h
set_option maxRecDepth 100000 in
set_option maxHeartbeats 4000000 in
theorem lk2_i {l : Launch} (hl : l.stackTraces = false) (G : pG) (hTab : ∀ K, K < pMs.length → ∀ en ∈ pTs.getD K [], pOkE (pMt K).1 (pMt K).2.2.1 en = true) (sa sb : Nat) (x0 x1 : Int32) {L : pHp} {q0 : pOb} (hq0 : L[0]? = some q0) (ht0 : q0.1 = 11) (hib : pEx 299 77 [.ref 0, .int x0] L (some (.int 0)) L) (harg : lk_arg x0 L) :
    Met l yL_look lk_W2 (pRm 301 1 6) (lk_Pc G sa sb [.ref (pB G + 0), .int x0, .int x1, .ref (pB G + 131)] L) (pQc G (some (.int 1)) (L ++ [(19, [])])) 1 6 (pA G) := by
  refine va_MetW (cc := cL_look) (maxL := 5) (ret := some .int) (hh := [(0, 10, 13, 13), (0, 10, 17, 15)]) (by decide +kernel) rfl ?_
  intro p e s m args below meth c s₁ B hml hP
  obtain ⟨rfl, hH, hK, hX⟩ := hP
  have hts : ∀ w ∈ lk_W2, w.before _ s = true := atoms_spec (ws := lk_W2) B.pre
  have hown : s.vm.findClass RL = some m.cls := findClass_of_methodNamed B.named
  have hl0 := lv_entry [Value.ref (pB G + 0), .int x0, .int x1, .ref (pB G + 131)] (n := 5) (Nat.le_of_ble_eq_true rfl)
  rw [lg_entry_eq]
  obtain ⟨ls, hls⟩ : ∃ z, z = (lg_sl [Value.ref (pB G + 0), .int x0, .int x1, .ref (pB G + 131)] ++ List.replicate (5 - (lg_sl [Value.ref (pB G + 0), .int x0, .int x1, .ref (pB G + 131)]).length) Slot.unset).toArray := ⟨_, rfl⟩
  rw [← hls] at hl0 ⊢
  have hl1 : lv_has ls 5 [(0, .ref (pB G + 0)), (1, .int x0), (2, .int x1), (3, .ref (pB G + 131))] := hl0
  have hv : ∀ (i : Nat) (w : Cond), lk_V[i]? = some w → w.before [Value.ref (pB G + 0), .int x0, .int x1, .ref (pB G + 131)].toArray s = true := fun i w h => hts w (List.mem_cons_of_mem _ (List.mem_append_right _ (List.mem_of_getElem? h)))
  obtain ⟨-, cell, c1, c2, c3, -⟩ := (hH.2.2 0 q0 hq0).obj (by omega)
  have hcB : s.vm.findClass RX11 = some cell.cls := by
    rw [c2, ht0]
    exact (hK.1.1 _ _ (pCl_at 11 (by decide))).2.1
  have hG12 : GoodIn lk_W2 lk_Ws := fun w hw => ⟨List.mem_cons_of_mem _ (List.mem_append_left _ hw), (lk_good w hw).2⟩
  have hcb : CallB (headSpec lk_W2 (pRm 301 1 6)).room s [Value.ref (pB G + 0), .int x0, .int x1, .ref (pB G + 131)].toArray RL 7 yX11_look cX11_look 4 (some .int) lk_Ws (pRm 300 1 6) 1 6 2 :=
    callB_of 2 hts hG12 rfl rfl rfl (hv 4 _ rfl) (hv 1 _ rfl) ⟨by decide +kernel, by decide +kernel, by decide +kernel⟩ ⟨Nat.le_of_ble_eq_true rfl, Nat.le_of_ble_eq_true rfl⟩
  refine lv_aload_n B.exec B.bytes dL_look_0 rfl (lv_at hl1 3 rfl) ?_
  refine lv_iconst B.exec B.bytes (v := 0) dL_look_1 rfl ?_
  refine lv_aload_n B.exec B.bytes dL_look_2 rfl (lv_at hl1 0 rfl) ?_
  refine lv_iload_n B.exec B.bytes dL_look_3 rfl (lv_at hl1 1 rfl) ?_
  refine lv_iload_n B.exec B.bytes dL_look_4 rfl (lv_at hl1 2 rfl) ?_
  refine lk_call (G := G) (L := L) (E0 := "java/lang/IndexOutOfBoundsException") (vx_runV (As := [.int x0, .int x1]) (rest := [.int 0, .ref (pB G + 131)]) (nL := 5) ⟨B.exec, B.bytes, hml, hown, hts⟩ (lk_i hl G hTab sa sb x0 x1 hib harg) ⟨hcb, hv 2 _ rfl, hv 3 _ rfl⟩ ⟨lk_blind, ⟨cell, c1, by rw [c3]; rfl, hcB⟩, fun U hU hW => ⟨rfl, by rw [hU]; exact hH, hK.warm hW, hX.warm hW⟩⟩ rfl rfl hl1.1 rfl (lv_room (Nat.le_of_ble_eq_true rfl)) dL_look_5 ⟨Nat.le_of_ble_eq_true rfl, Nat.le_of_ble_eq_true rfl⟩) (fun q hq => nomatch hq) fun q9 ce H1 locs1 h1 l1 hce hcv hcl => ?_
  refine vx_catch (own := RL) (name := "java/lang/IndexOutOfBoundsException") hown [] ⟨0, 10, 13, 13⟩ [⟨0, 10, 17, 15⟩] (vx_table (x := yL_look) B (hts _ List.mem_cons_self)) (fun z hz => nomatch hz) rfl (by decide) (hv 0 _ rfl) (va_Nw.use rfl (hX.1 _ (List.mem_of_getElem? (i := 3) rfl))) hce hcv hcl ?_
  show W p l e _ s m _ below meth c H1 locs1 1 6 _ (F0 m 13 ls [.ref q9])
  refine lv_astore B.exec B.bytes dL_look_13 hl1 (by decide) rfl fun ls2 hl2 => ?_
  refine lv_iconst B.exec B.bytes (v := 1) dL_look_15 rfl ?_
  exact W.iret B.exec B.bytes B.returns (fun t ht _ => ⟨rfl, by rw [ht]; exact h1⟩) l1 dL_look_16 B.notSynchronized
set_option maxRecDepth 100000 in
set_option maxHeartbeats 4000000 in
theorem lk2_n {l : Launch} (hl : l.stackTraces = false) (G : pG) (hTab : ∀ K, K < pMs.length → ∀ en ∈ pTs.getD K [], pOkE (pMt K).1 (pMt K).2.2.1 en = true) (sa sb : Nat) (x0 x1 : Int32) {L : pHp} {q0 : pOb} (hq0 : L[0]? = some q0) (ht0 : q0.1 = 11) (hib : pEx 299 77 [.ref 0, .int x0] L (some (.int 1)) L) (harg : lk_arg x0 L) {o1 o2 o3 : Nat} (g1 : pMem false (pMt 165).1 ((pMt 165).2.1.name == "<init>") (.getfield 22) 1105 [.ref 0] L = some (3, [.ref o1], L)) (g2 : pMem false (pMt 165).1 ((pMt 165).2.1.name == "<init>") (.getfield 148) 800 [.ref o1] L = some (3, [.ref o2], L)) (g3 : pMem false (pMt 165).1 ((pMt 165).2.1.name == "<init>") .aaload 0 [.int x0, .ref o2] L = some (1, [.ref o3], L)) (hx1 : x1.toInt < 0 ∨ 5 < x1.toInt) :
    Met l yL_look lk_W2 (pRm 301 1 6) (lk_Pc G sa sb [.ref (pB G + 0), .int x0, .int x1, .ref (pB G + 131)] L) (pQc G (some (.int 2)) (L ++ [(19, [])])) 1 6 (pA G) := by
  refine va_MetW (cc := cL_look) (maxL := 5) (ret := some .int) (hh := [(0, 10, 13, 13), (0, 10, 17, 15)]) (by decide +kernel) rfl ?_
  intro p e s m args below meth c s₁ B hml hP
  obtain ⟨rfl, hH, hK, hX⟩ := hP
  have hts : ∀ w ∈ lk_W2, w.before _ s = true := atoms_spec (ws := lk_W2) B.pre
  have hown : s.vm.findClass RL = some m.cls := findClass_of_methodNamed B.named
  have hl0 := lv_entry [Value.ref (pB G + 0), .int x0, .int x1, .ref (pB G + 131)] (n := 5) (Nat.le_of_ble_eq_true rfl)
  rw [lg_entry_eq]
  obtain ⟨ls, hls⟩ : ∃ z, z = (lg_sl [Value.ref (pB G + 0), .int x0, .int x1, .ref (pB G + 131)] ++ List.replicate (5 - (lg_sl [Value.ref (pB G + 0), .int x0, .int x1, .ref (pB G + 131)]).length) Slot.unset).toArray := ⟨_, rfl⟩
  rw [← hls] at hl0 ⊢
  have hl1 : lv_has ls 5 [(0, .ref (pB G + 0)), (1, .int x0), (2, .int x1), (3, .ref (pB G + 131))] := hl0
  have hv : ∀ (i : Nat) (w : Cond), lk_V[i]? = some w → w.before [Value.ref (pB G + 0), .int x0, .int x1, .ref (pB G + 131)].toArray s = true := fun i w h => hts w (List.mem_cons_of_mem _ (List.mem_append_right _ (List.mem_of_getElem? h)))
  obtain ⟨-, cell, c1, c2, c3, -⟩ := (hH.2.2 0 q0 hq0).obj (by omega)
  have hcB : s.vm.findClass RX11 = some cell.cls := by
    rw [c2, ht0]
    exact (hK.1.1 _ _ (pCl_at 11 (by decide))).2.1
  have hG12 : GoodIn lk_W2 lk_Ws := fun w hw => ⟨List.mem_cons_of_mem _ (List.mem_append_left _ hw), (lk_good w hw).2⟩
  have hcb : CallB (headSpec lk_W2 (pRm 301 1 6)).room s [Value.ref (pB G + 0), .int x0, .int x1, .ref (pB G + 131)].toArray RL 7 yX11_look cX11_look 4 (some .int) lk_Ws (pRm 300 1 6) 1 6 2 :=
    callB_of 2 hts hG12 rfl rfl rfl (hv 4 _ rfl) (hv 1 _ rfl) ⟨by decide +kernel, by decide +kernel, by decide +kernel⟩ ⟨Nat.le_of_ble_eq_true rfl, Nat.le_of_ble_eq_true rfl⟩
  refine lv_aload_n B.exec B.bytes dL_look_0 rfl (lv_at hl1 3 rfl) ?_
  refine lv_iconst B.exec B.bytes (v := 0) dL_look_1 rfl ?_
  refine lv_aload_n B.exec B.bytes dL_look_2 rfl (lv_at hl1 0 rfl) ?_
  refine lv_iload_n B.exec B.bytes dL_look_3 rfl (lv_at hl1 1 rfl) ?_
  refine lv_iload_n B.exec B.bytes dL_look_4 rfl (lv_at hl1 2 rfl) ?_
  refine lk_call (G := G) (L := L) (E0 := "java/util/NoSuchElementException") (vx_runV (As := [.int x0, .int x1]) (rest := [.int 0, .ref (pB G + 131)]) (nL := 5) ⟨B.exec, B.bytes, hml, hown, hts⟩ (lk_n hl G hTab sa sb x0 x1 hib harg g1 g2 g3 hx1) ⟨hcb, hv 2 _ rfl, hv 3 _ rfl⟩ ⟨lk_blind, ⟨cell, c1, by rw [c3]; rfl, hcB⟩, fun U hU hW => ⟨rfl, by rw [hU]; exact hH, hK.warm hW, hX.warm hW⟩⟩ rfl rfl hl1.1 rfl (lv_room (Nat.le_of_ble_eq_true rfl)) dL_look_5 ⟨Nat.le_of_ble_eq_true rfl, Nat.le_of_ble_eq_true rfl⟩) (fun q hq => nomatch hq) fun q9 ce H1 locs1 h1 l1 hce hcv hcl => ?_
  refine vx_catch (own := RL) (name := "java/util/NoSuchElementException") hown [⟨0, 10, 13, 13⟩] ⟨0, 10, 17, 15⟩ [] (vx_table (x := yL_look) B (hts _ List.mem_cons_self)) (fun z hz => by
    rw [List.mem_singleton] at hz
    subst hz
    exact Or.inr ⟨by decide, _, hv 0 _ rfl, hX.2.2.2.1⟩) rfl (by decide) (hv 5 _ rfl) (va_Nw.use rfl (hX.1 _ (List.mem_of_getElem? (i := 4) rfl))) hce hcv hcl ?_
  show W p l e _ s m _ below meth c H1 locs1 1 6 _ (F0 m 17 ls [.ref q9])
  refine lv_astore B.exec B.bytes dL_look_17 hl1 (by decide) rfl fun ls2 hl2 => ?_
  refine lv_iconst B.exec B.bytes (v := 2) dL_look_19 rfl ?_
  exact W.iret B.exec B.bytes B.returns (fun t ht _ => ⟨rfl, by rw [ht]; exact h1⟩) l1 dL_look_20 B.notSynchronized
set_option maxRecDepth 100000 in
set_option maxHeartbeats 4000000 in
theorem lk2_r {l : Launch} (hl : l.stackTraces = false) (G : pG) (hTab : ∀ K, K < pMs.length → ∀ en ∈ pTs.getD K [], pOkE (pMt K).1 (pMt K).2.2.1 en = true) (sa sb : Nat) (x0 x1 : Int32) {L : pHp} {q0 : pOb} (hq0 : L[0]? = some q0) (ht0 : q0.1 = 11) {v : Int32} (hE : pEx 300 165 [.ref 0, .int x0, .int x1] L (some (.int v)) L) {q1 : pOb} (hq1 : L[131]? = some q1) (ht1 : q1.1 = 23) (hlen : q1.2.length = 1) :
    Met l yL_look lk_W2 (pRm 301 0 0) (lk_Pc G sa sb [.ref (pB G + 0), .int x0, .int x1, .ref (pB G + 131)] L) (pQc G (some (.int 0)) (L.set 131 (q1.1, q1.2.set 0 (.long v.toInt64)))) 0 0 (pA G) := by
  refine va_MetW (cc := cL_look) (maxL := 5) (ret := some .int) (hh := [(0, 10, 13, 13), (0, 10, 17, 15)]) (by decide +kernel) rfl ?_
  intro p e s m args below meth c s₁ B hml hP
  obtain ⟨rfl, hH, hK, hX⟩ := hP
  have hts : ∀ w ∈ lk_W2, w.before _ s = true := atoms_spec (ws := lk_W2) B.pre
  have hown : s.vm.findClass RL = some m.cls := findClass_of_methodNamed B.named
  have hl0 := lv_entry [Value.ref (pB G + 0), .int x0, .int x1, .ref (pB G + 131)] (n := 5) (Nat.le_of_ble_eq_true rfl)
  rw [lg_entry_eq]
  obtain ⟨ls, hls⟩ : ∃ z, z = (lg_sl [Value.ref (pB G + 0), .int x0, .int x1, .ref (pB G + 131)] ++ List.replicate (5 - (lg_sl [Value.ref (pB G + 0), .int x0, .int x1, .ref (pB G + 131)]).length) Slot.unset).toArray := ⟨_, rfl⟩
  rw [← hls] at hl0 ⊢
  have hl1 : lv_has ls 5 [(0, .ref (pB G + 0)), (1, .int x0), (2, .int x1), (3, .ref (pB G + 131))] := hl0
  have hv : ∀ (i : Nat) (w : Cond), lk_V[i]? = some w → w.before [Value.ref (pB G + 0), .int x0, .int x1, .ref (pB G + 131)].toArray s = true := fun i w h => hts w (List.mem_cons_of_mem _ (List.mem_append_right _ (List.mem_of_getElem? h)))
  obtain ⟨-, cell, c1, c2, c3, -⟩ := (hH.2.2 0 q0 hq0).obj (by omega)
  have hcB : s.vm.findClass RX11 = some cell.cls := by
    rw [c2, ht0]
    exact (hK.1.1 _ _ (pCl_at 11 (by decide))).2.1
  have hG12 : GoodIn lk_W2 (pWM (pMt 165)) := fun w hw => ⟨List.mem_cons_of_mem _ (List.mem_append_left _ (by
    rcases List.mem_cons.mp hw with rfl | h
    · exact List.mem_cons_self
    · exact List.mem_cons_of_mem _ (List.mem_append_left _ h))), (lw_good lk_165 w hw).2⟩
  have hcb : CallB (headSpec lk_W2 (pRm 301 0 0)).room s [Value.ref (pB G + 0), .int x0, .int x1, .ref (pB G + 131)].toArray RL 7 yX11_look cX11_look 4 (some .int) (pWM (pMt 165)) (pRm 300 (L.length - L.length) (pSz L - pSz L)) (L.length - L.length) (pSz L - pSz L) 2 :=
    callB_of 2 hts hG12 rfl rfl rfl (hv 4 _ rfl) (hv 1 _ rfl) ⟨by decide +kernel, by decide +kernel, by decide +kernel⟩ ⟨Nat.le_of_ble_eq_true rfl, Nat.le_of_ble_eq_true rfl⟩
  refine lv_aload_n B.exec B.bytes dL_look_0 rfl (lv_at hl1 3 rfl) ?_
  refine lv_iconst B.exec B.bytes (v := 0) dL_look_1 rfl ?_
  refine lv_aload_n B.exec B.bytes dL_look_2 rfl (lv_at hl1 0 rfl) ?_
  refine lv_iload_n B.exec B.bytes dL_look_3 rfl (lv_at hl1 1 rfl) ?_
  refine lv_iload_n B.exec B.bytes dL_look_4 rfl (lv_at hl1 2 rfl) ?_
  refine ps_call (G := G) (as := [.ref (pB G + 0), .int x0, .int x1]) (va_runV (As := [.int x0, .int x1]) (rest := [.int 0, .ref (pB G + 131)]) (nL := 5) ⟨B.exec, B.bytes, hml, hown, hts⟩ (pSound l G hTab 300 165 _ L _ L hE lk_165) ⟨hcb, hv 2 _ rfl, hv 3 _ rfl⟩ ⟨ppc_blind, ⟨cell, c1, by rw [c3]; rfl, hcB⟩, fun U hU hW => ⟨rfl, by rw [hU]; exact hH, hK.warm hW⟩⟩ rfl rfl hl1.1 rfl (lv_room (Nat.le_of_ble_eq_true rfl)) dL_look_5 ⟨by rw [Nat.sub_self]; exact Nat.zero_le _, by rw [Nat.sub_self]; exact Nat.zero_le _⟩) (fun q hq => nomatch hq) fun H1 locs1 h1 l1 => ?_
  rw [Nat.sub_self, Nat.sub_self]
  show W p l e _ s m _ below meth c H1 locs1 0 0 _ (F0 m 8 ls [.int v, .int 0, .ref (pB G + 131)])
  refine lv_i2l B.exec B.bytes dL_look_8 rfl ?_
  refine ps_last B.exec B.bytes hK h1 l1 (x := 0) (o := 131) (j := 0) hq1 ht1 (by rw [hlen]; rfl) dL_look_9 fun H2 locs2 h2 l2 => ?_
  refine lv_goto B.exec B.bytes dL_look_10 (tgt := 21) rfl ?_
  refine lv_iconst B.exec B.bytes (v := 0) dL_look_21 rfl ?_
  exact W.iret B.exec B.bytes B.returns (fun t ht _ => ⟨rfl, by rw [ht]; exact h2⟩) l2 dL_look_22 B.notSynchronized
