/-! A THROW THAT IS CAUGHT: by names of the narrow library alone. -/
section NCX
/-- one row of a table, that covers: what links is remembered; it takes the object, or the search goes on -/
theorem nc_row {Q : Jvm.Handler → Pre} {E : CtlPost} {e : Env} {d : Bool} {acts : List Action} {S : State} {f : JFrame} {q : Addr} {x : ExceptionTableEntry} {t : List ExceptionTableEntry} {k : ClassId} {ce : Cell} (hx : covers x f.pc = true) (h0 : x.catchType ≠ 0)
    (hl : S.vm.ClassLinks e.platform f.method.cls x.catchType k) (hcell : S.heap[q]? = some ce) (hv : ∀ j, ce.vm ≠ .statics j) (h1 : ∃ j, S.vm.classes[ce.cls]? = some j) (h2 : ∃ j, S.vm.classes[k]? = some j) :
    wp (findHandler.go f q (x :: t)) Q E e d acts S ↔ (if S.vm.assignable ce.cls k = true then Q (.found x.handlerPc) d acts (S.setVm (S.vm.noted f.method.cls x.catchType (.cls k))) else wp (findHandler.go f q t) Q E e d acts (S.setVm (S.vm.noted f.method.cls x.catchType (.cls k)))) := by
  obtain ⟨g1, g2⟩ := (resolveClass_links e.toSetting hl).op (op := VmOp.resolveClass f.method.cls x.catchType) rfl
  have hal : S.vm.Alike (S.vm.noted f.method.cls x.catchType (.cls k)) := (Vm.Alike.refl S.vm).noted _ _ _
  obtain ⟨j1, e1⟩ := h1
  obtain ⟨j2, e2⟩ := h2
  obtain ⟨i1, f1, -⟩ := hal.2.2 _ _ e1
  obtain ⟨i2, f2, -⟩ := hal.2.2 _ _ e2
  have hs : (S.vm.noted f.method.cls x.catchType (.cls k)).assignable ce.cls k = S.vm.assignable ce.cls k := hal.assignable _ _
  simp only [covers] at hx
  cases hb : S.vm.assignable ce.cls k with
  | true =>
    rw [hb] at hs
    simp [findHandler.go, hx, h0, g1, g2, hcell, hv, f1, f2, hs, VmOp.dirties, VmOp.acts]
  | false =>
    rw [hb] at hs
    simp [findHandler.go, hx, h0, g1, g2, hcell, hv, f1, f2, hs, VmOp.dirties, VmOp.acts]
variable {p : Program} {l : Launch} {e : Env} {R : Room} {s : State} {m : MethodId} {args : Array Value} {below : List Frame} {meth : Method} {c : Code} {H : Heap} {locs : List Loc} {cells slots : Nat} {Q : State → Prop}
variable {pc : Nat} {ls : Array Slot} {rest : List Value}
/-- what the rows ahead do: they don't cover, or they link to a class that doesn't take the object -/
def nc_by (pl : Platform) (s : State) (f : JFrame) (k : ClassId) (y : ExceptionTableEntry) : Prop := covers y f.pc = true → y.catchType ≠ 0 ∧ ∃ j, s.vm.ClassLinks pl f.method.cls y.catchType j ∧ s.vm.assignable k j = false
theorem nc_in {j d i : Nat} {pl : Platform} {vm : Vm} (h : vm.ClassLinks pl d i j) : ∃ k, vm.classes[j]? = some k := by
  obtain ⟨_, _, _, k, _, _, _, _, _, h1, _, _⟩ := h.here
  exact ⟨k, h1⟩
theorem nc_note {s S : State} {pl : Platform} {f : JFrame} {y : ExceptionTableEntry} {j : Nat} (hW : s.WarmedH S.vm) (hl : s.vm.ClassLinks pl f.method.cls y.catchType j) : s.WarmedH (S.vm.noted f.method.cls y.catchType (.cls j)) := by
  obtain ⟨_, _, _, _, h1, _, _, _, _, _, _, h2⟩ := hl.here
  exact hW.noted h1 h2 (State.rightAt_cls hl)
theorem nc_go {s : State} {e : Env} {f : JFrame} {q : Addr} {ce : Cell} (hv : ∀ j, ce.vm ≠ .statics j) (h1 : ∃ j, s.vm.classes[ce.cls]? = some j) {x : ExceptionTableEntry} {suf : List ExceptionTableEntry} (hx : covers x f.pc = true) (h0 : x.catchType ≠ 0) {k : ClassId}
    (hl : s.vm.ClassLinks e.platform f.method.cls x.catchType k) (hfit : s.vm.assignable ce.cls k = true) : ∀ (pre : List ExceptionTableEntry) (S : State), (∀ y ∈ pre, nc_by e.platform s f ce.cls y) → S.heap[q]? = some ce → s.WarmedH S.vm →
      ∃ vm', s.WarmedH vm' ∧ ∀ (Q : Jvm.Handler → Pre) (E : CtlPost) (d : Bool) (acts : List Action), wp (findHandler.go f q (pre ++ x :: suf)) Q E e d acts S ↔ Q (.found x.handlerPc) d acts (S.setVm vm')
  | [], S, _, hc, hW => by
    have al := hW.alike
    have a1 : ∃ j, S.vm.classes[ce.cls]? = some j := by obtain ⟨j, hj⟩ := h1; obtain ⟨i, hi, -⟩ := al.2.2 _ _ hj; exact ⟨i, hi⟩
    refine ⟨_, nc_note hW hl, fun Q E d acts => ?_⟩
    rw [List.nil_append, nc_row hx h0 (hW.classLinks hl) hc hv a1 (nc_in (hW.classLinks hl)), if_pos (by rw [al.assignable]; exact hfit)]
  | y :: ys, S, hp, hc, hW => by
    have al := hW.alike
    have a1 : ∃ j, S.vm.classes[ce.cls]? = some j := by obtain ⟨j, hj⟩ := h1; obtain ⟨i, hi, -⟩ := al.2.2 _ _ hj; exact ⟨i, hi⟩
    have hp' : ∀ z ∈ ys, nc_by e.platform s f ce.cls z := fun z hz => hp z (List.mem_cons_of_mem _ hz)
    cases hb : covers y f.pc with
    | false =>
      obtain ⟨vm', w, h⟩ := nc_go hv h1 hx h0 hl hfit ys S hp' hc hW
      exact ⟨vm', w, fun Q E d acts => by rw [List.cons_append, W.findHandler_go_skip hb]; exact h Q E d acts⟩
    | true =>
      obtain ⟨y0, j, yl, yn⟩ := hp y List.mem_cons_self hb
      obtain ⟨vm', w, h⟩ := nc_go (q := q) hv h1 hx h0 hl hfit ys (S.setVm (S.vm.noted f.method.cls y.catchType (.cls j))) hp' hc (nc_note hW yl)
      refine ⟨vm', w, fun Q E d acts => ?_⟩
      rw [List.cons_append, nc_row hb y0 (hW.classLinks yl) hc hv a1 (nc_in (hW.classLinks yl)), if_neg (by rw [al.assignable, yn]; exact Bool.false_ne_true)]
      exact h Q E d acts
/-- one step of the machine: the note over the frame f becomes f at its handler -/
theorem nc_step {S : State} {q : Addr} {f : JFrame} {r : List Frame} {pc : Nat} {vm' : Vm} (hf : ∀ (Q : Jvm.Handler → Pre) (E : CtlPost) (d : Bool) (acts : List Action), wp (findHandler f q) Q E e d acts S ↔ Q (.found pc) d acts (S.setVm vm')) :
    (stepThrowing e S q (.java f :: r)).Is ((S.setVm vm').setFrames (.java { f with pc := pc, stack := [.ref q] } :: r)) [] := by
  simp only [stepThrowing, searchFrame, vmDo]
  generalize hr : Sem.go _ e false [] S = res
  obtain ⟨as, rfl, ha⟩ := Sem.eq_ok_of hr (a := Jvm.Handler.found pc) (s' := S.setVm vm') (acts' := []) (by simp [hf _ _ _ _])
  exact ⟨rfl, ha⟩
/-- caught by the row x of this method's table; the rows ahead don't take it -/
theorem vx_catch {own name : String} {E : String} {ce : Cell} {q : Addr} (hown : s.vm.findClass own = some m.cls) (pre : List ExceptionTableEntry) (x : ExceptionTableEntry) (suf : List ExceptionTableEntry) (hsplit : c.exceptionTable.toList = pre ++ x :: suf)
    (hpass : ∀ z ∈ pre, covers z pc = false ∨ (z.catchType ≠ 0 ∧ ∃ nm : String, (Cond.classLink own z.catchType nm).before args s = true ∧ va_Nc E nm s)) (hx : covers x pc = true) (h0 : x.catchType ≠ 0)
    (hlink : (Cond.classLink own x.catchType name).before args s = true) (hcast : (Cond.castable E name).before args s = true) (hcell : H[q]? = some ce) (hv : ce.vm = .none) (hcl : s.vm.findClass E = some ce.cls)
    (kk : W p l e R s m args below meth c H locs cells slots Q (F0 m x.handlerPc ls [.ref q])) : vx_W p l e R s m args below meth c H locs cells slots Q (F0 m pc ls rest) q := by
  intro T hT X
  have hpl : e.platform.magicAccessors = ({} : Platform).magicAccessors := by rw [X.admits.platform]
  obtain ⟨c3, c4, hc3, hc4, hasg⟩ := Cond.castable_spec hcast
  cases Option.some.inj (hc3.symm.trans hcl)
  obtain ⟨c5, hc5, hcl5⟩ := Cond.classLink_spec hown hlink e.platform hpl
  cases Option.some.inj (hc4.symm.trans hc5)
  have hp : ∀ y ∈ pre, nc_by e.platform s (F0 m pc ls rest) ce.cls y := fun z hz hb => by
    rcases hpass z hz with h | ⟨hz0, nm, hl1, hn1⟩
    · exact absurd (h.symm.trans hb) Bool.false_ne_true
    · obtain ⟨c6, hc6, hcl6⟩ := Cond.classLink_spec hown hl1 e.platform hpl
      obtain ⟨a8, b8, h1, h2, h3⟩ := hn1
      cases Option.some.inj (h1.symm.trans hcl)
      cases Option.some.inj (h2.symm.trans hc6)
      exact ⟨hz0, _, hcl6, h3⟩
  have hk : ∃ j, s.vm.classes[ce.cls]? = some j := by obtain ⟨k9, h9, -⟩ := Vm.findClass_spec hcl; exact ⟨k9, h9⟩
  have hq : (((T.setTop (F0 m pc ls rest)).pushFrame (.throwing q)) : State).heap[q]? = some ce := by
    show T.heap[q]? = some ce
    rw [hT]; exact hcell
  obtain ⟨vm', hW', hf⟩ := nc_go (e := e) (f := F0 m pc ls rest) (q := q) (suf := suf) (by rw [hv]; intro j hj; cases hj) hk hx h0 hcl5 hasg pre ((T.setTop (F0 m pc ls rest)).pushFrame (.throwing q)) hp hq X.warmed
  obtain ⟨t, a1, b1⟩ := kk (T.setVm vm') hT (X.noted hW')
  refine ⟨t, ?_, b1⟩
  have hAt : At T (F0 m pc ls rest).method c below := X.here
  obtain ⟨hgo, hw⟩ := hAt.throwing q
  refine Steps.head hgo hw ?_
  rw [stepThread_throwing (frames_entered hAt.top _), (nc_step (S := (T.setTop (F0 m pc ls rest)).pushFrame (.throwing q)) (vm' := vm') (pc := x.handlerPc) fun Q E d acts => by
    rw [W.findHandler_eq X.method' X.code, hsplit]; exact hf Q E d acts).1]
  obtain ⟨g0, hg0⟩ := X.frames_eq
  have e1 : T.frames.tail = below := by rw [hg0]; rfl
  have e2 : (T.setVm vm').setTop (F0 m x.handlerPc ls [.ref q]) = (T.setVm vm').setFrames (.java (F0 m x.handlerPc ls [.ref q]) :: below) := State.setTop_of_frames _ (by exact hg0)
  rw [e1]
  rw [e2] at a1
  have e3 : ((((T.setTop (F0 m pc ls rest)).pushFrame (.throwing q)).setVm vm').setFrames (.java { F0 m pc ls rest with pc := x.handlerPc, stack := [.ref q] } :: below)) = (T.setVm vm').setFrames (.java (F0 m x.handlerPc ls [.ref q]) :: below) := by
    have e4 : ∀ (u : State) (F G : List Frame), ((u.setFrames F).setVm vm').setFrames G = (u.setVm vm').setFrames G := fun u F G => by
      have e5 : (u.setFrames F).setVm vm' = (u.setVm vm').setFrames F := rfl
      rw [e5, State.setFrames_setFrames]
    rw [State.setTop_of_frames _ hg0, State.pushFrame, State.setFrames_setFrames, e4]
  rw [e3]
  exact a1
end NCX
