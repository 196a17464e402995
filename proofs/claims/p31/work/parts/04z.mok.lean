/-! WHAT HOLDS OF EVERY METHOD'S ROW. -/
def pMok (M : pMe) : Bool := decide (M.2.1.cls = pR M.1) && plainFor M.2.1 && decide (M.2.1.cls ≠ "java/lang/invoke/MethodHandle") && decide (M.2.1.cls ≠ "java/lang/invoke/VarHandle") && decide ((parseMethodDescriptor M.2.1.desc).map (fun d => d.parameters.length) = some M.2.2.2.2.2) && decide (M.2.2.2.1 ≤ 40) && decide (M.1 < 17)
set_option maxRecDepth 100000 in
theorem pMs_ok : pMs.all pMok = true := by decide +kernel
theorem pMok_of {M : pMe} (h : M ∈ pMs) : M.2.1.cls = pR M.1 ∧ plainFor M.2.1 = true ∧ M.2.1.cls ≠ "java/lang/invoke/MethodHandle" ∧ M.2.1.cls ≠ "java/lang/invoke/VarHandle" ∧ (parseMethodDescriptor M.2.1.desc).map (fun d => d.parameters.length) = some M.2.2.2.2.2 ∧ M.2.2.2.1 ≤ 40 ∧ M.1 < 17 := by
  have h1 := List.all_eq_true.mp pMs_ok M h
  simp only [pMok, Bool.and_eq_true, decide_eq_true_eq] at h1
  exact ⟨h1.1.1.1.1.1.1, h1.1.1.1.1.1.2, h1.1.1.1.1.2, h1.1.1.1.2, h1.1.1.2, h1.1.2, h1.2⟩
set_option maxRecDepth 100000 in
theorem pini_all : pMs.all (fun M => !(M.2.1.name == "<init>") || M.2.2.2.2.1 == none) = true := by decide +kernel
theorem pini_ret {M : pMe} (h : M ∈ pMs) (hn : M.2.1.name = "<init>") : M.2.2.2.2.1 = none := by
  have h1 := List.all_eq_true.mp pini_all M h
  simpa [hn] using h1
