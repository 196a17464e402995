/-! A LONG CHECK IN PIECES. -/
noncomputable def qCk1 (cs : List qCt) (c : qCt) (ce : qCe) : Bool :=
  Nat.blt 0 (cG c) && (Nat.blt 0 (cD c) && (Nat.ble (qCat (cA c)) (pMt (cK c)).2.2.2.1 && ((cM c).all (fun q => Nat.blt q.2.1 1000) && ((qEnt (cP c) (cE c) ce.2.2.1 && qSc (cG c) (cE c)) &&
  (qRun cs c (cK c) (cG c) (ce.2.2.2.2.map (fun q => q.1)) ce.1.2 (qCn ce.2.1) ce.1.1 true (0, qAg 0 (cA c), [], cP c, cM c, cG c) ce.2.2.2.1 == some [])))))
noncomputable def qCk2 (cs : List qCt) (c : qCt) (ce : qCe) (q : qCu × qF × qHs) : Bool :=
  Nat.ble (cG c) q.1.2.2.2.2.2.1 && (qSc q.1.2.2.2.2.2.1 q.1.2.2.2.2.2.2 && (qEnt q.1.2.2.2.1 q.1.2.2.2.2.2.2 q.2.1 &&
    (qRun cs c (cK c) q.1.2.2.2.2.2.1 (ce.2.2.2.2.map (fun q => q.1)) ce.1.2 q.1.2.2.2.2.2.2 ce.1.1 true (q.1.1, q.1.2.1, q.1.2.2.1, q.1.2.2.2.1, q.1.2.2.2.2.1, q.1.2.2.2.2.2.1) q.2.2 == some [])))
theorem qchk_split {cs : List qCt} {c : qCt} {ce : qCe} (h1 : qCk1 cs c ce = true) (h2 : ce.2.2.2.2.all (qCk2 cs c ce) = true) : qChk cs c ce = true := by
  unfold qCk1 at h1
  unfold qChk
  rw [Bool.and_eq_true, Bool.and_eq_true, Bool.and_eq_true, Bool.and_eq_true, Bool.and_eq_true] at h1
  obtain ⟨a1, a2, a3, a4, a5, a6⟩ := h1
  rw [a1, a2, a3, a4, a5, a6]
  exact h2
theorem zl_app {α : Type} {f : α → Bool} {l m : List α} (h1 : l.all f = true) (h2 : m.all f = true) : (l ++ m).all f = true := by rw [List.all_append, h1, h2]; rfl
