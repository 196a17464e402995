/-! ROWS OF FORMS AS ONE NUMBER: digits of 12 bits, the least first; a digit is a number and 1, 0 begins a long one (7 digits). Each step gives a literal. -/
noncomputable def dTk {R : Type} (z : R) (s : Nat) (k : Nat → Nat → R) : R :=
  Nat.rec (motive := fun _ => R) z (fun n _ => Nat.rec (motive := fun _ => R) (Nat.rec (motive := fun _ => R) z (fun v _ => k v (Nat.succ (Nat.div n 79228162514264337593543950336))) (Nat.mod (Nat.div n 4096) 19342813113834066795298816)) (fun v _ => k v (Nat.succ (Nat.div n 4096))) (Nat.mod n 4096)) s
noncomputable def dIn {R : Type} (z : R) (s : Nat) (k : Int → Nat → R) : R :=
  dTk z s (fun p s1 => cond (Nat.beq p 0) (k (Int.ofNat 1) s1) (cond (Nat.beq p 1) (k (Int.negSucc 0) s1) (dTk z s1 (fun q s2 => cond (Nat.beq p 2) (k (Int.ofNat q) s2) (k (Int.negSucc q) s2)))))
noncomputable def dFo {R : Type} (z : R) (c : Nat) : Nat → (qF → Nat → R) → R :=
  Nat.rec (motive := fun _ => Nat → (qF → Nat → R) → R) (fun s k => k [] s) (fun _ ih s k => dIn z s (fun a s1 => dTk z s1 (fun b s2 => ih s2 (fun l s3 => k ((a, b) :: l) s3)))) c
noncomputable def dHl (m : Nat) : Nat → List qF :=
  Nat.rec (motive := fun _ => Nat → List qF) (fun _ => []) (fun _ ih s => dTk [] s (fun c s1 => dFo [] c s1 (fun f s2 => f :: ih s2))) m
noncomputable def dHs (m n : Nat) : List qF := dHl m (Nat.succ n)
theorem d_try : (dHs 3 0x1004003003001005004003018001002 == [[(1, 23)], [(-5, 0), (2, 3)], []]) = true := by decide +kernel
