/-! THE SMALL MACHINE ON INTS THAT ARE NOT KNOWN: a float of 8 + k is the k-th unknown, of which 'env' tells a range; the float 4294967295 is any int. Where a test isn't decided, both ways are gone. -/
abbrev aEv : Type := List (Int × Int)
def aTop : Value := .float 4294967295
def aV (env : aEv) (v : Value) : Value := match v with
  | .float u => if 8 ≤ u.toNat ∧ u.toNat < 1000 then (match env[u.toNat - 8]? with | some q => if q.1 = q.2 then .int (Int32.ofInt q.1) else .float u | none => .float u) else .float u
  | v => v
def aStk (i : Instr) (st : List Value) : Option (Nat × List Value) := match pStk i st with
  | some r => some r
  | none => match i with
    | .iadd => match st with | a :: b :: r => if pInt true a && pInt true b then some (1, (if a = .int 0 then b else if b = .int 0 then a else aTop) :: r) else none | _ => none
    | .isub => match st with | a :: b :: r => if pInt true a && pInt true b then some (1, aTop :: r) else none | _ => none
    | .iand => match st with | a :: b :: r => if pInt true a && pInt true b then some (1, aTop :: r) else none | _ => none
    | .ishr => match st with | a :: b :: r => if pInt true a && pInt true b then some (1, aTop :: r) else none | _ => none
    | .ishl => match st with | a :: b :: r => if pInt true a && pInt true b then some (1, aTop :: r) else none | _ => none
    | .i2b => match st with | a :: r => if pInt true a then some (1, aTop :: r) else none | _ => none
    | .ineg => match st with | a :: r => if pInt true a then some (1, aTop :: r) else none | _ => none
    | _ => none
def aNeg (c : Jvm.ClassFile.Cond) : Jvm.ClassFile.Cond := match c with
  | .eq => .ne
  | .ne => .eq
  | .lt => .ge
  | .ge => .lt
  | .gt => .le
  | .le => .gt
def aSwp (c : Jvm.ClassFile.Cond) : Jvm.ClassFile.Cond := match c with
  | .eq => .eq
  | .ne => .ne
  | .lt => .gt
  | .ge => .le
  | .gt => .lt
  | .le => .ge
/-- the ranges of what passes a test against y -/
def aRng (c : Jvm.ClassFile.Cond) (q : Int × Int) (y : Int) : List (Int × Int) := match c with
  | .eq => [(if q.1 ≤ y then y else q.1, if y ≤ q.2 then y else q.2)]
  | .ne => [(q.1, if q.2 ≤ y - 1 then q.2 else y - 1), (if y + 1 ≤ q.1 then q.1 else y + 1, q.2)]
  | .lt => [(q.1, if q.2 ≤ y - 1 then q.2 else y - 1)]
  | .ge => [(if y ≤ q.1 then q.1 else y, q.2)]
  | .gt => [(if y + 1 ≤ q.1 then q.1 else y + 1, q.2)]
  | .le => [(q.1, if q.2 ≤ y then q.2 else y)]
/-- all ways of a test of the k-th unknown against y; ways that can't be are left out -/
def aFk (env : aEv) (u : Value) (c : Jvm.ClassFile.Cond) (y : Int32) : List (Bool × aEv) := match u with
  | .float w => if 1000 ≤ w.toNat then [(true, env), (false, env)] else match env[w.toNat - 8]? with
    | some q => (((aRng c q y.toInt).filter (fun r => decide (r.1 ≤ r.2))).map (fun r => (true, env.set (w.toNat - 8) r))) ++ (((aRng (aNeg c) q y.toInt).filter (fun r => decide (r.1 ≤ r.2))).map (fun r => (false, env.set (w.toNat - 8) r)))
    | none => [(true, env), (false, env)]
  | _ => [(true, env), (false, env)]
def aCp (env : aEv) (y x : Value) (c : Jvm.ClassFile.Cond) : List (Bool × aEv) := match y with
  | .int y0 => aFk env x c y0
  | y => match x with
    | .int x0 => aFk env y (aSwp c) x0
    | _ => [(true, env), (false, env)]
abbrev aSt : Type := aEv × Nat × pLv × List Value × pHp
def aTab (env : aEv) (k : Nat) (q : Int × Int) (pc : Nat) (lv : pLv) (r : List Value) (L : pHp) (lo : Int) : List Int → Nat → Option (List aSt)
  | [], _ => some []
  | o :: l, j => match aTab env k q pc lv r L lo l (j + 1) with
    | some t => if q.1 ≤ lo + j ∧ lo + j ≤ q.2 then (match pTo pc o with | some g => some ((env.set k (lo + j, lo + j), g, lv, r, L) :: t) | none => none) else some t
    | none => none
def aJmp (e : pEn) (env : aEv) (lv : pLv) (st : List Value) (L : pHp) : Option (List aSt) := match pJmp e.2.1 e.1 e.2.2.1 st with
  | some (t, st') => some [(env, t, lv, st', L)]
  | none => match e.2.1 with
    | .ifCond c off => match st with
      | u :: r => if pInt true u && e.2.2.1 == 3 then (match pTo e.1 off with | some t => some ((aFk env u c 0).map (fun q => (q.2, if q.1 then t else e.1 + 3, lv, r, L))) | none => none) else none
      | _ => none
    | .if_icmp c off => match st with
      | y :: x :: r => if pInt true y && pInt true x && e.2.2.1 == 3 then (match pTo e.1 off with
        | some t => some ((aCp env y x c).map (fun q => (q.2, if q.1 then t else e.1 + 3, lv, r, L)))
        | none => none) else none
      | _ => none
    | .tableswitch d lo hi offs => match st with
      | .float w :: r => if 8 ≤ w.toNat ∧ w.toNat < 1000 then (match env[w.toNat - 8]?, pTo e.1 d with
        | some q, some g => if lo + offs.toList.length = hi + 1 then (match aTab env (w.toNat - 8) q e.1 lv r L lo offs.toList 0 with
          | some t => some ((env.set (w.toNat - 8) (q.1, if q.2 ≤ lo - 1 then q.2 else lo - 1), g, lv, r, L) :: (env.set (w.toNat - 8) (if hi + 1 ≤ q.1 then q.1 else hi + 1, q.2), g, lv, r, L) :: t)
          | none => none) else none
        | _, _ => none) else none
      | _ => none
    | _ => none
def aMem (M : pMe) (e : pEn) (st : List Value) (L : pHp) : Option (Nat × List Value × pHp) := match pMem true M.1 (M.2.1.name == "<init>") e.2.1 e.2.2.2 st L with
  | some r => some r
  | none => match e.2.1 with
    | .bastore => match st with
      | v :: .int x :: .ref o :: r => match L[o]? with
        | some q => if (q.1 = 21 ∨ q.1 = 22) ∧ pInt true v = true then (pIx x q.2.length).map (fun j => (1, r, L.set o (q.1, q.2.set j aTop))) else none
        | none => none
      | _ => none
    | _ => none
/-- which family an instruction is of: 0 stack, 1 locals, 2 jumps, 3 what may lie outside, 4 heap, 5 calls, 6 ends, 7 none -/
def aKd (i : Instr) : Nat := match i with
  | .aload_n _ => 1
  | .iload_n _ => 1
  | .iconst _ => 0
  | .bipush _ => 0
  | .sipush _ => 0
  | .getfield _ => 3
  | .putfield _ => 4
  | .iload _ => 1
  | .istore_n _ => 1
  | .istore _ => 1
  | .iinc _ _ => 1
  | .lload_n _ => 1
  | .lload _ => 1
  | .lstore_n _ => 1
  | .lstore _ => 1
  | .aload _ => 1
  | .astore_n _ => 1
  | .astore _ => 1
  | .ifCond _ _ => 2
  | .if_icmp _ _ => 2
  | .goto _ => 2
  | .tableswitch _ _ _ _ => 2
  | .lookupswitch _ _ => 2
  | .invokevirtual _ => 5
  | .invokestatic _ => 5
  | .invokespecial _ => 5
  | .ireturn => 6
  | .lreturn => 6
  | .return_ => 6
  | .ldc _ => 3
  | .getstatic _ => 3
  | .arraylength => 3
  | .baload => 3
  | .iaload => 4
  | .laload => 4
  | .aaload => 4
  | .iastore => 4
  | .bastore => 4
  | .lastore => 4
  | .aastore => 4
  | .new _ => 4
  | .newarray _ => 4
  | .anewarray _ => 4
  | .ldc_w _ => 4
  | .ldc2_w _ => 4
  | .athrow => 7
  | _ => 0
def aSucc (M : pMe) (e : pEn) (env : aEv) (lv : pLv) (st : List Value) (L : pHp) (f : Nat) : Option (List aSt) := match f with
  | 0 => match aStk e.2.1 st with
    | some r => if e.2.2.1 = r.1 then some [(env, e.1 + r.1, lv, r.2, L)] else none
    | none => none
  | 1 => match pLoc true M.2.2.2.1 e.2.1 lv st with
    | some r => if e.2.2.1 = r.1 then some [(env, e.1 + r.1, r.2.1, r.2.2, L)] else none
    | none => none
  | 2 => aJmp e env lv st L
  | 3 => match pXtr e.2.1 e.2.2.2 st with
    | some r => if e.2.2.1 = r.1 then some [(env, e.1 + r.1, lv, r.2, L)] else none
    | none => match aMem M e st L with
      | some r => if e.2.2.1 = r.1 then some [(env, e.1 + r.1, lv, r.2.1, r.2.2)] else none
      | none => none
  | _ => match aMem M e st L with
    | some r => if e.2.2.1 = r.1 then some [(env, e.1 + r.1, lv, r.2.1, r.2.2)] else none
    | none => none
def aRet (rt : Option FieldType) (e : pEn) (st : List Value) : Option (Option Value) := match pRet rt e st with
  | some r => some r
  | none => match e.2.1, st with
    | .ireturn, [v] => if pInt true v = true ∧ rt = some .int ∧ e.2.2.1 = 1 then some (some v) else none
    | _, _ => none
def aDrop (pc : Nat) : List pEn → List pEn
  | [] => []
  | e :: l => if e.1 = pc then e :: l else aDrop pc l
def aGo (pc : Nat) (tab tl : List pEn) : List pEn := match tl with
  | e :: _ => if e.1 = pc then tl else aDrop pc tab
  | [] => aDrop pc tab
abbrev aK : Type := aEv → Option Value → pHp → Bool
abbrev aCl : Type := Nat → List Value → aEv → pHp → aK → Bool
def aLoop (call : aCl) (M : pMe) (tab : List pEn) (k : aK) : Nat → Nat → List pEn → aEv → pLv → List Value → pHp → Bool
  | 0, _, _, _, _, _, _ => false
  | n + 1, pc, cs, env, lv, st0, L => match cs with
    | [] => false
    | e :: tl => if e.1 = pc ∧ e.2.2.2 < 99999 then
      (match aKd e.2.1 with
      | 6 => match aRet M.2.2.2.2.1 e (st0.map (aV env)) with
        | some rv => k env rv L
        | none => false
      | 5 => match pArg e (st0.map (aV env)) L with
        | some q => call q.1 q.2.1 env L (fun env' r1 L1 => aLoop call M tab k n (pc + 3) (aGo (pc + 3) tab tl) env' lv (r1.toList ++ q.2.2) L1)
        | none => match aMem M e (st0.map (aV env)) L with
          | some r => if e.2.2.1 = r.1 then aLoop call M tab k n (pc + r.1) (aGo (pc + r.1) tab tl) env lv r.2.1 r.2.2 else false
          | none => false
      | f => match aSucc M e env lv (st0.map (aV env)) L f with
        | some l => l.all (fun t => aLoop call M tab k n t.2.1 (aGo t.2.1 tab tl) t.1 t.2.2.1 t.2.2.2.1 t.2.2.2.2)
        | none => false) else false
abbrev aSm : Type := Nat → List Value → pHp → Option (Option Value × pHp)
/-- a call with unknowns, at most d deep, at most N instructions in each method; 'sm' knows some calls' ends ahead -/
def aEx (sm : aSm) (N : Nat) : Nat → aCl
  | 0 => fun _ _ _ _ _ => false
  | d + 1 => fun K as env L k => match sm K as L with
    | some r => k env r.1 r.2
    | none => decide ((lg_sl as).length ≤ (pMt K).2.2.2.1) && aLoop (aEx sm N d) (pMt K) (pTs.getD K []) k N 0 (pTs.getD K []) env (lv_args 0 as) [] L
