/-! THE SMALL MACHINE: the heap as a list of objects and arrays (a reference is a place in it); one instruction as functions of locals, stack and heap. Tags: 0 .. 12 the classes, 20 int[], 21 byte[], 22 boolean[], 23 long[], 24 Bend[], 25 Goods[]. 'sy': ints that are not known may stand there, as floats. -/
abbrev pOb : Type := Nat × List Value
abbrev pHp : Type := List pOb
abbrev pLv : Type := List (Nat × Value)
def pGet : pLv → Nat → Option Value
  | [], _ => none
  | q :: l, i => if q.1 = i then some q.2 else pGet l i
def pPut1 (lv : pLv) (i : Nat) (v : Value) : pLv := (i, v) :: lv.filter (fun q => !(q.1 == i) && !(q.1 + 1 == i && q.2.category == 2))
def pPut2 (lv : pLv) (i : Nat) (v : Value) : pLv := (i, v) :: lv.filter (fun q => !(q.1 == i) && (!(q.1 == i + 1) && !(q.1 + 1 == i && q.2.category == 2)))
def pCmp (c : Jvm.ClassFile.Cond) (x y : Int32) : Bool := match c with
  | .eq => decide (x = y)
  | .ne => decide (¬ x = y)
  | .lt => decide (x < y)
  | .ge => decide (y ≤ x)
  | .gt => decide (y < x)
  | .le => decide (x ≤ y)
def pTo (pc : Nat) (off : Int) : Option Nat := if 0 ≤ (pc : Int) + off then some ((pc : Int) + off).toNat else none
def pIx (i : Int32) (n : Nat) : Option Nat := if i < 0 ∨ n ≤ i.toNatClampNeg then none else some i.toNatClampNeg
def pInt (sy : Bool) (v : Value) : Bool := match v with
  | .int _ => true
  | .float u => sy && decide (8 ≤ u.toNat)
  | _ => false
/-- references outside the heap: 0 the text of the language, 1 its bytes, 2 a thing of the JDK's that is never looked at -/
def pOut (v : Value) : Bool := match v with
  | .float u => decide (u.toNat < 2)
  | _ => false
def pLang : List Value := [.int 98, .int 101, .int 110, .int 100, .int 32, .int 103, .int 111, .int 111, .int 100, .int 115, .int 32, .int 98, .int 97, .int 103, .int 32, .int 100, .int 101, .int 112, .int 111, .int 116, .int 32, .int 116, .int 104, .int 105, .int 101, .int 102, .int 32, .int 119, .int 97, .int 114, .int 109, .int 32, .int 104, .int 111, .int 114, .int 115, .int 101, .int 32, .int 114, .int 111, .int 112, .int 101, .int 32, .int 115, .int 116, .int 111, .int 110, .int 101, .int 32, .int 115, .int 101, .int 101, .int 100, .int 32, .int 108, .int 97, .int 119, .int 32, .int 119, .int 105, .int 100, .int 101, .int 32, .int 119, .int 105, .int 110, .int 100, .int 32, .int 108, .int 105, .int 102, .int 116, .int 32, .int 112, .int 117, .int 108, .int 108, .int 32, .int 111, .int 114, .int 32, .int 97, .int 110, .int 100, .int 32, .int 110, .int 111, .int 116, .int 32, .int 115, .int 105, .int 122, .int 101, .int 32, .int 104, .int 101, .int 105, .int 103, .int 104, .int 116, .int 32, .int 97, .int 105, .int 114, .int 32, .int 104, .int 111, .int 117, .int 114, .int 32, .int 103, .int 117, .int 115, .int 116, .int 32, .int 115, .int 108, .int 111, .int 112, .int 101, .int 32]
def pRef (v : Value) : Bool := match v with
  | .ref _ => true
  | v => pOut v
/-- instructions of the stack alone: length, new stack -/
def pStk (i : Instr) (st : List Value) : Option (Nat × List Value) := match i with
  | .iconst n => some (1, .int (Int32.ofInt n) :: st)
  | .bipush n => some (2, .int (Int8.ofInt n).toInt32 :: st)
  | .sipush n => some (3, .int (Int16.ofInt n).toInt32 :: st)
  | .lconst n => some (1, .long (Int64.ofNat (n : Nat)) :: st)
  | .iadd => match st with | .int y :: .int x :: r => some (1, .int (x + y) :: r) | _ => none
  | .isub => match st with | .int y :: .int x :: r => some (1, .int (x - y) :: r) | _ => none
  | .imul => match st with | .int y :: .int x :: r => some (1, .int (x * y) :: r) | _ => none
  | .iand => match st with | .int y :: .int x :: r => some (1, .int (x &&& y) :: r) | _ => none
  | .ior => match st with | .int y :: .int x :: r => some (1, .int (x ||| y) :: r) | _ => none
  | .ixor => match st with | .int y :: .int x :: r => some (1, .int (x ^^^ y) :: r) | _ => none
  | .ishl => match st with | .int y :: .int x :: r => some (1, .int (x <<< (y &&& 31)) :: r) | _ => none
  | .ishr => match st with | .int y :: .int x :: r => some (1, .int (x >>> (y &&& 31)) :: r) | _ => none
  | .idiv => match st with | .int y :: .int x :: r => if y = 0 then none else some (1, .int (x / y) :: r) | _ => none
  | .irem => match st with | .int y :: .int x :: r => if y = 0 then none else some (1, .int (x - x / y * y) :: r) | _ => none
  | .ineg => match st with | .int x :: r => some (1, .int (-x) :: r) | _ => none
  | .i2l => match st with | .int x :: r => some (1, .long x.toInt64 :: r) | _ => none
  | .l2i => match st with | .long x :: r => some (1, .int x.toInt32 :: r) | _ => none
  | .i2c => match st with | .int x :: r => some (1, .int (x.toUInt32 % 65536).toInt32 :: r) | _ => none
  | .i2b => match st with | .int x :: r => some (1, .int x.toInt8.toInt32 :: r) | _ => none
  | .ladd => match st with | .long y :: .long x :: r => some (1, .long (x + y) :: r) | _ => none
  | .lsub => match st with | .long y :: .long x :: r => some (1, .long (x - y) :: r) | _ => none
  | .lmul => match st with | .long y :: .long x :: r => some (1, .long (x * y) :: r) | _ => none
  | .land => match st with | .long y :: .long x :: r => some (1, .long (x &&& y) :: r) | _ => none
  | .ldiv => match st with | .long y :: .long x :: r => if y = 0 then none else some (1, .long (x / y) :: r) | _ => none
  | .lrem => match st with | .long y :: .long x :: r => if y = 0 then none else some (1, .long (x - x / y * y) :: r) | _ => none
  | .lneg => match st with | .long x :: r => some (1, .long (-x) :: r) | _ => none
  | .lcmp => match st with | .long y :: .long x :: r => some (1, .int (lg_cmp x y) :: r) | _ => none
  | .dup => match st with | v :: r => if v.category = 1 then some (1, v :: v :: r) else none | _ => none
  | .pop => match st with | v :: r => if v.category = 1 then some (1, r) else none | _ => none
  | .dup2 => match st with | v :: w :: r => if v.category = 1 ∧ w.category = 1 then some (1, v :: w :: v :: w :: r) else none | _ => none
  | _ => none
/-- instructions of locals: length, new locals, new stack -/
def pLoc (sy : Bool) (mx : Nat) (i : Instr) (lv : pLv) (st : List Value) : Option (Nat × pLv × List Value) := match i with
  | .iload_n k => match pGet lv k with | some v => if pInt sy v = true then some (1, lv, v :: st) else none | none => none
  | .iload k => match pGet lv k with | some v => if pInt sy v = true then some (2, lv, v :: st) else none | none => none
  | .lload_n k => match pGet lv k with | some (.long x) => some (1, lv, .long x :: st) | _ => none
  | .lload k => match pGet lv k with | some (.long x) => some (2, lv, .long x :: st) | _ => none
  | .aload_n k => match pGet lv k with | some v => if pRef v = true then some (1, lv, v :: st) else none | none => none
  | .aload k => match pGet lv k with | some v => if pRef v = true then some (2, lv, v :: st) else none | none => none
  | .istore_n k => match st with | v :: r => if pInt sy v = true ∧ (k : Nat) < mx then some (1, pPut1 lv k v, r) else none | _ => none
  | .istore k => match st with | v :: r => if pInt sy v = true ∧ k < mx then some (2, pPut1 lv k v, r) else none | _ => none
  | .lstore_n k => match st with | .long x :: r => if (k : Nat) + 1 < mx then some (1, pPut2 lv k (.long x), r) else none | _ => none
  | .lstore k => match st with | .long x :: r => if k + 1 < mx then some (2, pPut2 lv k (.long x), r) else none | _ => none
  | .astore_n k => match st with | .ref x :: r => if (k : Nat) < mx then some (1, pPut1 lv k (.ref x), r) else none | _ => none
  | .astore k => match st with | .ref x :: r => if k < mx then some (2, pPut1 lv k (.ref x), r) else none | _ => none
  | .iinc k n => match pGet lv k with | some (.int x) => if k < mx then some (3, pPut1 lv k (.int (x + Int32.ofInt n)), st) else none | _ => none
  | _ => none
/-- jumps: the next place, new stack -/
def pJmp (i : Instr) (pc len : Nat) (st : List Value) : Option (Nat × List Value) := match i with
  | .goto off => if len = 3 then (pTo pc off).map (fun t => (t, st)) else none
  | .ifCond c off => match st with | .int x :: r => if len = 3 then (pTo pc off).map (fun t => (if pCmp c x 0 = true then t else pc + 3, r)) else none | _ => none
  | .if_icmp c off => match st with | .int y :: .int x :: r => if len = 3 then (pTo pc off).map (fun t => (if pCmp c x y = true then t else pc + 3, r)) else none | _ => none
  | .tableswitch d lo hi offs => match st with
    | .int x :: r => if x.toInt < lo ∨ hi < x.toInt then (pTo pc d).map (fun t => (t, r)) else match offs[(x.toInt - lo).toNat]? with | some o => (pTo pc o).map (fun t => (t, r)) | none => none
    | _ => none
  | .lookupswitch d ps => match st with
    | .int x :: r => if (ps.toList.zip (ps.toList.drop 1)).all (fun (a, next) => a.1 < next.1) = true then (pTo pc (Op.lookupswitch.offset ps.toList d x.toInt)).map (fun t => (t, r)) else none
    | _ => none
  | _ => none
def pDef (ci : Nat) : List Value := (List.range (pN ci)).map (fun k => defaultValue (pTy ci k))
def pAty (t : Nat) : FieldType := match t with
  | 20 => .int
  | 21 => .byte
  | 22 => .boolean
  | 23 => .long
  | 24 => .object RX1
  | _ => .object RX4
def pTag (t : ArrayType) : Option Nat := match t with
  | .int => some 20
  | .byte => some 21
  | .boolean => some 22
  | .long => some 23
  | _ => none
def pNoF (v : Value) : Bool := match v with
  | .float _ => false
  | _ => true
/-- may v be put into field k of class ci, by a method of class c ('ini': a constructor) -/
def pFit (sy : Bool) (c : Nat) (ini : Bool) (ci k : Nat) (v : Value) : Bool :=
  decide (k < pN ci) && ((sy && pInt true v && pTy ci k == .int) || (pNoF v && fits (pTy ci k) v && decide (narrow (pTy ci k) v = v))) && (!(pT ci k).2.2.2 || (ini && decide ((pT ci k).1 = pR c)))
def pLd (es : List Value) (x : Int32) : Option Value := match pIx x es.length with
  | some j => es[j]?
  | none => none
/-- instructions of the heap: length, new stack, new heap -/
def pMem (sy : Bool) (c : Nat) (ini : Bool) (i : Instr) (a : Nat) (st : List Value) (L : pHp) : Option (Nat × List Value × pHp) := match i with
  | .getfield _ => match st with
    | .ref o :: r => match L[o]? with
      | some q => if q.1 = a / 100 ∧ q.1 < 13 ∧ a % 100 < pN q.1 then (q.2[a % 100]?).map (fun v => (3, v :: r, L)) else none
      | none => none
    | _ => none
  | .putfield _ => match st with
    | v :: .ref o :: r => match L[o]? with
      | some q => if q.1 = a / 100 ∧ q.1 < 13 ∧ a % 100 < q.2.length ∧ pFit sy c ini q.1 (a % 100) v = true then some (3, r, L.set o (q.1, q.2.set (a % 100) v)) else none
      | none => none
    | _ => none
  | .iaload => match st with
    | .int x :: .ref o :: r => match L[o]? with
      | some q => if q.1 = 20 then (pLd q.2 x).map (fun v => (1, v :: r, L)) else none
      | none => none
    | _ => none
  | .baload => match st with
    | .int x :: .ref o :: r => match L[o]? with
      | some q => if q.1 = 21 ∨ q.1 = 22 then (pLd q.2 x).map (fun v => (1, v :: r, L)) else none
      | none => none
    | _ => none
  | .laload => match st with
    | .int x :: .ref o :: r => match L[o]? with
      | some q => if q.1 = 23 then (pLd q.2 x).map (fun v => (1, v :: r, L)) else none
      | none => none
    | _ => none
  | .aaload => match st with
    | .int x :: .ref o :: r => match L[o]? with
      | some q => if q.1 = 24 ∨ q.1 = 25 then (pLd q.2 x).map (fun v => (1, v :: r, L)) else none
      | none => none
    | _ => none
  | .iastore => match st with
    | v :: .int x :: .ref o :: r => match L[o]? with
      | some q => if q.1 = 20 ∧ pInt sy v = true then (pIx x q.2.length).map (fun j => (1, r, L.set o (q.1, q.2.set j v))) else none
      | none => none
    | _ => none
  | .bastore => match st with
    | v :: .int x :: .ref o :: r => match L[o]? with
      | some q => if (q.1 = 21 ∨ q.1 = 22) ∧ pInt false v = true then (pIx x q.2.length).map (fun j => (1, r, L.set o (q.1, q.2.set j (narrow (pAty q.1) v)))) else none
      | none => none
    | _ => none
  | .lastore => match st with
    | .long y :: .int x :: .ref o :: r => match L[o]? with
      | some q => if q.1 = 23 then (pIx x q.2.length).map (fun j => (1, r, L.set o (q.1, q.2.set j (.long y)))) else none
      | none => none
    | _ => none
  | .aastore => match st with
    | .ref v :: .int x :: .ref o :: r => match L[o]? with
      | some q => match L[v]? with
        | some w => if (q.1 = 24 ∧ w.1 = 1) ∨ (q.1 = 25 ∧ w.1 = 4) then (pIx x q.2.length).map (fun j => (1, r, L.set o (q.1, q.2.set j (.ref v)))) else none
        | none => none
      | none => none
    | _ => none
  | .arraylength => match st with
    | .ref o :: r => match L[o]? with
      | some q => if 20 ≤ q.1 ∧ q.1 ≤ 25 then some (1, .int (Int32.ofNat q.2.length) :: r, L) else none
      | none => none
    | _ => none
  | .new _ => if a < 13 then some (3, .ref L.length :: st, L ++ [(a, pDef a)]) else none
  | .newarray t => match st with
    | .int n :: r => match pTag t with
      | some g => if n < 0 ∨ 4096 < n.toNatClampNeg then none else some (2, .ref L.length :: r, L ++ [(g, List.replicate n.toNatClampNeg (defaultValue (pAty g)))])
      | none => none
    | _ => none
  | .anewarray _ => match st with
    | .int n :: r => if (a = 24 ∨ a = 25) ∧ ¬ (n < 0 ∨ 4096 < n.toNatClampNeg) then some (3, .ref L.length :: r, L ++ [(a, List.replicate n.toNatClampNeg .null)]) else none
    | _ => none
  | .ldc _ => match pKs[a]? with | some q => some (2, .int q.2.2 :: st, L) | none => none
  | .ldc_w _ => match pKs[a]? with | some q => some (3, .int q.2.2 :: st, L) | none => none
  | .ldc2_w _ => match pK2[a]? with | some q => some (3, .long q.2.2 :: st, L) | none => none
  | .invokestatic _ => match st with
    | .int n :: .int dp :: .ref d :: .int sp :: .ref o :: r => match L[o]? with
      | some q => match L[d]? with
        | some w => if a = 5000 ∧ q.1 = 20 ∧ w.1 = 20 ∧ ¬ sp < 0 ∧ ¬ dp < 0 ∧ ¬ n < 0 ∧ sp.toNatClampNeg + n.toNatClampNeg ≤ q.2.length ∧ dp.toNatClampNeg + n.toNatClampNeg ≤ w.2.length ∧ q.2.all (pInt sy) = true ∧ w.2.all (pInt sy) = true ∧ (r.map fun v => v.category).sum ≤ 8
          then some (3, r, L.set d (w.1, w.2.take dp.toNatClampNeg ++ ((q.2.drop sp.toNatClampNeg).take n.toNatClampNeg ++ w.2.drop (dp.toNatClampNeg + n.toNatClampNeg)))) else none
        | none => none
      | none => none
    | _ => none
  | .invokespecial _ => match st with
    | .ref _ :: r => if a = 4000 ∧ (r.map fun v => v.category).sum ≤ 8 then some (3, r, L) else none
    | _ => none
  | _ => none
/-- instructions of what lies outside: length, new stack -/
def pXtr (i : Instr) (a : Nat) (st : List Value) : Option (Nat × List Value) := match i with
  | .ldc _ => if a = 900 then some (2, .float 0 :: st) else none
  | .getstatic _ => if a = 9100 then some (3, .int 1 :: st) else if a = 9101 then some (3, .float 2 :: st) else none
  | .getfield _ => match st with
    | .float u :: r => if u = 0 ∧ a = 9000 then some (3, .float 1 :: r) else if u = 0 ∧ a = 9001 then some (3, .int 0 :: r) else none
    | _ => none
  | .arraylength => match st with
    | .float u :: r => if u = 1 then some (1, .int (Int32.ofNat pLang.length) :: r) else none
    | _ => none
  | .baload => match st with
    | .int x :: .float u :: r => if u = 1 then (pLd pLang x).map (fun v => (1, v :: r)) else none
    | _ => none
  | _ => none
/-- one instruction that is neither a call nor a return: from locals, stack and heap to the next place, locals, stack and heap -/
def pStp (M : pMe) (e : pEn) (lv : pLv) (st : List Value) (L : pHp) (t : Nat × pLv × List Value × pHp) : Prop :=
  (∃ st', pStk e.2.1 st = some (e.2.2.1, st') ∧ t = (e.1 + e.2.2.1, lv, st', L)) ∨ (∃ lv' st', pLoc false M.2.2.2.1 e.2.1 lv st = some (e.2.2.1, lv', st') ∧ t = (e.1 + e.2.2.1, lv', st', L)) ∨ (∃ pc' st', pJmp e.2.1 e.1 e.2.2.1 st = some (pc', st') ∧ t = (pc', lv, st', L)) ∨
  (∃ st', pXtr e.2.1 e.2.2.2 st = some (e.2.2.1, st') ∧ t = (e.1 + e.2.2.1, lv, st', L)) ∨ (∃ st' L', pMem false M.1 (M.2.1.name == "<init>") e.2.1 e.2.2.2 st L = some (e.2.2.1, st', L') ∧ t = (e.1 + e.2.2.1, lv, st', L'))
/-- a call by the tables: the method, its arguments (the receiver ahead), the stack below -/
def pArg (e : pEn) (st : List Value) (L : pHp) : Option (Nat × List Value × List Value) :=
  let K := e.2.2.2 % 1000
  let n := (pMt K).2.2.2.2.2
  if e.2.2.1 = 3 ∧ e.2.2.2 < 4000 ∧ K < pMs.length ∧ n ≤ st.length then
    match e.2.1 with
    | .invokestatic _ => if ((st.drop n).map fun v => v.category).sum ≤ 8 then some (K, (st.take n).reverse, st.drop n) else none
    | .invokevirtual _ => match st.drop n with
      | .ref o :: r => if (r.map fun v => v.category).sum ≤ 8 ∧ (L[o]?).map (fun q => q.1) = some (pMt K).1 ∧ (pMt K).1 < 13 then some (K, .ref o :: (st.take n).reverse, r) else none
      | .float u :: r => if (r.map fun v => v.category).sum ≤ 8 ∧ u = 0 ∧ (pMt K).1 = 14 then some (K, .float u :: (st.take n).reverse, r) else none
      | _ => none
    | .invokespecial _ => match st.drop n with
      | .ref o :: r => if (r.map fun v => v.category).sum ≤ 8 ∧ (pMt K).2.1.name = "<init>" then some (K, .ref o :: (st.take n).reverse, r) else none
      | _ => none
    | _ => none
  else none
/-- the end of a method -/
def pRet (rt : Option FieldType) (e : pEn) (st : List Value) : Option (Option Value) := if e.2.2.1 = 1 then (match e.2.1 with
  | .ireturn => match st, rt with | [.int x], some ty => if narrow ty (.int x) = .int x then some (some (.int x)) else none | _, _ => none
  | .lreturn => match st, rt with | [.long x], some .long => some (some (.long x)) | _, _ => none
  | .return_ => match st, rt with | [], none => some none | _, _ => none
  | _ => none) else none
abbrev pCl : Type := Nat → List Value → pHp → Option Value → pHp → Prop
/-- a run of a method's body from a place on, in at most n instructions -/
def pLoop (call : pCl) (M : pMe) (tab : List pEn) : Nat → Nat → pLv → List Value → pHp → Option Value → pHp → Prop
  | 0, _, _, _, _, _, _ => False
  | n + 1, pc, lv, st, L, rv, Lf => ∃ e : pEn, e ∈ tab ∧ e.1 = pc ∧ e.2.2.2 < 99999 ∧
      ((pRet M.2.2.2.2.1 e st = some rv ∧ Lf = L) ∨
       (∃ t : Nat × pLv × List Value × pHp, pStp M e lv st L t ∧ pLoop call M tab n t.1 t.2.1 t.2.2.1 t.2.2.2 rv Lf) ∨
       (∃ (q : Nat × List Value × List Value) (r1 : Option Value) (L1 : pHp), pArg e st L = some q ∧ call q.1 q.2.1 L r1 L1 ∧ pLoop call M tab n (pc + 3) lv (r1.toList ++ q.2.2) L1 rv Lf))
/-- a call, at most d deep -/
def pEx : Nat → pCl
  | 0 => fun _ _ _ _ _ => False
  | d + 1 => fun K args L rv Lf => (lg_sl args).length ≤ (pMt K).2.2.2.1 ∧ ∃ n, pLoop (pEx d) (pMt K) (pTs.getD K []) n 0 (lv_args 0 args) [] L rv Lf
