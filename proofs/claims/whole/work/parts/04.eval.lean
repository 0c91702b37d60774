/-! THE PURE MACHINE: whole numbers, cells by their order of making; no frame, no table -/
abbrev PV : Type := Int ⊕ (Int ⊕ Int)
abbrev vI (x : Int) : PV := Sum.inl x
abbrev vL (x : Int) : PV := Sum.inr (Sum.inl x)
abbrev vR (r : Int) : PV := Sum.inr (Sum.inr r)
abbrev PL : Type := List (Option PV)
abbrev Hp : Type := Int → Int → Int
abbrev Shp : Type := List (Nat × Nat)
def up (w : Hp) (r i x : Int) : Hp := fun a j => if a = r ∧ j = i then x else w a j
def w32 (z : Int) : Int := Int.bmod z 4294967296
def w64 (z : Int) : Int := Int.bmod z 18446744073709551616
def iDiv (x y : Int) : Int := w32 (Int.tdiv x y)
def iRem (x y : Int) : Int := w32 (x - w32 (iDiv x y * y))
def lDiv (x y : Int) : Int := w64 (Int.tdiv x y)
def lRem (x y : Int) : Int := w64 (x - w64 (lDiv x y * y))
def iAnd (x y : Int) : Int := (Int32.ofInt x &&& Int32.ofInt y).toInt
def iOr (x y : Int) : Int := (Int32.ofInt x ||| Int32.ofInt y).toInt
def iXor (x y : Int) : Int := (Int32.ofInt x ^^^ Int32.ofInt y).toInt
def iShl (x y : Int) : Int := (Int32.ofInt x <<< (Int32.ofInt y &&& 31)).toInt
def iShr (x y : Int) : Int := (Int32.ofInt x >>> (Int32.ofInt y &&& 31)).toInt
def iUshr (x y : Int) : Int := ((Int32.ofInt x).toUInt32 >>> ((Int32.ofInt y).toUInt32 &&& Int32.toUInt32 31)).toInt32.toInt
def iB (x : Int) : Int := Int.bmod x 256
def lCmp (x y : Int) : Int := if x < y then -1 else if x = y then 0 else 1
/-- a store of one word's value into local i: a long that began just ahead is gone -/
def lset (ls : PL) (i : Nat) (v : PV) : PL :=
  let l1 := ls.set i (some v)
  match i with
  | 0 => l1
  | j + 1 => match l1[j]? with
    | some (some (Sum.inr (Sum.inl _))) => l1.set j none
    | _ => l1
def lset2 (ls : PL) (i : Nat) (v : PV) : PL := (lset ls i v).set (i + 1) none
/-- kinds of fields: 0 int, 1 long, 2 reference, 3 boolean -/
def FK : List (List Nat) := [[2, 2], [1, 1, 2, 1], [0, 2], [0, 0, 0, 0, 0, 0, 0, 2, 2, 2, 2, 2, 2, 2, 2], [2, 2], [2, 2, 2], [2, 0], [2, 0], [0, 0, 0, 2],
  [2, 2, 2, 2, 2, 2, 2, 2, 2, 2, 2, 2, 2, 0, 0], [0, 2, 0, 1, 1, 2, 2, 2, 2, 2, 0, 0, 0, 2, 2, 2, 2, 0, 0, 3, 2, 2, 2, 0, 2, 2, 2, 2, 2, 2, 2, 2, 2, 2, 1, 1, 1, 1]]
def fk (ci k : Nat) : Nat := (FK.getD ci []).getD k 9
/-- a value of a kind out of a cell -/
def tagd (k : Nat) (x : Int) : Option PV := match k with
  | 0 => some (vI x)
  | 1 => some (vL x)
  | 2 => some (vR x)
  | 3 => some (vI x)
  | _ => none
/-- the number that goes into a cell of a kind -/
def untag (k : Nat) (v : PV) : Option Int := match k, v with
  | 0, Sum.inl x => some x
  | 1, Sum.inr (Sum.inl x) => some x
  | 2, Sum.inr (Sum.inr r) => some r
  | 3, Sum.inl x => if x = 0 ∨ x = 1 then some x else none
  | _, _ => none
def shAt (sh : Shp) (r : Int) : Option (Nat × Nat) := if 0 ≤ r then sh[r.toNat]? else none
/-- load from an array: the kinds of array cells that an instruction reads -/
def ldArr (sh : Shp) (ks : List Nat) (ro : List Int) (r i : Int) (w : Hp) : Option Int :=
  if 0 ≤ r then match sh[r.toNat]? with
    | some (k, n) => if ks.contains k = true ∧ 0 ≤ i ∧ i < n then some (w r i) else none
    | none => none
  else if ro.contains r = true ∧ 0 ≤ i ∧ i < w r (-1) then some (w r i) else none
def stArr (sh : Shp) (ks : List Nat) (r i : Int) : Bool :=
  match shAt sh r with
  | some (k, n) => ks.contains k && decide (0 ≤ i ∧ i < n)
  | none => false
abbrev R1 : Type := Option (Nat × PL × List PV × Hp)
def tgt (b : Prop) [Decidable b] (x : Int) (nx : Nat) : Nat := if b then x.toNat else nx
/-- one instruction that neither makes a cell, nor calls, nor returns -/
def step1 (sh : Shp) (ins : Instr) (len : Nat) (x : Int) (pc : Nat) (ls : PL) (st : List PV) (w : Hp) : R1 :=
  match ins with
  | .aload_n k => match ls[k.val]? with
    | some (some (Sum.inr (Sum.inr r))) => if r = -1 then none else some (pc + len, ls, vR r :: st, w)
    | _ => none
  | .aload k => match ls[k]? with
    | some (some (Sum.inr (Sum.inr r))) => if r = -1 then none else some (pc + len, ls, vR r :: st, w)
    | _ => none
  | .iload_n k => match ls[k.val]? with
    | some (some (Sum.inl a)) => some (pc + len, ls, vI a :: st, w)
    | _ => none
  | .iload k => match ls[k]? with
    | some (some (Sum.inl a)) => some (pc + len, ls, vI a :: st, w)
    | _ => none
  | .lload_n k => match ls[k.val]? with
    | some (some (Sum.inr (Sum.inl a))) => some (pc + len, ls, vL a :: st, w)
    | _ => none
  | .lload k => match ls[k]? with
    | some (some (Sum.inr (Sum.inl a))) => some (pc + len, ls, vL a :: st, w)
    | _ => none
  | .istore_n k => match st with
    | Sum.inl a :: st => if k.val < ls.length then some (pc + len, lset ls k.val (vI a), st, w) else none
    | _ => none
  | .istore k => match st with
    | Sum.inl a :: st => if k < ls.length then some (pc + len, lset ls k (vI a), st, w) else none
    | _ => none
  | .astore_n k => match st with
    | Sum.inr (Sum.inr r) :: st => if r = -1 then none else if k.val < ls.length then some (pc + len, lset ls k.val (vR r), st, w) else none
    | _ => none
  | .lstore_n k => match st with
    | Sum.inr (Sum.inl a) :: st => if k.val + 1 < ls.length then some (pc + len, lset2 ls k.val (vL a), st, w) else none
    | _ => none
  | .lstore k => match st with
    | Sum.inr (Sum.inl a) :: st => if k + 1 < ls.length then some (pc + len, lset2 ls k (vL a), st, w) else none
    | _ => none
  | .iinc k n => match ls[k]? with
    | some (some (Sum.inl a)) => some (pc + len, lset ls k (vI (w32 (a + w32 n))), st, w)
    | _ => none
  | .iconst n => some (pc + len, ls, vI (w32 n) :: st, w)
  | .bipush n => some (pc + len, ls, vI (iB n) :: st, w)
  | .sipush n => some (pc + len, ls, vI (Int.bmod n 65536) :: st, w)
  | .ldc _ => some (pc + len, ls, vI (w32 x) :: st, w)
  | .ldc_w _ => some (pc + len, ls, vI (w32 x) :: st, w)
  | .ldc2_w _ => some (pc + len, ls, vL (w64 x) :: st, w)
  | .lconst n => some (pc + len, ls, vL n.val :: st, w)
  | .aconst_null => some (pc + len, ls, vR (-1) :: st, w)
  | .dup => match st with
    | Sum.inl a :: st => some (pc + len, ls, vI a :: vI a :: st, w)
    | Sum.inr (Sum.inr a) :: st => some (pc + len, ls, vR a :: vR a :: st, w)
    | _ => none
  | .dup2 => match st with
    | Sum.inl a :: Sum.inr (Sum.inr b) :: st => some (pc + len, ls, vI a :: vR b :: vI a :: vR b :: st, w)
    | _ => none
  | .pop => match st with
    | Sum.inl _ :: st => some (pc + len, ls, st, w)
    | _ => none
  | .iadd => match st with
    | Sum.inl b :: Sum.inl a :: st => some (pc + len, ls, vI (w32 (a + b)) :: st, w)
    | _ => none
  | .isub => match st with
    | Sum.inl b :: Sum.inl a :: st => some (pc + len, ls, vI (w32 (a - b)) :: st, w)
    | _ => none
  | .imul => match st with
    | Sum.inl b :: Sum.inl a :: st => some (pc + len, ls, vI (w32 (a * b)) :: st, w)
    | _ => none
  | .idiv => match st with
    | Sum.inl b :: Sum.inl a :: st => if b = 0 then none else some (pc + len, ls, vI (iDiv a b) :: st, w)
    | _ => none
  | .irem => match st with
    | Sum.inl b :: Sum.inl a :: st => if b = 0 then none else some (pc + len, ls, vI (iRem a b) :: st, w)
    | _ => none
  | .ineg => match st with
    | Sum.inl a :: st => some (pc + len, ls, vI (w32 (-a)) :: st, w)
    | _ => none
  | .iand => match st with
    | Sum.inl b :: Sum.inl a :: st => some (pc + len, ls, vI (iAnd a b) :: st, w)
    | _ => none
  | .ior => match st with
    | Sum.inl b :: Sum.inl a :: st => some (pc + len, ls, vI (iOr a b) :: st, w)
    | _ => none
  | .ixor => match st with
    | Sum.inl b :: Sum.inl a :: st => some (pc + len, ls, vI (iXor a b) :: st, w)
    | _ => none
  | .ishl => match st with
    | Sum.inl b :: Sum.inl a :: st => some (pc + len, ls, vI (iShl a b) :: st, w)
    | _ => none
  | .ishr => match st with
    | Sum.inl b :: Sum.inl a :: st => some (pc + len, ls, vI (iShr a b) :: st, w)
    | _ => none
  | .iushr => match st with
    | Sum.inl b :: Sum.inl a :: st => some (pc + len, ls, vI (iUshr a b) :: st, w)
    | _ => none
  | .i2l => match st with
    | Sum.inl a :: st => some (pc + len, ls, vL a :: st, w)
    | _ => none
  | .l2i => match st with
    | Sum.inr (Sum.inl a) :: st => some (pc + len, ls, vI (w32 a) :: st, w)
    | _ => none
  | .i2b => match st with
    | Sum.inl a :: st => some (pc + len, ls, vI (iB a) :: st, w)
    | _ => none
  | .ladd => match st with
    | Sum.inr (Sum.inl b) :: Sum.inr (Sum.inl a) :: st => some (pc + len, ls, vL (w64 (a + b)) :: st, w)
    | _ => none
  | .lmul => match st with
    | Sum.inr (Sum.inl b) :: Sum.inr (Sum.inl a) :: st => some (pc + len, ls, vL (w64 (a * b)) :: st, w)
    | _ => none
  | .ldiv => match st with
    | Sum.inr (Sum.inl b) :: Sum.inr (Sum.inl a) :: st => if b = 0 then none else some (pc + len, ls, vL (lDiv a b) :: st, w)
    | _ => none
  | .lrem => match st with
    | Sum.inr (Sum.inl b) :: Sum.inr (Sum.inl a) :: st => if b = 0 then none else some (pc + len, ls, vL (lRem a b) :: st, w)
    | _ => none
  | .lcmp => match st with
    | Sum.inr (Sum.inl b) :: Sum.inr (Sum.inl a) :: st => some (pc + len, ls, vI (lCmp a b) :: st, w)
    | _ => none
  | .goto _ => some (x.toNat, ls, st, w)
  | .ifCond c _ => match st with
    | Sum.inl a :: st => match c with
      | .eq => some (tgt (a = 0) x (pc + len), ls, st, w)
      | .ne => some (tgt (a ≠ 0) x (pc + len), ls, st, w)
      | .lt => some (tgt (a < 0) x (pc + len), ls, st, w)
      | .ge => some (tgt (0 ≤ a) x (pc + len), ls, st, w)
      | .gt => some (tgt (0 < a) x (pc + len), ls, st, w)
      | .le => some (tgt (a ≤ 0) x (pc + len), ls, st, w)
    | _ => none
  | .if_icmp c _ => match st with
    | Sum.inl b :: Sum.inl a :: st => match c with
      | .eq => some (tgt (a = b) x (pc + len), ls, st, w)
      | .ne => some (tgt (a ≠ b) x (pc + len), ls, st, w)
      | .lt => some (tgt (a < b) x (pc + len), ls, st, w)
      | .ge => some (tgt (b ≤ a) x (pc + len), ls, st, w)
      | .gt => some (tgt (b < a) x (pc + len), ls, st, w)
      | .le => some (tgt (a ≤ b) x (pc + len), ls, st, w)
    | _ => none
  | .ifnull _ => match st with
    | Sum.inr (Sum.inr r) :: st => if r = -1 then none else some (pc + len, ls, st, w)
    | _ => none
  | .tableswitch dflt lo hi offs => match st with
    | Sum.inl a :: st => if a < lo ∨ hi < a then some (((pc : Int) + dflt).toNat, ls, st, w) else match offs[(a - lo).toNat]? with
      | some o => some (((pc : Int) + o).toNat, ls, st, w)
      | none => none
    | _ => none
  | .getfield _ => match st with
    | Sum.inr (Sum.inr r) :: st => if shAt sh r = some (0, (x / 100).toNat) then match tagd (fk (x / 100).toNat (x % 100).toNat) (w r (x % 100)) with
        | some v => some (pc + len, ls, v :: st, w)
        | none => none
      else none
    | _ => none
  | .putfield _ => match st with
    | v :: Sum.inr (Sum.inr r) :: st => if shAt sh r = some (0, (x / 100).toNat) then match untag (fk (x / 100).toNat (x % 100).toNat) v with
        | some z => some (pc + len, ls, st, up w r (x % 100) z)
        | none => none
      else none
    | _ => none
  | .getstatic _ => some (pc + len, ls, vR x :: st, w)
  | .arraylength => match st with
    | Sum.inr (Sum.inr r) :: st => if 0 ≤ r then match sh[r.toNat]? with
        | some (k + 1, n) => if n < 2147483648 then some (pc + len, ls, vI n :: st, w) else none
        | _ => none
      else if (r = -2 ∨ r = -3 ∨ r = -4 ∨ r = -5) ∧ 0 ≤ w r (-1) then some (pc + len, ls, vI (w r (-1)) :: st, w) else none
    | _ => none
  | .iaload => match st with
    | Sum.inl i :: Sum.inr (Sum.inr r) :: st => match ldArr sh [1] [-2, -4, -5] r i w with
      | some v => some (pc + len, ls, vI v :: st, w)
      | none => none
    | _ => none
  | .caload => match st with
    | Sum.inl i :: Sum.inr (Sum.inr r) :: st => match ldArr sh [] [-3] r i w with
      | some v => some (pc + len, ls, vI v :: st, w)
      | none => none
    | _ => none
  | .baload => match st with
    | Sum.inl i :: Sum.inr (Sum.inr r) :: st => match ldArr sh [3, 4] [] r i w with
      | some v => some (pc + len, ls, vI v :: st, w)
      | none => none
    | _ => none
  | .laload => match st with
    | Sum.inl i :: Sum.inr (Sum.inr r) :: st => match ldArr sh [2] [] r i w with
      | some v => some (pc + len, ls, vL v :: st, w)
      | none => none
    | _ => none
  | .aaload => match st with
    | Sum.inl i :: Sum.inr (Sum.inr r) :: st => match ldArr sh [5, 6, 7] [] r i w with
      | some v => some (pc + len, ls, vR v :: st, w)
      | none => none
    | _ => none
  | .iastore => match st with
    | Sum.inl v :: Sum.inl i :: Sum.inr (Sum.inr r) :: st => if stArr sh [1] r i = true then some (pc + len, ls, st, up w r i v) else none
    | _ => none
  | .lastore => match st with
    | Sum.inr (Sum.inl v) :: Sum.inl i :: Sum.inr (Sum.inr r) :: st => if stArr sh [2] r i = true then some (pc + len, ls, st, up w r i v) else none
    | _ => none
  | .bastore => match st with
    | Sum.inl v :: Sum.inl i :: Sum.inr (Sum.inr r) :: st => if stArr sh [3] r i = true then some (pc + len, ls, st, up w r i (iB v))
      else if stArr sh [4] r i = true ∧ (v = 0 ∨ v = 1) then some (pc + len, ls, st, up w r i v) else none
    | _ => none
  | .aastore => match st with
    | Sum.inr (Sum.inr v) :: Sum.inl i :: Sum.inr (Sum.inr r) :: st =>
      if stArr sh [5] r i = true ∧ shAt sh v = some (0, 7) then some (pc + len, ls, st, up w r i v)
      else if stArr sh [6] r i = true ∧ shAt sh v = some (0, 3) then some (pc + len, ls, st, up w r i v) else none
    | _ => none
  | .invokespecial _ => match st with
    | Sum.inr (Sum.inr r) :: st => if x = -1 ∧ r ≠ -1 ∧ st.length ≤ 4 then some (pc + len, ls, st, w) else none
    | _ => none
  | .invokestatic _ => if x = -2 then match st with
    | Sum.inl n :: Sum.inl dp :: Sum.inr (Sum.inr d) :: Sum.inl sp :: Sum.inr (Sum.inr s) :: st => match shAt sh s, shAt sh d with
      | some (1, n0), some (1, n1) => if 0 ≤ n ∧ 0 ≤ sp ∧ 0 ≤ dp ∧ sp + n ≤ n0 ∧ dp + n ≤ n1 ∧ st.length ≤ 4 then
          some (pc + len, ls, st, fun a j => if a = d ∧ dp ≤ j ∧ j < dp + n then w s (sp + (j - dp)) else w a j) else none
      | _, _ => none
    | _ => none
    else if x = -3 then match st with
    | Sum.inl b :: Sum.inl a :: st => if st.length ≤ 4 then some (pc + len, ls, vI (if a < b then b else a) :: st, w) else none
    | _ => none
    else if x = -4 then match st with
    | Sum.inl b :: Sum.inl a :: st => if st.length ≤ 4 then some (pc + len, ls, vI (if b < a then b else a) :: st, w) else none
    | _ => none
    else if x = -5 then match st with
    | Sum.inl a :: st => if st.length ≤ 4 then some (pc + len, ls, vI (if 0 ≤ a then a else w32 (0 - a)) :: st, w) else none
    | _ => none
    else none
  | _ => none
def rowOf (mi pc : Nat) : Option Row := (RT.getD mi []).find? (fun r => Nat.beq r.1 pc)
def mPop (j : Nat) : Nat := if mKind j = 0 then mPar j else mPar j + 1
def spread : List PV → PL
  | [] => []
  | Sum.inr (Sum.inl a) :: l => some (vL a) :: none :: spread l
  | v :: l => some v :: spread l
def entryLs (j : Nat) (as : List PV) : PL := spread as ++ List.replicate (mLoc j - (spread as).length) none
def callOf (ins : Instr) (x : Int) : Option Nat := match ins with
  | .invokevirtual _ => if 0 ≤ x then some x.toNat else none
  | .invokestatic _ => if 0 ≤ x then some x.toNat else none
  | .invokespecial _ => if 0 ≤ x then some x.toNat else none
  | _ => none
/-- the receiver is of the callee's class; a static one has none -/
def recvOk (sh : Shp) (j : Nat) (as : List PV) : Bool := match mKind j with
  | 0 => true
  | 1 => match as with
    | Sum.inr (Sum.inr r) :: _ => decide (shAt sh r = some (0, mCls j))
    | _ => false
  | 2 => match as with
    | Sum.inr (Sum.inr r) :: _ => decide (shAt sh r = some (0, mCls j))
    | _ => false
  | _ => false
def retOf (mi : Nat) (ins : Instr) (st : List PV) : Option (Option PV) := match ins with
  | .ireturn => match st with
    | [Sum.inl a] => if mRet mi = 1 ∨ (mRet mi = 2 ∧ (a = 0 ∨ a = 1)) then some (some (vI a)) else none
    | _ => none
  | .lreturn => match st with
    | [Sum.inr (Sum.inl a)] => if mRet mi = 3 then some (some (vL a)) else none
    | _ => none
  | .return_ => match st with
    | [] => if mRet mi = 0 then some none else none
    | _ => none
  | _ => none
def fill (w : Hp) (r : Int) (f : Int → Int) : Hp := fun a j => if a = r then f j else w a j
/-- an instruction that makes cells -/
def allocOf (sh : Shp) (ins : Instr) (x : Int) (st : List PV) (w : Hp) : Option (List PV × Shp × Hp) := match ins with
  | .new _ => if x.toNat < 11 then some (vR sh.length :: st, sh ++ [(0, x.toNat)], fill w sh.length (fun j => if fk x.toNat j.toNat = 2 then -1 else 0)) else none
  | .newarray t => match st with
    | Sum.inl n :: st => if 0 ≤ n ∧ n ≤ 10000 then match t with
        | .int => some (vR sh.length :: st, sh ++ [(1, n.toNat)], fill w sh.length (fun _ => 0))
        | .long => some (vR sh.length :: st, sh ++ [(2, n.toNat)], fill w sh.length (fun _ => 0))
        | .byte => some (vR sh.length :: st, sh ++ [(3, n.toNat)], fill w sh.length (fun _ => 0))
        | .boolean => some (vR sh.length :: st, sh ++ [(4, n.toNat)], fill w sh.length (fun _ => 0))
        | _ => none
      else none
    | _ => none
  | .anewarray _ => match st with
    | Sum.inl n :: st => if 0 ≤ n ∧ n ≤ 10000 ∧ (x = 5 ∨ x = 6) then some (vR sh.length :: st, sh ++ [(x.toNat, n.toNat)], fill w sh.length (fun _ => -1)) else none
    | _ => none
  | .multianewarray _ d => match st with
    | Sum.inl k :: Sum.inl n :: st => if 0 ≤ n ∧ n ≤ 100 ∧ 0 ≤ k ∧ k ≤ 1000 ∧ d = 2 ∧ sh.any (fun q => Nat.beq q.1 1) = true then
        some (vR sh.length :: st, sh ++ ((7, n.toNat) :: List.replicate n.toNat (1, k.toNat)),
          fun a j => if a = sh.length then (if 0 ≤ j ∧ j < n then (sh.length : Int) + 1 + j else -1) else if (sh.length : Int) < a ∧ a ≤ sh.length + n then 0 else w a j) else none
    | _ => none
  | _ => none
/-- the machine: fuel, depth of calls, method, place, locals, stack, shapes, cells -/
def ev : Nat → Nat → Nat → Nat → PL → List PV → Shp → Hp → Option (Option PV × Shp × Hp)
  | 0, _, _, _, _, _, _, _ => none
  | n + 1, d, mi, pc, ls, st, sh, w => match rowOf mi pc with
    | none => none
    | some (_, ins, len, x, _) => match callOf ins x with
      | some j => match d with
        | 0 => none
        | d' + 1 => if mPop j ≤ st.length ∧ (st.drop (mPop j)).length ≤ 4 ∧ recvOk sh j (st.take (mPop j)).reverse = true ∧ j < 230 ∧ 0 < j ∧ (spread (st.take (mPop j)).reverse).length ≤ mLoc j then
            match ev n d' j 0 (entryLs j (st.take (mPop j)).reverse) [] sh w with
            | none => none
            | some (v, sh1, w1) => ev n (d' + 1) mi (pc + len) ls (v.toList ++ st.drop (mPop j)) sh1 w1
          else none
      | none => match retOf mi ins st with
        | some v => some (v, sh, w)
        | none => match allocOf sh ins x st w with
          | some (st', sh', w') => ev n d mi (pc + len) ls st' sh' w'
          | none => match step1 sh ins len x pc ls st w with
            | some (pc', ls', st', w') => ev n d mi pc' ls' st' sh w'
            | none => none
