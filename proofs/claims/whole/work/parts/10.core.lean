/-! what an instruction asks and does, blocks, methods -/
def up2 {α : Type} (f : Nat → Nat → α) (p k : Nat) (v : α) : Nat → Nat → α := fun a b => if a = p then (if b = k then v else f a b) else f a b
def xVal (h : xHp) (p k : Nat) (ty : FieldType) : Value := match ty with
  | .long => .long (h.2.2.1 p k)
  | .object _ => va_rf (h.2.2.2 p k)
  | .array _ => va_rf (h.2.2.2 p k)
  | _ => .int (h.2.1 p k)
def xFits (ty : FieldType) (v : Value) : Prop := match ty, v with
  | .long, .long _ => True
  | .object _, .ref _ => True
  | .array _, .ref _ => True
  | .int, .int _ => True
  | .boolean, .int x => x = 0 ∨ x = 1
  | _, _ => False
def xPut (h : xHp) (p k : Nat) (v : Value) : xHp := match v with
  | .int x => (h.1, up2 h.2.1 p k x, h.2.2.1, h.2.2.2)
  | .long x => (h.1, h.2.1, up2 h.2.2.1 p k x, h.2.2.2)
  | .ref q => (h.1, h.2.1, h.2.2.1, up2 h.2.2.2 p k (some q))
  | _ => h
def xNew (h : xHp) : xHp := (h.1 + 1, va_up h.2.1 h.1 (fun _ => 0), va_up h.2.2.1 h.1 (fun _ => 0), va_up h.2.2.2 h.1 (fun _ => none))
abbrev xU : Value := .float 0
/-- a long whose second half lies at i is gone -/
def xClr (ls : List Value) (i : Nat) : List Value := match i with
  | 0 => ls
  | j + 1 => match ls[j]? with
    | some (.long _) => ls.set j xU
    | some (.double _) => ls.set j xU
    | _ => ls
def xSt1 (ls : List Value) (i : Nat) (v : Value) : List Value := (xClr ls i).set i v
def xSt2 (ls : List Value) (i : Nat) (v : Value) : List Value := ((xClr ls i).set i v).set (i + 1) xU
abbrev xO : Type := Option (Prop × List Value × List Value × xHp)
def xLdI (ls st : List Value) (h : xHp) (i : Nat) : xO := match ls[i]? with
  | some (.int x) => some (True, ls, .int x :: st, h)
  | _ => none
def xLdL (ls st : List Value) (h : xHp) (i : Nat) : xO := match ls[i]? with
  | some (.long x) => some (True, ls, .long x :: st, h)
  | _ => none
def xLdA (ls st : List Value) (h : xHp) (i : Nat) : xO := match ls[i]? with
  | some (.ref x) => some (True, ls, .ref x :: st, h)
  | _ => none
def xStI (ls st : List Value) (h : xHp) (i : Nat) : xO := match st with
  | .int x :: st => some (i < ls.length, xSt1 ls i (.int x), st, h)
  | _ => none
def xStA (ls st : List Value) (h : xHp) (i : Nat) : xO := match st with
  | .ref x :: st => some (i < ls.length, xSt1 ls i (.ref x), st, h)
  | _ => none
def xStL (ls st : List Value) (h : xHp) (i : Nat) : xO := match st with
  | .long x :: st => some (i + 1 < ls.length, xSt2 ls i (.long x), st, h)
  | _ => none
def xGf (ls st : List Value) (h : xHp) (a b p : Nat) : xO := if a = 100 then (if b = 0 then some (1000 ≤ p ∧ p < 1013, ls, .ref (p + 1000) :: st, h) else some (1000 ≤ p ∧ p < 1013, ls, .int 0 :: st, h)) else some (xKd p = a ∧ p < h.1, ls, xVal h p b (xFt a b) :: st, h)
def xRl (n : Nat) (v : Value) : Prop := match v with
  | .ref q => q < n
  | _ => True
def xPf (ls st : List Value) (h : xHp) (a b p : Nat) (x : Value) : xO := some (xKd p = a ∧ p < h.1 ∧ xFits (xFt a b) x ∧ xRl h.1 x, ls, st, xPut h p b x)
def xIl (xs : xSc) (ls st : List Value) (h : xHp) (a p : Nat) (i : Int32) : xO := if a = 3000 then some (p = 3000 ∧ vp_in i 6, ls, .int (xAb.getD i.toNatClampNeg 0) :: st, h) else if a = 5000 then some (p = 5000 ∧ vp_in i xs.1, ls, .int (xs.2 i.toNatClampNeg) :: st, h) else some (xKd p = 7 ∧ p < h.1 ∧ vp_in i (xLn p), ls, .int (h.2.1 p i.toNatClampNeg) :: st, h)
def xBl2 (ls st : List Value) (h : xHp) (a p : Nat) (i : Int32) : xO := if a = 2000 then some (2000 ≤ p ∧ p < 2013 ∧ vp_in i (xSn.getD (p - 2000) 0), ls, .int ((xSb.getD (p - 2000) []).getD i.toNatClampNeg 0) :: st, h) else some (xKd p = 8 ∧ p < h.1 ∧ vp_in i (xLn p), ls, .int (h.2.1 p i.toNatClampNeg) :: st, h)
def xAl2 (ls st : List Value) (h : xHp) (p : Nat) (i : Int32) : xO := some ((xKd p = 9 ∨ xKd p = 10) ∧ p < h.1 ∧ vp_in i (xLn p), ls, va_rf (h.2.2.2 p i.toNatClampNeg) :: st, h)
def xIs (ls st : List Value) (h : xHp) (p : Nat) (i x : Int32) : xO := some (xKd p = 7 ∧ p < h.1 ∧ vp_in i (xLn p), ls, st, xPut h p i.toNatClampNeg (.int x))
def xBs (ls st : List Value) (h : xHp) (p : Nat) (i x : Int32) : xO := some (xKd p = 8 ∧ p < h.1 ∧ vp_in i (xLn p) ∧ (x = 0 ∨ x = 1), ls, st, xPut h p i.toNatClampNeg (.int x))
def xAs (ls st : List Value) (h : xHp) (p q : Nat) (i : Int32) : xO := some ((xKd p = 9 ∧ xKd q = 2 ∨ xKd p = 10 ∧ xKd q = 4) ∧ p < h.1 ∧ q < h.1 ∧ vp_in i (xLn p), ls, st, xPut h p i.toNatClampNeg (.ref q))
def xLe (xs : xSc) (ls st : List Value) (h : xHp) (a p : Nat) : xO := if a = 2000 then some (2000 ≤ p ∧ p < 2013, ls, .int (Int32.ofNat (xSn.getD (p - 2000) 0)) :: st, h) else if a = 5000 then some (p = 5000, ls, .int (Int32.ofNat xs.1) :: st, h) else some (6 < xKd p ∧ xKd p < 11 ∧ p < h.1, ls, .int (Int32.ofNat (xLn p)) :: st, h)
def xRcv (rk n p : Nat) : Prop := rk = 98 ∨ rk = 100 ∧ 1000 ≤ p ∧ p < 1013 ∨ rk < 7 ∧ xKd p = rk ∧ p < n
/-- an instruction that goes on to the next: what it asks, and the state behind it -/
def xS (xs : xSc) (lim : Nat) (ls st : List Value) (h : xHp) (a b : Nat) (v : Int32) (w : Int64) (ins : Instr) : xO := match ins with
  | .iload i => xLdI ls st h i
  | .iload_n i => xLdI ls st h i.val
  | .lload i => xLdL ls st h i
  | .lload_n i => xLdL ls st h i.val
  | .aload i => xLdA ls st h i
  | .aload_n i => xLdA ls st h i.val
  | .istore i => xStI ls st h i
  | .istore_n i => xStI ls st h i.val
  | .astore i => xStA ls st h i
  | .astore_n i => xStA ls st h i.val
  | .lstore i => xStL ls st h i
  | .iinc i n => match ls[i]? with
    | some (.int x) => some (i < ls.length, xSt1 ls i (.int (x + v)), st, h)
    | _ => none
  | .iconst _ => some (True, ls, .int v :: st, h)
  | .bipush _ => some (True, ls, .int v :: st, h)
  | .sipush _ => some (True, ls, .int v :: st, h)
  | .ldc _ => if a = 0 then some (True, ls, .int v :: st, h) else some (1000 ≤ a, ls, .ref a :: st, h)
  | .ldc_w _ => some (True, ls, .int v :: st, h)
  | .lconst _ => some (True, ls, .long w :: st, h)
  | .ldc2_w _ => some (True, ls, .long w :: st, h)
  | .iadd => match st with
    | .int y :: .int x :: st => some (True, ls, .int (x + y) :: st, h)
    | _ => none
  | .isub => match st with
    | .int y :: .int x :: st => some (True, ls, .int (x - y) :: st, h)
    | _ => none
  | .imul => match st with
    | .int y :: .int x :: st => some (True, ls, .int (x * y) :: st, h)
    | _ => none
  | .idiv => match st with
    | .int y :: .int x :: st => some (¬ y = 0, ls, .int (x / y) :: st, h)
    | _ => none
  | .irem => match st with
    | .int y :: .int x :: st => some (¬ y = 0, ls, .int (x - x / y * y) :: st, h)
    | _ => none
  | .ineg => match st with
    | .int x :: st => some (True, ls, .int (-x) :: st, h)
    | _ => none
  | .iand => match st with
    | .int y :: .int x :: st => some (True, ls, .int (x &&& y) :: st, h)
    | _ => none
  | .ior => match st with
    | .int y :: .int x :: st => some (True, ls, .int (x ||| y) :: st, h)
    | _ => none
  | .ixor => match st with
    | .int y :: .int x :: st => some (True, ls, .int (x ^^^ y) :: st, h)
    | _ => none
  | .ishl => match st with
    | .int y :: .int x :: st => some (True, ls, .int (x <<< (y &&& 31)) :: st, h)
    | _ => none
  | .ishr => match st with
    | .int y :: .int x :: st => some (True, ls, .int (x >>> (y &&& 31)) :: st, h)
    | _ => none
  | .iushr => match st with
    | .int y :: .int x :: st => some (True, ls, .int ((x.toUInt32 >>> (y.toUInt32 &&& Int32.toUInt32 31)).toInt32) :: st, h)
    | _ => none
  | .ladd => match st with
    | .long y :: .long x :: st => some (True, ls, .long (x + y) :: st, h)
    | _ => none
  | .lsub => match st with
    | .long y :: .long x :: st => some (True, ls, .long (x - y) :: st, h)
    | _ => none
  | .lmul => match st with
    | .long y :: .long x :: st => some (True, ls, .long (x * y) :: st, h)
    | _ => none
  | .ldiv => match st with
    | .long y :: .long x :: st => some (¬ y = 0, ls, .long (x / y) :: st, h)
    | _ => none
  | .lrem => match st with
    | .long y :: .long x :: st => some (¬ y = 0, ls, .long (x - x / y * y) :: st, h)
    | _ => none
  | .lcmp => match st with
    | .long y :: .long x :: st => some (True, ls, .int (lg_cmp x y) :: st, h)
    | _ => none
  | .i2l => match st with
    | .int x :: st => some (True, ls, .long x.toInt64 :: st, h)
    | _ => none
  | .l2i => match st with
    | .long x :: st => some (True, ls, .int x.toInt32 :: st, h)
    | _ => none
  | .i2b => match st with
    | .int x :: st => some (True, ls, .int x.toInt8.toInt32 :: st, h)
    | _ => none
  | .i2s => match st with
    | .int x :: st => some (True, ls, .int x.toInt16.toInt32 :: st, h)
    | _ => none
  | .i2c => match st with
    | .int x :: st => some (True, ls, .int (x.toUInt32 % 65536).toInt32 :: st, h)
    | _ => none
  | .getstatic _ => if a = 1 then some (v = 1, ls, .int v :: st, h) else if a = 3000 then some (True, ls, .ref 3000 :: st, h) else if a = 4000 then some (True, ls, .retAddr 0 :: st, h) else none
  | .dup => match st with
    | x :: st => some (x.category = 1, ls, x :: x :: st, h)
    | _ => none
  | .pop => match st with
    | x :: st => some (x.category = 1, ls, st, h)
    | _ => none
  | .dup_x1 => match st with
    | x :: y :: st => some (x.category = 1 ∧ y.category = 1, ls, x :: y :: x :: st, h)
    | _ => none
  | .dup2 => match st with
    | x :: y :: st => some (x.category = 1 ∧ y.category = 1, ls, x :: y :: x :: y :: st, h)
    | _ => none
  | .getfield _ => match st with
    | .ref p :: st => xGf ls st h a b p
    | _ => none
  | .putfield _ => match st with
    | x :: .ref p :: st => xPf ls st h a b p x
    | _ => none
  | .iaload => match st with
    | .int i :: .ref p :: st => xIl xs ls st h a p i
    | _ => none
  | .baload => match st with
    | .int i :: .ref p :: st => xBl2 ls st h a p i
    | _ => none
  | .aaload => match st with
    | .int i :: .ref p :: st => xAl2 ls st h p i
    | _ => none
  | .iastore => match st with
    | .int x :: .int i :: .ref p :: st => xIs ls st h p i x
    | _ => none
  | .bastore => match st with
    | .int x :: .int i :: .ref p :: st => xBs ls st h p i x
    | _ => none
  | .aastore => match st with
    | .ref q :: .int i :: .ref p :: st => xAs ls st h p q i
    | _ => none
  | .arraylength => match st with
    | .ref p :: st => xLe xs ls st h a p
    | _ => none
  | .new _ => some (xKd h.1 = a ∧ h.1 + 1 ≤ lim, ls, .ref h.1 :: st, xNew h)
  | .newarray _ => match st with
    | .int z :: st => some (xKd h.1 = a ∧ h.1 + 1 ≤ lim ∧ ¬ z < 0 ∧ z.toNatClampNeg = xLn h.1 ∧ xLn h.1 ≤ 1000, ls, .ref h.1 :: st, xNew h)
    | _ => none
  | .anewarray _ => match st with
    | .int z :: st => some (xKd h.1 = a ∧ h.1 + 1 ≤ lim ∧ ¬ z < 0 ∧ z.toNatClampNeg = xLn h.1 ∧ xLn h.1 ≤ 1000, ls, .ref h.1 :: st, xNew h)
    | _ => none
  | _ => none
def xC (c : ClassFile.Cond) (x y : Int32) : Prop := match c with
  | .eq => x = y
  | .ne => ¬ x = y
  | .lt => x < y
  | .ge => y ≤ x
  | .gt => y < x
  | .le => x ≤ y
def xSw (K : Nat → Prop) (d : Nat) (x : Int32) : List (Int32 × Nat) → Prop
  | [] => K d
  | (k, t) :: l => (x = k → K t) ∧ (¬ x = k → xSw K d x l)
/-- what an int must be to be answered (b: 0 int, 1 boolean, 2 char, 3 byte) -/
def xRc (b : Nat) (x : Int32) : Prop := match b with
  | 0 => True
  | 1 => x = 0 ∨ x = 1
  | 2 => narrow .char (.int x) = .int x
  | _ => narrow .byte (.int x) = .int x
def xPush (r : Value) (st : List Value) : List Value := match r with
  | .null => st
  | v => v :: st
abbrev xT : Type := Nat → List Value → xHp → (Value → xHp → Prop) → Prop
/-- System.arraycopy of ints -/
def xCp2 (st : List Value) (h : xHp) (p q : Nat) (sp dp n : Int32) : Option (Prop × List Value × xHp) := some ((xKd p = 7 ∧ xKd q = 7 ∧ p < h.1 ∧ q < h.1) ∧ (¬ sp < 0 ∧ ¬ dp < 0 ∧ ¬ n < 0) ∧ sp.toNatClampNeg + n.toNatClampNeg ≤ xLn p ∧ dp.toNatClampNeg + n.toNatClampNeg ≤ xLn q ∧ (st.map fun v => v.category).sum ≤ 8, st,
      (h.1, va_up h.2.1 q (va_cpy (h.2.1 p) (h.2.1 q) sp.toNatClampNeg dp.toNatClampNeg n.toNatClampNeg), h.2.2.1, h.2.2.2))
def xCpy (st : List Value) (h : xHp) : Option (Prop × List Value × xHp) := match st with
  | .int n :: .int dp :: .ref q :: .int sp :: .ref p :: st => xCp2 st h p q sp dp n
  | _ => none
/-- Math.max, Math.min -/
def xMm (mx : Bool) (st : List Value) : Option (Prop × List Value) := match st with
  | .int y :: .int x :: st => some ((st.map fun v => v.category).sum ≤ 8, .int (if mx then (if x < y then y else x) else (if y < x then y else x)) :: st)
  | _ => none
/-- how many cells a method makes, and the kind of its receiver (99: none asked) -/
def xInv (al rk : Nat → Nat) (C : xT) (lim a b : Nat) (st : List Value) (h : xHp) (k : List Value → xHp → Prop) : Prop :=
  if a = 999 then (match st with
    | .ref _ :: st => (st.map fun v => v.category).sum ≤ 8 ∧ k st h
    | _ => False)
  else if a = 998 then (match xCpy st h with
    | some (c, st, h) => c ∧ k st h
    | none => False)
  else if a = 997 then False
  else if a = 996 then (match xMm true st with
    | some (c, st) => c ∧ k st h
    | none => False)
  else if a = 995 then (match xMm false st with
    | some (c, st) => c ∧ k st h
    | none => False)
  else b ≤ st.length ∧ ((st.drop b).map fun v => v.category).sum ≤ 8 ∧ h.1 + al a ≤ lim ∧ (rk a = 99 ∨ ∃ p, (st.take b).reverse.head? = some (.ref p) ∧ xRcv (rk a) h.1 p) ∧
    C a (st.take b).reverse h (fun r h1 => k (xPush r (st.drop b)) h1)
/-- an instruction: what must hold so that k holds behind it, K where it jumps, Q where the method ends -/
def xStep (xs : xSc) (al rk : Nat → Nat) (C : xT) (lim : Nat) (K : Nat → List Value → List Value → xHp → Prop) (Q : Value → xHp → Prop) (a b : Nat) (v : Int32) (w : Int64) (ts : List (Int32 × Nat)) (ls st : List Value) (h : xHp) (k : List Value → List Value → xHp → Prop) (ins : Instr) : Prop := match ins with
  | .goto _ => K a ls st h
  | .ifCond c _ => match st with
    | .int x :: st => (xC c x 0 → K a ls st h) ∧ (¬ xC c x 0 → k ls st h)
    | _ => False
  | .if_icmp c _ => match st with
    | .int y :: .int x :: st => (xC c x y → K a ls st h) ∧ (¬ xC c x y → k ls st h)
    | _ => False
  | .tableswitch _ _ _ _ => match st with
    | .int x :: st => xSw (fun t => K t ls st h) a x ts
    | _ => False
  | .lookupswitch _ _ => match st with
    | .int x :: st => xSw (fun t => K t ls st h) a x ts
    | _ => False
  | .ireturn => match st with
    | [.int x] => xRc b x ∧ h.1 = lim ∧ Q (.int x) h
    | _ => False
  | .lreturn => match st with
    | [.long x] => h.1 = lim ∧ Q (.long x) h
    | _ => False
  | .return_ => match st with
    | [] => h.1 = lim ∧ Q .null h
    | _ => False
  | .invokevirtual _ => xInv al rk C lim a b st h (fun st h => k ls st h)
  | .invokestatic _ => xInv al rk C lim a b st h (fun st h => k ls st h)
  | .invokespecial _ => xInv al rk C lim a b st h (fun st h => k ls st h)
  | ins => match xS xs lim ls st h a b v w ins with
    | some (c, ls, st, h) => c ∧ k ls st h
    | none => False
/-- a block, from an instruction on: what must hold so that Q holds at the method's end (K: what must hold where it leaves the block) -/
def xR (xs : xSc) (al rk : Nat → Nat) (C : xT) (lim : Nat) (K : Nat → List Value → List Value → xHp → Prop) (ep : Nat) (Q : Value → xHp → Prop) : List xEl → List Value → List Value → xHp → Prop
  | [], ls, st, h => K ep ls st h
  | (ins, (_, _, a, b), v, w, ts) :: l, ls, st, h => xStep xs al rk C lim K Q a b v w ts ls st h (fun ls st h => xR xs al rk C lim K ep Q l ls st h) ins
/-- from a block's head on, to the method's end -/
def xE (xs : xSc) (al rk : Nat → Nat) (C : xT) (lim : Nat) (Q : Value → xHp → Prop) (bl : xBk) (pc : Nat) (ls st : List Value) (h : xHp) : Prop :=
  ∀ P : Nat → List Value → List Value → xHp → Prop, (∀ pc ep l ls st h, (pc, ep, l) ∈ bl → xR xs al rk C lim P ep Q l ls st h → P pc ls st h) → P pc ls st h
def xEnt (n : Nat) (vs : List Value) : List Value := (vs.flatMap fun v => if v.category = 2 then [v, xU] else [v]) ++ List.replicate (n - (vs.flatMap fun v => if v.category = 2 then [v, xU] else [v]).length) xU
/-- a method, calls at most so deep: what must hold so that Q holds of answer and state -/
def xM (xs : xSc) (al rk ml : Nat → Nat) (bl : Nat → xBk) : Nat → xT
  | 0 => fun _ _ _ _ => False
  | m + 1 => fun i vs h Q => (vs.flatMap fun v => if v.category = 2 then [v, xU] else [v]).length ≤ ml i ∧ xE xs al rk (xM xs al rk ml bl m) (h.1 + al i) Q (bl i) 0 (xEnt (ml i) vs) [] h
