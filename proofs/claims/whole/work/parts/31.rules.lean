/-! rules of the small machine, one an instruction: state (n, I, L, F) -/
def xIx (i : Int32) (k n : Nat) : Prop := vp_in i n ∧ i.toNatClampNeg = k
section RL
variable {xs : xSc} {al rk : Nat → Nat} {C : xT} {lim : Nat} {K : Nat → List Value → List Value → xHp → Prop} {ep : Nat} {Q : Value → xHp → Prop} {l : List xEl} {ls ls' st : List Value} {h : xHp} {pc len a b n : Nat} {v : Int32} {w : Int64} {ts : List (Int32 × Nat)} {I : Nat → Nat → Int32} {L : Nat → Nat → Int64} {F : Nat → Nat → Option Nat}
theorem r_iload {i : Nat} {x : Int32} (hl : ls[i]? = some (.int x)) (k : xR xs al rk C lim K ep Q l ls (.int x :: st) h) : xR xs al rk C lim K ep Q ((Instr.iload i, (pc, len, a, b), v, w, ts) :: l) ls st h := by
  show (match xLdI ls st h i with
    | some (c, ls, st, h) => c ∧ xR xs al rk C lim K ep Q l ls st h
    | none => False)
  unfold xLdI
  rw [hl]
  exact ⟨trivial, k⟩
theorem r_iload_n {i : Fin 4} {x : Int32} (hl : ls[i.val]? = some (.int x)) (k : xR xs al rk C lim K ep Q l ls (.int x :: st) h) : xR xs al rk C lim K ep Q ((Instr.iload_n i, (pc, len, a, b), v, w, ts) :: l) ls st h := by
  show (match xLdI ls st h i.val with
    | some (c, ls, st, h) => c ∧ xR xs al rk C lim K ep Q l ls st h
    | none => False)
  unfold xLdI
  rw [hl]
  exact ⟨trivial, k⟩
theorem r_lload {i : Nat} {x : Int64} (hl : ls[i]? = some (.long x)) (k : xR xs al rk C lim K ep Q l ls (.long x :: st) h) : xR xs al rk C lim K ep Q ((Instr.lload i, (pc, len, a, b), v, w, ts) :: l) ls st h := by
  show (match xLdL ls st h i with
    | some (c, ls, st, h) => c ∧ xR xs al rk C lim K ep Q l ls st h
    | none => False)
  unfold xLdL
  rw [hl]
  exact ⟨trivial, k⟩
theorem r_lload_n {i : Fin 4} {x : Int64} (hl : ls[i.val]? = some (.long x)) (k : xR xs al rk C lim K ep Q l ls (.long x :: st) h) : xR xs al rk C lim K ep Q ((Instr.lload_n i, (pc, len, a, b), v, w, ts) :: l) ls st h := by
  show (match xLdL ls st h i.val with
    | some (c, ls, st, h) => c ∧ xR xs al rk C lim K ep Q l ls st h
    | none => False)
  unfold xLdL
  rw [hl]
  exact ⟨trivial, k⟩
theorem r_aload {i : Nat} {x : Nat} (hl : ls[i]? = some (.ref x)) (k : xR xs al rk C lim K ep Q l ls (.ref x :: st) h) : xR xs al rk C lim K ep Q ((Instr.aload i, (pc, len, a, b), v, w, ts) :: l) ls st h := by
  show (match xLdA ls st h i with
    | some (c, ls, st, h) => c ∧ xR xs al rk C lim K ep Q l ls st h
    | none => False)
  unfold xLdA
  rw [hl]
  exact ⟨trivial, k⟩
theorem r_aload_n {i : Fin 4} {x : Nat} (hl : ls[i.val]? = some (.ref x)) (k : xR xs al rk C lim K ep Q l ls (.ref x :: st) h) : xR xs al rk C lim K ep Q ((Instr.aload_n i, (pc, len, a, b), v, w, ts) :: l) ls st h := by
  show (match xLdA ls st h i.val with
    | some (c, ls, st, h) => c ∧ xR xs al rk C lim K ep Q l ls st h
    | none => False)
  unfold xLdA
  rw [hl]
  exact ⟨trivial, k⟩
theorem r_istore {i : Nat} {x : Int32} (hi : i < ls.length) (hs : xSt1 ls i (.int x) = ls') (k : xR xs al rk C lim K ep Q l ls' st h) : xR xs al rk C lim K ep Q ((Instr.istore i, (pc, len, a, b), v, w, ts) :: l) ls (.int x :: st) h := by
  subst hs
  exact ⟨hi, k⟩
theorem r_istore_n {i : Fin 4} {x : Int32} (hi : i.val < ls.length) (hs : xSt1 ls i.val (.int x) = ls') (k : xR xs al rk C lim K ep Q l ls' st h) : xR xs al rk C lim K ep Q ((Instr.istore_n i, (pc, len, a, b), v, w, ts) :: l) ls (.int x :: st) h := by
  subst hs
  exact ⟨hi, k⟩
theorem r_astore {i : Nat} {x : Nat} (hi : i < ls.length) (hs : xSt1 ls i (.ref x) = ls') (k : xR xs al rk C lim K ep Q l ls' st h) : xR xs al rk C lim K ep Q ((Instr.astore i, (pc, len, a, b), v, w, ts) :: l) ls (.ref x :: st) h := by
  subst hs
  exact ⟨hi, k⟩
theorem r_astore_n {i : Fin 4} {x : Nat} (hi : i.val < ls.length) (hs : xSt1 ls i.val (.ref x) = ls') (k : xR xs al rk C lim K ep Q l ls' st h) : xR xs al rk C lim K ep Q ((Instr.astore_n i, (pc, len, a, b), v, w, ts) :: l) ls (.ref x :: st) h := by
  subst hs
  exact ⟨hi, k⟩
theorem r_lstore {i : Nat} {x : Int64} (hi : i + 1 < ls.length) (hs : xSt2 ls i (.long x) = ls') (k : xR xs al rk C lim K ep Q l ls' st h) : xR xs al rk C lim K ep Q ((Instr.lstore i, (pc, len, a, b), v, w, ts) :: l) ls (.long x :: st) h := by
  subst hs
  exact ⟨hi, k⟩
theorem r_iinc {i : Nat} {z : Int} {x : Int32} (hl : ls[i]? = some (.int x)) (hi : i < ls.length) (hs : xSt1 ls i (.int (x + v)) = ls') (k : xR xs al rk C lim K ep Q l ls' st h) : xR xs al rk C lim K ep Q ((Instr.iinc i z, (pc, len, a, b), v, w, ts) :: l) ls st h := by
  subst hs
  show (match (match ls[i]? with
    | some (.int x) => some (i < ls.length, xSt1 ls i (.int (x + v)), st, h)
    | _ => none : xO) with
    | some (c, ls, st, h) => c ∧ xR xs al rk C lim K ep Q l ls st h
    | none => False)
  rw [hl]
  exact ⟨hi, k⟩
theorem r_iconst {i : Int} (k : xR xs al rk C lim K ep Q l ls (.int v :: st) h) : xR xs al rk C lim K ep Q ((Instr.iconst i, (pc, len, a, b), v, w, ts) :: l) ls st h := by
  exact ⟨trivial, k⟩
theorem r_bipush {i : Int} (k : xR xs al rk C lim K ep Q l ls (.int v :: st) h) : xR xs al rk C lim K ep Q ((Instr.bipush i, (pc, len, a, b), v, w, ts) :: l) ls st h := by
  exact ⟨trivial, k⟩
theorem r_sipush {i : Int} (k : xR xs al rk C lim K ep Q l ls (.int v :: st) h) : xR xs al rk C lim K ep Q ((Instr.sipush i, (pc, len, a, b), v, w, ts) :: l) ls st h := by
  exact ⟨trivial, k⟩
theorem r_ldc_w {i : Nat} (k : xR xs al rk C lim K ep Q l ls (.int v :: st) h) : xR xs al rk C lim K ep Q ((Instr.ldc_w i, (pc, len, a, b), v, w, ts) :: l) ls st h := by
  exact ⟨trivial, k⟩
theorem r_ldc {i : Nat} (ha : a = 0) (k : xR xs al rk C lim K ep Q l ls (.int v :: st) h) : xR xs al rk C lim K ep Q ((Instr.ldc i, (pc, len, a, b), v, w, ts) :: l) ls st h := by
  subst ha
  exact ⟨trivial, k⟩
theorem r_ldcS {i : Nat} (ha : 1000 ≤ a) (k : xR xs al rk C lim K ep Q l ls (.ref a :: st) h) : xR xs al rk C lim K ep Q ((Instr.ldc i, (pc, len, a, b), v, w, ts) :: l) ls st h := by
  show (match (if a = 0 then some (True, ls, .int v :: st, h) else some (1000 ≤ a, ls, .ref a :: st, h) : xO) with
    | some (c, ls, st, h) => c ∧ xR xs al rk C lim K ep Q l ls st h
    | none => False)
  rw [if_neg (by omega)]
  exact ⟨ha, k⟩
theorem r_lconst {i : Fin 2} (k : xR xs al rk C lim K ep Q l ls (.long w :: st) h) : xR xs al rk C lim K ep Q ((Instr.lconst i, (pc, len, a, b), v, w, ts) :: l) ls st h := by
  exact ⟨trivial, k⟩
theorem r_ldc2_w {i : Nat} (k : xR xs al rk C lim K ep Q l ls (.long w :: st) h) : xR xs al rk C lim K ep Q ((Instr.ldc2_w i, (pc, len, a, b), v, w, ts) :: l) ls st h := by
  exact ⟨trivial, k⟩
theorem r_iadd {x y : Int32} (k : xR xs al rk C lim K ep Q l ls (.int (x + y) :: st) h) : xR xs al rk C lim K ep Q ((Instr.iadd, (pc, len, a, b), v, w, ts) :: l) ls (.int y :: .int x :: st) h := by
  exact ⟨trivial, k⟩
theorem r_isub {x y : Int32} (k : xR xs al rk C lim K ep Q l ls (.int (x - y) :: st) h) : xR xs al rk C lim K ep Q ((Instr.isub, (pc, len, a, b), v, w, ts) :: l) ls (.int y :: .int x :: st) h := by
  exact ⟨trivial, k⟩
theorem r_imul {x y : Int32} (k : xR xs al rk C lim K ep Q l ls (.int (x * y) :: st) h) : xR xs al rk C lim K ep Q ((Instr.imul, (pc, len, a, b), v, w, ts) :: l) ls (.int y :: .int x :: st) h := by
  exact ⟨trivial, k⟩
theorem r_iand {x y : Int32} (k : xR xs al rk C lim K ep Q l ls (.int (x &&& y) :: st) h) : xR xs al rk C lim K ep Q ((Instr.iand, (pc, len, a, b), v, w, ts) :: l) ls (.int y :: .int x :: st) h := by
  exact ⟨trivial, k⟩
theorem r_ior {x y : Int32} (k : xR xs al rk C lim K ep Q l ls (.int (x ||| y) :: st) h) : xR xs al rk C lim K ep Q ((Instr.ior, (pc, len, a, b), v, w, ts) :: l) ls (.int y :: .int x :: st) h := by
  exact ⟨trivial, k⟩
theorem r_ixor {x y : Int32} (k : xR xs al rk C lim K ep Q l ls (.int (x ^^^ y) :: st) h) : xR xs al rk C lim K ep Q ((Instr.ixor, (pc, len, a, b), v, w, ts) :: l) ls (.int y :: .int x :: st) h := by
  exact ⟨trivial, k⟩
theorem r_ishl {x y : Int32} (k : xR xs al rk C lim K ep Q l ls (.int (x <<< (y &&& 31)) :: st) h) : xR xs al rk C lim K ep Q ((Instr.ishl, (pc, len, a, b), v, w, ts) :: l) ls (.int y :: .int x :: st) h := by
  exact ⟨trivial, k⟩
theorem r_ishr {x y : Int32} (k : xR xs al rk C lim K ep Q l ls (.int (x >>> (y &&& 31)) :: st) h) : xR xs al rk C lim K ep Q ((Instr.ishr, (pc, len, a, b), v, w, ts) :: l) ls (.int y :: .int x :: st) h := by
  exact ⟨trivial, k⟩
theorem r_iushr {x y : Int32} (k : xR xs al rk C lim K ep Q l ls (.int ((x.toUInt32 >>> (y.toUInt32 &&& Int32.toUInt32 31)).toInt32) :: st) h) : xR xs al rk C lim K ep Q ((Instr.iushr, (pc, len, a, b), v, w, ts) :: l) ls (.int y :: .int x :: st) h := by
  exact ⟨trivial, k⟩
theorem r_idiv {x y : Int32} (hy : ¬ y = 0) (k : xR xs al rk C lim K ep Q l ls (.int (x / y) :: st) h) : xR xs al rk C lim K ep Q ((Instr.idiv, (pc, len, a, b), v, w, ts) :: l) ls (.int y :: .int x :: st) h := by
  exact ⟨hy, k⟩
theorem r_irem {x y : Int32} (hy : ¬ y = 0) (k : xR xs al rk C lim K ep Q l ls (.int (x - x / y * y) :: st) h) : xR xs al rk C lim K ep Q ((Instr.irem, (pc, len, a, b), v, w, ts) :: l) ls (.int y :: .int x :: st) h := by
  exact ⟨hy, k⟩
theorem r_ineg {x : Int32} (k : xR xs al rk C lim K ep Q l ls (.int (-x) :: st) h) : xR xs al rk C lim K ep Q ((Instr.ineg, (pc, len, a, b), v, w, ts) :: l) ls (.int x :: st) h := by
  exact ⟨trivial, k⟩
theorem r_ladd {x y : Int64} (k : xR xs al rk C lim K ep Q l ls (.long (x + y) :: st) h) : xR xs al rk C lim K ep Q ((Instr.ladd, (pc, len, a, b), v, w, ts) :: l) ls (.long y :: .long x :: st) h := by
  exact ⟨trivial, k⟩
theorem r_lsub {x y : Int64} (k : xR xs al rk C lim K ep Q l ls (.long (x - y) :: st) h) : xR xs al rk C lim K ep Q ((Instr.lsub, (pc, len, a, b), v, w, ts) :: l) ls (.long y :: .long x :: st) h := by
  exact ⟨trivial, k⟩
theorem r_lmul {x y : Int64} (k : xR xs al rk C lim K ep Q l ls (.long (x * y) :: st) h) : xR xs al rk C lim K ep Q ((Instr.lmul, (pc, len, a, b), v, w, ts) :: l) ls (.long y :: .long x :: st) h := by
  exact ⟨trivial, k⟩
theorem r_ldiv {x y : Int64} (hy : ¬ y = 0) (k : xR xs al rk C lim K ep Q l ls (.long (x / y) :: st) h) : xR xs al rk C lim K ep Q ((Instr.ldiv, (pc, len, a, b), v, w, ts) :: l) ls (.long y :: .long x :: st) h := by
  exact ⟨hy, k⟩
theorem r_lrem {x y : Int64} (hy : ¬ y = 0) (k : xR xs al rk C lim K ep Q l ls (.long (x - x / y * y) :: st) h) : xR xs al rk C lim K ep Q ((Instr.lrem, (pc, len, a, b), v, w, ts) :: l) ls (.long y :: .long x :: st) h := by
  exact ⟨hy, k⟩
theorem r_lcmp {x y : Int64} (k : xR xs al rk C lim K ep Q l ls (.int (lg_cmp x y) :: st) h) : xR xs al rk C lim K ep Q ((Instr.lcmp, (pc, len, a, b), v, w, ts) :: l) ls (.long y :: .long x :: st) h := by
  exact ⟨trivial, k⟩
theorem r_i2l {x : Int32} (k : xR xs al rk C lim K ep Q l ls (.long x.toInt64 :: st) h) : xR xs al rk C lim K ep Q ((Instr.i2l, (pc, len, a, b), v, w, ts) :: l) ls (.int x :: st) h := by
  exact ⟨trivial, k⟩
theorem r_l2i {x : Int64} (k : xR xs al rk C lim K ep Q l ls (.int x.toInt32 :: st) h) : xR xs al rk C lim K ep Q ((Instr.l2i, (pc, len, a, b), v, w, ts) :: l) ls (.long x :: st) h := by
  exact ⟨trivial, k⟩
theorem r_i2b {x : Int32} (k : xR xs al rk C lim K ep Q l ls (.int x.toInt8.toInt32 :: st) h) : xR xs al rk C lim K ep Q ((Instr.i2b, (pc, len, a, b), v, w, ts) :: l) ls (.int x :: st) h := by
  exact ⟨trivial, k⟩
theorem r_i2s {x : Int32} (k : xR xs al rk C lim K ep Q l ls (.int x.toInt16.toInt32 :: st) h) : xR xs al rk C lim K ep Q ((Instr.i2s, (pc, len, a, b), v, w, ts) :: l) ls (.int x :: st) h := by
  exact ⟨trivial, k⟩
theorem r_i2c {x : Int32} (k : xR xs al rk C lim K ep Q l ls (.int (x.toUInt32 % 65536).toInt32 :: st) h) : xR xs al rk C lim K ep Q ((Instr.i2c, (pc, len, a, b), v, w, ts) :: l) ls (.int x :: st) h := by
  exact ⟨trivial, k⟩
theorem r_dup {x : Value} (hx : x.category = 1) (k : xR xs al rk C lim K ep Q l ls (x :: x :: st) h) : xR xs al rk C lim K ep Q ((Instr.dup, (pc, len, a, b), v, w, ts) :: l) ls (x :: st) h := by
  exact ⟨hx, k⟩
theorem r_pop {x : Value} (hx : x.category = 1) (k : xR xs al rk C lim K ep Q l ls st h) : xR xs al rk C lim K ep Q ((Instr.pop, (pc, len, a, b), v, w, ts) :: l) ls (x :: st) h := by
  exact ⟨hx, k⟩
theorem r_dup_x1 {x y : Value} (hx : x.category = 1) (hy : y.category = 1) (k : xR xs al rk C lim K ep Q l ls (x :: y :: x :: st) h) : xR xs al rk C lim K ep Q ((Instr.dup_x1, (pc, len, a, b), v, w, ts) :: l) ls (x :: y :: st) h := by
  exact ⟨⟨hx, hy⟩, k⟩
theorem r_dup2 {x y : Value} (hx : x.category = 1) (hy : y.category = 1) (k : xR xs al rk C lim K ep Q l ls (x :: y :: x :: y :: st) h) : xR xs al rk C lim K ep Q ((Instr.dup2, (pc, len, a, b), v, w, ts) :: l) ls (x :: y :: st) h := by
  exact ⟨⟨hx, hy⟩, k⟩
theorem r_getstatic1 {i : Nat} (ha : a = 1) (hv : v = 1) (k : xR xs al rk C lim K ep Q l ls (.int v :: st) h) : xR xs al rk C lim K ep Q ((Instr.getstatic i, (pc, len, a, b), v, w, ts) :: l) ls st h := by
  subst ha
  exact ⟨hv, k⟩
theorem r_getstatic3 {i : Nat} (ha : a = 3000) (k : xR xs al rk C lim K ep Q l ls (.ref 3000 :: st) h) : xR xs al rk C lim K ep Q ((Instr.getstatic i, (pc, len, a, b), v, w, ts) :: l) ls st h := by
  subst ha
  exact ⟨trivial, k⟩
theorem r_getstatic4 {i : Nat} (ha : a = 4000) (k : xR xs al rk C lim K ep Q l ls (.retAddr 0 :: st) h) : xR xs al rk C lim K ep Q ((Instr.getstatic i, (pc, len, a, b), v, w, ts) :: l) ls st h := by
  subst ha
  exact ⟨trivial, k⟩
theorem r_getI {i p : Nat} {x : Int32} (ha : ¬ a = 100) (ht : xFt a b = .int) (hk : xKd p = a) (hp : p < n) (hv : I p b = x) (k : xR xs al rk C lim K ep Q l ls (.int x :: st) (n, I, L, F)) : xR xs al rk C lim K ep Q ((Instr.getfield i, (pc, len, a, b), v, w, ts) :: l) ls (.ref p :: st) (n, I, L, F) := by
  subst hv
  show (match xGf ls st (n, I, L, F) a b p with
    | some (c, ls, st, h) => c ∧ xR xs al rk C lim K ep Q l ls st h
    | none => False)
  unfold xGf
  rw [if_neg ha]
  refine ⟨⟨hk, hp⟩, ?_⟩
  rw [ht]
  exact k
theorem r_getZ {i p : Nat} {x : Int32} (ha : ¬ a = 100) (ht : xFt a b = .boolean) (hk : xKd p = a) (hp : p < n) (hv : I p b = x) (k : xR xs al rk C lim K ep Q l ls (.int x :: st) (n, I, L, F)) : xR xs al rk C lim K ep Q ((Instr.getfield i, (pc, len, a, b), v, w, ts) :: l) ls (.ref p :: st) (n, I, L, F) := by
  subst hv
  show (match xGf ls st (n, I, L, F) a b p with
    | some (c, ls, st, h) => c ∧ xR xs al rk C lim K ep Q l ls st h
    | none => False)
  unfold xGf
  rw [if_neg ha]
  refine ⟨⟨hk, hp⟩, ?_⟩
  rw [ht]
  exact k
theorem r_getJ {i p : Nat} {x : Int64} (ha : ¬ a = 100) (ht : xFt a b = .long) (hk : xKd p = a) (hp : p < n) (hv : L p b = x) (k : xR xs al rk C lim K ep Q l ls (.long x :: st) (n, I, L, F)) : xR xs al rk C lim K ep Q ((Instr.getfield i, (pc, len, a, b), v, w, ts) :: l) ls (.ref p :: st) (n, I, L, F) := by
  subst hv
  show (match xGf ls st (n, I, L, F) a b p with
    | some (c, ls, st, h) => c ∧ xR xs al rk C lim K ep Q l ls st h
    | none => False)
  unfold xGf
  rw [if_neg ha]
  refine ⟨⟨hk, hp⟩, ?_⟩
  rw [ht]
  exact k
theorem r_getA {i p q : Nat} (ha : ¬ a = 100) (hv : xVal (n, I, L, F) p b (xFt a b) = .ref q) (hk : xKd p = a) (hp : p < n) (k : xR xs al rk C lim K ep Q l ls (.ref q :: st) (n, I, L, F)) : xR xs al rk C lim K ep Q ((Instr.getfield i, (pc, len, a, b), v, w, ts) :: l) ls (.ref p :: st) (n, I, L, F) := by
  show (match xGf ls st (n, I, L, F) a b p with
    | some (c, ls, st, h) => c ∧ xR xs al rk C lim K ep Q l ls st h
    | none => False)
  unfold xGf
  rw [if_neg ha]
  refine ⟨⟨hk, hp⟩, ?_⟩
  rw [hv]
  exact k
theorem r_getS {i p : Nat} (ha : a = 100) (hb : b = 0) (hp : 1000 ≤ p ∧ p < 1013) (k : xR xs al rk C lim K ep Q l ls (.ref (p + 1000) :: st) h) : xR xs al rk C lim K ep Q ((Instr.getfield i, (pc, len, a, b), v, w, ts) :: l) ls (.ref p :: st) h := by
  subst ha
  subst hb
  exact ⟨hp, k⟩
theorem r_getC {i p : Nat} (ha : a = 100) (hb : b = 1) (hp : 1000 ≤ p ∧ p < 1013) (k : xR xs al rk C lim K ep Q l ls (.int 0 :: st) h) : xR xs al rk C lim K ep Q ((Instr.getfield i, (pc, len, a, b), v, w, ts) :: l) ls (.ref p :: st) h := by
  subst ha
  subst hb
  exact ⟨hp, k⟩
theorem r_putI {i p : Nat} {x : Int32} (ht : xFt a b = .int) (hk : xKd p = a) (hp : p < n) (k : xR xs al rk C lim K ep Q l ls st (n, up2 I p b x, L, F)) : xR xs al rk C lim K ep Q ((Instr.putfield i, (pc, len, a, b), v, w, ts) :: l) ls (.int x :: .ref p :: st) (n, I, L, F) := by
  exact ⟨⟨hk, hp, by rw [ht]; trivial, trivial⟩, k⟩
theorem r_putZ {i p : Nat} {x : Int32} (ht : xFt a b = .boolean) (hk : xKd p = a) (hp : p < n) (hx : x = 0 ∨ x = 1) (k : xR xs al rk C lim K ep Q l ls st (n, up2 I p b x, L, F)) : xR xs al rk C lim K ep Q ((Instr.putfield i, (pc, len, a, b), v, w, ts) :: l) ls (.int x :: .ref p :: st) (n, I, L, F) := by
  exact ⟨⟨hk, hp, by rw [ht]; exact hx, trivial⟩, k⟩
theorem r_putJ {i p : Nat} {x : Int64} (ht : xFt a b = .long) (hk : xKd p = a) (hp : p < n) (k : xR xs al rk C lim K ep Q l ls st (n, I, up2 L p b x, F)) : xR xs al rk C lim K ep Q ((Instr.putfield i, (pc, len, a, b), v, w, ts) :: l) ls (.long x :: .ref p :: st) (n, I, L, F) := by
  exact ⟨⟨hk, hp, by rw [ht]; trivial, trivial⟩, k⟩
theorem r_putA {i p q : Nat} (ht : xFits (xFt a b) (.ref q)) (hk : xKd p = a) (hp : p < n) (hq : q < n) (k : xR xs al rk C lim K ep Q l ls st (n, I, L, up2 F p b (some q))) : xR xs al rk C lim K ep Q ((Instr.putfield i, (pc, len, a, b), v, w, ts) :: l) ls (.ref q :: .ref p :: st) (n, I, L, F) := by
  exact ⟨⟨hk, hp, ht, hq⟩, k⟩
theorem r_iaload {p kx : Nat} {i x : Int32} (ha : ¬ a = 3000 ∧ ¬ a = 5000) (hk : xKd p = 7) (hp : p < n) (hi : xIx i kx (xLn p)) (hv : I p kx = x) (k : xR xs al rk C lim K ep Q l ls (.int x :: st) (n, I, L, F)) : xR xs al rk C lim K ep Q ((Instr.iaload, (pc, len, a, b), v, w, ts) :: l) ls (.int i :: .ref p :: st) (n, I, L, F) := by
  obtain ⟨hi, hj⟩ := hi
  subst hj
  subst hv
  show (match xIl xs ls st (n, I, L, F) a p i with
    | some (c, ls, st, h) => c ∧ xR xs al rk C lim K ep Q l ls st h
    | none => False)
  unfold xIl
  rw [if_neg ha.1, if_neg ha.2]
  exact ⟨⟨hk, hp, hi⟩, k⟩
theorem r_ialoadK {i : Int32} (ha : a = 3000) (hi : vp_in i 6) (k : xR xs al rk C lim K ep Q l ls (.int (xAb.getD i.toNatClampNeg 0) :: st) h) : xR xs al rk C lim K ep Q ((Instr.iaload, (pc, len, a, b), v, w, ts) :: l) ls (.int i :: .ref 3000 :: st) h := by
  subst ha
  exact ⟨⟨rfl, hi⟩, k⟩
theorem r_ialoadX {kx : Nat} {i : Int32} (ha : a = 5000) (hi : xIx i kx xs.1) (k : xR xs al rk C lim K ep Q l ls (.int (xs.2 kx) :: st) h) : xR xs al rk C lim K ep Q ((Instr.iaload, (pc, len, a, b), v, w, ts) :: l) ls (.int i :: .ref 5000 :: st) h := by
  obtain ⟨hi, hj⟩ := hi
  subst hj
  subst ha
  exact ⟨⟨rfl, hi⟩, k⟩
theorem r_alenX  (ha : a = 5000) (k : xR xs al rk C lim K ep Q l ls (.int (Int32.ofNat xs.1) :: st) h) : xR xs al rk C lim K ep Q ((Instr.arraylength, (pc, len, a, b), v, w, ts) :: l) ls (.ref 5000 :: st) h := by
  subst ha
  exact ⟨rfl, k⟩
theorem r_baload {p kx : Nat} {i x : Int32} (ha : ¬ a = 2000) (hk : xKd p = 8) (hp : p < n) (hi : xIx i kx (xLn p)) (hv : I p kx = x) (k : xR xs al rk C lim K ep Q l ls (.int x :: st) (n, I, L, F)) : xR xs al rk C lim K ep Q ((Instr.baload, (pc, len, a, b), v, w, ts) :: l) ls (.int i :: .ref p :: st) (n, I, L, F) := by
  obtain ⟨hi, hj⟩ := hi
  subst hj
  subst hv
  show (match xBl2 ls st (n, I, L, F) a p i with
    | some (c, ls, st, h) => c ∧ xR xs al rk C lim K ep Q l ls st h
    | none => False)
  unfold xBl2
  rw [if_neg ha]
  exact ⟨⟨hk, hp, hi⟩, k⟩
theorem r_baloadK {p : Nat} {i : Int32} (ha : a = 2000) (hp : 2000 ≤ p ∧ p < 2013) (hi : vp_in i (xSn.getD (p - 2000) 0)) (k : xR xs al rk C lim K ep Q l ls (.int ((xSb.getD (p - 2000) []).getD i.toNatClampNeg 0) :: st) h) : xR xs al rk C lim K ep Q ((Instr.baload, (pc, len, a, b), v, w, ts) :: l) ls (.int i :: .ref p :: st) h := by
  subst ha
  exact ⟨⟨hp.1, hp.2, hi⟩, k⟩
theorem r_aaload {p q kx : Nat} {i : Int32} (hk : xKd p = 9 ∨ xKd p = 10) (hp : p < n) (hi : xIx i kx (xLn p)) (hv : F p kx = some q) (k : xR xs al rk C lim K ep Q l ls (.ref q :: st) (n, I, L, F)) : xR xs al rk C lim K ep Q ((Instr.aaload, (pc, len, a, b), v, w, ts) :: l) ls (.int i :: .ref p :: st) (n, I, L, F) := by
  obtain ⟨hi, hj⟩ := hi
  subst hj
  show (match xAl2 ls st (n, I, L, F) p i with
    | some (c, ls, st, h) => c ∧ xR xs al rk C lim K ep Q l ls st h
    | none => False)
  unfold xAl2
  refine ⟨⟨hk, hp, hi⟩, ?_⟩
  show xR xs al rk C lim K ep Q l ls (va_rf (F p i.toNatClampNeg) :: st) _
  rw [hv]
  exact k
theorem r_iastore {p kx : Nat} {i x : Int32} (hk : xKd p = 7) (hp : p < n) (hi : xIx i kx (xLn p)) (k : xR xs al rk C lim K ep Q l ls st (n, up2 I p kx x, L, F)) : xR xs al rk C lim K ep Q ((Instr.iastore, (pc, len, a, b), v, w, ts) :: l) ls (.int x :: .int i :: .ref p :: st) (n, I, L, F) := by
  obtain ⟨hi, hj⟩ := hi
  subst hj
  exact ⟨⟨hk, hp, hi⟩, k⟩
theorem r_bastore {p kx : Nat} {i x : Int32} (hk : xKd p = 8) (hp : p < n) (hi : xIx i kx (xLn p)) (hx : x = 0 ∨ x = 1) (k : xR xs al rk C lim K ep Q l ls st (n, up2 I p kx x, L, F)) : xR xs al rk C lim K ep Q ((Instr.bastore, (pc, len, a, b), v, w, ts) :: l) ls (.int x :: .int i :: .ref p :: st) (n, I, L, F) := by
  obtain ⟨hi, hj⟩ := hi
  subst hj
  exact ⟨⟨hk, hp, hi, hx⟩, k⟩
theorem r_aastore {p q kx : Nat} {i : Int32} (hk : xKd p = 9 ∧ xKd q = 2 ∨ xKd p = 10 ∧ xKd q = 4) (hp : p < n) (hq : q < n) (hi : xIx i kx (xLn p)) (k : xR xs al rk C lim K ep Q l ls st (n, I, L, up2 F p kx (some q))) : xR xs al rk C lim K ep Q ((Instr.aastore, (pc, len, a, b), v, w, ts) :: l) ls (.ref q :: .int i :: .ref p :: st) (n, I, L, F) := by
  obtain ⟨hi, hj⟩ := hi
  subst hj
  exact ⟨⟨hk, hp, hq, hi⟩, k⟩
theorem r_alen {p : Nat} (ha : ¬ a = 2000 ∧ ¬ a = 5000) (hk : 6 < xKd p ∧ xKd p < 11) (hp : p < n) (k : xR xs al rk C lim K ep Q l ls (.int (Int32.ofNat (xLn p)) :: st) (n, I, L, F)) : xR xs al rk C lim K ep Q ((Instr.arraylength, (pc, len, a, b), v, w, ts) :: l) ls (.ref p :: st) (n, I, L, F) := by
  show (match xLe xs ls st (n, I, L, F) a p with
    | some (c, ls, st, h) => c ∧ xR xs al rk C lim K ep Q l ls st h
    | none => False)
  unfold xLe
  rw [if_neg ha.1, if_neg ha.2]
  exact ⟨⟨hk.1, hk.2, hp⟩, k⟩
theorem r_alenK {p : Nat} (ha : a = 2000) (hp : 2000 ≤ p ∧ p < 2013) (k : xR xs al rk C lim K ep Q l ls (.int (Int32.ofNat (xSn.getD (p - 2000) 0)) :: st) h) : xR xs al rk C lim K ep Q ((Instr.arraylength, (pc, len, a, b), v, w, ts) :: l) ls (.ref p :: st) h := by
  subst ha
  exact ⟨hp, k⟩
theorem r_new {i : Nat} (hk : xKd n = a) (hl : n + 1 ≤ lim) (k : xR xs al rk C lim K ep Q l ls (.ref n :: st) (n + 1, va_up I n (fun _ => 0), va_up L n (fun _ => 0), va_up F n (fun _ => none))) : xR xs al rk C lim K ep Q ((Instr.new i, (pc, len, a, b), v, w, ts) :: l) ls st (n, I, L, F) := by
  exact ⟨⟨hk, hl⟩, k⟩
theorem r_newarray {i : ArrayType} {z : Int32} (hk : xKd n = a) (hl : n + 1 ≤ lim) (hz : ¬ z < 0) (hz2 : z.toNatClampNeg = xLn n) (hz3 : xLn n ≤ 1000) (k : xR xs al rk C lim K ep Q l ls (.ref n :: st) (n + 1, va_up I n (fun _ => 0), va_up L n (fun _ => 0), va_up F n (fun _ => none))) : xR xs al rk C lim K ep Q ((Instr.newarray i, (pc, len, a, b), v, w, ts) :: l) ls (.int z :: st) (n, I, L, F) := by
  exact ⟨⟨hk, hl, hz, hz2, hz3⟩, k⟩
theorem r_anewarray {i : Nat} {z : Int32} (hk : xKd n = a) (hl : n + 1 ≤ lim) (hz : ¬ z < 0) (hz2 : z.toNatClampNeg = xLn n) (hz3 : xLn n ≤ 1000) (k : xR xs al rk C lim K ep Q l ls (.ref n :: st) (n + 1, va_up I n (fun _ => 0), va_up L n (fun _ => 0), va_up F n (fun _ => none))) : xR xs al rk C lim K ep Q ((Instr.anewarray i, (pc, len, a, b), v, w, ts) :: l) ls (.int z :: st) (n, I, L, F) := by
  exact ⟨⟨hk, hl, hz, hz2, hz3⟩, k⟩
theorem r_goto {i : Int} (k : K a ls st h) : xR xs al rk C lim K ep Q ((Instr.goto i, (pc, len, a, b), v, w, ts) :: l) ls st h := k
theorem r_nil (k : K ep ls st h) : xR xs al rk C lim K ep Q [] ls st h := k
theorem r_if_eq {i : Int} {x : Int32} (k1 : x = 0 → K a ls st h) (k2 : ¬ (x = 0) → xR xs al rk C lim K ep Q l ls st h) : xR xs al rk C lim K ep Q ((Instr.ifCond .eq i, (pc, len, a, b), v, w, ts) :: l) ls (.int x :: st) h := ⟨k1, k2⟩
theorem r_icmp_eq {i : Int} {x y : Int32} (k1 : x = y → K a ls st h) (k2 : ¬ (x = y) → xR xs al rk C lim K ep Q l ls st h) : xR xs al rk C lim K ep Q ((Instr.if_icmp .eq i, (pc, len, a, b), v, w, ts) :: l) ls (.int y :: .int x :: st) h := ⟨k1, k2⟩
theorem r_if_ne {i : Int} {x : Int32} (k1 : ¬ x = 0 → K a ls st h) (k2 : x = 0 → xR xs al rk C lim K ep Q l ls st h) : xR xs al rk C lim K ep Q ((Instr.ifCond .ne i, (pc, len, a, b), v, w, ts) :: l) ls (.int x :: st) h := ⟨k1, fun z => k2 (Classical.not_not.mp z)⟩
theorem r_icmp_ne {i : Int} {x y : Int32} (k1 : ¬ x = y → K a ls st h) (k2 : x = y → xR xs al rk C lim K ep Q l ls st h) : xR xs al rk C lim K ep Q ((Instr.if_icmp .ne i, (pc, len, a, b), v, w, ts) :: l) ls (.int y :: .int x :: st) h := ⟨k1, fun z => k2 (Classical.not_not.mp z)⟩
theorem r_if_lt {i : Int} {x : Int32} (k1 : x < 0 → K a ls st h) (k2 : ¬ (x < 0) → xR xs al rk C lim K ep Q l ls st h) : xR xs al rk C lim K ep Q ((Instr.ifCond .lt i, (pc, len, a, b), v, w, ts) :: l) ls (.int x :: st) h := ⟨k1, k2⟩
theorem r_icmp_lt {i : Int} {x y : Int32} (k1 : x < y → K a ls st h) (k2 : ¬ (x < y) → xR xs al rk C lim K ep Q l ls st h) : xR xs al rk C lim K ep Q ((Instr.if_icmp .lt i, (pc, len, a, b), v, w, ts) :: l) ls (.int y :: .int x :: st) h := ⟨k1, k2⟩
theorem r_if_ge {i : Int} {x : Int32} (k1 : 0 ≤ x → K a ls st h) (k2 : ¬ (0 ≤ x) → xR xs al rk C lim K ep Q l ls st h) : xR xs al rk C lim K ep Q ((Instr.ifCond .ge i, (pc, len, a, b), v, w, ts) :: l) ls (.int x :: st) h := ⟨k1, k2⟩
theorem r_icmp_ge {i : Int} {x y : Int32} (k1 : y ≤ x → K a ls st h) (k2 : ¬ (y ≤ x) → xR xs al rk C lim K ep Q l ls st h) : xR xs al rk C lim K ep Q ((Instr.if_icmp .ge i, (pc, len, a, b), v, w, ts) :: l) ls (.int y :: .int x :: st) h := ⟨k1, k2⟩
theorem r_if_gt {i : Int} {x : Int32} (k1 : 0 < x → K a ls st h) (k2 : ¬ (0 < x) → xR xs al rk C lim K ep Q l ls st h) : xR xs al rk C lim K ep Q ((Instr.ifCond .gt i, (pc, len, a, b), v, w, ts) :: l) ls (.int x :: st) h := ⟨k1, k2⟩
theorem r_icmp_gt {i : Int} {x y : Int32} (k1 : y < x → K a ls st h) (k2 : ¬ (y < x) → xR xs al rk C lim K ep Q l ls st h) : xR xs al rk C lim K ep Q ((Instr.if_icmp .gt i, (pc, len, a, b), v, w, ts) :: l) ls (.int y :: .int x :: st) h := ⟨k1, k2⟩
theorem r_if_le {i : Int} {x : Int32} (k1 : x ≤ 0 → K a ls st h) (k2 : ¬ (x ≤ 0) → xR xs al rk C lim K ep Q l ls st h) : xR xs al rk C lim K ep Q ((Instr.ifCond .le i, (pc, len, a, b), v, w, ts) :: l) ls (.int x :: st) h := ⟨k1, k2⟩
theorem r_icmp_le {i : Int} {x y : Int32} (k1 : x ≤ y → K a ls st h) (k2 : ¬ (x ≤ y) → xR xs al rk C lim K ep Q l ls st h) : xR xs al rk C lim K ep Q ((Instr.if_icmp .le i, (pc, len, a, b), v, w, ts) :: l) ls (.int y :: .int x :: st) h := ⟨k1, k2⟩
theorem r_table {d lo hi : Int} {os : Array Int} {x : Int32} (k : xSw (fun t => K t ls st h) a x ts) : xR xs al rk C lim K ep Q ((Instr.tableswitch d lo hi os, (pc, len, a, b), v, w, ts) :: l) ls (.int x :: st) h := k
theorem r_lookup {d : Int} {ps : Array (Int × Int)} {x : Int32} (k : xSw (fun t => K t ls st h) a x ts) : xR xs al rk C lim K ep Q ((Instr.lookupswitch d ps, (pc, len, a, b), v, w, ts) :: l) ls (.int x :: st) h := k
theorem r_sw0 {K2 : Nat → Prop} {d : Nat} {x : Int32} (k : K2 d) : xSw K2 d x [] := k
theorem r_sw1 {K2 : Nat → Prop} {d t : Nat} {x q : Int32} {ts2 : List (Int32 × Nat)} (k1 : x = q → K2 t) (k2 : ¬ x = q → xSw K2 d x ts2) : xSw K2 d x ((q, t) :: ts2) := ⟨k1, k2⟩
theorem r_iret {x : Int32} (hl : h.1 = lim) (hx : xRc b x) (k : Q (.int x) h) : xR xs al rk C lim K ep Q ((Instr.ireturn, (pc, len, a, b), v, w, ts) :: l) ls [.int x] h := ⟨hx, hl, k⟩
theorem r_lret {x : Int64} (hl : h.1 = lim) (k : Q (.long x) h) : xR xs al rk C lim K ep Q ((Instr.lreturn, (pc, len, a, b), v, w, ts) :: l) ls [.long x] h := ⟨hl, k⟩
theorem r_ret (hl : h.1 = lim) (k : Q .null h) : xR xs al rk C lim K ep Q ((Instr.return_, (pc, len, a, b), v, w, ts) :: l) ls [] h := ⟨hl, k⟩
theorem r_inv {vs rest : List Value} {k : List Value → xHp → Prop} (ha : a < 900) (h1 : b ≤ st.length) (h2 : (st.take b).reverse = vs) (h3 : st.drop b = rest) (h4 : (rest.map fun v => v.category).sum ≤ 8) (h5 : h.1 + al a ≤ lim) (h6 : rk a = 99 ∨ ∃ p, vs.head? = some (.ref p) ∧ xRcv (rk a) h.1 p) (kk : C a vs h (fun r h1 => k (xPush r rest) h1)) : xInv al rk C lim a b st h k := by
  subst h2
  subst h3
  unfold xInv
  rw [if_neg (by omega), if_neg (by omega), if_neg (by omega), if_neg (by omega), if_neg (by omega)]
  exact ⟨h1, h4, h5, h6, kk⟩
theorem r_virtual {i : Nat} {vs rest : List Value} {p : Nat} {as : List Value} (ha : a < 900) (h1 : b ≤ st.length) (h2 : (st.take b).reverse = .ref p :: as) (h3 : st.drop b = rest) (h4 : (rest.map fun v => v.category).sum ≤ 8) (h5 : h.1 + al a ≤ lim) (h6 : xRcv (rk a) h.1 p) (kk : C a (.ref p :: as) h (fun r h1 => xR xs al rk C lim K ep Q l ls (xPush r rest) h1)) : xR xs al rk C lim K ep Q ((Instr.invokevirtual i, (pc, len, a, b), v, w, ts) :: l) ls st h :=
  r_inv (k := fun st h => xR xs al rk C lim K ep Q l ls st h) ha h1 h2 h3 h4 h5 (Or.inr ⟨p, rfl, h6⟩) kk
theorem r_init {i : Nat} {vs rest : List Value} {p : Nat} {as : List Value} (ha : a < 900) (h1 : b ≤ st.length) (h2 : (st.take b).reverse = .ref p :: as) (h3 : st.drop b = rest) (h4 : (rest.map fun v => v.category).sum ≤ 8) (h5 : h.1 + al a ≤ lim) (h6 : xRcv (rk a) h.1 p) (kk : C a (.ref p :: as) h (fun r h1 => xR xs al rk C lim K ep Q l ls (xPush r rest) h1)) : xR xs al rk C lim K ep Q ((Instr.invokespecial i, (pc, len, a, b), v, w, ts) :: l) ls st h :=
  r_inv (k := fun st h => xR xs al rk C lim K ep Q l ls st h) ha h1 h2 h3 h4 h5 (Or.inr ⟨p, rfl, h6⟩) kk
theorem r_static {i : Nat} {vs rest : List Value} (ha : a < 900) (h1 : b ≤ st.length) (h2 : (st.take b).reverse = vs) (h3 : st.drop b = rest) (h4 : (rest.map fun v => v.category).sum ≤ 8) (h5 : h.1 + al a ≤ lim) (h6 : rk a = 99) (kk : C a vs h (fun r h1 => xR xs al rk C lim K ep Q l ls (xPush r rest) h1)) : xR xs al rk C lim K ep Q ((Instr.invokestatic i, (pc, len, a, b), v, w, ts) :: l) ls st h :=
  r_inv (k := fun st h => xR xs al rk C lim K ep Q l ls st h) ha h1 h2 h3 h4 h5 (Or.inl h6) kk
theorem r_obj {i : Nat} {p : Nat} (ha : a = 999) (hs : (st.map fun v => v.category).sum ≤ 8) (k : xR xs al rk C lim K ep Q l ls st h) : xR xs al rk C lim K ep Q ((Instr.invokespecial i, (pc, len, a, b), v, w, ts) :: l) ls (.ref p :: st) h := by
  subst ha
  exact ⟨hs, k⟩
theorem r_max {i : Nat} {x y : Int32} (ha : a = 996) (hs : (st.map fun v => v.category).sum ≤ 8) (k : xR xs al rk C lim K ep Q l ls (.int (if x < y then y else x) :: st) h) : xR xs al rk C lim K ep Q ((Instr.invokestatic i, (pc, len, a, b), v, w, ts) :: l) ls (.int y :: .int x :: st) h := by
  subst ha
  exact ⟨hs, k⟩
theorem r_min {i : Nat} {x y : Int32} (ha : a = 995) (hs : (st.map fun v => v.category).sum ≤ 8) (k : xR xs al rk C lim K ep Q l ls (.int (if y < x then y else x) :: st) h) : xR xs al rk C lim K ep Q ((Instr.invokestatic i, (pc, len, a, b), v, w, ts) :: l) ls (.int y :: .int x :: st) h := by
  subst ha
  exact ⟨hs, k⟩
theorem r_copy {i p q : Nat} {sp dp z : Int32} (ha : a = 998) (h1 : xKd p = 7 ∧ xKd q = 7 ∧ p < n ∧ q < n) (h2 : ¬ sp < 0 ∧ ¬ dp < 0 ∧ ¬ z < 0) (h3 : sp.toNatClampNeg + z.toNatClampNeg ≤ xLn p) (h4 : dp.toNatClampNeg + z.toNatClampNeg ≤ xLn q) (h5 : (st.map fun v => v.category).sum ≤ 8) (k : xR xs al rk C lim K ep Q l ls st (n, va_up I q (va_cpy (I p) (I q) sp.toNatClampNeg dp.toNatClampNeg z.toNatClampNeg), L, F)) : xR xs al rk C lim K ep Q ((Instr.invokestatic i, (pc, len, a, b), v, w, ts) :: l) ls (.int z :: .int dp :: .ref q :: .int sp :: .ref p :: st) (n, I, L, F) := by
  subst ha
  exact ⟨⟨h1, h2, h3, h4, h5⟩, k⟩
end RL
