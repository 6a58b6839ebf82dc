
/-! one instruction that goes on to the next: what the small machine says holds of the big one -/
def xTx (a : Nat) : String := ["may shown < 1 ; joys heat ; cools 3 ;", "may", "joys", "cools", "or", "and", "not", "heat", "thirst", "number", "shown", "minute", "cups"].getD (a - 1000) ""
/-- what stays as it was at the law's start -/
def xAmb (xs : xSc) (aS : Nat → Nat) (z0 : Nat) (U : State) (H : Heap) : Prop :=
  vk_S 13 xSn xSb (fun i => aS (1000 + i)) (fun i => aS (2000 + i)) (fun q => z0 ≤ q) U H ∧
  va_Z "TepidByTreaty$Kinds" "ABOVE" "[I" (.ref (aS 3000)) (fun q => z0 ≤ q) U H ∧
  va_T .int (aS 3000) 6 (fun j => .int (xAb.getD j 0)) (fun q => z0 ≤ q) U H ∧
  va_Z "java/lang/String" "COMPACT_STRINGS" "Z" (.int 1) (fun q => z0 ≤ q) U H ∧
  va_Z "jdk/internal/util/Preconditions" "SIOOBE_FORMATTER" "Ljava/util/function/BiFunction;" (xCv aS (.retAddr 0)) (fun q => z0 ≤ q) U H ∧
  (∀ x ∈ xNlk, va_Nw (.methodLinkNest (xCn x.1) x.2.1 (xMy x.2.2) "TepidByTreaty") U) ∧ va_AO RX3 U ∧ va_AO RX5 U ∧
  (∀ x ∈ xStr, vk_R (xCn x.1) x.2.1 (xTx x.2.2) (aS x.2.2) U) ∧ va_X (aS 5000) xs.1 xs.2 U H ∧ aS 5000 < z0
theorem xAmb.step {xs : xSc} {aS : Nat → Nat} {z0 : Nat} {s U : State} {H : Heap} (h : xAmb xs aS z0 s s.heap) (hW : s.WarmedH U.vm) (hz : z0 ≤ s.heap.size) (hq : ∀ a : Nat, a < s.heap.size → ¬ z0 ≤ a → H[a]? = s.heap[a]?) : xAmb xs aS z0 U H := by
  obtain ⟨h1, h2, h3, h4, h5, h6, h7, h8, h9, hX, hX0⟩ := h
  have hv := hW.alike
  exact ⟨(h1.moved hv).kept hq, (h2.moved hv).kept hq, (h3.moved hv).kept hq, (h4.moved hv).kept hq, (h5.moved hv).kept hq, fun x hx => va_Nw.warmM hW (h6 x hx), h7.moved hv, h8.moved hv, fun x hx => (h9 x hx).warm hW, (hX.moved hv).kept (hq _ (by omega) (by omega)), hX0⟩
def xTy (cy : Nat → ClassId) : List (ClassId × FieldType) := [(cy 7, .int), (cy 8, .boolean), (cy 9, .object RX3), (cy 10, .object RX5)]
/-- a method's frame: the machine, the code, the words, the tables -/
def xCx (xs : xSc) (p : Program) (s : State) (m : MethodId) (args : Array Value) (meth : Method) (c : Code) (dC : Nat → ClassId) (dI : Nat → Nat → Nat) (cy : Nat → ClassId) (aS : Nat → Nat) (z0 i : Nat) : Prop :=
  p.tables.exec = Jvm.exec ∧ c.code = xMc i ∧ c.maxLocals = xMl i ∧ s.vm.findClass (xCn (xMo i)) = some m.cls ∧ (∀ w ∈ xBW, w.before args s = true) ∧ va_K (dC, dI) vwCl (xTy cy) s ∧ meth.sig.returnType = xMr i ∧ meth.locks = false ∧ (xMk i = 2 → meth.name = "<init>") ∧ xAmb xs aS z0 s s.heap
/-- a state of the small machine, told of the big one -/
def xJ (s : State) (dC : Nat → ClassId) (dI : Nat → Nat → Nat) (cy : Nat → ClassId) (aS ad0 : Nat → Nat) (A : Nat → Prop) (b0 lim nL : Nat) (al st : List Value) (h : xHp) (ad : Nat → Nat) (H : Heap) (locs : List Loc) (ls : Array Slot) : Prop :=
  xLh ad nL al ls ∧ xOkL h.1 al ∧ xOkL h.1 st ∧ xOkH h ∧ va_P (dC, dI) vwCl (xW cy ad h) H ∧ va_D A (xW cy ad h) ∧ va_S A s.heap H locs ∧ b0 ≤ h.1 ∧ h.1 ≤ lim ∧ (∀ p, p < b0 → ad p = ad0 p) ∧ (∀ p, 1000 ≤ p → ad p = aS p)
section XJ
variable {s : State} {dC : Nat → ClassId} {dI : Nat → Nat → Nat} {cy : Nat → ClassId} {aS ad0 : Nat → Nat} {A : Nat → Prop} {b0 lim nL : Nat} {al st : List Value} {h : xHp} {ad : Nat → Nat} {H : Heap} {locs : List Loc} {ls : Array Slot}
theorem xJ.stk {st2 : List Value} (J : xJ s dC dI cy aS ad0 A b0 lim nL al st h ad H locs ls) (h2 : xOkL h.1 st2) : xJ s dC dI cy aS ad0 A b0 lim nL al st2 h ad H locs ls := ⟨J.1, J.2.1, h2, J.2.2.2⟩
theorem xJ.lcl {al2 : List Value} {ls2 : Array Slot} (J : xJ s dC dI cy aS ad0 A b0 lim nL al st h ad H locs ls) (h1 : xLh ad nL al2 ls2) (h2 : xOkL h.1 al2) : xJ s dC dI cy aS ad0 A b0 lim nL al2 st h ad H locs ls2 := ⟨h1, h2, J.2.2⟩
theorem xJ.put {p k : Nat} {v : Value} {H1 : Heap} {locs1 : List Loc} (J : xJ s dC dI cy aS ad0 A b0 lim nL al st h ad H locs ls) (hv : ∀ q, v = .ref q → q < h.1) (hP : va_P (dC, dI) vwCl (xW cy ad (xPut h p k v)) H1) (hD : va_D A (xW cy ad (xPut h p k v))) (hS : va_S A s.heap H1 locs1) : xJ s dC dI cy aS ad0 A b0 lim nL al st (xPut h p k v) ad H1 locs1 ls := by
  obtain ⟨j1, j2, j3, j4, j5, j6, j7, j8, j9, j10, j11⟩ := J
  refine ⟨j1, ?_, ?_, j4.put hv, hP, hD, hS, ?_, ?_, j10, j11⟩
  · rw [xPut_n]; exact j2
  · rw [xPut_n]; exact j3
  · rw [xPut_n]; exact j8
  · rw [xPut_n]; exact j9
/-- a cell more, at a new address -/
theorem xJ.new {q : Nat} {H1 : Heap} {e : va_E} (J : xJ s dC dI cy aS ad0 A b0 lim nL al st h ad H locs ls) (hn : h.1 < 1000) (hl : h.1 + 1 ≤ lim) (he : xCe cy (va_up ad h.1 q) (xNew h) h.1 = e)
    (hP : va_P (dC, dI) vwCl (xW cy ad h ++ [(q, e)]) H1) (hD : va_D A (xW cy ad h ++ [(q, e)])) (hS : va_S A s.heap H1 locs) : xJ s dC dI cy aS ad0 A b0 lim nL al (.ref h.1 :: st) (xNew h) (va_up ad h.1 q) H1 locs ls ∧ st.map (xCv (va_up ad h.1 q)) = st.map (xCv ad) := by
  obtain ⟨j1, j2, j3, j4, j5, j6, j7, j8, j9, j10, j11⟩ := J
  have a1 : ∀ p, p < h.1 → va_up ad h.1 q p = ad p := fun p hp => by unfold va_up; rw [if_neg (by omega)]
  have a2 : ∀ p, 1000 ≤ p → va_up ad h.1 q p = ad p := fun p hp => by unfold va_up; rw [if_neg (by omega)]
  have aq : va_up ad h.1 q h.1 = q := by unfold va_up; rw [if_pos rfl]
  have hW : xW cy ad h ++ [(q, e)] = xW cy (va_up ad h.1 q) (xNew h) := by
    refine xW_push rfl aq he fun p hp => ⟨a1 p hp, ?_⟩
    rw [xCe_new (by omega)]
    exact xCe_ad j4 a1 p
  rw [hW] at hP hD
  refine ⟨⟨j1.ad a1 a2 j2, j2.mono (Nat.le_succ _), ?_, j4.new, hP, hD, hS, Nat.le_succ_of_le j8, hl, fun p hp => (a1 p (by omega)).trans (j10 p hp), fun p hp => (a2 p hp).trans (j11 p hp)⟩, xCv_map a1 a2 j3⟩
  exact (j3.mono (Nat.le_succ _)).cons (fun p e => by cases e; exact Or.inl (Nat.lt_succ_self _))
end XJ
theorem xKd_lt {p : Nat} (h : xKd p < 99) : p < 82 := by
  rcases Nat.lt_or_ge p 82 with z | z
  · exact z
  · exfalso
    unfold xKd at h
    rw [List.getD_eq_getElem?_getD, List.getElem?_eq_none (by exact z)] at h
    exact absurd h (by decide)
theorem xLn_obj : ∀ p, p < 82 → xKd p < 7 → xLn p = xNf (xKd p) := by decide +kernel
theorem xLn_of {p : Nat} (h : xKd p < 7) : xLn p = xNf (xKd p) := xLn_obj p (xKd_lt (by omega)) h
theorem xFl_use {own ix a b : Nat} (h : (own, ix, a, b) ∈ xFl) : Cond.fieldLink (xCn own) ix ((xTt a) b).1 ((xTt a) b).2.1 ((xTt a) b).2.2.1 ∈ xBW ∧ b < xNf a ∧ a < 7 := by
  have := List.all_eq_true.mp xFl_ok _ h
  simp only [Bool.and_eq_true, decide_eq_true_eq] at this
  exact ⟨xIn_ok this.1.1, this.1.2, this.2⟩
theorem xCoL_use {own ix : Nat} {w : Int64} (h : (own, ix, w) ∈ xCoL) : Cond.constantLong (xCn own) ix w ∈ xBW := by
  have := List.all_eq_true.mp xCoL_ok _ h
  exact xIn_ok this
theorem xCo_use {own ix : Nat} {w : Int32} (h : (own, ix, w) ∈ xCo) : Cond.constant (xCn own) ix w ∈ xBW := by
  have := List.all_eq_true.mp xCo_ok _ h
  exact xIn_ok this
theorem xOk_big {n p : Nat} (h : 1000 ≤ p) : xOk n (.ref p) := fun q e => by
  injection e with e
  subst e
  exact Or.inr h
theorem x_ad1 {ad aS : Nat → Nat} (h : ∀ p, 1000 ≤ p → ad p = aS p) {q : Nat} (hq : 1000 ≤ q) : ad q = aS (1000 + (q - 1000)) := by
  rw [h q hq, Nat.add_sub_cancel' hq]
theorem x_ad2 {ad aS : Nat → Nat} (h : ∀ p, 1000 ≤ p → ad p = aS p) {q : Nat} (hq : 1000 ≤ q) : ad (q + 1000) = aS (2000 + (q - 1000)) := by
  have e : q + 1000 = 2000 + (q - 1000) := by omega
  rw [h (q + 1000) (Nat.le_add_left _ _), e]
theorem x_ad3 {ad aS : Nat → Nat} (h : ∀ p, 1000 ≤ p → ad p = aS p) {q : Nat} (hq : 2000 ≤ q) : ad q = aS (2000 + (q - 2000)) := by
  rw [h q (Nat.le_trans (by decide) hq), Nat.add_sub_cancel' hq]
theorem xKi_use {a : Nat} (h : a < 7) : Cond.instantiable (xRn a) (xNf a) ∈ xBW ∧ Cond.initialized (xRn a) ∈ xBW ∧ ∀ w ∈ u_ws (xRn a) (xTt a) (xNf a), w ∈ xBW := by
  have := List.all_eq_true.mp xKi_ok a (List.mem_range.mpr h)
  simp only [Bool.and_eq_true] at this
  exact ⟨xIn_ok this.1.1, xIn_ok this.1.2, fun w hw => xIn_ok (List.all_eq_true.mp this.2 w hw)⟩
theorem xNm : ∀ c, c < 7 → ∀ a, a < xNf c → ∀ b, b < xNf c → a ≠ b → ((xTt c) a).2.1 ≠ ((xTt c) b).2.1
  | 0, _ => nmX0
  | 1, _ => nmX2
  | 2, _ => nmX3
  | 3, _ => nmX4
  | 4, _ => nmX5
  | 5, _ => nmX6
  | 6, _ => nmX7
  | n + 7, h => absurd h (by omega)
theorem xTyp : ∀ c, c < 7 → ∀ k, k < xNf c → parseFieldDescriptor ((xTt c) k).2.2.1 = some (xFt c k)
  | 0, _ => tyX0_ok
  | 1, _ => tyX2_ok
  | 2, _ => tyX3_ok
  | 3, _ => tyX4_ok
  | 4, _ => tyX5_ok
  | 5, _ => tyX6_ok
  | 6, _ => tyX7_ok
  | n + 7, h => absurd h (by omega)
theorem xFits_ok {ty : FieldType} {v : Value} {ad : Nat → Nat} (h : xFits ty v) : narrow ty (xCv ad v) = xCv ad v ∧ fits ty (xCv ad v) = true := by
  cases ty <;> cases v <;> simp only [xFits] at h
  all_goals first | exact h.elim | exact ⟨rfl, rfl⟩ | (rcases h with h | h <;> subst h <;> exact ⟨rfl, rfl⟩)
theorem xDef {ty : FieldType} (hb : ty = .int ∨ ty = .boolean ∨ ty = .long ∨ (∃ C, ty = .object C) ∨ (∃ t, ty = .array t)) {h : xHp} {k : Nat} {ad : Nat → Nat} : defaultValue ty = xCv ad (xVal (xNew h) h.1 k ty) := by
  rcases hb with rfl | rfl | rfl | ⟨C, rfl⟩ | ⟨t, rfl⟩ <;> simp [defaultValue, xVal, xNew, va_up, xCv, va_rf]
def xFk (ty : FieldType) : Bool := match ty with
  | .int => true
  | .boolean => true
  | .long => true
  | .object _ => true
  | .array _ => true
  | _ => false
theorem xFk_ok {ty : FieldType} (h : xFk ty = true) : ty = .int ∨ ty = .boolean ∨ ty = .long ∨ (∃ C, ty = .object C) ∨ (∃ t, ty = .array t) := by
  cases ty <;> simp_all [xFk]
theorem xFk_all : ∀ c, c < 7 → ∀ k, k < xNf c → xFk (xFt c k) = true := by decide +kernel
/-- a new object's cell -/
theorem xCe_obj {cy : Nat → ClassId} {ad : Nat → Nat} {h : xHp} (h7 : xKd h.1 < 7) : ∃ fs, xCe cy ad (xNew h) h.1 = .inr (xKd h.1, fs) ∧ ∀ j, j < xNf (xKd h.1) → defaultValue (xFt (xKd h.1) j) = vp_V fs j := by
  refine ⟨(List.range (xLn h.1)).map (fun k => xCv ad (xVal (xNew h) h.1 k (xFt (xKd h.1) k))), by unfold xCe; rw [if_pos h7], fun j hj => ?_⟩
  unfold vp_V
  rw [List.getD_eq_getElem?_getD, List.getElem?_map, List.getElem?_range (by rw [xLn_of h7]; exact hj)]
  exact xDef (xFk_ok (xFk_all _ h7 j hj))
