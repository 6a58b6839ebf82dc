/-! the law's start: what the Statement gives -/
def nwL : List Cond := flatC (Jvm.Cond.and given_1 narrow_1)
def nwB : List Nat := [32, 73, 81, 91, 103, 113, 125, 138, 153, 171, 190, 209, 230]
def nwT (i : Nat) : Term := .string (xCn (xStr.getD i (0, 0, 0)).1) (xStr.getD i (0, 0, 0)).2.1
def nwA : Term := .static "TepidByTreaty$Kinds" "ABOVE" "[I"
set_option maxRecDepth 100000 in
theorem nw_1 : ∀ i, i < 13 → nwL[nwB.getD i 0]? = some (.exactly (nwT i) "java/lang/String") := by decide +kernel
set_option maxRecDepth 100000 in
theorem nw_2 : ∀ i, i < 13 → nwL[nwB.getD i 0 + 1]? = some (.eq (.field (nwT i) "java/lang/String" "coder" "B") (.int 0)) := by decide +kernel
set_option maxRecDepth 100000 in
theorem nw_3 : ∀ i, i < 13 → nwL[nwB.getD i 0 + 2]? = some (.arrayOf (.field (nwT i) "java/lang/String" "value" "[B") .byte) := by decide +kernel
set_option maxRecDepth 100000 in
theorem nw_4 : ∀ i, i < 13 → nwL[nwB.getD i 0 + 3]? = some (.eq (.length (.field (nwT i) "java/lang/String" "value" "[B")) (.int (Int32.ofNat (xSn.getD i 0)))) := by decide +kernel
set_option maxRecDepth 100000 in
theorem nw_5 : ∀ i, i < 13 → ∀ j, j < xSn.getD i 0 → nwL[nwB.getD i 0 + 4 + j]? = some (.eq (.elem (.field (nwT i) "java/lang/String" "value" "[B") (.int (Int32.ofNat j))) (.int ((xSb.getD i []).getD j 0))) := by decide +kernel
set_option maxRecDepth 100000 in
theorem nw_6 : ∀ j, j < 13 → ∀ i, i < j → nwL[nwB.getD j 0 + 4 + xSn.getD j 0 + i]? = some (.not (.eq (nwT i) (nwT j))) := by decide +kernel
set_option maxRecDepth 100000 in
theorem nw_7 : nwL[10]? = some (.arrayOf nwA .int) ∧ nwL[11]? = some (.eq (.length nwA) (.int (Int32.ofNat 6))) ∧ nwL[4]? = some (.eq (.static "java/lang/String" "COMPACT_STRINGS" "Z") (.int 1)) ∧ nwL[5]? = some (.isRef (.static "jdk/internal/util/Preconditions" "SIOOBE_FORMATTER" "Ljava/util/function/BiFunction;")) := by decide +kernel
set_option maxRecDepth 100000 in
theorem nw_8 : ∀ j, j < 6 → nwL[12 + j]? = some (.eq (.elem nwA (.int (Int32.ofNat j))) (.int (xAb.getD j 0))) := by decide +kernel
theorem nw_9 : ∀ i, i < 13 → (xStr.getD i (0, 0, 0)).2.2 = 1000 + i := by decide +kernel
theorem tb_1 : Cond.laysStatic "TepidByTreaty$Kinds" "ABOVE" "[I" ∈ lw_tbl ∧ Cond.initialized "TepidByTreaty$Kinds" ∈ lw_tbl := by decide +kernel
theorem tb_2 : Cond.laysStatic "java/lang/String" "COMPACT_STRINGS" "Z" ∈ lw_tbl ∧ Cond.initialized "java/lang/String" ∈ lw_tbl := by decide +kernel
theorem tb_3 : Cond.laysStatic "jdk/internal/util/Preconditions" "SIOOBE_FORMATTER" "Ljava/util/function/BiFunction;" ∈ lw_tbl ∧ Cond.initialized "jdk/internal/util/Preconditions" ∈ lw_tbl := by decide +kernel
theorem tb_4 : xStr.all (fun x => decide (Cond.stringRef (xCn x.1) x.2.1 (xTx x.2.2) ∈ lw_tbl)) = true := by decide +kernel
theorem tb_5 : Cond.arrayClass .int ∈ lw_tbl ∧ Cond.arrayClass .boolean ∈ lw_tbl ∧ Cond.arrayOver (.object RX3) ∈ lw_tbl ∧ Cond.arrayOver (.object RX5) ∈ lw_tbl := by decide +kernel
/-- where the constants lie -/
def xAS (adK adV : Nat → Nat) (t f b : Nat) : Nat → Nat := fun i => if i < 2000 then adK (i - 1000) else if i < 3000 then adV (i - 2000) else if i = 3000 then t else if i = 4000 then f else b
theorem xAS_1 {adK adV : Nat → Nat} {t f b i : Nat} (h : i < 1000) : xAS adK adV t f b (1000 + i) = adK i := by
  unfold xAS
  rw [if_pos (by omega), Nat.add_sub_cancel_left]
theorem xAS_2 {adK adV : Nat → Nat} {t f b i : Nat} (h : i < 1000) : xAS adK adV t f b (2000 + i) = adV i := by
  unfold xAS
  rw [if_neg (by omega), if_pos (by omega), Nat.add_sub_cancel_left]
theorem xAS_3 {adK adV : Nat → Nat} {t f b : Nat} : xAS adK adV t f b 3000 = t := by
  unfold xAS
  rw [if_neg (by omega), if_neg (by omega), if_pos rfl]
theorem xAS_4 {adK adV : Nat → Nat} {t f b : Nat} : xAS adK adV t f b 4000 = f := by
  unfold xAS
  rw [if_neg (by omega), if_neg (by omega), if_neg (by omega), if_pos rfl]
theorem xAS_5 {adK adV : Nat → Nat} {t f b : Nat} : xAS adK adV t f b 5000 = b := by
  unfold xAS
  rw [if_neg (by omega), if_neg (by omega), if_neg (by omega), if_neg (by omega)]
theorem amb_0 {s : State} {args : Array Value} {b L : Nat} {xs : Nat → Int32} (hs : ∀ c ∈ nwL, c.before args s = true) (hts : ∀ w ∈ lw_tbl, w.before args s = true) (hX : va_X b L xs s s.heap) (hbl : b < s.heap.size) : ∃ aS : Nat → Nat, aS 5000 = b ∧ xAmb (L, xs) aS s.heap.size s s.heap := by
  have hA : ∀ a : Nat, a < s.heap.size → ¬ (fun q : Nat => s.heap.size ≤ q) a := fun a h => Nat.not_le.mpr h
  obtain ⟨adK, adV, hS, hE⟩ := vk_Sof (args := args) (s := s) (N := 13) (tm := nwT) (len := xSn) (byt := xSb) (A := fun q => s.heap.size ≤ q) (by decide)
    (fun i hi => hs _ (List.mem_of_getElem? (nw_1 i hi))) (fun i hi => hs _ (List.mem_of_getElem? (nw_2 i hi))) (fun i hi => hs _ (List.mem_of_getElem? (nw_3 i hi))) (fun i hi => hs _ (List.mem_of_getElem? (nw_4 i hi))) (fun i hi j hj => hs _ (List.mem_of_getElem? (nw_5 i hi j hj)))
    (fun i j hi hj hij => by
      rcases Nat.lt_or_ge i j with c | c
      · exact Or.inl (hs _ (List.mem_of_getElem? (nw_6 j hj i c)))
      · exact Or.inr (hs _ (List.mem_of_getElem? (nw_6 i hi j (by omega))))) hA
  obtain ⟨t, ht, hT⟩ := va_Tof (args := args) (s := s) (tm := nwA) (ty := .int) (N := 6) (f := fun j => .int (xAb.getD j 0)) (A := fun q => s.heap.size ≤ q) (by decide) (hs _ (List.mem_of_getElem? nw_7.1)) (va_eqt (hs _ (List.mem_of_getElem? nw_7.2.1))) (fun j hj => va_eqt (hs _ (List.mem_of_getElem? (nw_8 j hj)))) hA
  have hZ3 := va_Zref (hts _ tb_1.1) (hts _ tb_1.2) ht hA
  have hC := va_Zof (hts _ tb_2.1) (hts _ tb_2.2) (va_eqi (hs _ (List.mem_of_getElem? nw_7.2.2.1))) hA
  obtain ⟨f, hF⟩ : ∃ f : Nat, va_Z "jdk/internal/util/Preconditions" "SIOOBE_FORMATTER" "Ljava/util/function/BiFunction;" (if f = 0 then .null else .ref (f - 1)) (fun q => s.heap.size ≤ q) s s.heap := by
    rcases va_Zqof (hts _ tb_3.1) (hts _ tb_3.2) (hs _ (List.mem_of_getElem? nw_7.2.2.2)) hA with h | ⟨t, h⟩
    · exact ⟨0, h⟩
    · exact ⟨t + 1, h⟩
  refine ⟨xAS adK adV t f b, xAS_5, ?_⟩
  unfold xAmb
  refine ⟨⟨fun i hi => ?_, fun i j hi hj h => ?_⟩, ?_, ?_, hC, ?_, fun x hx => ?_, va_AO.of (hts _ tb_5.2.2.1), va_AO.of (hts _ tb_5.2.2.2), fun x hx => ?_, ?_, ?_⟩
  · have g := hS.1 i hi
    have e1 : xAS adK adV t f b (1000 + i) = adK i := xAS_1 (by omega)
    have e2 : xAS adK adV t f b (2000 + i) = adV i := xAS_2 (by omega)
    show va_O "java/lang/String" (xAS adK adV t f b (1000 + i)) _ s s.heap ∧ va_OF "java/lang/String" "coder" "B" (.int 0) (xAS adK adV t f b (1000 + i)) _ s s.heap ∧ va_OF "java/lang/String" "value" "[B" (.ref (xAS adK adV t f b (2000 + i))) (xAS adK adV t f b (1000 + i)) _ s s.heap ∧ va_T .byte (xAS adK adV t f b (2000 + i)) _ _ _ s s.heap
    rw [e1, e2]
    exact g
  · have h : xAS adK adV t f b (1000 + i) = xAS adK adV t f b (1000 + j) := h
    rw [xAS_1 (by omega), xAS_1 (by omega)] at h
    exact hS.2 i j hi hj h
  · rw [xAS_3]; exact hZ3
  · rw [xAS_3]; exact hT
  · have e : xCv (xAS adK adV t f b) (.retAddr 0) = if f = 0 then .null else .ref (f - 1) := by
      show (if xAS adK adV t f b 4000 = 0 then Value.null else Value.ref (xAS adK adV t f b 4000 - 1)) = _
      rw [xAS_4]
    rw [e]; exact hF
  · have g := List.all_eq_true.mp xNlk_ok x hx
    simp only [Bool.and_eq_true, decide_eq_true_eq] at g
    exact va_Nw.of rfl (hts _ g.1)
  · obtain ⟨i, hi⟩ := List.mem_iff_getElem?.mp hx
    have hl : i < 13 := (List.getElem?_eq_some_iff.mp hi).1
    have e : xStr.getD i (0, 0, 0) = x := by
      rw [List.getD_eq_getElem?_getD, hi]
      rfl
    have e2 := nw_9 i hl
    have e3 := hE i hl
    unfold nwT at e3
    rw [e] at e2 e3
    have g := List.all_eq_true.mp tb_4 x hx
    refine vk_R.of (hts _ (of_decide_eq_true g)) ?_
    rw [e2, xAS_1 (by omega)]
    exact e3
  · rw [xAS_5]; exact hX
  · rw [xAS_5]; exact hbl
/-- the tables' classes -/
theorem arr_K {s : State} {args : Array Value} {ty : FieldType} (h : (Cond.arrayClass ty).before args s = true) : ∃ c : ClassId, ArrOfT s c ty ∧ s.vm.findClass ("[" ++ ty.toString) = some c := by
  obtain ⟨c, k, comp, h1, h2, h3⟩ := Cond.arrayClass_spec h
  exact ⟨c, fun n z => ⟨fun k h => (by cases h), k, h2, comp, h3⟩, h1⟩
theorem arr_O {s : State} {args : Array Value} {C : String} (h : (Cond.arrayOver (.object C)).before args s = true) : ∃ c : ClassId, ArrOfT s c (.object C) ∧ va_RA s c (.object C) := by
  obtain ⟨comp, c, k, h1, -, h3, h4, h5⟩ := Cond.arrayOver_spec h
  exact ⟨c, fun n z => ⟨fun k h => (by cases h), k, h3, comp, h4⟩, k, comp, h3, h4, h1, h5⟩
theorem kn_0 {s : State} {args : Array Value} (hts : ∀ w ∈ lw_tbl, w.before args s = true) : ∃ (dC : Nat → ClassId) (dI : Nat → Nat → Nat) (cy : Nat → ClassId), va_K (dC, dI) vwCl (xTy cy) s := by
  have htB : ∀ w ∈ xBW, w.before args s = true := fun w hw => hts w (List.mem_filter.mp hw).1
  have h1 : ∀ a, a < 7 → ∃ q : ClassId × (Nat → Nat), u_Kn s (xRn a) (xTt a) (xNf a) q.1 q.2 := fun a ha => by
    obtain ⟨cC, iS, h⟩ := u_known (ws := xBW) htB (xKi_use ha).2.2 (htB _ (xKi_use ha).1)
    exact ⟨(cC, iS), h⟩
  obtain ⟨q0, -⟩ := h1 0 (by omega)
  have h2 : ∀ a, ∃ q : ClassId × (Nat → Nat), a < 7 → u_Kn s (xRn a) (xTt a) (xNf a) q.1 q.2 := fun a => by
    by_cases c : a < 7
    · obtain ⟨q, h⟩ := h1 a c
      exact ⟨q, fun _ => h⟩
    · exact ⟨q0, fun h => absurd h c⟩
  obtain ⟨g, hg⟩ := Classical.axiomOfChoice h2
  obtain ⟨c7, a7, b7⟩ := arr_K (hts _ tb_5.1)
  obtain ⟨c8, a8, b8⟩ := arr_K (hts _ tb_5.2.1)
  obtain ⟨c9, a9, b9⟩ := arr_O (hts _ tb_5.2.2.1)
  obtain ⟨c10, a10, b10⟩ := arr_O (hts _ tb_5.2.2.2)
  refine ⟨fun a => (g a).1, fun a => (g a).2, fun k => if k = 7 then c7 else if k = 8 then c8 else if k = 9 then c9 else c10, fun c q hq => ?_, fun k q hq => ?_⟩
  · have hl : c < 7 := (List.getElem?_eq_some_iff.mp hq).1
    rw [xCl_at c hl] at hq
    cases hq
    exact hg c hl
  · match k, hq with
    | 0, hq => cases hq; exact ⟨a7, b7⟩
    | 1, hq => cases hq; exact ⟨a8, b8⟩
    | 2, hq => cases hq; exact ⟨a9, b9⟩
    | 3, hq => cases hq; exact ⟨a10, b10⟩
    | k + 4, hq => exact absurd (List.getElem?_eq_some_iff.mp hq).1 (by show ¬ k + 4 < 4; omega)
