/-! values, locals and worlds of the small machine, told of the big one -/
def xCv (ad : Nat → Nat) (v : Value) : Value := match v with
  | .ref a => .ref (ad a)
  | .retAddr _ => if ad 4000 = 0 then .null else .ref (ad 4000 - 1)
  | v => v
theorem xCv_cat (ad : Nat → Nat) (v : Value) : (xCv ad v).category = v.category := by
  cases v with
  | retAddr q =>
    show (if ad 4000 = 0 then Value.null else Value.ref (ad 4000 - 1)).category = 1
    split <;> rfl
  | _ => rfl
theorem xCv_rf (ad : Nat → Nat) (o : Option Nat) : xCv ad (va_rf o) = va_rf (o.map ad) := by cases o <;> rfl
/-- the locals -/
def xLh (ad : Nat → Nat) (nL : Nat) (al : List Value) (ls : Array Slot) : Prop := ls.size = nL ∧ lv_wf ls ∧ al.length = nL ∧ ∀ (i : Nat) (v : Value), al[i]? = some v → v ≠ xU → ls[i]? = some (.val (xCv ad v))
def xLv (ad : Nat → Nat) (al : List Value) : List (Nat × Value) := (List.range al.length).filterMap fun j => (al[j]?).bind fun v => if v = xU then none else some (j, xCv ad v)
theorem xLv_mem {ad : Nat → Nat} {al : List Value} {q : Nat × Value} : q ∈ xLv ad al ↔ ∃ v, al[q.1]? = some v ∧ v ≠ xU ∧ q.2 = xCv ad v := by
  unfold xLv
  rw [List.mem_filterMap]
  constructor
  · rintro ⟨j, hj, hq⟩
    cases hv : al[j]? with
    | none => rw [hv] at hq; cases hq
    | some v =>
      rw [hv] at hq
      simp only [Option.bind_some] at hq
      by_cases hu : v = xU
      · rw [if_pos hu] at hq; cases hq
      · rw [if_neg hu] at hq
        cases hq
        exact ⟨v, hv, hu, rfl⟩
  · rintro ⟨v, h1, h2, h3⟩
    refine ⟨q.1, List.mem_range.mpr (List.getElem?_eq_some_iff.mp h1).1, ?_⟩
    rw [h1]
    simp only [Option.bind_some]
    rw [if_neg h2, ← h3]
theorem xLh.all {ad : Nat → Nat} {nL : Nat} {al : List Value} {ls : Array Slot} (h : xLh ad nL al ls) : lv_has ls nL (xLv ad al) := by
  refine ⟨h.1, h.2.1, fun q hq => ?_⟩
  obtain ⟨v, h1, h2, h3⟩ := xLv_mem.mp hq
  rw [h3]
  exact h.2.2.2 q.1 v h1 h2
theorem xClr_len (al : List Value) (i : Nat) : (xClr al i).length = al.length := by
  unfold xClr
  split
  · rfl
  · split <;> simp
theorem xClr_at {al : List Value} {i j : Nat} {v : Value} (h : (xClr al i)[j]? = some v) (hv : v ≠ xU) : al[j]? = some v ∧ ¬ (j + 1 = i ∧ v.category = 2) := by
  unfold xClr at h
  split at h
  · exact ⟨h, fun z => by omega⟩
  · rename_i k
    by_cases hjk : j = k
    · subst hjk
      split at h
      · rename_i x hx
        rw [List.getElem?_set_self (List.getElem?_eq_some_iff.mp hx).1] at h
        exact absurd (Option.some.inj h).symm hv
      · rename_i x hx
        rw [List.getElem?_set_self (List.getElem?_eq_some_iff.mp hx).1] at h
        exact absurd (Option.some.inj h).symm hv
      · rename_i n1 n2
        refine ⟨h, fun z => ?_⟩
        cases v with
        | long x => exact n1 x h
        | double x => exact n2 x h
        | int x => exact absurd z.2 (by simp [Value.category])
        | float x => exact absurd z.2 (by simp [Value.category])
        | null => exact absurd z.2 (by simp [Value.category])
        | ref x => exact absurd z.2 (by simp [Value.category])
        | retAddr x => exact absurd z.2 (by simp [Value.category])
    · have h2 : al[j]? = some v := by
        split at h
        · rwa [List.getElem?_set_ne (Ne.symm hjk)] at h
        · rwa [List.getElem?_set_ne (Ne.symm hjk)] at h
        · exact h
      exact ⟨h2, fun z => hjk (by omega)⟩
theorem xLh.st1 {ad : Nat → Nat} {nL i : Nat} {al : List Value} {ls ls' : Array Slot} {v : Value} (h : xLh ad nL al ls) (h' : lv_has ls' nL ((i, xCv ad v) :: (xLv ad al).filter (fun q => !(q.1 == i) && !(q.1 + 1 == i && q.2.category == 2)))) : xLh ad nL (xSt1 al i v) ls' := by
  refine ⟨h'.1, h'.2.1, by rw [← h.2.2.1]; simp [xSt1, xClr_len], fun j u hj hu => ?_⟩
  by_cases e : j = i
  · subst e
    have hl : j < (xClr al j).length := by
      have := (List.getElem?_eq_some_iff.mp hj).1
      simpa [xSt1] using this
    unfold xSt1 at hj
    rw [List.getElem?_set_self hl] at hj
    cases hj
    exact h'.2.2 (j, xCv ad v) List.mem_cons_self
  · unfold xSt1 at hj
    rw [List.getElem?_set_ne (Ne.symm e)] at hj
    obtain ⟨h1, h2⟩ := xClr_at hj hu
    refine h'.2.2 (j, xCv ad u) (List.mem_cons_of_mem _ (List.mem_filter.mpr ⟨xLv_mem.mpr ⟨u, h1, hu, rfl⟩, ?_⟩))
    rw [xCv_cat]
    by_cases a : j + 1 = i
    · have : ¬ u.category = 2 := fun z => h2 ⟨a, z⟩
      simp [e, this]
    · simp [e, a]
theorem xLh.st2 {ad : Nat → Nat} {nL i : Nat} {al : List Value} {ls ls' : Array Slot} {v : Value} (h : xLh ad nL al ls) (h' : lv_has ls' nL ((i, xCv ad v) :: (xLv ad al).filter (fun q => !(q.1 == i) && (!(q.1 == i + 1) && !(q.1 + 1 == i && q.2.category == 2))))) : xLh ad nL (xSt2 al i v) ls' := by
  refine ⟨h'.1, h'.2.1, by rw [← h.2.2.1]; simp [xSt2, xClr_len], fun j u hj hu => ?_⟩
  unfold xSt2 at hj
  by_cases e1 : j = i + 1
  · subst e1
    have hl : i + 1 < ((xClr al i).set i v).length := by
      have := (List.getElem?_eq_some_iff.mp hj).1
      simpa using this
    rw [List.getElem?_set_self hl] at hj
    exact absurd (Option.some.inj hj).symm hu
  · rw [List.getElem?_set_ne (Ne.symm e1)] at hj
    by_cases e : j = i
    · subst e
      have hl : j < (xClr al j).length := by
        have := (List.getElem?_eq_some_iff.mp hj).1
        simpa using this
      rw [List.getElem?_set_self hl] at hj
      cases hj
      exact h'.2.2 (j, xCv ad v) List.mem_cons_self
    · rw [List.getElem?_set_ne (Ne.symm e)] at hj
      obtain ⟨h1, h2⟩ := xClr_at hj hu
      refine h'.2.2 (j, xCv ad u) (List.mem_cons_of_mem _ (List.mem_filter.mpr ⟨xLv_mem.mpr ⟨u, h1, hu, rfl⟩, ?_⟩))
      rw [xCv_cat]
      by_cases a : j + 1 = i
      · have : ¬ u.category = 2 := fun z => h2 ⟨a, z⟩
        simp [e, e1, this]
      · simp [e, e1, a]
/-- the entry's locals -/
def xSl2 (vs : List Value) : List Value := vs.flatMap fun v => if v.category = 2 then [v, xU] else [v]
theorem xSl2_at (ad : Nat → Nat) : ∀ (vs : List Value) (k i : Nat) (v : Value), (xSl2 vs)[i]? = some v → v ≠ xU → (k + i, xCv ad v) ∈ lv_args k (vs.map (xCv ad))
  | [], k, i, v, h, _ => by simp [xSl2] at h
  | u :: vs, k, i, v, h, hv => by
    rw [show xSl2 (u :: vs) = (if u.category = 2 then [u, xU] else [u]) ++ xSl2 vs from by simp [xSl2]] at h
    show _ ∈ (k, xCv ad u) :: lv_args (if (xCv ad u).category = 2 then k + 2 else k + 1) (vs.map (xCv ad))
    rw [xCv_cat]
    by_cases hc : u.category = 2
    · rw [if_pos hc] at h ⊢
      match i, h with
      | 0, h => cases h; exact List.mem_cons_self
      | 1, h => cases h; exact absurd rfl hv
      | i + 2, h =>
        have := xSl2_at ad vs (k + 2) i v (by simpa using h) hv
        rw [show k + (i + 2) = k + 2 + i by omega]
        exact List.mem_cons_of_mem _ this
    · rw [if_neg hc] at h ⊢
      match i, h with
      | 0, h => cases h; exact List.mem_cons_self
      | i + 1, h =>
        have := xSl2_at ad vs (k + 1) i v (by simpa using h) hv
        rw [show k + (i + 1) = k + 1 + i by omega]
        exact List.mem_cons_of_mem _ this
theorem xSl2_len (ad : Nat → Nat) (vs : List Value) : (lg_sl (vs.map (xCv ad))).length = (xSl2 vs).length := by
  induction vs with
  | nil => rfl
  | cons v vs ih =>
    simp only [lg_sl, xSl2, List.map_cons, List.flatMap_cons, List.length_append] at ih ⊢
    rw [ih, xCv_cat]
    by_cases hc : v.category = 2 <;> simp [hc]
theorem xLh_entry (ad : Nat → Nat) (vs : List Value) {n : Nat} (hn : (xSl2 vs).length ≤ n) : xLh ad n (xEnt n vs) ((lg_sl (vs.map (xCv ad)) ++ List.replicate (n - (lg_sl (vs.map (xCv ad))).length) Slot.unset).toArray) := by
  obtain ⟨h1, h2, h3⟩ := lv_entry (vs.map (xCv ad)) (n := n) (by rw [xSl2_len]; exact hn)
  refine ⟨h1, h2, ?_, fun i v hi hv => ?_⟩
  · show (xSl2 vs ++ List.replicate (n - (xSl2 vs).length) xU).length = n
    simp; omega
  · have hi : (xSl2 vs ++ List.replicate (n - (xSl2 vs).length) xU)[i]? = some v := hi
    by_cases hl : i < (xSl2 vs).length
    · rw [List.getElem?_append_left hl] at hi
      have := xSl2_at ad vs 0 i v hi hv
      rw [Nat.zero_add] at this
      exact h3 _ this
    · rw [List.getElem?_append_right (by omega)] at hi
      have := List.mem_of_getElem? hi
      exact absurd (List.eq_of_mem_replicate this) hv
/-- references are of cells that are made, or of constants -/
def xOk (n : Nat) (v : Value) : Prop := ∀ p : Nat, v = .ref p → p < n ∨ 1000 ≤ p
def xOkL (n : Nat) (l : List Value) : Prop := ∀ v ∈ l, xOk n v
def xOkH (h : xHp) : Prop := ∀ p k q, h.2.2.2 p k = some q → q < h.1
theorem xOk.mono {n n' : Nat} {v : Value} (h : xOk n v) (hn : n ≤ n') : xOk n' v := fun p e => (h p e).imp (fun z => Nat.lt_of_lt_of_le z hn) id
theorem xOkL.mono {n n' : Nat} {l : List Value} (h : xOkL n l) (hn : n ≤ n') : xOkL n' l := fun v hv => (h v hv).mono hn
theorem xOk_int {n : Nat} (x : Int32) : xOk n (.int x) := fun p e => by cases e
theorem xOk_long {n : Nat} (x : Int64) : xOk n (.long x) := fun p e => by cases e
theorem xOk_u {n : Nat} : xOk n xU := fun p e => by cases e
theorem xOk_rf {h : xHp} (hk : xOkH h) (p k : Nat) : xOk h.1 (va_rf (h.2.2.2 p k)) := by
  intro q e
  cases hv : h.2.2.2 p k with
  | none => rw [hv] at e; cases e
  | some y =>
    rw [hv] at e
    have e : Value.ref y = .ref q := e
    cases e
    exact Or.inl (hk p k _ hv)
theorem xOkL.cons {n : Nat} {v : Value} {l : List Value} (hv : xOk n v) (hl : xOkL n l) : xOkL n (v :: l) := fun u hu => by
  rcases List.mem_cons.mp hu with rfl | h
  · exact hv
  · exact hl u h
theorem xOkL.tail {n : Nat} {v : Value} {l : List Value} (h : xOkL n (v :: l)) : xOkL n l := fun u hu => h u (List.mem_cons_of_mem _ hu)
theorem xOkL.head {n : Nat} {v : Value} {l : List Value} (h : xOkL n (v :: l)) : xOk n v := h v List.mem_cons_self
theorem xOkL.set {n i : Nat} {v : Value} {l : List Value} (h : xOkL n l) (hv : xOk n v) : xOkL n (l.set i v) := fun u hu => by
  rcases List.mem_or_eq_of_mem_set hu with h1 | h1
  · exact h u h1
  · rw [h1]; exact hv
theorem xOkL.clr {n i : Nat} {l : List Value} (h : xOkL n l) : xOkL n (xClr l i) := by
  unfold xClr
  split
  · exact h
  · split
    · exact h.set xOk_u
    · exact h.set xOk_u
    · exact h
theorem xOkL.st1 {n i : Nat} {v : Value} {l : List Value} (h : xOkL n l) (hv : xOk n v) : xOkL n (xSt1 l i v) := h.clr.set hv
theorem xOkL.st2 {n i : Nat} {v : Value} {l : List Value} (h : xOkL n l) (hv : xOk n v) : xOkL n (xSt2 l i v) := (h.clr.set hv).set xOk_u
theorem xCv_eq {n : Nat} {ad ad' : Nat → Nat} (h1 : ∀ p, p < n → ad' p = ad p) (h2 : ∀ p, 1000 ≤ p → ad' p = ad p) {v : Value} (hv : xOk n v) : xCv ad' v = xCv ad v := by
  cases v with
  | ref p => exact congrArg Value.ref ((hv p rfl).elim (h1 p) (h2 p))
  | retAddr p => simp only [xCv, h2 4000 (by omega)]
  | _ => rfl
theorem xCv_map {n : Nat} {ad ad' : Nat → Nat} (h1 : ∀ p, p < n → ad' p = ad p) (h2 : ∀ p, 1000 ≤ p → ad' p = ad p) {l : List Value} (hl : xOkL n l) : l.map (xCv ad') = l.map (xCv ad) := List.map_congr_left fun v hv => xCv_eq h1 h2 (hl v hv)
theorem xLh.ad {n nL : Nat} {ad ad' : Nat → Nat} {al : List Value} {ls : Array Slot} (h : xLh ad nL al ls) (h1 : ∀ p, p < n → ad' p = ad p) (h2 : ∀ p, 1000 ≤ p → ad' p = ad p) (hl : xOkL n al) : xLh ad' nL al ls :=
  ⟨h.1, h.2.1, h.2.2.1, fun i v hi hv => by rw [xCv_eq h1 h2 (hl v (List.mem_of_getElem? hi))]; exact h.2.2.2 i v hi hv⟩
/-- a place's cell -/
def xCe (cy : Nat → ClassId) (ad : Nat → Nat) (h : xHp) (p : Nat) : va_E :=
  if xKd p < 7 then .inr (xKd p, (List.range (xLn p)).map (fun k => xCv ad (xVal h p k (xFt (xKd p) k))))
  else if xKd p < 9 then .inl (cy (xKd p), xLn p, .inl (h.2.1 p))
  else .inl (cy (xKd p), xLn p, .inr (.inr (.inr (.inr (fun k => (h.2.2.2 p k).map ad)))))
def xW (cy : Nat → ClassId) (ad : Nat → Nat) (h : xHp) : va_W := (List.range h.1).map (fun p => (ad p, xCe cy ad h p))
theorem xW_get {cy : Nat → ClassId} {ad : Nat → Nat} {h : xHp} {p : Nat} (hp : p < h.1) : (xW cy ad h)[p]? = some (ad p, xCe cy ad h p) := by
  unfold xW
  rw [List.getElem?_map, List.getElem?_range hp]
  rfl
theorem xW_len (cy : Nat → ClassId) (ad : Nat → Nat) (h : xHp) : (xW cy ad h).length = h.1 := by simp [xW]
theorem xW_inv {cy : Nat → ClassId} {ad : Nat → Nat} {h : xHp} {p : Nat} {q : Nat × va_E} (hq : (xW cy ad h)[p]? = some q) : p < h.1 ∧ q = (ad p, xCe cy ad h p) := by
  have hl := (List.getElem?_eq_some_iff.mp hq).1
  rw [xW_len] at hl
  rw [xW_get hl] at hq
  exact ⟨hl, (Option.some.inj hq).symm⟩
theorem xW_set {cy : Nat → ClassId} {ad : Nat → Nat} {h h' : xHp} {p : Nat} {e : va_E} (hp : p < h.1) (h1 : h'.1 = h.1) (he : xCe cy ad h' p = e) (ho : ∀ q, q ≠ p → xCe cy ad h' q = xCe cy ad h q) : (xW cy ad h).set p (ad p, e) = xW cy ad h' := by
  apply List.ext_getElem?
  intro k
  by_cases hk : k < h.1
  · rw [xW_get (h := h') (by omega)]
    by_cases hkp : k = p
    · subst hkp
      rw [List.getElem?_set_self (by rw [xW_len]; exact hk), he]
    · rw [List.getElem?_set_ne (Ne.symm hkp), xW_get hk, ho k hkp]
  · rw [List.getElem?_eq_none (by rw [List.length_set, xW_len]; omega), List.getElem?_eq_none (by rw [xW_len]; omega)]
theorem xW_push {cy : Nat → ClassId} {ad ad' : Nat → Nat} {h h' : xHp} {e : va_E} {q : Nat} (h1 : h'.1 = h.1 + 1) (hq : ad' h.1 = q) (he : xCe cy ad' h' h.1 = e) (ho : ∀ p, p < h.1 → ad' p = ad p ∧ xCe cy ad' h' p = xCe cy ad h p) : xW cy ad h ++ [(q, e)] = xW cy ad' h' := by
  apply List.ext_getElem?
  intro k
  by_cases hk : k < h.1
  · rw [xW_get (h := h') (by omega), List.getElem?_append_left (by rw [xW_len]; exact hk), xW_get hk, (ho k hk).1, (ho k hk).2]
  · rw [List.getElem?_append_right (by rw [xW_len]; omega), xW_len]
    by_cases e1 : k = h.1
    · subst e1
      rw [xW_get (h := h') (by omega), Nat.sub_self, hq, he]
      rfl
    · rw [List.getElem?_eq_none (by simp; omega), List.getElem?_eq_none (by rw [xW_len]; omega)]
theorem xVal_put {h : xHp} {p k : Nat} {v : Value} {ty : FieldType} (hf : xFits ty v) : xVal (xPut h p k v) p k ty = v := by
  cases ty <;> cases v <;> simp_all [xFits, xVal, xPut, up2, va_rf]
theorem xVal_other {h : xHp} {p k q j : Nat} {v : Value} {ty : FieldType} (hn : q ≠ p ∨ j ≠ k) : xVal (xPut h p k v) q j ty = xVal h q j ty := by
  have e : ∀ {α : Type} (f : Nat → Nat → α) (x : α), up2 f p k x q j = f q j := by
    intro α f x
    unfold up2
    rcases hn with z | z
    · rw [if_neg z]
    · by_cases y : q = p
      · rw [if_pos y, if_neg z]
      · rw [if_neg y]
  cases ty <;> cases v <;> simp [xVal, xPut, e]
theorem xPut_n (h : xHp) (p k : Nat) (v : Value) : (xPut h p k v).1 = h.1 := by cases v <;> rfl
theorem xPut_i (h : xHp) (p k : Nat) (v : Value) {q : Nat} (hq : q ≠ p) : (xPut h p k v).2.1 q = h.2.1 q := by
  cases v <;> simp [xPut]
  funext j
  simp [up2, hq]
theorem xPut_r (h : xHp) (p k : Nat) (v : Value) {q : Nat} (hq : q ≠ p) : (xPut h p k v).2.2.2 q = h.2.2.2 q := by
  cases v <;> simp [xPut]
  funext j
  simp [up2, hq]
theorem xCe_other {cy : Nat → ClassId} {ad : Nat → Nat} {h : xHp} {p k q : Nat} {v : Value} (hq : q ≠ p) : xCe cy ad (xPut h p k v) q = xCe cy ad h q := by
  unfold xCe
  rw [xPut_i h p k v hq, xPut_r h p k v hq]
  simp only [xVal_other (Or.inl hq)]
theorem xCe_put {cy : Nat → ClassId} {ad : Nat → Nat} {h : xHp} {p k : Nat} {v : Value} (hp : xKd p < 7) (hf : xFits (xFt (xKd p) k) v) : xCe cy ad (xPut h p k v) p = .inr (xKd p, ((List.range (xLn p)).map (fun k => xCv ad (xVal h p k (xFt (xKd p) k)))).set k (xCv ad v)) := by
  unfold xCe
  rw [if_pos hp]
  refine congrArg (fun l => Sum.inr (xKd p, l)) ?_
  apply List.ext_getElem?
  intro j
  by_cases hj : j < xLn p
  · by_cases e : j = k
    · subst e
      rw [List.getElem?_set_self (by simpa using hj)]
      simp [hj, xVal_put hf]
    · rw [List.getElem?_set_ne (Ne.symm e)]
      simp [hj, xVal_other (Or.inr e)]
  · rw [List.getElem?_eq_none (by simpa using hj), List.getElem?_eq_none (by simpa using hj)]
theorem xCe_iput {cy : Nat → ClassId} {ad : Nat → Nat} {h : xHp} {p k : Nat} {x : Int32} (h7 : ¬ xKd p < 7) (h9 : xKd p < 9) : xCe cy ad (xPut h p k (.int x)) p = .inl (cy (xKd p), xLn p, .inl (upd (h.2.1 p) k x)) := by
  unfold xCe
  rw [if_neg h7, if_pos h9]
  refine congrArg (fun f => Sum.inl (cy (xKd p), xLn p, Sum.inl f)) ?_
  funext j
  simp [xPut, up2, upd]
theorem xCe_aput {cy : Nat → ClassId} {ad : Nat → Nat} {h : xHp} {p k q : Nat} (h7 : ¬ xKd p < 7) (h9 : ¬ xKd p < 9) : xCe cy ad (xPut h p k (.ref q)) p = .inl (cy (xKd p), xLn p, .inr (.inr (.inr (.inr (va_up (fun k => (h.2.2.2 p k).map ad) k (some (ad q))))))) := by
  unfold xCe
  rw [if_neg h7, if_neg h9]
  refine congrArg (fun f => Sum.inl (cy (xKd p), xLn p, Sum.inr (Sum.inr (Sum.inr (Sum.inr f))))) ?_
  funext j
  by_cases e : j = k
  · subst e; simp [xPut, up2, va_up]
  · simp [xPut, up2, va_up, e]
/-- other addresses for cells that aren't made yet -/
theorem xCe_ad {cy : Nat → ClassId} {ad ad' : Nat → Nat} {h : xHp} (hk : xOkH h) (ha : ∀ p, p < h.1 → ad' p = ad p) (p : Nat) : xCe cy ad' h p = xCe cy ad h p := by
  have e : ∀ k, (h.2.2.2 p k).map ad' = (h.2.2.2 p k).map ad := by
    intro k
    cases hv : h.2.2.2 p k with
    | none => rfl
    | some q => exact congrArg some (ha q (hk p k q hv))
  have e2 : ∀ k ty, xCv ad' (xVal h p k ty) = xCv ad (xVal h p k ty) := by
    intro k ty
    cases ty <;> simp only [xVal] <;> first | rfl | (rw [xCv_rf, xCv_rf, e k])
  unfold xCe
  simp only [e, e2]
theorem xW_ad {cy : Nat → ClassId} {ad ad' : Nat → Nat} {h : xHp} (hk : xOkH h) (ha : ∀ p, p < h.1 → ad' p = ad p) : xW cy ad' h = xW cy ad h := by
  unfold xW
  refine List.map_congr_left fun p hp => ?_
  rw [ha p (List.mem_range.mp hp), xCe_ad hk ha p]
theorem xNew_old {h : xHp} {p : Nat} (hp : p ≠ h.1) : (xNew h).2.1 p = h.2.1 p ∧ (xNew h).2.2.1 p = h.2.2.1 p ∧ (xNew h).2.2.2 p = h.2.2.2 p := by
  simp [xNew, va_up, hp]
theorem xCe_new {cy : Nat → ClassId} {ad : Nat → Nat} {h : xHp} {p : Nat} (hp : p ≠ h.1) : xCe cy ad (xNew h) p = xCe cy ad h p := by
  obtain ⟨h1, h2, h3⟩ := xNew_old hp
  have e : ∀ k ty, xVal (xNew h) p k ty = xVal h p k ty := by
    intro k ty
    cases ty <;> simp only [xVal, h1, h2, h3]
  unfold xCe
  simp only [e, h1, h3]
theorem xOkH.new {h : xHp} (hk : xOkH h) : xOkH (xNew h) := by
  intro p k q hq
  by_cases hp : p = h.1
  · subst hp
    simp [xNew, va_up] at hq
  · rw [(xNew_old hp).2.2] at hq
    exact Nat.lt_succ_of_lt (hk p k q hq)
theorem xOkH.put {h : xHp} (hk : xOkH h) {p k : Nat} {v : Value} (hv : ∀ q, v = .ref q → q < h.1) : xOkH (xPut h p k v) := by
  intro a b q hq
  rw [xPut_n]
  cases v with
  | ref y =>
    simp only [xPut, up2] at hq
    by_cases ha : a = p
    · by_cases hb : b = k
      · rw [if_pos ha, if_pos hb] at hq
        cases hq
        exact hv q rfl
      · rw [if_pos ha, if_neg hb] at hq
        exact hk a b q hq
    · rw [if_neg ha] at hq
      exact hk a b q hq
  | _ => exact hk a b q hq
theorem xSl_mono {a b : Nat} (h : a ≤ b) : xSl a ≤ xSl b := by
  induction b with
  | zero => rw [Nat.le_zero.mp h]; exact Nat.le_refl _
  | succ b ih =>
    rcases Nat.lt_or_ge a (b + 1) with z | z
    · exact Nat.le_trans (ih (by omega)) (Nat.le_add_right _ _)
    · rw [show a = b + 1 by omega]; exact Nat.le_refl _
