/-! a text's tokens, and how it is read: as functions -/
def isL (x : Int32) : Bool := decide (97 ≤ x) && decide (x ≤ 122)
def isD (x : Int32) : Bool := decide (48 ≤ x) && decide (x ≤ 57)
def isB (x : Int32) : Bool := decide (x = 32) || decide (x = 10)
def isS (x : Int32) : Bool := decide (x = 40) || decide (x = 41) || decide (x = 59) || decide (x = 43) || decide (x = 45) || decide (x = 42) || decide (x = 60) || decide (x = 61)
def scn (P : Int32 → Bool) (b : Nat → Int32) (z : Nat) : Nat → Nat → Nat
  | 0, i => i
  | d + 1, i => if i < z then (if P (b i) = true then scn P b z d (i + 1) else i) else i
def sc (P : Int32 → Bool) (b : Nat → Int32) (z i : Nat) : Nat := scn P b z (z - i) i
theorem sc_s {P : Int32 → Bool} {b : Nat → Int32} {z i : Nat} (h : i < z) (hp : P (b i) = true) : sc P b z i = sc P b z (i + 1) := by
  unfold sc
  rw [show z - i = (z - (i + 1)) + 1 by omega, scn, if_pos h, if_pos hp]
theorem sc_n {P : Int32 → Bool} {b : Nat → Int32} {z i : Nat} (h : i < z → ¬ P (b i) = true) : sc P b z i = i := by
  unfold sc
  by_cases c : i < z
  · rw [show z - i = (z - (i + 1)) + 1 by omega, scn, if_pos c, if_neg (h c)]
  · rw [show z - i = 0 by omega, scn]
theorem sc_b {P : Int32 → Bool} {b : Nat → Int32} {z : Nat} : ∀ d i, z - i = d → i ≤ sc P b z i ∧ (i ≤ z → sc P b z i ≤ z) ∧ (∀ k, i ≤ k → k < sc P b z i → P (b k) = true) ∧ (sc P b z i < z → ¬ P (b (sc P b z i)) = true) := by
  intro d
  induction d with
  | zero =>
    intro i h
    rw [sc_n (by omega)]
    exact ⟨by omega, by omega, by omega, by omega⟩
  | succ d ih =>
    intro i h
    by_cases c : P (b i) = true
    · rw [sc_s (by omega) c]
      obtain ⟨h1, h2, h3, h4⟩ := ih (i + 1) (by omega)
      refine ⟨by omega, by omega, fun k hk hk2 => ?_, h4⟩
      by_cases e : k = i
      · rw [e]; exact c
      · exact h3 k (by omega) hk2
    · rw [sc_n (fun _ => c)]
      exact ⟨by omega, by omega, by omega, fun _ => c⟩
theorem sc_le {P : Int32 → Bool} {b : Nat → Int32} {z i : Nat} : i ≤ sc P b z i := (sc_b _ i rfl).1
theorem sc_z {P : Int32 → Bool} {b : Nat → Int32} {z i : Nat} (h : i ≤ z) : sc P b z i ≤ z := (sc_b _ i rfl).2.1 h
theorem sc_all {P : Int32 → Bool} {b : Nat → Int32} {z i k : Nat} (h : i ≤ k) (h2 : k < sc P b z i) : P (b k) = true := (sc_b _ i rfl).2.2.1 k h h2
theorem sc_end {P : Int32 → Bool} {b : Nat → Int32} {z i : Nat} (h : sc P b z i < z) : ¬ P (b (sc P b z i)) = true := (sc_b _ i rfl).2.2.2 h
def lst (b : Nat → Int32) : Nat → Nat → List Int32
  | _, 0 => []
  | i, d + 1 => b i :: lst b (i + 1) d
def wd (l : List Int32) : Nat :=
  if l = [109, 97, 121] then 3 else if l = [106, 111, 121, 115] then 4 else if l = [99, 111, 111, 108, 115] then 5 else if l = [111, 114] then 6 else if l = [97, 110, 100] then 7 else if l = [110, 111, 116] then 8
  else if l = [104, 101, 97, 116] then 10 else if l = [116, 104, 105, 114, 115, 116] then 11 else if l = [110, 117, 109, 98, 101, 114] then 12 else if l = [115, 104, 111, 119, 110] then 13 else if l = [109, 105, 110, 117, 116, 101] then 14 else if l = [99, 117, 112, 115] then 15 else 1
def dec (b : Nat → Int32) (s : Nat) : Nat → Int32
  | 0 => 0
  | d + 1 => dec b s d * 10 + b (s + d) - 48
/-- a token's place, its end, its kind, its worth -/
def tpl (b : Nat → Int32) (z i : Nat) : Nat := sc isB b z i
def ten (b : Nat → Int32) (z s : Nat) : Nat := if z ≤ s then s else if isL (b s) = true then sc isL b z s else if isD (b s) = true then sc isD b z s else s + 1
def tkk (b : Nat → Int32) (z s : Nat) : Nat := if z ≤ s then 0 else if isL (b s) = true then wd (lst b s (sc isL b z s - s)) else if isD (b s) = true then (if 4 < sc isD b z s - s then 1 else 2) else if isS (b s) = true then (b s).toNatClampNeg else 1
def tst (b : Nat → Int32) (z i : Nat) : Nat := ten b z (tpl b z i)
def tkd (b : Nat → Int32) (z i : Nat) : Nat := tkk b z (tpl b z i)
def twt (b : Nat → Int32) (z i : Nat) : Int32 := dec b (tpl b z i) (sc isD b z (tpl b z i) - tpl b z i)
theorem tpl_le {b : Nat → Int32} {z i : Nat} : i ≤ tpl b z i := sc_le
theorem tpl_z {b : Nat → Int32} {z i : Nat} (h : i ≤ z) : tpl b z i ≤ z := sc_z h
theorem ten_b {b : Nat → Int32} {z s : Nat} (h : s ≤ z) : s ≤ ten b z s ∧ ten b z s ≤ z ∧ (s < z → s < ten b z s) := by
  unfold ten
  by_cases c : z ≤ s
  · rw [if_pos c]; omega
  · rw [if_neg c]
    by_cases c1 : isL (b s) = true
    · rw [if_pos c1]
      have h1 : s ≤ sc isL b z s := sc_le
      have h2 : sc isL b z s ≤ z := sc_z h
      have h3 : sc isL b z s = sc isL b z (s + 1) := sc_s (by omega) c1
      have h4 : s + 1 ≤ sc isL b z (s + 1) := sc_le
      omega
    · rw [if_neg c1]
      by_cases c2 : isD (b s) = true
      · rw [if_pos c2]
        have h1 : s ≤ sc isD b z s := sc_le
        have h2 : sc isD b z s ≤ z := sc_z h
        have h3 : sc isD b z s = sc isD b z (s + 1) := sc_s (by omega) c2
        have h4 : s + 1 ≤ sc isD b z (s + 1) := sc_le
        omega
      · rw [if_neg c2]; omega
theorem tst_le {b : Nat → Int32} {z i : Nat} (h : i ≤ z) : i ≤ tst b z i := by
  have h1 : i ≤ tpl b z i := tpl_le
  have h2 := (ten_b (b := b) (tpl_z (b := b) h)).1
  exact Nat.le_trans h1 h2
theorem tst_z {b : Nat → Int32} {z i : Nat} (h : i ≤ z) : tst b z i ≤ z := (ten_b (b := b) (tpl_z (b := b) h)).2.1
theorem tst_lt {b : Nat → Int32} {z i : Nat} (h : i ≤ z) (hk : ¬ tkd b z i = 0) : i < tst b z i := by
  have h1 : i ≤ tpl b z i := tpl_le
  have h2 := (ten_b (b := b) (tpl_z (b := b) h)).2.2
  have h3 : tpl b z i < z := by
    refine Nat.lt_of_not_le fun c => hk ?_
    unfold tkd tkk
    exact if_pos c
  have h4 := h2 h3
  exact Nat.lt_of_le_of_lt h1 h4
theorem tkd_end {b : Nat → Int32} {z i : Nat} (h : z ≤ i) : tkd b z i = 0 := by
  unfold tkd tkk
  exact if_pos (Nat.le_trans h tpl_le)
/-- went well?, where, words -/
abbrev PR : Type := Bool × Nat × List Int32
section
variable (kd st : Nat → Nat) (wt : Nat → Int32)
def pLp (op : Nat → Option Int32) (el : Nat → PR) : Nat → PR → PR
  | 0, r => r
  | d + 1, r => if r.1 = true then (match op (kd r.2.1) with
    | none => r
    | some w => pLp op el d ((el (st r.2.1)).1, (el (st r.2.1)).2.1, r.2.2 ++ ((el (st r.2.1)).2.2 ++ [w]))) else r
def pAt (dp : Option ((Nat → PR) × (Nat → PR))) (i : Nat) : PR :=
  if kd i = 2 then (true, st i, [wt i])
  else if 10 ≤ kd i ∧ kd i < 16 then (true, st i, [-(io (kd i))])
  else match dp with
    | none => (false, i, [])
    | some (fa, fo) => if kd i = 45 then ((fa (st i)).1, (fa (st i)).2.1, (fa (st i)).2.2 ++ [-9])
      else if kd i = 40 then (if (fo (st i)).1 = true then (if kd (fo (st i)).2.1 = 41 then (true, st (fo (st i)).2.1, (fo (st i)).2.2) else (false, (fo (st i)).2.1, [])) else fo (st i))
      else (false, i, [])
def opT (k : Nat) : Option Int32 := if k = 42 then some (-42) else none
def opS (k : Nat) : Option Int32 := if k = 43 then some (-43) else if k = 45 then some (-45) else none
def opA (k : Nat) : Option Int32 := if k = 7 then some (-7) else none
def opO (k : Nat) : Option Int32 := if k = 6 then some (-6) else none
def pTm (fa : Nat → PR) (i : Nat) : PR := pLp kd st opT fa 160 (fa i)
def pSm (ft : Nat → PR) (i : Nat) : PR := pLp kd st opS ft 160 (ft i)
def pCm (fs : Nat → PR) (i : Nat) : PR := if (fs i).1 = true ∧ (kd (fs i).2.1 = 60 ∨ kd (fs i).2.1 = 61) then ((fs (st (fs i).2.1)).1, (fs (st (fs i).2.1)).2.1, (fs i).2.2 ++ ((fs (st (fs i).2.1)).2.2 ++ [-(io (kd (fs i).2.1))])) else fs i
def pNt (dn : Option (Nat → PR)) (fc : Nat → PR) (i : Nat) : PR := if kd i = 8 then (match dn with
    | none => (false, i, [])
    | some fn => ((fn (st i)).1, (fn (st i)).2.1, (fn (st i)).2.2 ++ [-8])) else fc i
def pAn (fn : Nat → PR) (i : Nat) : PR := pLp kd st opA fn 160 (fn i)
def pOr (fn : Nat → PR) (i : Nat) : PR := pLp kd st opO fn 160 (fn i)
/-- an atom, a not, an or, d more may open -/
def pLv : Nat → (Nat → PR) × (Nat → PR) × (Nat → PR)
  | 0 => (pAt kd st wt none, pNt kd st none (pCm kd st (pSm kd st (pTm kd st (pAt kd st wt none)))), pOr kd st (pAn kd st (pNt kd st none (pCm kd st (pSm kd st (pTm kd st (pAt kd st wt none)))))))
  | d + 1 => (pAt kd st wt (some ((pLv d).1, (pLv d).2.2)), pNt kd st (some (pLv d).2.1) (pCm kd st (pSm kd st (pTm kd st (pAt kd st wt (some ((pLv d).1, (pLv d).2.2)))))),
      pOr kd st (pAn kd st (pNt kd st (some (pLv d).2.1) (pCm kd st (pSm kd st (pTm kd st (pAt kd st wt (some ((pLv d).1, (pLv d).2.2)))))))))
def qA (d : Nat) : Nat → PR := (pLv kd st wt d).1
def qN (d : Nat) : Nat → PR := (pLv kd st wt d).2.1
def qO (d : Nat) : Nat → PR := (pLv kd st wt d).2.2
def qT (d : Nat) : Nat → PR := pTm kd st (qA kd st wt d)
def qS (d : Nat) : Nat → PR := pSm kd st (qT kd st wt d)
def qC (d : Nat) : Nat → PR := pCm kd st (qS kd st wt d)
def qB (d : Nat) : Nat → PR := pAn kd st (qN kd st wt d)
/-- the part with key 3 + j -/
def pPt (j i : Nat) : PR := if kd i = 3 + j then (if (qO kd st wt 5 (st i)).1 = true then (if kd (qO kd st wt 5 (st i)).2.1 = 59 then (true, st (qO kd st wt 5 (st i)).2.1, (qO kd st wt 5 (st i)).2.2) else (false, (qO kd st wt 5 (st i)).2.1, [])) else qO kd st wt 5 (st i)) else (false, i, [])
/-- all three: went well?, where, words of each -/
def pTx : Bool × Nat × List Int32 × List Int32 × List Int32 :=
  if (pPt kd st wt 0 0).1 = true then (if (pPt kd st wt 1 (pPt kd st wt 0 0).2.1).1 = true then
    (((pPt kd st wt 2 (pPt kd st wt 1 (pPt kd st wt 0 0).2.1).2.1).1 && decide (kd (pPt kd st wt 2 (pPt kd st wt 1 (pPt kd st wt 0 0).2.1).2.1).2.1 = 0)), (pPt kd st wt 2 (pPt kd st wt 1 (pPt kd st wt 0 0).2.1).2.1).2.1, (pPt kd st wt 0 0).2.2, (pPt kd st wt 1 (pPt kd st wt 0 0).2.1).2.2, (pPt kd st wt 2 (pPt kd st wt 1 (pPt kd st wt 0 0).2.1).2.1).2.2)
    else (false, (pPt kd st wt 1 (pPt kd st wt 0 0).2.1).2.1, [], [], [])) else (false, (pPt kd st wt 0 0).2.1, [], [], [])
end
theorem qO_eq {kd st : Nat → Nat} {wt : Nat → Int32} : ∀ {d : Nat}, qO kd st wt d = pOr kd st (qB kd st wt d)
  | 0 => rfl
  | _ + 1 => rfl
theorem qN_0 {kd st : Nat → Nat} {wt : Nat → Int32} : qN kd st wt 0 = pNt kd st none (qC kd st wt 0) := rfl
theorem qN_s {kd st : Nat → Nat} {wt : Nat → Int32} {d : Nat} : qN kd st wt (d + 1) = pNt kd st (some (qN kd st wt d)) (qC kd st wt (d + 1)) := rfl
theorem qA_0 {kd st : Nat → Nat} {wt : Nat → Int32} : qA kd st wt 0 = pAt kd st wt none := rfl
theorem qA_s {kd st : Nat → Nat} {wt : Nat → Int32} {d : Nat} : qA kd st wt (d + 1) = pAt kd st wt (some (qA kd st wt d, qO kd st wt d)) := rfl
/-- where a reading gets, and how many words it lays -/
def gd (z : Nat) (f : Nat → PR) : Prop := ∀ i, i ≤ z → (i ≤ (f i).2.1 ∧ (f i).2.1 ≤ z) ∧ (f i).2.2.length + i ≤ (f i).2.1
def tkG (z : Nat) (kd st : Nat → Nat) : Prop := (∀ i, i ≤ z → i ≤ st i ∧ st i ≤ z) ∧ (∀ i, i ≤ z → ¬ kd i = 0 → i < st i) ∧ ∀ i, z ≤ i → kd i = 0
theorem tkG_t {b : Nat → Int32} {z : Nat} : tkG z (tkd b z) (tst b z) := ⟨fun _ h => ⟨tst_le h, tst_z h⟩, fun _ h k => tst_lt h k, fun _ h => tkd_end h⟩
theorem pLp_gd {z : Nat} {kd st : Nat → Nat} (hk : tkG z kd st) {op : Nat → Option Int32} (ho : op 0 = none) {el : Nat → PR} (he : gd z el) : ∀ d (r : PR) (i : Nat), (i ≤ r.2.1 ∧ r.2.1 ≤ z) ∧ r.2.2.length + i ≤ r.2.1 → (i ≤ (pLp kd st op el d r).2.1 ∧ (pLp kd st op el d r).2.1 ≤ z) ∧ (pLp kd st op el d r).2.2.length + i ≤ (pLp kd st op el d r).2.1
  | 0, r, i, h => h
  | d + 1, r, i, h => by
    rw [pLp]
    by_cases c : r.1 = true
    · rw [if_pos c]
      cases e : op (kd r.2.1) with
      | none => exact h
      | some w =>
        have h0 : ¬ kd r.2.1 = 0 := fun c2 => by rw [c2, ho] at e; exact absurd e (by simp)
        have h1 := hk.2.1 _ h.1.2 h0
        have h2 := (hk.1 _ h.1.2).2
        have h3 := he _ h2
        refine pLp_gd hk ho he d _ i ?_
        simp only [List.length_append, List.length_cons, List.length_nil]
        omega
    · rw [if_neg c]; exact h
theorem pLp_gd1 {z : Nat} {kd st : Nat → Nat} (hk : tkG z kd st) {op : Nat → Option Int32} (ho : op 0 = none) {el : Nat → PR} (he : gd z el) : gd z (fun i => pLp kd st op el 160 (el i)) := fun i hi => pLp_gd hk ho he 160 _ i (he i hi)
theorem pAt_gd {z : Nat} {kd st : Nat → Nat} {wt : Nat → Int32} (hk : tkG z kd st) {dp : Option ((Nat → PR) × (Nat → PR))} (h : ∀ fa fo, dp = some (fa, fo) → gd z fa ∧ gd z fo) : gd z (pAt kd st wt dp) := by
  intro i hi
  have h1 := hk.1 i hi
  have h2 := hk.2.1 i hi
  unfold pAt
  by_cases c1 : kd i = 2
  · rw [if_pos c1]
    have := h2 (by omega)
    simp only [List.length_cons, List.length_nil]
    omega
  rw [if_neg c1]
  by_cases c2 : 10 ≤ kd i ∧ kd i < 16
  · rw [if_pos c2]
    have := h2 (by omega)
    simp only [List.length_cons, List.length_nil]
    omega
  rw [if_neg c2]
  rcases dp with _ | ⟨fa, fo⟩
  · simp only [List.length_nil]; omega
  · obtain ⟨ga, go⟩ := h fa fo rfl
    dsimp only
    by_cases c3 : kd i = 45
    · rw [if_pos c3]
      have := h2 (by omega)
      have g := ga _ h1.2
      simp only [List.length_append, List.length_cons, List.length_nil]
      omega
    rw [if_neg c3]
    by_cases c4 : kd i = 40
    · rw [if_pos c4]
      have := h2 (by omega)
      have g := go _ h1.2
      by_cases c5 : (fo (st i)).1 = true
      · rw [if_pos c5]
        by_cases c6 : kd (fo (st i)).2.1 = 41
        · rw [if_pos c6]
          have g2 := hk.1 _ g.1.2
          dsimp only
          omega
        · rw [if_neg c6]
          simp only [List.length_nil]
          omega
      · rw [if_neg c5]
        omega
    rw [if_neg c4]
    simp only [List.length_nil]; omega
theorem pCm_gd {z : Nat} {kd st : Nat → Nat} (hk : tkG z kd st) {fs : Nat → PR} (h : gd z fs) : gd z (pCm kd st fs) := by
  intro i hi
  have h1 := h i hi
  unfold pCm
  by_cases c : (fs i).1 = true ∧ (kd (fs i).2.1 = 60 ∨ kd (fs i).2.1 = 61)
  · rw [if_pos c]
    have h2 := hk.2.1 _ h1.1.2 (by omega)
    have h3 := h _ (hk.1 _ h1.1.2).2
    simp only [List.length_append, List.length_cons, List.length_nil]
    omega
  · rw [if_neg c]; exact h1
theorem pNt_gd {z : Nat} {kd st : Nat → Nat} (hk : tkG z kd st) {dn : Option (Nat → PR)} (hd : ∀ fn, dn = some fn → gd z fn) {fc : Nat → PR} (h : gd z fc) : gd z (pNt kd st dn fc) := by
  intro i hi
  have h1 := hk.1 i hi
  have h2 := hk.2.1 i hi
  unfold pNt
  by_cases c : kd i = 8
  · rw [if_pos c]
    rcases dn with _ | fn
    · simp only [List.length_nil]; omega
    · have g := hd fn rfl _ h1.2
      have := h2 (by omega)
      simp only [List.length_append, List.length_cons, List.length_nil]
      omega
  · rw [if_neg c]; exact h i hi
theorem lv_gd {z : Nat} {kd st : Nat → Nat} {wt : Nat → Int32} (hk : tkG z kd st) : ∀ d, gd z (qA kd st wt d) ∧ gd z (qN kd st wt d) ∧ gd z (qO kd st wt d) := by
  have key : ∀ d, gd z (qA kd st wt d) → (∀ fc, gd z fc → gd z (qC kd st wt d) → True) → gd z (qC kd st wt d) := fun d h _ => pCm_gd hk (pLp_gd1 hk rfl (pLp_gd1 hk rfl h))
  intro d
  induction d with
  | zero =>
    have a : gd z (qA kd st wt 0) := by rw [qA_0]; exact pAt_gd hk (fun _ _ e => absurd e (by simp))
    have n : gd z (qN kd st wt 0) := by rw [qN_0]; exact pNt_gd hk (fun _ e => absurd e (by simp)) (key 0 a (fun _ _ _ => trivial))
    exact ⟨a, n, by rw [qO_eq]; exact pLp_gd1 hk rfl (pLp_gd1 hk rfl n)⟩
  | succ d ih =>
    have a : gd z (qA kd st wt (d + 1)) := by rw [qA_s]; exact pAt_gd hk (fun _ _ e => by injection e with e; injection e with e1 e2; exact ⟨e1 ▸ ih.1, e2 ▸ ih.2.2⟩)
    have n : gd z (qN kd st wt (d + 1)) := by rw [qN_s]; exact pNt_gd hk (fun _ e => by injection e with e; exact e ▸ ih.2.1) (key _ a (fun _ _ _ => trivial))
    exact ⟨a, n, by rw [qO_eq]; exact pLp_gd1 hk rfl (pLp_gd1 hk rfl n)⟩
/-- words on a stack -/
def ev (v : Vw) (c : List Int32) (st : List Int32) : List Int32 := c.foldl (fun s x => stp v x s) st
theorem ev_app {v : Vw} {c d st : List Int32} : ev v (c ++ d) st = ev v d (ev v c st) := List.foldl_append
theorem ev_one {v : Vw} {x : Int32} {st : List Int32} : ev v [x] st = stp v x st := rfl
/-- what a text's words say -/
def ruL (c : List Int32 × List Int32 × List Int32) : Ru := fun part w => match part with
  | 0 => (ev w c.1 []).headD 0
  | 1 => (ev w c.2.1 []).headD 0
  | _ => (ev w c.2.2 []).headD 0
theorem gD_l {c d : List Int32} {j : Nat} (h : j < c.length) : (c ++ d).getD j 0 = c.getD j 0 := by
  rw [List.getD_eq_getElem?_getD, List.getD_eq_getElem?_getD, List.getElem?_append_left h]
theorem gD_r {c d : List Int32} {j : Nat} (h : c.length ≤ j) : (c ++ d).getD j 0 = d.getD (j - c.length) 0 := by
  rw [List.getD_eq_getElem?_getD, List.getD_eq_getElem?_getD, List.getElem?_append_right h]
theorem rn_ev {v : Vw} {C : Nat → Int32} {i : Nat} : ∀ (k : Nat) (c : List Int32), c.length = k → (∀ j, j < k → C (i + j) = c.getD j 0) → rn v C i k = ev v c []
  | 0, c, h, _ => by
    rw [List.length_eq_zero_iff.mp h]
    rfl
  | k + 1, c, h, hc => by
    rcases List.eq_nil_or_concat c with e | ⟨d, x, e⟩
    · rw [e] at h; exact absurd h (by simp)
    · subst e
      simp only [List.concat_eq_append, List.length_append, List.length_cons, List.length_nil] at h
      have hl : d.length = k := by omega
      have hx := hc k (by omega)
      simp only [List.concat_eq_append] at hx ⊢
      rw [gD_r (by omega), hl, Nat.sub_self] at hx
      rw [rn, hx, rn_ev k d hl (fun j hj => by
        have := hc j (by omega)
        simp only [List.concat_eq_append] at this
        rw [gD_l (by omega)] at this
        exact this), ev_app]
      rfl
