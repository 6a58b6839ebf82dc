/-! guards, hours, shares: both sides -/

abbrev inN (n : Nat) (x : Int32) : Prop := 0 ≤ x.toInt ∧ x.toInt < n
theorem inN_is {n : Nat} {x : Int32} (hn : n < 2147483648) : inN n x ↔ isN n x := ⟨fun h => isN_of h.1 h.2 hn, fun h => isN_b h hn⟩
theorem inN_io {n a : Nat} (h : a < n) (hn : n < 2147483648) : inN n (io a) := (inN_is hn).mpr ⟨a, h, rfl⟩
theorem lt0 {x : Int32} : x < 0 ↔ x.toInt < 0 := lt_int
theorem ltio {x : Int32} {n : Nat} (hn : n < 2147483648) : x < io n ↔ x.toInt < n := by rw [lt_int, io_int hn]
theorem leio {x : Int32} {n : Nat} (hn : n < 2147483648) : io n ≤ x ↔ (n : Int) ≤ x.toInt := by rw [le_int, io_int hn]
theorem ioeq {x : Int32} {n : Nat} (hn : n < 2147483648) : x = io n ↔ x.toInt = n := by rw [eq_int, io_int hn]
theorem qb {Q : Value → xHp → Prop} {h : xHp} {P : Prop} {inst : Decidable P} {v : Int32} (hQ : Q (.int (if P then 1 else 0)) h) (e : (P ∧ v = 1) ∨ (¬ P ∧ v = 0)) : Q (.int v) h := by
  rcases e with ⟨e, rfl⟩ | ⟨e, rfl⟩
  · rw [if_pos e] at hQ; exact hQ
  · rw [if_neg e] at hQ; exact hQ
theorem i64_0 : (0 : Int64).toInt = 0 := by decide

set_option maxRecDepth 10000 in
theorem s_isAunt {xs : xSc} {m : Nat} {I : Nat → Nat → Int32} {L : Nat → Nat → Int64} {Q : Value → xHp → Prop} (hm : 1 ≤ m) {n : Nat} {x : Int32} (hn : I 1 3 = io n) (h5 : n ≤ 5) (hQ : Q (.int (if inN n x then 1 else 0)) (Hp I L)) : M xs m xi_X6_isAunt [.ref 0, .int x] (Hp I L) Q := by
  obtain ⟨m, rfl⟩ : ∃ k, m = k + 1 := ⟨m - 1, by omega⟩
  refine M_go (ls := [_, _]) (ml := 2) rfl rfl rfl (zl rfl) rfl ?_
  refine r_iload_n rfl ?_
  refine r_if_lt (fun c_1 => ?_) (fun c_1 => ?_)
  · refine E_go 1 rfl ?_
    refine r_iconst ?_
    refine r_nil ?_
    refine E_go 2 rfl ?_
    refine r_iret rfl (by first | exact Or.inl rfl | exact Or.inr rfl) ?_
    refine qb hQ ?_
    have t0 : (0 : Int32).toInt = 0 := rfl
    refine Or.inr ⟨?_, rfl⟩
    intro q
    first
    | exact absurd (lt0.mp c_1) (by omega)
    | exact absurd ((leio (by omega)).mp c_12) (by omega)
  · refine r_iload_n rfl ?_
    refine r_aload_n rfl ?_
    refine r_getA (q := 1) (by decide) rfl rfl (by decide) ?_
    refine r_getI (by decide) rfl rfl (by decide) hn ?_
    refine r_icmp_ge (fun c_12 => ?_) (fun c_12 => ?_)
    · refine E_go 1 rfl ?_
      refine r_iconst ?_
      refine r_nil ?_
      refine E_go 2 rfl ?_
      refine r_iret rfl (by first | exact Or.inl rfl | exact Or.inr rfl) ?_
      refine qb hQ ?_
      have t0 : (0 : Int32).toInt = 0 := rfl
      refine Or.inr ⟨?_, rfl⟩
      intro q
      first
      | exact absurd (lt0.mp c_1) (by omega)
      | exact absurd ((leio (by omega)).mp c_12) (by omega)
    · refine r_iconst ?_
      refine r_goto ?_
      refine E_go 2 rfl ?_
      refine r_iret rfl (by first | exact Or.inl rfl | exact Or.inr rfl) ?_
      refine qb hQ ?_
      have t0 : (0 : Int32).toInt = 0 := rfl
      exact Or.inl ⟨⟨by have := mt lt0.mpr c_1; omega, by have := mt (leio (by omega)).mpr c_12; omega⟩, rfl⟩

set_option maxRecDepth 10000 in
theorem s_isSheet {xs : xSc} {m : Nat} {h : xHp} {Q : Value → xHp → Prop} (hm : 1 ≤ m) {x : Int32} (hQ : Q (.int (if inN 4 x then 1 else 0)) h) : M xs m xi_X6_isSheet [.int x] h Q := by
  obtain ⟨m, rfl⟩ : ∃ k, m = k + 1 := ⟨m - 1, by omega⟩
  refine M_go (ls := [_]) (ml := 1) rfl rfl rfl (zl rfl) rfl ?_
  refine r_iload_n rfl ?_
  refine r_if_lt (fun c_1 => ?_) (fun c_1 => ?_)
  · refine E_go 1 rfl ?_
    refine r_iconst ?_
    refine r_nil ?_
    refine E_go 2 rfl ?_
    refine r_iret rfl (by first | exact Or.inl rfl | exact Or.inr rfl) ?_
    refine qb hQ ?_
    have t0 : (0 : Int32).toInt = 0 := rfl
    refine Or.inr ⟨?_, rfl⟩
    intro q
    first
    | exact absurd (lt0.mp c_1) (by omega)
    | exact absurd ((leio (n := 4) (by omega)).mp c_6) (by omega)
  · refine r_iload_n rfl ?_
    refine r_iconst ?_
    refine r_icmp_ge (fun c_6 => ?_) (fun c_6 => ?_)
    · refine E_go 1 rfl ?_
      refine r_iconst ?_
      refine r_nil ?_
      refine E_go 2 rfl ?_
      refine r_iret rfl (by first | exact Or.inl rfl | exact Or.inr rfl) ?_
      refine qb hQ ?_
      have t0 : (0 : Int32).toInt = 0 := rfl
      refine Or.inr ⟨?_, rfl⟩
      intro q
      first
      | exact absurd (lt0.mp c_1) (by omega)
      | exact absurd ((leio (n := 4) (by omega)).mp c_6) (by omega)
    · refine r_iconst ?_
      refine r_goto ?_
      refine E_go 2 rfl ?_
      refine r_iret rfl (by first | exact Or.inl rfl | exact Or.inr rfl) ?_
      refine qb hQ ?_
      have t0 : (0 : Int32).toInt = 0 := rfl
      exact Or.inl ⟨⟨by have := mt lt0.mpr c_1; omega, by have := mt (leio (n := 4) (by omega)).mpr c_6; omega⟩, rfl⟩

theorem ltx (n : Nat) (x : Int32) (hn : n < 2147483648) : io n < x ↔ (n : Int) < x.toInt := by rw [lt_int, io_int hn]

set_option maxRecDepth 10000 in
theorem s_isSort {xs : xSc} {m : Nat} {h : xHp} {Q : Value → xHp → Prop} (hm : 1 ≤ m) {x : Int32} (hQ : Q (.int (if inN 3 x then 1 else 0)) h) : M xs m xi_X6_isSort [.int x] h Q := by
  obtain ⟨m, rfl⟩ : ∃ k, m = k + 1 := ⟨m - 1, by omega⟩
  refine M_go (ls := [_]) (ml := 1) rfl rfl rfl (zl rfl) rfl ?_
  refine r_iload_n rfl ?_
  refine r_if_lt (fun c_1 => ?_) (fun c_1 => ?_)
  · refine E_go 1 rfl ?_
    refine r_iconst ?_
    refine r_nil ?_
    refine E_go 2 rfl ?_
    refine r_iret rfl (by first | exact Or.inl rfl | exact Or.inr rfl) ?_
    refine qb hQ ?_
    have t0 : (0 : Int32).toInt = 0 := rfl
    refine Or.inr ⟨?_, rfl⟩
    intro q
    first
    | exact absurd (lt0.mp c_1) (by omega)
    | exact absurd ((ltx 2 x (by omega)).mp c_6) (by omega)
  · refine r_iload_n rfl ?_
    refine r_iconst ?_
    refine r_icmp_gt (fun c_6 => ?_) (fun c_6 => ?_)
    · refine E_go 1 rfl ?_
      refine r_iconst ?_
      refine r_nil ?_
      refine E_go 2 rfl ?_
      refine r_iret rfl (by first | exact Or.inl rfl | exact Or.inr rfl) ?_
      refine qb hQ ?_
      have t0 : (0 : Int32).toInt = 0 := rfl
      refine Or.inr ⟨?_, rfl⟩
      intro q
      first
      | exact absurd (lt0.mp c_1) (by omega)
      | exact absurd ((ltx 2 x (by omega)).mp c_6) (by omega)
    · refine r_iconst ?_
      refine r_goto ?_
      refine E_go 2 rfl ?_
      refine r_iret rfl (by first | exact Or.inl rfl | exact Or.inr rfl) ?_
      refine qb hQ ?_
      have t0 : (0 : Int32).toInt = 0 := rfl
      exact Or.inl ⟨⟨by have := mt lt0.mpr c_1; omega, by have := mt (ltx 2 x (by omega)).mpr c_6; omega⟩, rfl⟩

set_option maxRecDepth 10000 in
theorem s_isEither {xs : xSc} {m : Nat} {h : xHp} {Q : Value → xHp → Prop} (hm : 1 ≤ m) {x : Int32} (hQ : Q (.int (if inN 2 x then 1 else 0)) h) : M xs m xi_X6_isEither [.int x] h Q := by
  obtain ⟨m, rfl⟩ : ∃ k, m = k + 1 := ⟨m - 1, by omega⟩
  refine M_go (ls := [_]) (ml := 1) rfl rfl rfl (zl rfl) rfl ?_
  refine r_iload_n rfl ?_
  refine r_if_eq (fun c_1 => ?_) (fun c_1 => ?_)
  · refine E_go 1 rfl ?_
    refine r_iconst ?_
    refine r_goto ?_
    refine E_go 3 rfl ?_
    refine r_iret rfl (by first | exact Or.inl rfl | exact Or.inr rfl) ?_
    refine qb hQ (Or.inl ⟨?_, rfl⟩)
    first
    | (have e : x = 0 := c_1
       rw [e]; decide)
    | (have e : x = 1 := c_6
       rw [e]; decide)
  · refine r_iload_n rfl ?_
    refine r_iconst ?_
    refine r_icmp_ne (fun c_6 => ?_) (fun c_6 => ?_)
    · refine E_go 2 rfl ?_
      refine r_iconst ?_
      refine r_nil ?_
      refine E_go 3 rfl ?_
      refine r_iret rfl (by first | exact Or.inl rfl | exact Or.inr rfl) ?_
      refine qb hQ (Or.inr ⟨?_, rfl⟩)
      intro q
      have q1 := mt (ioeq (n := 0) (by omega)).mpr c_1
      have q2 := mt (ioeq (n := 1) (by omega)).mpr c_6
      omega
    · refine r_nil ?_
      refine E_go 1 rfl ?_
      refine r_iconst ?_
      refine r_goto ?_
      refine E_go 3 rfl ?_
      refine r_iret rfl (by first | exact Or.inl rfl | exact Or.inr rfl) ?_
      refine qb hQ (Or.inl ⟨?_, rfl⟩)
      first
      | (have e : x = 0 := c_1
         rw [e]; decide)
      | (have e : x = 1 := c_6
         rw [e]; decide)

/-- in(x, 0, k - 1) -/
theorem s_in0 {xs : xSc} {m : Nat} {h : xHp} {Q : Value → xHp → Prop} {x : Int32} {k : Nat} {X LO HI : Int64} (hm : 1 ≤ m) (hx : X.toInt = x.toInt) (hlo : LO.toInt = 0) (hhi : HI.toInt = k - 1) (hQ : Q (.int (if inN k x then 1 else 0)) h) : M xs m xi_X7_in [.long X, .long LO, .long HI] h Q := by
  refine s_X7_in hm ?_
  refine qb hQ ?_
  by_cases c : inN k x
  · refine Or.inl ⟨c, ?_⟩
    rw [if_neg (fun q => by have q := lg_lt.mp q; omega), if_neg (fun q => by have q := lg_gt.mp q; omega)]
  · refine Or.inr ⟨c, ?_⟩
    by_cases d : 0 ≤ x.toInt
    · rw [if_neg (fun q => by have q := lg_lt.mp q; omega), if_pos (lg_gt.mpr (by omega))]
    · rw [if_pos (lg_lt.mpr (by omega))]
theorem s_inr {xs : xSc} {m : Nat} {h : xHp} {Q : Value → xHp → Prop} {x : Int32} {lo hi : Int} {X LO HI : Int64} (hm : 1 ≤ m) (hx : X.toInt = x.toInt) (hlo : LO.toInt = lo) (hhi : HI.toInt = hi) (hQ : Q (.int (if lo ≤ x.toInt ∧ x.toInt ≤ hi then 1 else 0)) h) : M xs m xi_X7_in [.long X, .long LO, .long HI] h Q := by
  refine s_X7_in hm ?_
  refine qb hQ ?_
  by_cases c : lo ≤ x.toInt ∧ x.toInt ≤ hi
  · refine Or.inl ⟨c, ?_⟩
    rw [if_neg (fun q => by have q := lg_lt.mp q; omega), if_neg (fun q => by have q := lg_gt.mp q; omega)]
  · refine Or.inr ⟨c, ?_⟩
    by_cases d : lo ≤ x.toInt
    · rw [if_neg (fun q => by have q := lg_lt.mp q; omega), if_pos (lg_gt.mpr (by omega))]
    · rw [if_pos (lg_lt.mpr (by omega))]

theorem ite01 (P : Prop) {inst : Decidable P} : (if P then (1 : Int32) else 0) = 0 ∨ (if P then (1 : Int32) else 0) = 1 := by
  by_cases c : P
  · rw [if_pos c]; exact Or.inr rfl
  · rw [if_neg c]; exact Or.inl rfl

set_option maxRecDepth 10000 in
theorem s_isOne {xs : xSc} {m : Nat} {I : Nat → Nat → Int32} {L : Nat → Nat → Int64} {Q : Value → xHp → Prop} (hm : 2 ≤ m) {n : Nat} {x : Int32} (hn : I 61 12 = io n) (h5 : n ≤ 5) (hQ : Q (.int (if inN n x then 1 else 0)) (Hp I L)) : M xs m xi_X7_isOne [.ref 61, .int x] (Hp I L) Q := by
  obtain ⟨m, rfl⟩ : ∃ k, m = k + 1 := ⟨m - 1, by omega⟩
  refine M_go (ls := [_, _]) (ml := 2) rfl rfl rfl (zl rfl) rfl ?_
  refine r_iload_n rfl ?_
  refine r_i2l ?_
  refine r_lconst ?_
  refine r_aload_n rfl ?_
  refine r_getI (by decide) rfl rfl (by decide) hn ?_
  refine r_iconst ?_
  refine r_isub ?_
  refine r_i2l ?_
  refine r_static (vs := [_, _, _]) (by decide) (zl rfl) rfl rfl (zl rfl) (Nat.le_refl _) rfl ?_
  refine s_in0 (by omega) (x := x) (k := n) (Int32.toInt_toInt64 _) i64_0 ?_ ?_
  · rw [Int32.toInt_toInt64, sub_int (by rw [io_int (by omega), show (1 : Int32).toInt = 1 from rfl]; omega) (by rw [io_int (by omega), show (1 : Int32).toInt = 1 from rfl]; omega), io_int (by omega)]; rfl
  refine r_iret rfl (ite01 _) ?_
  exact hQ

set_option maxRecDepth 10000 in
theorem s_misSheet {xs : xSc} {m : Nat} {h : xHp} {Q : Value → xHp → Prop} (hm : 2 ≤ m) {x : Int32} (hQ : Q (.int (if inN 4 x then 1 else 0)) h) : M xs m xi_X7_isSheet [.int x] h Q := by
  obtain ⟨m, rfl⟩ : ∃ k, m = k + 1 := ⟨m - 1, by omega⟩
  refine M_go (ls := [_]) (ml := 1) rfl rfl rfl (zl rfl) rfl ?_
  refine r_iload_n rfl ?_
  refine r_i2l ?_
  refine r_lconst ?_
  refine r_ldc2_w ?_
  refine r_static (vs := [_, _, _]) (by decide) (zl rfl) rfl rfl (zl rfl) (Nat.le_refl _) rfl ?_
  refine s_in0 (by omega) (x := x) (k := 4) (Int32.toInt_toInt64 _) i64_0 rfl ?_
  refine r_iret rfl (ite01 _) ?_
  exact hQ

/-- all joy of one, of all; the hour with one's plan put otherwise, the heat -/
def shr (ru : Ru) (X : Pot) (a : Nat) : Int32 := (hrs ru X 6).2.2.2 a
def alr (ru : Ru) (X : Pot) : Int32 := sm (shr ru X) X.2.1
def wP (X : Pot) (a : Nat) (v : Int32) : Pot := (X.1, X.2.1, X.2.2.1, X.2.2.2.1, X.2.2.2.2.1, u1 X.2.2.2.2.2 a v)
def wH (X : Pot) (h : Int32) : Pot := (h, X.2.1, X.2.2.1, X.2.2.2.1, X.2.2.2.2.1, X.2.2.2.2.2)
theorem sm_c {f g : Nat → Int32} : ∀ {n : Nat}, (∀ a, a < n → f a = g a) → sm f n = sm g n
  | 0, _ => rfl
  | n + 1, h => by rw [sm, sm, sm_c (fun a ha => h a (by omega)), h n (by omega)]
theorem shr_c {ru : Ru} {X Y : Pot} (h : pEq X Y) (a : Nat) : shr ru X a = shr ru Y a := by unfold shr; rw [hrs_c h]
theorem alr_c {ru : Ru} {X Y : Pot} (h : pEq X Y) : alr ru X = alr ru Y := by unfold alr; rw [← h.2.1]; exact sm_c fun a _ => shr_c h a
theorem wP_c {X Y : Pot} (h : pEq X Y) (a : Nat) (v : Int32) : pEq (wP X a v) (wP Y a v) := ⟨h.1, h.2.1, fun b hb => ⟨(h.2.2 b hb).1, (h.2.2 b hb).2.1, by
  show u1 _ a v b = u1 _ a v b
  by_cases c : b = a
  · subst c; rw [u1_eq, u1_eq]
  · rw [u1_ne c, u1_ne c]; exact (h.2.2 b hb).2.2⟩⟩
theorem wH_c {X Y : Pot} (h : pEq X Y) (v : Int32) : pEq (wH X v) (wH Y v) := ⟨rfl, h.2.1, h.2.2⟩
theorem wP_ok {X : Pot} {a : Nat} {v : Int32} (h : okX X) : okX (wP X a v) := h
theorem wH_ok {X : Pot} {v : Int32} (h : okX X) (hv : isN 100 v) : okX (wH X v) := ⟨hv, h.2⟩
theorem wP_self {X : Pot} {a : Nat} : pEq (wP X a (X.2.2.2.2.2 a)) X := ⟨rfl, rfl, fun b _ => ⟨⟨rfl, rfl⟩, rfl, congrFun u1_self b⟩⟩
theorem hD_j {n : Nat} {J : Nat → Nat → Int32} {ru : Ru} {X : Pot} (h : hD n J ru X) {a : Nat} (ha : a < n) : J 22 a = shr ru X a := h.1.2.2.2.2 a ha
theorem hD_s {n : Nat} {J : Nat → Nat → Int32} {ru : Ru} {X : Pot} (h : hD n J ru X) (hn : X.2.1 = n) : sm (J 22) n = alr ru X := by
  unfold alr
  rw [hn]
  exact sm_c fun a ha => hD_j h ha
theorem mD_j {n : Nat} {J : Nat → Nat → Int32} {ru : Ru} {X : Pot} (h : mD n J ru X) {a : Nat} (ha : a < n) : J 70 a = shr ru X a := h.1.2.2.2 a ha
/-- the class has a rule and aunts; the model -/
def CC (n r : Nat) (ru : Ru) (I : Nat → Nat → Int32) : Prop := (I 1 3 = io n ∧ n ≤ 5 ∧ I 1 2 = io r ∧ r < 6) ∧ ∃ c, cTx r I c ∧ ru = ruL c
def MC (n r : Nat) (ru : Ru) (I : Nat → Nat → Int32) : Prop := (I 61 12 = io n ∧ n ≤ 5 ∧ I 61 4 = io r ∧ r < 6) ∧ ∃ c, mTx r I c ∧ ru = ruL c
theorem RX.c {n tc r tp : Nat} {I : Nat → Nat → Int32} {ru : Ru} (h : RX n tc r tp I) (hl : rlz r I ru) : CC n r ru I := by
  obtain ⟨c, k1, k2, k3⟩ := hl
  exact ⟨⟨h.cn, h.n5, h.cr, h.r6⟩, c, k2, k3⟩
theorem RX.m {n tc r tp : Nat} {I : Nat → Nat → Int32} {ru : Ru} (h : RX n tc r tp I) (hl : rlz r I ru) : MC n r ru I := by
  obtain ⟨c, k1, k2, k3⟩ := hl
  exact ⟨⟨h.mn, h.n5, h.mr, h.r6⟩, c, k1, k3⟩
theorem CC.f {n r : Nat} {ru : Ru} {I J : Nat → Nat → Int32} (h : CC n r ru I) (f : fS I J) : CC n r ru J := by
  obtain ⟨⟨h1, h2, h3, h4⟩, c, k1, k2⟩ := h
  have := tq_b h4
  exact ⟨⟨by rw [f.1 1 (by omega)]; exact h1, h2, by rw [f.1 1 (by omega)]; exact h3, h4⟩, c, cTx_s (f.1 _ (by omega)) (f.1 _ (by omega)) k1, k2⟩
theorem CC.u {n r p k : Nat} {ru : Ru} {v : Int32} {I : Nat → Nat → Int32} (h : CC n r ru I) (hp : 2 ≤ p ∧ p < 35) : CC n r ru (up2 I p k v) := by
  obtain ⟨⟨h1, h2, h3, h4⟩, c, k1, k2⟩ := h
  have := tq_b h4
  exact ⟨⟨by rw [up2_q (by omega)]; exact h1, h2, by rw [up2_q (by omega)]; exact h3, h4⟩, c, cTx_s (up2_q (by omega)) (up2_q (by omega)) k1, k2⟩
theorem MC.f {n r : Nat} {ru : Ru} {I J : Nat → Nat → Int32} (h : MC n r ru I) (f : fS I J) : MC n r ru J := by
  obtain ⟨⟨h1, h2, h3, h4⟩, c, k1, k2⟩ := h
  exact ⟨⟨by rw [f.2.2 12 (by omega)]; exact h1, h2, by rw [f.2.2 4 (by omega)]; exact h3, h4⟩, c, mTx_s (f.1 62 (by omega)) (f.1 63 (by omega)) k1, k2⟩
theorem MC.u {n r p k : Nat} {ru : Ru} {v : Int32} {I : Nat → Nat → Int32} (h : MC n r ru I) (hp : 65 ≤ p) : MC n r ru (up2 I p k v) := by
  obtain ⟨⟨h1, h2, h3, h4⟩, c, k1, k2⟩ := h
  exact ⟨⟨by rw [up2_q (by omega)]; exact h1, h2, by rw [up2_q (by omega)]; exact h3, h4⟩, c, mTx_s (up2_q (by omega)) (up2_q (by omega)) k1, k2⟩
theorem w_think {xs : xSc} {m : Nat} {I : Nat → Nat → Int32} {L : Nat → Nat → Int64} {Q : Value → xHp → Prop} (hm : 5 ≤ m) {n r : Nat} {ru : Ru} (h : CC n r ru I) (hQ : ∀ J, oF 19 28 I J → hD n J ru (pX n I) → Q .null (Hp J L)) : M xs m xi_X6_think [.ref 0, .ref 1] (Hp I L) Q := by
  obtain ⟨⟨h1, h2, h3, h4⟩, c, k1, k2⟩ := h
  exact s_think_1 hm h2 h1 h4 h3 k1.1 (fun J j1 j2 => hQ J j1 (by rw [k2, ← cT_eq k1]; exact j2))
theorem w_thought {xs : xSc} {m : Nat} {I : Nat → Nat → Int32} {L : Nat → Nat → Int64} {Q : Value → xHp → Prop} (hm : 5 ≤ m) {n r : Nat} {ru : Ru} {X : Pot} (h1 : I 13 3 = io n) (h2 : n ≤ 5) (h3 : I 13 2 = io r) (h4 : r < 6) (h : ∃ c, cTx r I c ∧ ru = ruL c) (hX : pEq (cP 13 n I) X) (hQ : ∀ J, oF 19 28 I J → hD n J ru X → Q .null (Hp J L)) : M xs m xi_X6_think [.ref 0, .ref 13] (Hp I L) Q := by
  obtain ⟨c, k1, k2⟩ := h
  exact s_think_13 hm h2 h1 h4 h3 k1.1 (fun J j1 j2 => hQ J j1 (by rw [k2, ← cT_eq k1]; exact hD_c hX j2))
theorem okX_c {X Y : Pot} (h : pEq X Y) (ho : okX X) : okX Y := by
  obtain ⟨h1, h2, h3⟩ := h
  obtain ⟨o1, o2, o3, o4, o5⟩ := ho
  refine ⟨by rw [← h1]; exact o1, by rw [← h2]; exact o2, fun a ha => ?_, fun a ha => ?_, fun a ha => ?_⟩
  · rw [← h2] at ha; rw [← (h3 a ha).1.1]; exact o3 a ha
  · rw [← h2] at ha; rw [← (h3 a ha).1.2]; exact o4 a ha
  · rw [← h2] at ha; rw [← (h3 a ha).2.1]; exact o5 a ha
theorem w_lives {xs : xSc} {m : Nat} {I : Nat → Nat → Int32} {L : Nat → Nat → Int64} {Q : Value → xHp → Prop} (hm : 64 ≤ m) {n r : Nat} {ru : Ru} {X : Pot} {v : Int32} (h : MC n r ru I) (hX : pEq (mP n v I) X) (ho : okX X) (hQ : ∀ J L2, gF I J → mD n J ru X → Q .null (Hp J L2)) : M xs m xi_X7_lives [.ref 61, .int v] (Hp I L) Q := by
  obtain ⟨⟨h1, h2, h3, h4⟩, c, k1, k2⟩ := h
  exact s_lives hm h4 h1 h3 k1 (okX_c hX.symm ho) (fun J L2 j1 j2 => hQ J L2 j1 (by rw [k2]; exact mD_c hX j2))

set_option maxRecDepth 10000 in
theorem s_allOf {xs : xSc} {m : Nat} {I : Nat → Nat → Int32} {L : Nat → Nat → Int64} {Q : Value → xHp → Prop} (hm : 65 ≤ m) {n r : Nat} {ru : Ru} {X : Pot} {v : Int32} (h : MC n r ru I) (hX : pEq (mP n v I) X) (ho : okX X) (hQ : ∀ J L2, gF I J → mD n J ru X → Q (.int (alr ru X)) (Hp J L2)) : M xs m xi_X7_allOf [.ref 61, .int v] (Hp I L) Q := by
  obtain ⟨m, rfl⟩ : ∃ k, m = k + 1 := ⟨m - 1, by omega⟩
  refine M_go (ls := [_, _, _, _]) (ml := 4) rfl rfl rfl (zl rfl) rfl ?_
  refine r_aload_n rfl ?_
  refine r_iload_n rfl ?_
  refine r_virtual (vs := []) (as := [_]) (by decide) (zl rfl) rfl rfl (zl rfl) (Nat.le_refl _) (Or.inr (Or.inr ⟨zt rfl, rfl, zt rfl⟩)) ?_
  refine w_lives (by omega) h hX ho (fun J L2 k1 k2 => ?_)
  have hn : J 61 12 = io n := (k1.2 12 (by omega)).trans h.1.1
  have h5 := h.1.2.1
  have hQ2 : Q (.int (sm (J 70) n)) (Hp J L2) := by
    have e : sm (J 70) n = alr ru X := by
      unfold alr
      rw [← hX.2.1]
      exact sm_c fun a ha => mD_j k2 ha
    rw [e]
    exact hQ J L2 k1 k2
  have key : ∀ d a, a + d = n → E xs m xi_X7_allOf 82 Q 9 [.ref 61, .int v, .int (sm (J 70) a), .int (io a)] [] (82, J, L2, xF0) := by
    intro d
    induction d using Nat.strongRecOn with
    | _ d ih =>
    intro a hd
    refine E_go 1 rfl ?_
    refine r_iload_n rfl ?_
    refine r_aload_n rfl ?_
    refine r_getI (by decide) rfl rfl (by decide) hn ?_
    refine r_icmp_ge (fun c_14 => ?_) (fun c_14 => ?_)
    · have c_14 := (n_le (a := n) (b := a) rfl rfl (by omega) (by omega)).mp c_14
      refine E_go 2 rfl ?_
      refine r_iload_n rfl ?_
      refine r_iret rfl trivial ?_
      have e : a = n := by omega
      subst e
      exact hQ2
    · have c_14 := (not_congr (n_le (a := n) (b := a) rfl rfl (by omega) (by omega))).mp c_14
      refine r_iload_n rfl ?_
      refine r_aload_n rfl ?_
      refine r_getA (q := 70) (by decide) rfl rfl (by decide) ?_
      refine r_iload_n rfl ?_
      refine r_iaload (by decide) rfl (by decide) (ixE rfl (show a < 5 by omega) (by decide)) rfl ?_
      refine r_iadd ?_
      refine r_istore_n (ls' := [_, _, _, _]) (zt rfl) rfl ?_
      refine r_iincN (y := io (a + 1)) (ls' := [_, _, _, _]) rfl (zt rfl) (n_add (a := a) (b := 1) rfl rfl) rfl ?_
      refine r_goto ?_
      exact ih (d - 1) (by omega) (a + 1) (by omega)
  refine r_iconst ?_
  refine r_istore_n (ls' := [_, _, _, _]) (zt rfl) rfl ?_
  refine r_iconst ?_
  refine r_istore_n (ls' := [_, _, _, _]) (zt rfl) rfl ?_
  refine r_nil ?_
  exact key n 0 (by omega)

set_option maxRecDepth 10000 in
theorem s_shareOf {xs : xSc} {m : Nat} {I : Nat → Nat → Int32} {L : Nat → Nat → Int64} {Q : Value → xHp → Prop} (hm : 65 ≤ m) {n r a : Nat} {ru : Ru} {X : Pot} (ha : a < n) (h : MC n r ru I) (hX : pEq (mP n (I 61 7) I) X) (ho : okX X) (hQ : ∀ J L2, gF I J → mD n J ru X → Q (.int (shr ru X a)) (Hp J L2)) : M xs m xi_X7_shareOf [.ref 61, .int (io a)] (Hp I L) Q := by
  obtain ⟨m, rfl⟩ : ∃ k, m = k + 1 := ⟨m - 1, by omega⟩
  refine M_go (ls := [_, _]) (ml := 2) rfl rfl rfl (zl rfl) rfl ?_
  refine r_aload_n rfl ?_
  refine r_aload_n rfl ?_
  refine r_getI (by decide) rfl rfl (by decide) rfl ?_
  refine r_virtual (vs := []) (as := [_]) (by decide) (zl rfl) rfl rfl (zl rfl) (Nat.le_refl _) (Or.inr (Or.inr ⟨zt rfl, rfl, zt rfl⟩)) ?_
  refine w_lives (by omega) h hX ho (fun J L2 k1 k2 => ?_)
  have ha5 := h.1.2.1
  refine r_aload_n rfl ?_
  refine r_getA (q := 70) (by decide) rfl rfl (by decide) ?_
  refine r_iload_n rfl ?_
  refine r_iaload (by decide) rfl (by decide) (ixE rfl (show a < 5 by omega) (by decide)) (mD_j k2 ha) ?_
  refine r_iret rfl trivial ?_
  exact hQ J L2 k1 k2
