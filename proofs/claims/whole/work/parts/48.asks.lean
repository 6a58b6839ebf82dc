/-! an hour of the model -/

/-- an hour of the model changes these alone -/
def gF (I J : Nat → Nat → Int32) : Prop := (∀ p, ¬ (p = 61 ∨ 68 ≤ p ∧ p ≤ 74) → J p = I p) ∧ ∀ k, ¬ (13 ≤ k ∧ k ≤ 28) → J 61 k = I 61 k
/-- .. in minute m -/
def gM (m : Nat) (I J : Nat → Nat → Int32) : Prop := gF I J ∧ ∀ p k, 71 ≤ p ∧ p ≤ 74 → ¬ k = m → J p k = I p k
theorem gF.refl {I : Nat → Nat → Int32} : gF I I := ⟨fun _ _ => rfl, fun _ _ => rfl⟩
theorem gF.trans {I J K : Nat → Nat → Int32} (h : gF I J) (h2 : gF J K) : gF I K := ⟨fun p hp => by rw [h2.1 p hp, h.1 p hp], fun k hk => by rw [h2.2 k hk, h.2 k hk]⟩
theorem gF.up {r k : Nat} {v : Int32} {I J : Nat → Nat → Int32} (h : gF I J) (h1 : 68 ≤ r) (h2 : r ≤ 74) : gF I (up2 J r k v) :=
  ⟨fun p hp => by rw [up2_q (by omega)]; exact h.1 p hp, fun j hj => by rw [up2_q (by omega)]; exact h.2 j hj⟩
theorem gF.s {k : Nat} {v : Int32} {I J : Nat → Nat → Int32} (h : gF I J) (h1 : 13 ≤ k) (h2 : k ≤ 28) : gF I (up2 J 61 k v) :=
  ⟨fun p hp => by rw [up2_q (by omega)]; exact h.1 p hp, fun j hj => by rw [up2_k (by omega)]; exact h.2 j hj⟩
theorem gM.refl {m : Nat} {I : Nat → Nat → Int32} : gM m I I := ⟨gF.refl, fun _ _ _ _ => rfl⟩
theorem gM.trans {m : Nat} {I J K : Nat → Nat → Int32} (h : gM m I J) (h2 : gM m J K) : gM m I K := ⟨h.1.trans h2.1, fun p k hp hk => by rw [h2.2 p k hp hk, h.2 p k hp hk]⟩
theorem gM.up {m r k : Nat} {v : Int32} {I J : Nat → Nat → Int32} (h : gM m I J) (h1 : 68 ≤ r) (h2 : r ≤ 74) (h3 : r < 71 ∨ k = m) : gM m I (up2 J r k v) := by
  refine ⟨h.1.up h1 h2, fun p j hp hj => ?_⟩
  rw [← h.2 p j hp hj]
  by_cases c : p = r
  · subst c
    rw [up2_k (by omega)]
  · rw [up2_q c]
theorem gM.s {m k : Nat} {v : Int32} {I J : Nat → Nat → Int32} (h : gM m I J) (h1 : 13 ≤ k) (h2 : k ≤ 28) : gM m I (up2 J 61 k v) :=
  ⟨h.1.s h1 h2, fun p j hp hj => by rw [up2_q (by omega)]; exact h.2 p j hp hj⟩
/-- the model only asks -/
def aF (I J : Nat → Nat → Int32) : Prop := (∀ p, ¬ p = 61 → J p = I p) ∧ ∀ k, ¬ (13 ≤ k ∧ k ≤ 27) → J 61 k = I 61 k
theorem aF.g {m : Nat} {I J : Nat → Nat → Int32} (h : aF I J) : gM m I J := ⟨⟨fun p hp => h.1 p (by omega), fun k hk => h.2 k (by omega)⟩, fun p k hp _ => by rw [h.1 p (by omega)]⟩
theorem aF.r {I J K : Nat → Nat → Int32} (h : aF I J) (h2 : rF J K) : aF I K := ⟨fun p hp => by rw [h2.1 p hp, h.1 p hp], fun k hk => by rw [h2.2 k (by omega), h.2 k hk]⟩
theorem aF.s {k : Nat} {v : Int32} {I J : Nat → Nat → Int32} (h : aF I J) (h1 : 13 ≤ k) (h2 : k ≤ 27) : aF I (up2 J 61 k v) :=
  ⟨fun p hp => by rw [up2_q (by omega)]; exact h.1 p hp, fun j hj => by rw [up2_k (by omega)]; exact h.2 j hj⟩
theorem aF.refl {I : Nat → Nat → Int32} : aF I I := ⟨fun _ _ => rfl, fun _ _ => rfl⟩
def mNu (I : Nat → Nat → Int32) : Nat → Int32 := fun a => I 66 (3 * a)
def mTh (I : Nat → Nat → Int32) : Nat → Int32 := fun a => I 66 (3 * a + 1)
def mPl (I : Nat → Nat → Int32) : Nat → Int32 := fun a => I 66 (3 * a + 2)
/-- the model's table, from heat h -/
def mP (n : Nat) (h : Int32) (I : Nat → Nat → Int32) : Pot := (h, n, I 65, mNu I, mTh I, mPl I)
theorem mNu_g {I J : Nat → Nat → Int32} (h : J 66 = I 66) : mNu J = mNu I := by unfold mNu; rw [h]
theorem mTh_g {I J : Nat → Nat → Int32} (h : J 66 = I 66) : mTh J = mTh I := by unfold mTh; rw [h]
theorem mPl_g {I J : Nat → Nat → Int32} (h : J 66 = I 66) : mPl J = mPl I := by unfold mPl; rw [h]
def mH (n : Nat) (I : Nat → Nat → Int32) (s : Hs) : Prop := I 61 28 = s.1 ∧ (∀ a, a < n → I 68 a = s.2.1 a) ∧ (∀ a, a < n → I 69 a = s.2.2.1 a) ∧ (∀ a, a < n → I 70 a = s.2.2.2 a)
def mM (n m : Nat) (I : Nat → Nat → Int32) (s : Ms) : Prop := mH n I s.1 ∧ I 73 m = s.2.1 ∧ I 74 m = s.2.2
theorem mH_a {n : Nat} {I J : Nat → Nat → Int32} {s : Hs} (h : aF I J) (c : mH n I s) : mH n J s := by
  obtain ⟨c1, c3, c4, c5⟩ := c
  refine ⟨?_, ?_, ?_, ?_⟩
  · rw [h.2 28 (by omega)]; exact c1
  · rw [h.1 68 (by omega)]; exact c3
  · rw [h.1 69 (by omega)]; exact c4
  · rw [h.1 70 (by omega)]; exact c5
def isN (m : Nat) (x : Int32) : Prop := ∃ k, k < m ∧ x = io k
theorem isN_b {m : Nat} {x : Int32} (h : isN m x) (hm : m < 2147483648) : 0 ≤ x.toInt ∧ x.toInt < m := by
  obtain ⟨k, hk, rfl⟩ := h
  rw [io_int (by omega)]
  omega
theorem isN_of {m : Nat} {x : Int32} (h : 0 ≤ x.toInt) (h2 : x.toInt < m) (hm : m < 2147483648) : isN m x := io_ex (le_int.mpr h) (lt_int.mpr (by rw [io_int hm]; exact h2)) hm
theorem isN_le {m k : Nat} {x : Int32} (h : isN m x) (hk : m ≤ k) : isN k x := by
  obtain ⟨j, hj, e⟩ := h
  exact ⟨j, by omega, e⟩
theorem kT_b {k x : Int32} (h : isN 10 x) : isN 16 (kTake k x) := by
  obtain ⟨j, hj, rfl⟩ := h
  unfold kTake
  by_cases c1 : k = 1
  · rw [if_pos c1]; exact ⟨6 + j, by omega, n_add (a := 6) rfl rfl⟩
  rw [if_neg c1]
  by_cases c2 : k = 2
  · rw [if_pos c2]; exact ⟨3, by omega, rfl⟩
  rw [if_neg c2]
  by_cases c3 : k = 3
  · rw [if_pos c3]; exact ⟨6 + j, by omega, n_add (a := 6) rfl rfl⟩
  rw [if_neg c3]
  by_cases c4 : k = 4
  · rw [if_pos c4]; exact ⟨4, by omega, rfl⟩
  rw [if_neg c4]
  by_cases c5 : k = 5
  · rw [if_pos c5]; exact ⟨0, by omega, rfl⟩
  rw [if_neg c5]; exact ⟨6, by omega, rfl⟩
theorem w3_mx0 : ∀ h, h < 100 → ∀ j, j < 41 → w3 (io h - io j) 0 99 = io (h - j) ∧ mx0 (io h - io j) = io (h - j) := by decide +kernel
theorem w3_mx {x y : Int32} (hx : isN 100 x) (hy : isN 41 y) : w3 (x - y) 0 99 = mx0 (x - y) := by
  obtain ⟨h, hh, rfl⟩ := hx
  obtain ⟨j, hj, rfl⟩ := hy
  rw [(w3_mx0 h hh j hj).1, (w3_mx0 h hh j hj).2]
theorem mx_n {x y : Int32} (hx : isN 100 x) (hy : isN 41 y) : isN 100 (mx0 (x - y)) := by
  obtain ⟨h, hh, rfl⟩ := hx
  obtain ⟨j, hj, rfl⟩ := hy
  exact ⟨h - j, by omega, (w3_mx0 h hh j hj).2⟩
theorem w3_mn0 : ∀ t, t < 100 → w3 (io t + 2) 0 99 = mn99 (io t + 2) ∧ ∃ k, k < 100 ∧ mn99 (io t + 2) = io k := by decide +kernel
theorem w3_mn {x : Int32} (hx : isN 100 x) : w3 (x + 2) 0 99 = mn99 (x + 2) ∧ isN 100 (mn99 (x + 2)) := by
  obtain ⟨t, ht, rfl⟩ := hx
  exact w3_mn0 t ht
theorem w3_40 {x : Int32} : isN 41 (w3 x 0 40) := by
  unfold w3
  by_cases c : x < 0
  · rw [if_pos c]; exact ⟨0, by omega, rfl⟩
  rw [if_neg c]
  by_cases d : 40 < x
  · rw [if_pos d]; exact ⟨40, by omega, rfl⟩
  rw [if_neg d]
  rw [lt_int] at c d
  exact isN_of (Int.not_lt.mp c) (Int.lt_of_le_of_lt (Int.not_lt.mp d) (by decide)) (by decide)
/-- heat and thirsts in bounds -/
def okS (n : Nat) (s : Hs) : Prop := isN 100 s.1 ∧ ∀ a, a < n → isN 100 (s.2.1 a)
def okN (n : Nat) (N : Nat → Int32) : Prop := ∀ a, a < n → isN 10 (N a)
theorem rch_ok {ru : Ru} {K N : Nat → Int32} {n a : Nat} {m sh : Int32} {s : Ms} (ha : a < n) (hN : okN n N) (h : okS n s.1) : okS n (rch ru K N m sh a s).1 := by
  unfold rch
  dsimp only
  split
  · exact h
  · refine ⟨mx_n h.1 (isN_le (kT_b (hN a ha)) (by omega)), fun b hb => ?_⟩
    show isN 100 (u1 _ _ _ b)
    by_cases c : b = a
    · subst c; rw [u1_eq]; exact mx_n (h.2 _ hb) ⟨10, by omega, rfl⟩
    · rw [u1_ne c]; exact h.2 b hb
theorem tal_ok {ru : Ru} {K N P : Nat → Int32} {n : Nat} {m sh : Int32} {s : Ms} (hN : okN n N) (h : okS n s.1) : ∀ a, a ≤ n → okS n (tal ru K N P m sh a s).1
  | 0, _ => h
  | a + 1, ha => by
    rw [tal]
    by_cases c : (P a >>> (m &&& 31)) &&& 1 = 1
    · rw [if_pos c]; exact rch_ok (by omega) hN (tal_ok hN h a (by omega))
    · rw [if_neg c]; exact tal_ok hN h a (by omega)
theorem mnt_ok {ru : Ru} {K N P : Nat → Int32} {n m : Nat} {s : Hs} (hN : okN n N) (h : okS n s) : okS n (mnt ru n K N P m s).1 := by
  unfold mnt
  dsimp only
  have e := tal_ok (ru := ru) (K := K) (P := P) (m := io m) (sh := shw K N s.2.1 (io m) n) (s := ((mx0 (s.1 - w3 (ru 2 (vw s.1 0 0 (bc (shw K N s.2.1 (io m) n)) (io m) 0)) 0 40), s.2.1, s.2.2.1, s.2.2.2), 0, 0)) hN ⟨mx_n h.1 w3_40, h.2⟩ n (Nat.le_refl _)
  refine ⟨e.1, fun a ha => ?_⟩
  show isN 100 (thi n _ a)
  rw [thi, if_pos ha]
  exact (w3_mn (e.2 a ha)).2
def okX (X : Pot) : Prop := isN 100 X.1 ∧ X.2.1 ≤ 5 ∧ (∀ a, a < X.2.1 → isN 6 (X.2.2.1 a)) ∧ okN X.2.1 X.2.2.2.1 ∧ ∀ a, a < X.2.1 → isN 100 (X.2.2.2.2.1 a)
theorem hrs_ok {ru : Ru} {X : Pot} (h : okX X) : ∀ m, okS X.2.1 (hrs ru X m)
  | 0 => ⟨h.1, fun a ha => by
    show isN 100 (cl _ _ a)
    rw [cl_at ha]
    exact h.2.2.2.2 a ha⟩
  | m + 1 => mnt_ok h.2.2.2.1 (hrs_ok h m)

set_option maxRecDepth 10000 in
theorem s_asks0 {xs : xSc} {m : Nat} {I : Nat → Nat → Int32} {L : Nat → Nat → Int64} {Q : Value → xHp → Prop} (hm : 60 ≤ m) {u t : Nat} {c : List Int32 × List Int32 × List Int32} (hu : u < 6) (ht : t < 6) (hr : I 61 4 = io t) (hc : mTx t I c) (hs : ∃ k, k < 32 ∧ I 72 u = io k) {a : Nat} (ha : a < 5) (hQ : ∀ J L2, aF I J → Q (.int (ruL c 0 (vw (I 61 28) (I 68 a) (mNu I a) (bc (I 72 u &&& (bit a ^^^ -1))) (io u) (I 69 a)))) (Hp J L2)) : M xs m xi_X7_asks [.ref 61, .int 0, .int (io a), .int (io u)] (Hp I L) Q := by
  obtain ⟨m, rfl⟩ : ∃ k, m = k + 1 := ⟨m - 1, by omega⟩
  refine M_go (ls := [_, _, _, _, _]) (ml := 5) rfl rfl rfl (zl rfl) rfl ?_
  refine r_aload_n rfl ?_
  refine r_aload_n rfl ?_
  refine r_getI (by decide) rfl rfl (by decide) rfl ?_
  refine r_putI rfl rfl (by decide) ?_
  refine r_aload_n rfl ?_
  refine r_iload_n rfl ?_
  refine r_iconst ?_
  refine r_icmp_ne (fun c_11 => ?_) (fun c_11 => ?_)
  · refine E_go 1 rfl ?_
    refine r_aload_n rfl ?_
    refine r_getA (q := 68) (by decide) rfl rfl (by decide) ?_
    refine r_iload_n rfl ?_
    refine r_iaload (by decide) rfl (by decide) (ixE rfl (show a < 5 by omega) (by decide)) rfl ?_
    refine r_nil ?_
    refine E_go 2 rfl ?_
    refine r_putI rfl rfl (by decide) ?_
    refine r_aload_n rfl ?_
    refine r_iload_n rfl ?_
    refine r_iconst ?_
    refine r_icmp_ne (fun c_30 => ?_) (fun c_30 => ?_)
    · refine E_go 3 rfl ?_
      refine r_aload_n rfl ?_
      refine r_getA (q := 66) (by decide) rfl rfl (by decide) ?_
      refine r_iconst ?_
      refine r_iload_n rfl ?_
      refine r_imul ?_
      refine r_iaload (by decide) rfl (by decide) (ixE (n_mul (a := 3) (b := a) rfl rfl) (show (3 * a) < 15 by omega) (by decide)) rfl ?_
      refine r_nil ?_
      refine E_go 4 rfl ?_
      refine r_putI rfl rfl (by decide) ?_
      refine r_aload_n rfl ?_
      refine r_iload_n rfl ?_
      refine r_iconst ?_
      refine r_icmp_ne (fun c_51 => ?_) (fun c_51 => ?_)
      · refine E_go 5 rfl ?_
        refine r_aload_n rfl ?_
        refine r_getA (q := 72) (by decide) rfl rfl (by decide) ?_
        refine r_iload_n rfl ?_
        refine r_iaload (by decide) rfl (by decide) (ixE rfl (show u < 6 by omega) (by decide)) rfl ?_
        refine r_iconst ?_
        refine r_iload_n rfl ?_
        refine r_ishl ?_
        refine r_iconst ?_
        refine r_ixor ?_
        refine r_iand ?_
        refine r_nil ?_
        refine E_go 6 rfl ?_
        refine r_static (vs := [_]) (by decide) (zl rfl) rfl rfl (zl rfl) (Nat.le_refl _) rfl ?_
        refine s_X7_bitsOf (by omega) (msk2 (by simpa [up2] using hs) ha) ?_
        refine r_putI rfl rfl (by decide) ?_
        refine r_aload_n rfl ?_
        refine r_iload_n rfl ?_
        refine r_putI rfl rfl (by decide) ?_
        refine r_aload_n rfl ?_
        refine r_iload_n rfl ?_
        refine r_iconst ?_
        refine r_icmp_ne (fun c_89 => ?_) (fun c_89 => ?_)
        · refine E_go 7 rfl ?_
          refine r_aload_n rfl ?_
          refine r_getA (q := 69) (by decide) rfl rfl (by decide) ?_
          refine r_iload_n rfl ?_
          refine r_iaload (by decide) rfl (by decide) (ixE rfl (show a < 5 by omega) (by decide)) rfl ?_
          refine r_nil ?_
          refine E_go 8 rfl ?_
          refine r_putI rfl rfl (by decide) ?_
          refine r_aload_n rfl ?_
          refine r_aload_n rfl ?_
          refine r_getI (by decide) rfl rfl (by decide) hr ?_
          refine r_iload_n rfl ?_
          refine r_virtual (vs := []) (as := [_, _]) (by decide) (zl rfl) rfl rfl (zl rfl) (Nat.le_refl _) (Or.inr (Or.inr ⟨zt rfl, rfl, zt rfl⟩)) ?_
          refine s_read (t := t) (h := 0) (c := c) (w := (vw (I 61 28) (I 68 a) (mNu I a) (bc (I 72 u &&& (bit a ^^^ -1))) (io u) (I 69 a))) (by omega) ht (by omega) ?_ ?_ (fun J L2 hJ => ?_)
          · exact hc
          · exact all6 (by simp [up2, vw]) (by simp [up2, vw]) (by simp [up2, vw, mNu]) (by simp [up2, vw, bit]) (by simp [up2, vw]) (by simp [up2, vw])
          have hX : aF I J := ((((((aF.refl.s (by omega) (by omega)).s (by omega) (by omega)).s (by omega) (by omega)).s (by omega) (by omega)).s (by omega) (by omega)).s (by omega) (by omega)).r hJ
          refine r_istore (ls' := [_, _, _, _, _]) (zt rfl) rfl ?_
          refine r_iload_n rfl ?_
          refine r_if_ne (fun c_117 => ?_) (fun c_117 => ?_)
          · have c_117 := (not_congr (n_eq (a := 0) (b := 0) rfl rfl (by omega) (by omega))).mp c_117
            omega
          · have c_117 := (n_eq (a := 0) (b := 0) rfl rfl (by omega) (by omega)).mp c_117
            refine r_iload rfl ?_
            refine r_goto ?_
            refine E_go 11 rfl ?_
            refine r_iret rfl trivial ?_
            exact hQ _ _ hX
        · exact absurd c_89 (io_nn (by omega))
      · exact absurd c_51 (io_nn (by omega))
    · exact absurd c_30 (io_nn (by omega))
  · exact absurd c_11 (io_nn (by omega))

set_option maxRecDepth 10000 in
theorem s_asks1 {xs : xSc} {m : Nat} {I : Nat → Nat → Int32} {L : Nat → Nat → Int64} {Q : Value → xHp → Prop} (hm : 60 ≤ m) {u t : Nat} {c : List Int32 × List Int32 × List Int32} (hu : u < 6) (ht : t < 6) (hr : I 61 4 = io t) (hc : mTx t I c) (hs : ∃ k, k < 32 ∧ I 72 u = io k) {a : Nat} (ha : a < 5) (hQ : ∀ J L2, aF I J → Q (.int (w3 (ruL c 1 (vw (I 61 28) (I 68 a) (mNu I a) (bc (I 72 u &&& (bit a ^^^ -1))) (io u) (I 69 a))) (-99) 99)) (Hp J L2)) : M xs m xi_X7_asks [.ref 61, .int 1, .int (io a), .int (io u)] (Hp I L) Q := by
  obtain ⟨m, rfl⟩ : ∃ k, m = k + 1 := ⟨m - 1, by omega⟩
  refine M_go (ls := [_, _, _, _, _]) (ml := 5) rfl rfl rfl (zl rfl) rfl ?_
  refine r_aload_n rfl ?_
  refine r_aload_n rfl ?_
  refine r_getI (by decide) rfl rfl (by decide) rfl ?_
  refine r_putI rfl rfl (by decide) ?_
  refine r_aload_n rfl ?_
  refine r_iload_n rfl ?_
  refine r_iconst ?_
  refine r_icmp_ne (fun c_11 => ?_) (fun c_11 => ?_)
  · refine E_go 1 rfl ?_
    refine r_aload_n rfl ?_
    refine r_getA (q := 68) (by decide) rfl rfl (by decide) ?_
    refine r_iload_n rfl ?_
    refine r_iaload (by decide) rfl (by decide) (ixE rfl (show a < 5 by omega) (by decide)) rfl ?_
    refine r_nil ?_
    refine E_go 2 rfl ?_
    refine r_putI rfl rfl (by decide) ?_
    refine r_aload_n rfl ?_
    refine r_iload_n rfl ?_
    refine r_iconst ?_
    refine r_icmp_ne (fun c_30 => ?_) (fun c_30 => ?_)
    · refine E_go 3 rfl ?_
      refine r_aload_n rfl ?_
      refine r_getA (q := 66) (by decide) rfl rfl (by decide) ?_
      refine r_iconst ?_
      refine r_iload_n rfl ?_
      refine r_imul ?_
      refine r_iaload (by decide) rfl (by decide) (ixE (n_mul (a := 3) (b := a) rfl rfl) (show (3 * a) < 15 by omega) (by decide)) rfl ?_
      refine r_nil ?_
      refine E_go 4 rfl ?_
      refine r_putI rfl rfl (by decide) ?_
      refine r_aload_n rfl ?_
      refine r_iload_n rfl ?_
      refine r_iconst ?_
      refine r_icmp_ne (fun c_51 => ?_) (fun c_51 => ?_)
      · refine E_go 5 rfl ?_
        refine r_aload_n rfl ?_
        refine r_getA (q := 72) (by decide) rfl rfl (by decide) ?_
        refine r_iload_n rfl ?_
        refine r_iaload (by decide) rfl (by decide) (ixE rfl (show u < 6 by omega) (by decide)) rfl ?_
        refine r_iconst ?_
        refine r_iload_n rfl ?_
        refine r_ishl ?_
        refine r_iconst ?_
        refine r_ixor ?_
        refine r_iand ?_
        refine r_nil ?_
        refine E_go 6 rfl ?_
        refine r_static (vs := [_]) (by decide) (zl rfl) rfl rfl (zl rfl) (Nat.le_refl _) rfl ?_
        refine s_X7_bitsOf (by omega) (msk2 (by simpa [up2] using hs) ha) ?_
        refine r_putI rfl rfl (by decide) ?_
        refine r_aload_n rfl ?_
        refine r_iload_n rfl ?_
        refine r_putI rfl rfl (by decide) ?_
        refine r_aload_n rfl ?_
        refine r_iload_n rfl ?_
        refine r_iconst ?_
        refine r_icmp_ne (fun c_89 => ?_) (fun c_89 => ?_)
        · refine E_go 7 rfl ?_
          refine r_aload_n rfl ?_
          refine r_getA (q := 69) (by decide) rfl rfl (by decide) ?_
          refine r_iload_n rfl ?_
          refine r_iaload (by decide) rfl (by decide) (ixE rfl (show a < 5 by omega) (by decide)) rfl ?_
          refine r_nil ?_
          refine E_go 8 rfl ?_
          refine r_putI rfl rfl (by decide) ?_
          refine r_aload_n rfl ?_
          refine r_aload_n rfl ?_
          refine r_getI (by decide) rfl rfl (by decide) hr ?_
          refine r_iload_n rfl ?_
          refine r_virtual (vs := []) (as := [_, _]) (by decide) (zl rfl) rfl rfl (zl rfl) (Nat.le_refl _) (Or.inr (Or.inr ⟨zt rfl, rfl, zt rfl⟩)) ?_
          refine s_read (t := t) (h := 1) (c := c) (w := (vw (I 61 28) (I 68 a) (mNu I a) (bc (I 72 u &&& (bit a ^^^ -1))) (io u) (I 69 a))) (by omega) ht (by omega) ?_ ?_ (fun J L2 hJ => ?_)
          · exact hc
          · exact all6 (by simp [up2, vw]) (by simp [up2, vw]) (by simp [up2, vw, mNu]) (by simp [up2, vw, bit]) (by simp [up2, vw]) (by simp [up2, vw])
          have hX : aF I J := ((((((aF.refl.s (by omega) (by omega)).s (by omega) (by omega)).s (by omega) (by omega)).s (by omega) (by omega)).s (by omega) (by omega)).s (by omega) (by omega)).r hJ
          refine r_istore (ls' := [_, _, _, _, _]) (zt rfl) rfl ?_
          refine r_iload_n rfl ?_
          refine r_if_ne (fun c_117 => ?_) (fun c_117 => ?_)
          · have c_117 := (not_congr (n_eq (a := 1) (b := 0) rfl rfl (by omega) (by omega))).mp c_117
            refine E_go 9 rfl ?_
            refine r_iload_n rfl ?_
            refine r_iconst ?_
            refine r_icmp_ne (fun c_127 => ?_) (fun c_127 => ?_)
            · have c_127 := (not_congr (n_eq (a := 1) (b := 1) rfl rfl (by omega) (by omega))).mp c_127
              omega
            · have c_127 := (n_eq (a := 1) (b := 1) rfl rfl (by omega) (by omega)).mp c_127
              refine r_iload rfl ?_
              refine r_bipush ?_
              refine r_bipush ?_
              refine r_static (vs := [_, _, _]) (by decide) (zl rfl) rfl rfl (zl rfl) (Nat.le_refl _) rfl ?_
              refine s_X7_within (by omega) ?_
              refine r_goto ?_
              refine E_go 11 rfl ?_
              refine r_iret rfl trivial ?_
              refine qi (hQ _ _ hX) ?_
              exact (x7w (by decide)).symm
          · have c_117 := (n_eq (a := 1) (b := 0) rfl rfl (by omega) (by omega)).mp c_117
            omega
        · exact absurd c_89 (io_nn (by omega))
      · exact absurd c_51 (io_nn (by omega))
    · exact absurd c_30 (io_nn (by omega))
  · exact absurd c_11 (io_nn (by omega))

set_option maxRecDepth 10000 in
theorem s_asks2 {xs : xSc} {m : Nat} {I : Nat → Nat → Int32} {L : Nat → Nat → Int64} {Q : Value → xHp → Prop} (hm : 60 ≤ m) {u t : Nat} {c : List Int32 × List Int32 × List Int32} (hu : u < 6) (ht : t < 6) (hr : I 61 4 = io t) (hc : mTx t I c) (hs : ∃ k, k < 32 ∧ I 72 u = io k) (hQ : ∀ J L2, aF I J → Q (.int (w3 (ruL c 2 (vw (I 61 28) 0 0 (bc (I 72 u)) (io u) 0)) 0 40)) (Hp J L2)) : M xs m xi_X7_asks [.ref 61, .int 2, .int (-1), .int (io u)] (Hp I L) Q := by
  obtain ⟨m, rfl⟩ : ∃ k, m = k + 1 := ⟨m - 1, by omega⟩
  refine M_go (ls := [_, _, _, _, _]) (ml := 5) rfl rfl rfl (zl rfl) rfl ?_
  refine r_aload_n rfl ?_
  refine r_aload_n rfl ?_
  refine r_getI (by decide) rfl rfl (by decide) rfl ?_
  refine r_putI rfl rfl (by decide) ?_
  refine r_aload_n rfl ?_
  refine r_iload_n rfl ?_
  refine r_iconst ?_
  refine r_icmp_ne (fun c_11 => ?_) (fun c_11 => ?_)
  · exact absurd rfl c_11
  · refine r_iconst ?_
    refine r_goto ?_
    refine E_go 2 rfl ?_
    refine r_putI rfl rfl (by decide) ?_
    refine r_aload_n rfl ?_
    refine r_iload_n rfl ?_
    refine r_iconst ?_
    refine r_icmp_ne (fun c_30 => ?_) (fun c_30 => ?_)
    · exact absurd rfl c_30
    · refine r_iconst ?_
      refine r_goto ?_
      refine E_go 4 rfl ?_
      refine r_putI rfl rfl (by decide) ?_
      refine r_aload_n rfl ?_
      refine r_iload_n rfl ?_
      refine r_iconst ?_
      refine r_icmp_ne (fun c_51 => ?_) (fun c_51 => ?_)
      · exact absurd rfl c_51
      · refine r_aload_n rfl ?_
        refine r_getA (q := 72) (by decide) rfl rfl (by decide) ?_
        refine r_iload_n rfl ?_
        refine r_iaload (by decide) rfl (by decide) (ixE rfl (show u < 6 by omega) (by decide)) rfl ?_
        refine r_goto ?_
        refine E_go 6 rfl ?_
        refine r_static (vs := [_]) (by decide) (zl rfl) rfl rfl (zl rfl) (Nat.le_refl _) rfl ?_
        refine s_X7_bitsOf (by omega) (by simpa [up2] using hs) ?_
        refine r_putI rfl rfl (by decide) ?_
        refine r_aload_n rfl ?_
        refine r_iload_n rfl ?_
        refine r_putI rfl rfl (by decide) ?_
        refine r_aload_n rfl ?_
        refine r_iload_n rfl ?_
        refine r_iconst ?_
        refine r_icmp_ne (fun c_89 => ?_) (fun c_89 => ?_)
        · exact absurd rfl c_89
        · refine r_iconst ?_
          refine r_goto ?_
          refine E_go 8 rfl ?_
          refine r_putI rfl rfl (by decide) ?_
          refine r_aload_n rfl ?_
          refine r_aload_n rfl ?_
          refine r_getI (by decide) rfl rfl (by decide) hr ?_
          refine r_iload_n rfl ?_
          refine r_virtual (vs := []) (as := [_, _]) (by decide) (zl rfl) rfl rfl (zl rfl) (Nat.le_refl _) (Or.inr (Or.inr ⟨zt rfl, rfl, zt rfl⟩)) ?_
          refine s_read (t := t) (h := 2) (c := c) (w := (vw (I 61 28) 0 0 (bc (I 72 u)) (io u) 0)) (by omega) ht (by omega) ?_ ?_ (fun J L2 hJ => ?_)
          · exact hc
          · exact all6 (by simp [up2, vw]) (by simp [up2, vw]) (by simp [up2, vw, mNu]) (by simp [up2, vw, bit]) (by simp [up2, vw]) (by simp [up2, vw])
          have hX : aF I J := ((((((aF.refl.s (by omega) (by omega)).s (by omega) (by omega)).s (by omega) (by omega)).s (by omega) (by omega)).s (by omega) (by omega)).s (by omega) (by omega)).r hJ
          refine r_istore (ls' := [_, _, _, _, _]) (zt rfl) rfl ?_
          refine r_iload_n rfl ?_
          refine r_if_ne (fun c_117 => ?_) (fun c_117 => ?_)
          · have c_117 := (not_congr (n_eq (a := 2) (b := 0) rfl rfl (by omega) (by omega))).mp c_117
            refine E_go 9 rfl ?_
            refine r_iload_n rfl ?_
            refine r_iconst ?_
            refine r_icmp_ne (fun c_127 => ?_) (fun c_127 => ?_)
            · have c_127 := (not_congr (n_eq (a := 2) (b := 1) rfl rfl (by omega) (by omega))).mp c_127
              refine E_go 10 rfl ?_
              refine r_iload rfl ?_
              refine r_iconst ?_
              refine r_bipush ?_
              refine r_static (vs := [_, _, _]) (by decide) (zl rfl) rfl rfl (zl rfl) (Nat.le_refl _) rfl ?_
              refine s_X7_within (by omega) ?_
              refine r_nil ?_
              refine E_go 11 rfl ?_
              refine r_iret rfl trivial ?_
              refine qi (hQ _ _ hX) ?_
              exact (x7w (by decide)).symm
            · have c_127 := (n_eq (a := 2) (b := 1) rfl rfl (by omega) (by omega)).mp c_127
              omega
          · have c_117 := (n_eq (a := 2) (b := 0) rfl rfl (by omega) (by omega)).mp c_117
            omega

set_option maxRecDepth 10000 in
theorem s_drinksOf {xs : xSc} {m : Nat} {I : Nat → Nat → Int32} {L : Nat → Nat → Int64} {Q : Value → xHp → Prop} (hm : 1 ≤ m) {a : Nat} (ha : a < 5) (hQ : Q (.int (kTake (I 65 a) (mNu I a))) (Hp I L)) : M xs m xi_X7_drinksOf [.ref 61, .int (io a)] (Hp I L) Q := by
  obtain ⟨m, rfl⟩ : ∃ k, m = k + 1 := ⟨m - 1, by omega⟩
  refine M_go (ls := [_, _, _]) (ml := 3) rfl rfl rfl (zl rfl) rfl ?_
  refine r_aload_n rfl ?_
  refine r_getA (q := 65) (by decide) rfl rfl (by decide) ?_
  refine r_iload_n rfl ?_
  refine r_iaload (by decide) rfl (by decide) (ixE rfl (show a < 5 by omega) (by decide)) rfl ?_
  refine r_istore_n (ls' := [_, _, _]) (zt rfl) rfl ?_
  refine r_iload_n rfl ?_
  refine r_iconst ?_
  refine r_icmp_eq (fun c_9 => ?_) (fun c_9 => ?_)
  · refine E_go 1 rfl ?_
    refine r_bipush ?_
    refine r_aload_n rfl ?_
    refine r_getA (q := 66) (by decide) rfl rfl (by decide) ?_
    refine r_iconst ?_
    refine r_iload_n rfl ?_
    refine r_imul ?_
    refine r_iaload (by decide) rfl (by decide) (ixE (n_mul (a := 3) (b := a) rfl rfl) (show (3 * a) < 15 by omega) (by decide)) rfl ?_
    refine r_iadd ?_
    refine r_goto ?_
    refine E_go 6 rfl ?_
    refine r_iret rfl trivial ?_
    refine qi hQ ?_
    unfold kTake mNu
    simp_all
  · refine r_iload_n rfl ?_
    refine r_iconst ?_
    refine r_icmp_ne (fun c_14 => ?_) (fun c_14 => ?_)
    · refine E_go 2 rfl ?_
      refine r_iload_n rfl ?_
      refine r_iconst ?_
      refine r_icmp_ne (fun c_33 => ?_) (fun c_33 => ?_)
      · refine E_go 3 rfl ?_
        refine r_iload_n rfl ?_
        refine r_iconst ?_
        refine r_icmp_ne (fun c_42 => ?_) (fun c_42 => ?_)
        · refine E_go 4 rfl ?_
          refine r_iload_n rfl ?_
          refine r_iconst ?_
          refine r_icmp_ne (fun c_51 => ?_) (fun c_51 => ?_)
          · refine E_go 5 rfl ?_
            refine r_bipush ?_
            refine r_nil ?_
            refine E_go 6 rfl ?_
            refine r_iret rfl trivial ?_
            refine qi hQ ?_
            unfold kTake mNu
            simp_all
          · refine r_iconst ?_
            refine r_goto ?_
            refine E_go 6 rfl ?_
            refine r_iret rfl trivial ?_
            refine qi hQ ?_
            unfold kTake mNu
            simp_all
        · refine r_iconst ?_
          refine r_goto ?_
          refine E_go 6 rfl ?_
          refine r_iret rfl trivial ?_
          refine qi hQ ?_
          unfold kTake mNu
          simp_all
      · refine r_iconst ?_
        refine r_goto ?_
        refine E_go 6 rfl ?_
        refine r_iret rfl trivial ?_
        refine qi hQ ?_
        unfold kTake mNu
        simp_all
    · refine r_nil ?_
      refine E_go 1 rfl ?_
      refine r_bipush ?_
      refine r_aload_n rfl ?_
      refine r_getA (q := 66) (by decide) rfl rfl (by decide) ?_
      refine r_iconst ?_
      refine r_iload_n rfl ?_
      refine r_imul ?_
      refine r_iaload (by decide) rfl (by decide) (ixE (n_mul (a := 3) (b := a) rfl rfl) (show (3 * a) < 15 by omega) (by decide)) rfl ?_
      refine r_iadd ?_
      refine r_goto ?_
      refine E_go 6 rfl ?_
      refine r_iret rfl trivial ?_
      refine qi hQ ?_
      unfold kTake mNu
      simp_all

set_option maxRecDepth 10000 in
theorem s_X7_wants {xs : xSc} {m : Nat} {I : Nat → Nat → Int32} {L : Nat → Nat → Int64} {Q : Value → xHp → Prop} (hm : 1 ≤ m) {a u : Nat} {t : Int32} (ha : a < 5) (hk : isN 6 (I 65 a)) (hQ : Q (.int (kShow (I 65 a) (mNu I a) t (io u))) (Hp I L)) : M xs m xi_X7_wants [.ref 61, .int (io a), .int (io u), .int t] (Hp I L) Q := by
  obtain ⟨m, rfl⟩ : ∃ k, m = k + 1 := ⟨m - 1, by omega⟩
  refine M_go (ls := [_, _, _, _, _, _, _]) (ml := 7) rfl rfl rfl (zl rfl) rfl ?_
  refine r_aload_n rfl ?_
  refine r_getA (q := 65) (by decide) rfl rfl (by decide) ?_
  refine r_iload_n rfl ?_
  refine r_iaload (by decide) rfl (by decide) (ixE rfl (show a < 5 by omega) (by decide)) rfl ?_
  refine r_istore (ls' := [_, _, _, _, _, _, _]) (zt rfl) rfl ?_
  refine r_aload_n rfl ?_
  refine r_getA (q := 66) (by decide) rfl rfl (by decide) ?_
  refine r_iconst ?_
  refine r_iload_n rfl ?_
  refine r_imul ?_
  refine r_iaload (by decide) rfl (by decide) (ixE (n_mul (a := 3) (b := a) rfl rfl) (show (3 * a) < 15 by omega) (by decide)) rfl ?_
  refine r_istore (ls' := [_, _, _, _, _, _, _]) (zt rfl) rfl ?_
  refine r_iload_n rfl ?_
  refine r_iconst ?_
  refine r_iload rfl ?_
  refine r_imul ?_
  refine r_bipush ?_
  refine r_iadd ?_
  refine r_icmp_le (fun c_26 => ?_) (fun c_26 => ?_)
  · refine E_go 1 rfl ?_
    refine r_iconst ?_
    refine r_nil ?_
    refine E_go 2 rfl ?_
    refine r_istore (ls' := [_, _, _, _, _, _, _]) (zt rfl) rfl ?_
    refine r_iload rfl ?_
    refine r_iconst ?_
    refine r_icmp_ne (fun c_39 => ?_) (fun c_39 => ?_)
    · refine E_go 3 rfl ?_
      refine r_iload rfl ?_
      refine r_iconst ?_
      refine r_icmp_ne (fun c_50 => ?_) (fun c_50 => ?_)
      · refine E_go 6 rfl ?_
        refine r_iload rfl ?_
        refine r_iconst ?_
        refine r_icmp_ne (fun c_76 => ?_) (fun c_76 => ?_)
        · refine E_go 8 rfl ?_
          refine r_iload rfl ?_
          refine r_iconst ?_
          refine r_icmp_ne (fun c_94 => ?_) (fun c_94 => ?_)
          · refine E_go 10 rfl ?_
            refine r_iload rfl ?_
            refine r_if_ne (fun c_117 => ?_) (fun c_117 => ?_)
            · refine E_go 11 rfl ?_
              refine r_iconst ?_
              refine r_nil ?_
              refine E_go 12 rfl ?_
              refine r_iret rfl (by first | exact Or.inl rfl | exact Or.inr rfl) ?_
              refine qi hQ ?_
              obtain ⟨k, hk, e⟩ := hk
              unfold kShow mNu
              have e6 : k = 0 ∨ k = 1 ∨ k = 2 ∨ k = 3 ∨ k = 4 ∨ k = 5 := by omega
              rcases e6 with rfl | rfl | rfl | rfl | rfl | rfl <;> simp_all [ltn, -Int32.not_le, show io 0 = (0 : Int32) from rfl, show io 1 = (1 : Int32) from rfl, show io 2 = (2 : Int32) from rfl, show io 3 = (3 : Int32) from rfl, show io 4 = (4 : Int32) from rfl, show io 5 = (5 : Int32) from rfl]
            · refine r_iload_n rfl ?_
              refine r_bipush ?_
              refine r_icmp_le (fun c_123 => ?_) (fun c_123 => ?_)
              · refine E_go 11 rfl ?_
                refine r_iconst ?_
                refine r_nil ?_
                refine E_go 12 rfl ?_
                refine r_iret rfl (by first | exact Or.inl rfl | exact Or.inr rfl) ?_
                refine qi hQ ?_
                obtain ⟨k, hk, e⟩ := hk
                unfold kShow mNu
                have e6 : k = 0 ∨ k = 1 ∨ k = 2 ∨ k = 3 ∨ k = 4 ∨ k = 5 := by omega
                rcases e6 with rfl | rfl | rfl | rfl | rfl | rfl <;> simp_all [ltn, -Int32.not_le, show io 0 = (0 : Int32) from rfl, show io 1 = (1 : Int32) from rfl, show io 2 = (2 : Int32) from rfl, show io 3 = (3 : Int32) from rfl, show io 4 = (4 : Int32) from rfl, show io 5 = (5 : Int32) from rfl]
              · refine r_iconst ?_
                refine r_goto ?_
                refine E_go 12 rfl ?_
                refine r_iret rfl (by first | exact Or.inl rfl | exact Or.inr rfl) ?_
                refine qi hQ ?_
                obtain ⟨k, hk, e⟩ := hk
                unfold kShow mNu
                have e6 : k = 0 ∨ k = 1 ∨ k = 2 ∨ k = 3 ∨ k = 4 ∨ k = 5 := by omega
                rcases e6 with rfl | rfl | rfl | rfl | rfl | rfl <;> simp_all [ltn, -Int32.not_le, show io 0 = (0 : Int32) from rfl, show io 1 = (1 : Int32) from rfl, show io 2 = (2 : Int32) from rfl, show io 3 = (3 : Int32) from rfl, show io 4 = (4 : Int32) from rfl, show io 5 = (5 : Int32) from rfl]
          · refine r_iload_n rfl ?_
            refine r_if_le (fun c_98 => ?_) (fun c_98 => ?_)
            · refine E_go 9 rfl ?_
              refine r_iconst ?_
              refine r_goto ?_
              refine E_go 12 rfl ?_
              refine r_iret rfl (by first | exact Or.inl rfl | exact Or.inr rfl) ?_
              refine qi hQ ?_
              obtain ⟨k, hk, e⟩ := hk
              unfold kShow mNu
              have e6 : k = 0 ∨ k = 1 ∨ k = 2 ∨ k = 3 ∨ k = 4 ∨ k = 5 := by omega
              rcases e6 with rfl | rfl | rfl | rfl | rfl | rfl <;> simp_all [ltn, -Int32.not_le, show io 0 = (0 : Int32) from rfl, show io 1 = (1 : Int32) from rfl, show io 2 = (2 : Int32) from rfl, show io 3 = (3 : Int32) from rfl, show io 4 = (4 : Int32) from rfl, show io 5 = (5 : Int32) from rfl]
            · refine r_iload_n rfl ?_
              refine r_iload rfl ?_
              refine r_icmp_lt (fun c_104 => ?_) (fun c_104 => ?_)
              · refine E_go 9 rfl ?_
                refine r_iconst ?_
                refine r_goto ?_
                refine E_go 12 rfl ?_
                refine r_iret rfl (by first | exact Or.inl rfl | exact Or.inr rfl) ?_
                refine qi hQ ?_
                obtain ⟨k, hk, e⟩ := hk
                unfold kShow mNu
                have e6 : k = 0 ∨ k = 1 ∨ k = 2 ∨ k = 3 ∨ k = 4 ∨ k = 5 := by omega
                rcases e6 with rfl | rfl | rfl | rfl | rfl | rfl <;> simp_all [ltn, -Int32.not_le, show io 0 = (0 : Int32) from rfl, show io 1 = (1 : Int32) from rfl, show io 2 = (2 : Int32) from rfl, show io 3 = (3 : Int32) from rfl, show io 4 = (4 : Int32) from rfl, show io 5 = (5 : Int32) from rfl]
              · refine r_iconst ?_
                refine r_goto ?_
                refine E_go 12 rfl ?_
                refine r_iret rfl (by first | exact Or.inl rfl | exact Or.inr rfl) ?_
                refine qi hQ ?_
                obtain ⟨k, hk, e⟩ := hk
                unfold kShow mNu
                have e6 : k = 0 ∨ k = 1 ∨ k = 2 ∨ k = 3 ∨ k = 4 ∨ k = 5 := by omega
                rcases e6 with rfl | rfl | rfl | rfl | rfl | rfl <;> simp_all [ltn, -Int32.not_le, show io 0 = (0 : Int32) from rfl, show io 1 = (1 : Int32) from rfl, show io 2 = (2 : Int32) from rfl, show io 3 = (3 : Int32) from rfl, show io 4 = (4 : Int32) from rfl, show io 5 = (5 : Int32) from rfl]
        · refine r_iload_n rfl ?_
          refine r_if_le (fun c_80 => ?_) (fun c_80 => ?_)
          · refine E_go 7 rfl ?_
            refine r_iconst ?_
            refine r_goto ?_
            refine E_go 12 rfl ?_
            refine r_iret rfl (by first | exact Or.inl rfl | exact Or.inr rfl) ?_
            refine qi hQ ?_
            obtain ⟨k, hk, e⟩ := hk
            unfold kShow mNu
            have e6 : k = 0 ∨ k = 1 ∨ k = 2 ∨ k = 3 ∨ k = 4 ∨ k = 5 := by omega
            rcases e6 with rfl | rfl | rfl | rfl | rfl | rfl <;> simp_all [ltn, -Int32.not_le, show io 0 = (0 : Int32) from rfl, show io 1 = (1 : Int32) from rfl, show io 2 = (2 : Int32) from rfl, show io 3 = (3 : Int32) from rfl, show io 4 = (4 : Int32) from rfl, show io 5 = (5 : Int32) from rfl]
          · refine r_iconst ?_
            refine r_goto ?_
            refine E_go 12 rfl ?_
            refine r_iret rfl (by first | exact Or.inl rfl | exact Or.inr rfl) ?_
            refine qi hQ ?_
            obtain ⟨k, hk, e⟩ := hk
            unfold kShow mNu
            have e6 : k = 0 ∨ k = 1 ∨ k = 2 ∨ k = 3 ∨ k = 4 ∨ k = 5 := by omega
            rcases e6 with rfl | rfl | rfl | rfl | rfl | rfl <;> simp_all [ltn, -Int32.not_le, show io 0 = (0 : Int32) from rfl, show io 1 = (1 : Int32) from rfl, show io 2 = (2 : Int32) from rfl, show io 3 = (3 : Int32) from rfl, show io 4 = (4 : Int32) from rfl, show io 5 = (5 : Int32) from rfl]
      · refine r_iload rfl ?_
        refine r_if_ne (fun c_55 => ?_) (fun c_55 => ?_)
        · have c_55 := (not_congr (n_eq (a := 0) (b := 0) rfl rfl (by omega) (by omega))).mp c_55
          omega
        · have c_55 := (n_eq (a := 0) (b := 0) rfl rfl (by omega) (by omega)).mp c_55
          refine r_iload_n rfl ?_
          refine r_iconst ?_
          refine r_irem (by decide) ?_
          refine r_iconst ?_
          refine r_icmp_ne (fun c_62 => ?_) (fun c_62 => ?_)
          · refine E_go 5 rfl ?_
            refine r_iconst ?_
            refine r_goto ?_
            refine E_go 12 rfl ?_
            refine r_iret rfl (by first | exact Or.inl rfl | exact Or.inr rfl) ?_
            refine qi hQ ?_
            obtain ⟨k, hk, e⟩ := hk
            unfold kShow mNu
            have e6 : k = 0 ∨ k = 1 ∨ k = 2 ∨ k = 3 ∨ k = 4 ∨ k = 5 := by omega
            rcases e6 with rfl | rfl | rfl | rfl | rfl | rfl <;> simp_all [ltn, -Int32.not_le, show io 0 = (0 : Int32) from rfl, show io 1 = (1 : Int32) from rfl, show io 2 = (2 : Int32) from rfl, show io 3 = (3 : Int32) from rfl, show io 4 = (4 : Int32) from rfl, show io 5 = (5 : Int32) from rfl]
          · refine r_nil ?_
            refine E_go 4 rfl ?_
            refine r_iconst ?_
            refine r_goto ?_
            refine E_go 12 rfl ?_
            refine r_iret rfl (by first | exact Or.inl rfl | exact Or.inr rfl) ?_
            refine qi hQ ?_
            obtain ⟨k, hk, e⟩ := hk
            unfold kShow mNu
            have e6 : k = 0 ∨ k = 1 ∨ k = 2 ∨ k = 3 ∨ k = 4 ∨ k = 5 := by omega
            rcases e6 with rfl | rfl | rfl | rfl | rfl | rfl <;> simp_all [ltn, -Int32.not_le, show io 0 = (0 : Int32) from rfl, show io 1 = (1 : Int32) from rfl, show io 2 = (2 : Int32) from rfl, show io 3 = (3 : Int32) from rfl, show io 4 = (4 : Int32) from rfl, show io 5 = (5 : Int32) from rfl]
    · refine r_iload rfl ?_
      refine r_goto ?_
      refine E_go 12 rfl ?_
      refine r_iret rfl (by first | exact Or.inl rfl | exact Or.inr rfl) ?_
      refine qi hQ ?_
      obtain ⟨k, hk, e⟩ := hk
      unfold kShow mNu
      have e6 : k = 0 ∨ k = 1 ∨ k = 2 ∨ k = 3 ∨ k = 4 ∨ k = 5 := by omega
      rcases e6 with rfl | rfl | rfl | rfl | rfl | rfl <;> simp_all [ltn, -Int32.not_le, show io 0 = (0 : Int32) from rfl, show io 1 = (1 : Int32) from rfl, show io 2 = (2 : Int32) from rfl, show io 3 = (3 : Int32) from rfl, show io 4 = (4 : Int32) from rfl, show io 5 = (5 : Int32) from rfl]
  · refine r_iconst ?_
    refine r_goto ?_
    refine E_go 2 rfl ?_
    refine r_istore (ls' := [_, _, _, _, _, _, _]) (zt rfl) rfl ?_
    refine r_iload rfl ?_
    refine r_iconst ?_
    refine r_icmp_ne (fun c_39 => ?_) (fun c_39 => ?_)
    · refine E_go 3 rfl ?_
      refine r_iload rfl ?_
      refine r_iconst ?_
      refine r_icmp_ne (fun c_50 => ?_) (fun c_50 => ?_)
      · refine E_go 6 rfl ?_
        refine r_iload rfl ?_
        refine r_iconst ?_
        refine r_icmp_ne (fun c_76 => ?_) (fun c_76 => ?_)
        · refine E_go 8 rfl ?_
          refine r_iload rfl ?_
          refine r_iconst ?_
          refine r_icmp_ne (fun c_94 => ?_) (fun c_94 => ?_)
          · refine E_go 10 rfl ?_
            refine r_iload rfl ?_
            refine r_if_ne (fun c_117 => ?_) (fun c_117 => ?_)
            · refine E_go 11 rfl ?_
              refine r_iconst ?_
              refine r_nil ?_
              refine E_go 12 rfl ?_
              refine r_iret rfl (by first | exact Or.inl rfl | exact Or.inr rfl) ?_
              refine qi hQ ?_
              obtain ⟨k, hk, e⟩ := hk
              unfold kShow mNu
              have e6 : k = 0 ∨ k = 1 ∨ k = 2 ∨ k = 3 ∨ k = 4 ∨ k = 5 := by omega
              rcases e6 with rfl | rfl | rfl | rfl | rfl | rfl <;> simp_all [ltn, -Int32.not_le, show io 0 = (0 : Int32) from rfl, show io 1 = (1 : Int32) from rfl, show io 2 = (2 : Int32) from rfl, show io 3 = (3 : Int32) from rfl, show io 4 = (4 : Int32) from rfl, show io 5 = (5 : Int32) from rfl]
            · refine r_iload_n rfl ?_
              refine r_bipush ?_
              refine r_icmp_le (fun c_123 => ?_) (fun c_123 => ?_)
              · refine E_go 11 rfl ?_
                refine r_iconst ?_
                refine r_nil ?_
                refine E_go 12 rfl ?_
                refine r_iret rfl (by first | exact Or.inl rfl | exact Or.inr rfl) ?_
                refine qi hQ ?_
                obtain ⟨k, hk, e⟩ := hk
                unfold kShow mNu
                have e6 : k = 0 ∨ k = 1 ∨ k = 2 ∨ k = 3 ∨ k = 4 ∨ k = 5 := by omega
                rcases e6 with rfl | rfl | rfl | rfl | rfl | rfl <;> simp_all [ltn, -Int32.not_le, show io 0 = (0 : Int32) from rfl, show io 1 = (1 : Int32) from rfl, show io 2 = (2 : Int32) from rfl, show io 3 = (3 : Int32) from rfl, show io 4 = (4 : Int32) from rfl, show io 5 = (5 : Int32) from rfl]
              · refine r_iconst ?_
                refine r_goto ?_
                refine E_go 12 rfl ?_
                refine r_iret rfl (by first | exact Or.inl rfl | exact Or.inr rfl) ?_
                refine qi hQ ?_
                obtain ⟨k, hk, e⟩ := hk
                unfold kShow mNu
                have e6 : k = 0 ∨ k = 1 ∨ k = 2 ∨ k = 3 ∨ k = 4 ∨ k = 5 := by omega
                rcases e6 with rfl | rfl | rfl | rfl | rfl | rfl <;> simp_all [ltn, -Int32.not_le, show io 0 = (0 : Int32) from rfl, show io 1 = (1 : Int32) from rfl, show io 2 = (2 : Int32) from rfl, show io 3 = (3 : Int32) from rfl, show io 4 = (4 : Int32) from rfl, show io 5 = (5 : Int32) from rfl]
          · refine r_iload_n rfl ?_
            refine r_if_le (fun c_98 => ?_) (fun c_98 => ?_)
            · refine E_go 9 rfl ?_
              refine r_iconst ?_
              refine r_goto ?_
              refine E_go 12 rfl ?_
              refine r_iret rfl (by first | exact Or.inl rfl | exact Or.inr rfl) ?_
              refine qi hQ ?_
              obtain ⟨k, hk, e⟩ := hk
              unfold kShow mNu
              have e6 : k = 0 ∨ k = 1 ∨ k = 2 ∨ k = 3 ∨ k = 4 ∨ k = 5 := by omega
              rcases e6 with rfl | rfl | rfl | rfl | rfl | rfl <;> simp_all [ltn, -Int32.not_le, show io 0 = (0 : Int32) from rfl, show io 1 = (1 : Int32) from rfl, show io 2 = (2 : Int32) from rfl, show io 3 = (3 : Int32) from rfl, show io 4 = (4 : Int32) from rfl, show io 5 = (5 : Int32) from rfl]
            · refine r_iload_n rfl ?_
              refine r_iload rfl ?_
              refine r_icmp_lt (fun c_104 => ?_) (fun c_104 => ?_)
              · refine E_go 9 rfl ?_
                refine r_iconst ?_
                refine r_goto ?_
                refine E_go 12 rfl ?_
                refine r_iret rfl (by first | exact Or.inl rfl | exact Or.inr rfl) ?_
                refine qi hQ ?_
                obtain ⟨k, hk, e⟩ := hk
                unfold kShow mNu
                have e6 : k = 0 ∨ k = 1 ∨ k = 2 ∨ k = 3 ∨ k = 4 ∨ k = 5 := by omega
                rcases e6 with rfl | rfl | rfl | rfl | rfl | rfl <;> simp_all [ltn, -Int32.not_le, show io 0 = (0 : Int32) from rfl, show io 1 = (1 : Int32) from rfl, show io 2 = (2 : Int32) from rfl, show io 3 = (3 : Int32) from rfl, show io 4 = (4 : Int32) from rfl, show io 5 = (5 : Int32) from rfl]
              · refine r_iconst ?_
                refine r_goto ?_
                refine E_go 12 rfl ?_
                refine r_iret rfl (by first | exact Or.inl rfl | exact Or.inr rfl) ?_
                refine qi hQ ?_
                obtain ⟨k, hk, e⟩ := hk
                unfold kShow mNu
                have e6 : k = 0 ∨ k = 1 ∨ k = 2 ∨ k = 3 ∨ k = 4 ∨ k = 5 := by omega
                rcases e6 with rfl | rfl | rfl | rfl | rfl | rfl <;> simp_all [ltn, -Int32.not_le, show io 0 = (0 : Int32) from rfl, show io 1 = (1 : Int32) from rfl, show io 2 = (2 : Int32) from rfl, show io 3 = (3 : Int32) from rfl, show io 4 = (4 : Int32) from rfl, show io 5 = (5 : Int32) from rfl]
        · refine r_iload_n rfl ?_
          refine r_if_le (fun c_80 => ?_) (fun c_80 => ?_)
          · refine E_go 7 rfl ?_
            refine r_iconst ?_
            refine r_goto ?_
            refine E_go 12 rfl ?_
            refine r_iret rfl (by first | exact Or.inl rfl | exact Or.inr rfl) ?_
            refine qi hQ ?_
            obtain ⟨k, hk, e⟩ := hk
            unfold kShow mNu
            have e6 : k = 0 ∨ k = 1 ∨ k = 2 ∨ k = 3 ∨ k = 4 ∨ k = 5 := by omega
            rcases e6 with rfl | rfl | rfl | rfl | rfl | rfl <;> simp_all [ltn, -Int32.not_le, show io 0 = (0 : Int32) from rfl, show io 1 = (1 : Int32) from rfl, show io 2 = (2 : Int32) from rfl, show io 3 = (3 : Int32) from rfl, show io 4 = (4 : Int32) from rfl, show io 5 = (5 : Int32) from rfl]
          · refine r_iconst ?_
            refine r_goto ?_
            refine E_go 12 rfl ?_
            refine r_iret rfl (by first | exact Or.inl rfl | exact Or.inr rfl) ?_
            refine qi hQ ?_
            obtain ⟨k, hk, e⟩ := hk
            unfold kShow mNu
            have e6 : k = 0 ∨ k = 1 ∨ k = 2 ∨ k = 3 ∨ k = 4 ∨ k = 5 := by omega
            rcases e6 with rfl | rfl | rfl | rfl | rfl | rfl <;> simp_all [ltn, -Int32.not_le, show io 0 = (0 : Int32) from rfl, show io 1 = (1 : Int32) from rfl, show io 2 = (2 : Int32) from rfl, show io 3 = (3 : Int32) from rfl, show io 4 = (4 : Int32) from rfl, show io 5 = (5 : Int32) from rfl]
      · refine r_iload rfl ?_
        refine r_if_ne (fun c_55 => ?_) (fun c_55 => ?_)
        · have c_55 := (not_congr (n_eq (a := 1) (b := 0) rfl rfl (by omega) (by omega))).mp c_55
          refine E_go 4 rfl ?_
          refine r_iconst ?_
          refine r_goto ?_
          refine E_go 12 rfl ?_
          refine r_iret rfl (by first | exact Or.inl rfl | exact Or.inr rfl) ?_
          refine qi hQ ?_
          obtain ⟨k, hk, e⟩ := hk
          unfold kShow mNu
          have e6 : k = 0 ∨ k = 1 ∨ k = 2 ∨ k = 3 ∨ k = 4 ∨ k = 5 := by omega
          rcases e6 with rfl | rfl | rfl | rfl | rfl | rfl <;> simp_all [ltn, -Int32.not_le, show io 0 = (0 : Int32) from rfl, show io 1 = (1 : Int32) from rfl, show io 2 = (2 : Int32) from rfl, show io 3 = (3 : Int32) from rfl, show io 4 = (4 : Int32) from rfl, show io 5 = (5 : Int32) from rfl]
        · have c_55 := (n_eq (a := 1) (b := 0) rfl rfl (by omega) (by omega)).mp c_55
          omega
    · refine r_iload rfl ?_
      refine r_goto ?_
      refine E_go 12 rfl ?_
      refine r_iret rfl (by first | exact Or.inl rfl | exact Or.inr rfl) ?_
      refine qi hQ ?_
      obtain ⟨k, hk, e⟩ := hk
      unfold kShow mNu
      have e6 : k = 0 ∨ k = 1 ∨ k = 2 ∨ k = 3 ∨ k = 4 ∨ k = 5 := by omega
      rcases e6 with rfl | rfl | rfl | rfl | rfl | rfl <;> simp_all [ltn, -Int32.not_le, show io 0 = (0 : Int32) from rfl, show io 1 = (1 : Int32) from rfl, show io 2 = (2 : Int32) from rfl, show io 3 = (3 : Int32) from rfl, show io 4 = (4 : Int32) from rfl, show io 5 = (5 : Int32) from rfl]
