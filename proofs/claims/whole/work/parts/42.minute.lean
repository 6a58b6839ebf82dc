/-! a minute and an hour of the class -/

theorem nmv_lt {w : Int32} (h1 : ¬ nmv w < 0) (h2 : ¬ 6 ≤ nmv w) : (nmv w).toNatClampNeg < 6 := by
  obtain ⟨k, hk, e⟩ := io_ex (n := 6) (Int32.not_lt.mp h1) (Int32.not_le.mp h2) (by omega)
  rw [e, io_nat (by omega)]
  exact hk
theorem stp_cong {v w : Vw} (h : ∀ k, k < 6 → v k = w k) (x : Int32) (st : List Int32) : stp v x st = stp w x st := by
  by_cases h1 : nmv x < 0
  · rw [stp, stp, if_pos h1, if_pos h1]
  · by_cases h2 : 6 ≤ nmv x
    · rw [stp, stp, if_neg h1, if_neg h1, if_pos h2, if_pos h2]
    · rw [stp_v h1 h2, stp_v h1 h2, h _ (nmv_lt h1 h2)]
theorem rn_cong {v w : Vw} (h : ∀ k, k < 6 → v k = w k) (c : Nat → Int32) (i : Nat) : ∀ k, rn v c i k = rn w c i k
  | 0 => rfl
  | k + 1 => by rw [rn, rn, rn_cong h c i k, stp_cong h]
/-- where a text's parts end -/
def okE (E : Nat → Int32) (a b c : Nat) : Prop := (a ≤ b ∧ b ≤ c ∧ c ≤ 160) ∧ E 0 = io a ∧ E 1 = io b ∧ E 2 = io c
def eN (E : Nat → Int32) (k : Nat) : Nat := (E k).toNatClampNeg
def cru (C E : Nat → Int32) : Ru := fun part w => match part with
  | 0 => (rn w C 0 (eN E 0)).headD 0
  | 1 => (rn w C (eN E 0) (eN E 1 - eN E 0)).headD 0
  | _ => (rn w C (eN E 1) (eN E 2 - eN E 1)).headD 0
theorem eN_0 {E : Nat → Int32} {a b c : Nat} (h : okE E a b c) : eN E 0 = a := by rw [eN, h.2.1, io_nat (by have := h.1; omega)]
theorem eN_1 {E : Nat → Int32} {a b c : Nat} (h : okE E a b c) : eN E 1 = b := by rw [eN, h.2.2.1, io_nat (by have := h.1; omega)]
theorem eN_2 {E : Nat → Int32} {a b c : Nat} (h : okE E a b c) : eN E 2 = c := by rw [eN, h.2.2.2, io_nat (by have := h.1; omega)]

theorem s_val0 {xs : xSc} {m : Nat} {I : Nat → Nat → Int32} {L : Nat → Nat → Int64} {Q : Value → xHp → Prop} (hm : 2 ≤ m) {q a b c : Nat} (hq : TxP q) (hE : okE (I (q + 2)) a b c) {w : Vw} (hw : ∀ k, k < 6 → I 27 k = w k) (hQ : ∀ J, oF 28 28 I J → Q (.int (cru (I (q + 1)) (I (q + 2)) 0 w)) (Hp J L)) : M xs m xi_X5_value [.ref q, .int 0, .ref 27, .ref 28] (Hp I L) Q := by
  have h := hE.1
  refine s_value0 hm hq (s := 0) rfl hE.2.1 (by omega) (by omega) (fun J hJ => ?_)
  refine qi (hQ J hJ) ?_
  rw [rn_cong hw]
  simp only [cru, eN_0 hE, eN_1 hE, eN_2 hE, Nat.sub_zero]

theorem s_val1 {xs : xSc} {m : Nat} {I : Nat → Nat → Int32} {L : Nat → Nat → Int64} {Q : Value → xHp → Prop} (hm : 2 ≤ m) {q a b c : Nat} (hq : TxP q) (hE : okE (I (q + 2)) a b c) {w : Vw} (hw : ∀ k, k < 6 → I 27 k = w k) (hQ : ∀ J, oF 28 28 I J → Q (.int (cru (I (q + 1)) (I (q + 2)) 1 w)) (Hp J L)) : M xs m xi_X5_value [.ref q, .int 1, .ref 27, .ref 28] (Hp I L) Q := by
  have h := hE.1
  refine s_value1 hm hq (s := a) hE.2.1 hE.2.2.1 (by omega) (by omega) (fun J hJ => ?_)
  refine qi (hQ J hJ) ?_
  rw [rn_cong hw]
  simp only [cru, eN_0 hE, eN_1 hE, eN_2 hE]

theorem s_val2 {xs : xSc} {m : Nat} {I : Nat → Nat → Int32} {L : Nat → Nat → Int64} {Q : Value → xHp → Prop} (hm : 2 ≤ m) {q a b c : Nat} (hq : TxP q) (hE : okE (I (q + 2)) a b c) {w : Vw} (hw : ∀ k, k < 6 → I 27 k = w k) (hQ : ∀ J, oF 28 28 I J → Q (.int (cru (I (q + 1)) (I (q + 2)) 2 w)) (Hp J L)) : M xs m xi_X5_value [.ref q, .int 2, .ref 27, .ref 28] (Hp I L) Q := by
  have h := hE.1
  refine s_value2 hm hq (s := b) hE.2.2.1 hE.2.2.2 (by omega) (by omega) (fun J hJ => ?_)
  refine qi (hQ J hJ) ?_
  rw [rn_cong hw]
  simp only [cru, eN_0 hE, eN_1 hE, eN_2 hE]

/-- only the hour's minute m changes, of the glass -/
def mF (m : Nat) (I J : Nat → Nat → Int32) : Prop := oF 19 28 I J ∧ ∀ p k, 23 ≤ p ∧ p ≤ 26 → ¬ k = m → J p k = I p k
theorem mF.refl {m : Nat} {I : Nat → Nat → Int32} : mF m I I := ⟨oF.refl, fun _ _ _ _ => rfl⟩
theorem mF.up {m r k : Nat} {v : Int32} {I J : Nat → Nat → Int32} (h : mF m I J) (h1 : 19 ≤ r) (h2 : r ≤ 28) (h3 : r < 23 ∨ 26 < r ∨ k = m) : mF m I (up2 J r k v) := by
  refine ⟨h.1.up h1 h2, fun p j hp hj => ?_⟩
  rw [← h.2 p j hp hj]
  by_cases c : p = r
  · subst c
    rw [up2_k (by omega)]
  · rw [up2_q c]
theorem mF.trans {m : Nat} {I J K : Nat → Nat → Int32} (h : mF m I J) (h2 : mF m J K) : mF m I K := ⟨h.1.trans h2.1, fun p k hp hk => by rw [h2.2 p k hp hk, h.2 p k hp hk]⟩
theorem mF.of {m : Nat} {I J : Nat → Nat → Int32} (h : oF 27 28 I J) : mF m I J := ⟨h.wide (by omega) (by omega), fun p k hp _ => by rw [h p (by omega)]⟩
/-- the glass in the midst of minute m -/
def cM (n m : Nat) (I : Nat → Nat → Int32) (s : Ms) : Prop := cH n I s.1 ∧ I 25 m = s.2.1 ∧ I 26 m = s.2.2
theorem cH_of {n : Nat} {I J : Nat → Nat → Int32} {s : Hs} (h : oF 27 28 I J) (c : cH n I s) : cH n J s := by
  obtain ⟨c1, c2, c3, c4, c5⟩ := c
  refine ⟨?_, ?_, ?_, ?_, ?_⟩
  · rw [h 19 (by omega)]; exact c1
  · rw [h 19 (by omega)]; exact c2
  · rw [h 20 (by omega)]; exact c3
  · rw [h 21 (by omega)]; exact c4
  · rw [h 22 (by omega)]; exact c5
theorem u1_all {n a : Nat} {f g : Nat → Int32} {v w : Int32} (h : ∀ b, b < n → f b = g b) (e : v = w) : ∀ b, b < n → u1 f a v b = u1 g a w b := by
  intro b hb
  by_cases c : b = a
  · subst c; rw [u1_eq, u1_eq, e]
  · rw [u1_ne c, u1_ne c, h b hb]
theorem mx0_i {x : Int32} : (if 0 < x then x else 0) = mx0 x := rfl
theorem shw_cong {K N t u : Nat → Int32} {m : Int32} : ∀ {n : Nat}, (∀ a, a < n → t a = u a) → shw K N t m n = shw K N u m n
  | 0, _ => rfl
  | n + 1, h => by
    rw [shw, shw, shw_cong (fun a ha => h a (by omega)), h n (by omega)]
theorem bit_or : ∀ a, a < 5 → ∀ k, k < 2 ^ a → ∃ j, j < 2 ^ (a + 1) ∧ io k ||| bit a = io j := by decide +kernel
theorem shw_lt {K N t : Nat → Int32} {m : Int32} : ∀ {n : Nat}, n ≤ 5 → ∃ k, k < 2 ^ n ∧ shw K N t m n = io k
  | 0, _ => ⟨0, by decide, rfl⟩
  | n + 1, h => by
    obtain ⟨k, hk, e⟩ := shw_lt (K := K) (N := N) (t := t) (m := m) (n := n) (by omega)
    rw [shw, e]
    by_cases c : kShow (K n) (N n) (t n) m = 0
    · rw [if_pos c]; exact ⟨k, by rw [Nat.pow_succ]; omega, rfl⟩
    · rw [if_neg c]; exact bit_or n (by omega) k hk
theorem two5 {n : Nat} (h : n ≤ 5) : 2 ^ n ≤ 32 := Nat.pow_le_pow_right (by decide) h
theorem shw_32 {K N t : Nat → Int32} {m : Int32} {n : Nat} (h : n ≤ 5) : ∃ k, k < 32 ∧ shw K N t m n = io k := by
  obtain ⟨k, hk, e⟩ := shw_lt (K := K) (N := N) (t := t) (m := m) h
  exact ⟨k, by have := two5 h; omega, e⟩

set_option maxRecDepth 10000 in
theorem s_reaches_1 {xs : xSc} {m : Nat} {I : Nat → Nat → Int32} {L : Nat → Nat → Int64} {Q : Value → xHp → Prop} (hm : 3 ≤ m) {u n a q e0 e1 e2 : Nat} {s : Ms} (hu : u < 6) (h5 : n ≤ 5) (hn : a < n) (hs : ∃ k, k < 32 ∧ I 24 u = io k) (hq : TxP q) (hE : okE (I (q + 2)) e0 e1 e2) (hc : cM n u I s) (hQ : ∀ J, mF u I J → J 24 u = I 24 u → cM n u J (rch (cru (I (q + 1)) (I (q + 2))) (I 2) (I 3) (io u) (I 24 u) a s) → Q .null (Hp J L)) : M xs m xi_X0_reaches [.ref 19, .int (io a), .int (io u), .ref 1, .ref q] (Hp I L) Q := by
  obtain ⟨m, rfl⟩ : ∃ k, m = k + 1 := ⟨m - 1, by omega⟩
  have ha : a < 5 := by omega
  have hqq := hq.1.2.2
  have hqk1 := hq.1.1
  have hqk2 := hq.1.2.1
  refine M_go (ls := [_, _, _, _, _, _]) (ml := 6) rfl rfl rfl (zl rfl) rfl ?_
  refine r_aload_n rfl ?_
  refine r_iload_n rfl ?_
  refine r_iload_n rfl ?_
  refine r_aload_n rfl ?_
  refine r_virtual (vs := []) (as := [_, _, _]) (by decide) (zl rfl) rfl rfl (zl rfl) (Nat.le_refl _) (Or.inr (Or.inr ⟨zt rfl, rfl, zt rfl⟩)) ?_
  refine s_looksA_1 (by omega) hu hs ha (fun J1 hJ1 hV1 => ?_)
  refine r_aload rfl ?_
  refine r_iconst ?_
  refine r_aload_n rfl ?_
  refine r_getA (q := 27) (by decide) rfl rfl (by decide) ?_
  refine r_aload_n rfl ?_
  refine r_getA (q := 28) (by decide) rfl rfl (by decide) ?_
  refine r_virtual (vs := []) (as := [_, _, _]) (by decide) (zl rfl) rfl rfl (zl rfl) (Nat.le_refl _) (Or.inr (Or.inr ⟨zt rfl, hqk1, hqk2⟩)) ?_
  refine s_val0 (by omega) hq (a := e0) (b := e1) (c := e2) (by rw [hJ1 (q + 2) (by omega)]; exact hE) hV1 (fun J2 hJ2 => ?_)
  rw [hJ1 (q + 1) (by omega), hJ1 (q + 2) (by omega)]
  refine r_if_ne (fun c_21 => ?_) (fun c_21 => ?_)
  · refine E_go 1 rfl ?_
    refine r_aload rfl ?_
    refine r_iconst ?_
    refine r_aload_n rfl ?_
    refine r_getA (q := 27) (by decide) rfl rfl (by decide) ?_
    refine r_aload_n rfl ?_
    refine r_getA (q := 28) (by decide) rfl rfl (by decide) ?_
    refine r_virtual (vs := []) (as := [_, _, _]) (by decide) (zl rfl) rfl rfl (zl rfl) (Nat.le_refl _) (Or.inr (Or.inr ⟨zt rfl, hqk1, hqk2⟩)) ?_
    refine s_val1 (by omega) hq (a := e0) (b := e1) (c := e2) (by rw [hJ2 (q + 2) (by omega), hJ1 (q + 2) (by omega)]; exact hE) (w := (vw (I 19 0) (I 20 a) (I 3 a) (bc (I 24 u &&& (bit a ^^^ -1))) (io u) (I 21 a))) (by rw [hJ2 27 (by omega)]; exact hV1) (fun J3 hJ3 => ?_)
    rw [hJ2 (q + 1) (by omega), hJ1 (q + 1) (by omega), hJ2 (q + 2) (by omega), hJ1 (q + 2) (by omega)]
    refine r_bipush ?_
    refine r_bipush ?_
    refine r_static (vs := [_, _, _]) (by decide) (zl rfl) rfl rfl (zl rfl) (Nat.le_refl _) rfl ?_
    refine s_X6_within (by omega) ?_
    refine r_istore (ls' := [_, _, _, _, _, _]) (zt rfl) rfl ?_
    refine r_aload_n rfl ?_
    refine r_getA (q := 22) (by decide) rfl rfl (by decide) ?_
    refine r_iload_n rfl ?_
    refine r_dup2 rfl rfl ?_
    refine r_iaload (by decide) rfl (by decide) (ixE rfl (show a < 5 by omega) (by decide)) rfl ?_
    refine r_aload_n rfl ?_
    refine r_getA (q := 2) (by decide) rfl rfl (by decide) ?_
    refine r_iload_n rfl ?_
    refine r_iaload (by decide) rfl (by decide) (ixE rfl (show a < 5 by omega) (by decide)) rfl ?_
    refine r_aload_n rfl ?_
    refine r_getA (q := 3) (by decide) rfl rfl (by decide) ?_
    refine r_iload_n rfl ?_
    refine r_iaload (by decide) rfl (by decide) (ixE rfl (show a < 5 by omega) (by decide)) rfl ?_
    refine r_iload rfl ?_
    refine r_aload_n rfl ?_
    refine r_getI (by decide) rfl rfl (by decide) rfl ?_
    refine r_static (vs := [_, _, _, _]) (by decide) (zl rfl) rfl rfl (zl rfl) (Nat.le_refl _) rfl ?_
    refine s_X1_joyOfCup (by omega) ?_
    refine r_iadd ?_
    refine r_iastore rfl (by decide) (ixE rfl (show a < 5 by omega) (by decide)) ?_
    refine r_aload_n rfl ?_
    refine r_iconst ?_
    refine r_aload_n rfl ?_
    refine r_getI (by decide) rfl rfl (by decide) rfl ?_
    refine r_aload_n rfl ?_
    refine r_getA (q := 2) (by decide) rfl rfl (by decide) ?_
    refine r_iload_n rfl ?_
    refine r_iaload (by decide) rfl (by decide) (ixE rfl (show a < 5 by omega) (by decide)) rfl ?_
    refine r_aload_n rfl ?_
    refine r_getA (q := 3) (by decide) rfl rfl (by decide) ?_
    refine r_iload_n rfl ?_
    refine r_iaload (by decide) rfl (by decide) (ixE rfl (show a < 5 by omega) (by decide)) rfl ?_
    refine r_static (vs := [_, _]) (by decide) (zl rfl) rfl rfl (zl rfl) (Nat.le_refl _) rfl ?_
    refine s_X1_takesOfHeat (by omega) ?_
    refine r_isub ?_
    refine r_max rfl (zl rfl) ?_
    refine r_putI rfl rfl (by decide) ?_
    refine r_aload_n rfl ?_
    refine r_getA (q := 20) (by decide) rfl rfl (by decide) ?_
    refine r_iload_n rfl ?_
    refine r_iconst ?_
    refine r_aload_n rfl ?_
    refine r_getA (q := 20) (by decide) rfl rfl (by decide) ?_
    refine r_iload_n rfl ?_
    refine r_iaload (by decide) rfl (by decide) (ixE rfl (show a < 5 by omega) (by decide)) rfl ?_
    refine r_bipush ?_
    refine r_isub ?_
    refine r_max rfl (zl rfl) ?_
    refine r_iastore rfl (by decide) (ixE rfl (show a < 5 by omega) (by decide)) ?_
    refine r_aload_n rfl ?_
    refine r_getA (q := 21) (by decide) rfl rfl (by decide) ?_
    refine r_iload_n rfl ?_
    refine r_dup2 rfl rfl ?_
    refine r_iaload (by decide) rfl (by decide) (ixE rfl (show a < 5 by omega) (by decide)) rfl ?_
    refine r_iconst ?_
    refine r_iadd ?_
    refine r_iastore rfl (by decide) (ixE rfl (show a < 5 by omega) (by decide)) ?_
    refine r_aload_n rfl ?_
    refine r_getA (q := 25) (by decide) rfl rfl (by decide) ?_
    refine r_iload_n rfl ?_
    refine r_dup2 rfl rfl ?_
    refine r_iaload (by decide) rfl (by decide) (ixE rfl (show u < 6 by omega) (by decide)) rfl ?_
    refine r_iconst ?_
    refine r_iload_n rfl ?_
    refine r_ishl ?_
    refine r_ior ?_
    refine r_iastore rfl (by decide) (ixE rfl (show u < 6 by omega) (by decide)) ?_
    refine r_ret rfl ?_
    have hX : oF 27 28 I J3 := ((hJ1.wide (by omega) (by omega)).trans (hJ2.wide (by omega) (by omega))).trans (hJ3.wide (by omega) (by omega))
    have g19 := hX 19 (by omega)
    have g20 := hX 20 (by omega)
    have g21 := hX 21 (by omega)
    have g22 := hX 22 (by omega)
    have g24 := hX 24 (by omega)
    have g25 := hX 25 (by omega)
    have g26 := hX 26 (by omega)
    have g2 := hX 2 (by omega)
    have g3 := hX 3 (by omega)
    refine hQ _ (((((((mF.of hX).up (by omega) (by omega) (by omega)).up (by omega) (by omega) (by omega)).up (by omega) (by omega) (by omega)).up (by omega) (by omega) (by omega)).up (by omega) (by omega) (by omega))) ?_ ?_
    · show J3 24 u = I 24 u
      rw [g24]
    · rw [rch, ← hc.1.1, ← hc.1.2.2.1 a hn, ← hc.1.2.2.2.1 a hn, if_neg c_21]
      refine ⟨⟨?_, ?_, ?_, ?_, ?_⟩, ?_, ?_⟩
      · show (if 0 < J3 19 0 - kTake (J3 2 a) (J3 3 a) then J3 19 0 - kTake (J3 2 a) (J3 3 a) else 0) = _
        rw [g19, g2, g3]; rfl
      · show J3 19 8 = _
        rw [g19]; exact hc.1.2.1
      · show ∀ b, b < n → u1 (J3 20) a (if 0 < J3 20 a - 10 then J3 20 a - 10 else 0) b = _
        rw [g20]
        exact u1_all hc.1.2.2.1 rfl
      · show ∀ b, b < n → u1 (J3 21) a (J3 21 a + 1) b = _
        rw [g21]
        exact u1_all hc.1.2.2.2.1 rfl
      · show ∀ b, b < n → u1 (J3 22) a (J3 22 a + kJoy (J3 2 a) (J3 3 a) (if -99 < _ then _ else -99) (J3 19 0)) b = _
        rw [g22, g2, g3, g19, x6w (by decide)]
        exact u1_all hc.1.2.2.2.2 (by rw [hc.1.2.2.2.2 a hn])
      · show up2 J3 25 u (J3 25 u ||| _) 25 u = _
        rw [up2_at, g25, hc.2.1]; rfl
      · show J3 26 u = _
        rw [g26]; exact hc.2.2
  · refine r_aload_n rfl ?_
    refine r_getA (q := 26) (by decide) rfl rfl (by decide) ?_
    refine r_iload_n rfl ?_
    refine r_dup2 rfl rfl ?_
    refine r_iaload (by decide) rfl (by decide) (ixE rfl (show u < 6 by omega) (by decide)) rfl ?_
    refine r_iconst ?_
    refine r_iload_n rfl ?_
    refine r_ishl ?_
    refine r_ior ?_
    refine r_iastore rfl (by decide) (ixE rfl (show u < 6 by omega) (by decide)) ?_
    refine r_ret rfl ?_
    have hX : oF 27 28 I J2 := (hJ1.wide (by omega) (by omega)).trans (hJ2.wide (by omega) (by omega))
    refine hQ _ ((mF.of hX).up (by omega) (by omega) (by omega)) ?_ ?_
    · show J2 24 u = I 24 u
      rw [hX 24 (by omega)]
    · have e : rch (cru (I (q + 1)) (I (q + 2))) (I 2) (I 3) (io u) (I 24 u) a s = (s.1, s.2.1, s.2.2 ||| bit a) := by
        rw [rch, ← hc.1.1, ← hc.1.2.2.1 a hn, ← hc.1.2.2.2.1 a hn]
        exact if_pos c_21
      rw [e]
      have hy := cH_of hX hc.1
      refine ⟨⟨hy.1, hy.2.1, hy.2.2.1, hy.2.2.2.1, hy.2.2.2.2⟩, ?_, ?_⟩
      · show J2 25 u = _
        rw [hX 25 (by omega)]; exact hc.2.1
      · show up2 J2 26 u _ 26 u = _
        rw [up2_at, hX 26 (by omega), hc.2.2]; rfl

set_option maxRecDepth 10000 in
theorem s_reaches_13 {xs : xSc} {m : Nat} {I : Nat → Nat → Int32} {L : Nat → Nat → Int64} {Q : Value → xHp → Prop} (hm : 3 ≤ m) {u n a q e0 e1 e2 : Nat} {s : Ms} (hu : u < 6) (h5 : n ≤ 5) (hn : a < n) (hs : ∃ k, k < 32 ∧ I 24 u = io k) (hq : TxP q) (hE : okE (I (q + 2)) e0 e1 e2) (hc : cM n u I s) (hQ : ∀ J, mF u I J → J 24 u = I 24 u → cM n u J (rch (cru (I (q + 1)) (I (q + 2))) (I 14) (I 15) (io u) (I 24 u) a s) → Q .null (Hp J L)) : M xs m xi_X0_reaches [.ref 19, .int (io a), .int (io u), .ref 13, .ref q] (Hp I L) Q := by
  obtain ⟨m, rfl⟩ : ∃ k, m = k + 1 := ⟨m - 1, by omega⟩
  have ha : a < 5 := by omega
  have hqq := hq.1.2.2
  have hqk1 := hq.1.1
  have hqk2 := hq.1.2.1
  refine M_go (ls := [_, _, _, _, _, _]) (ml := 6) rfl rfl rfl (zl rfl) rfl ?_
  refine r_aload_n rfl ?_
  refine r_iload_n rfl ?_
  refine r_iload_n rfl ?_
  refine r_aload_n rfl ?_
  refine r_virtual (vs := []) (as := [_, _, _]) (by decide) (zl rfl) rfl rfl (zl rfl) (Nat.le_refl _) (Or.inr (Or.inr ⟨zt rfl, rfl, zt rfl⟩)) ?_
  refine s_looksA_13 (by omega) hu hs ha (fun J1 hJ1 hV1 => ?_)
  refine r_aload rfl ?_
  refine r_iconst ?_
  refine r_aload_n rfl ?_
  refine r_getA (q := 27) (by decide) rfl rfl (by decide) ?_
  refine r_aload_n rfl ?_
  refine r_getA (q := 28) (by decide) rfl rfl (by decide) ?_
  refine r_virtual (vs := []) (as := [_, _, _]) (by decide) (zl rfl) rfl rfl (zl rfl) (Nat.le_refl _) (Or.inr (Or.inr ⟨zt rfl, hqk1, hqk2⟩)) ?_
  refine s_val0 (by omega) hq (a := e0) (b := e1) (c := e2) (by rw [hJ1 (q + 2) (by omega)]; exact hE) hV1 (fun J2 hJ2 => ?_)
  rw [hJ1 (q + 1) (by omega), hJ1 (q + 2) (by omega)]
  refine r_if_ne (fun c_21 => ?_) (fun c_21 => ?_)
  · refine E_go 1 rfl ?_
    refine r_aload rfl ?_
    refine r_iconst ?_
    refine r_aload_n rfl ?_
    refine r_getA (q := 27) (by decide) rfl rfl (by decide) ?_
    refine r_aload_n rfl ?_
    refine r_getA (q := 28) (by decide) rfl rfl (by decide) ?_
    refine r_virtual (vs := []) (as := [_, _, _]) (by decide) (zl rfl) rfl rfl (zl rfl) (Nat.le_refl _) (Or.inr (Or.inr ⟨zt rfl, hqk1, hqk2⟩)) ?_
    refine s_val1 (by omega) hq (a := e0) (b := e1) (c := e2) (by rw [hJ2 (q + 2) (by omega), hJ1 (q + 2) (by omega)]; exact hE) (w := (vw (I 19 0) (I 20 a) (I 15 a) (bc (I 24 u &&& (bit a ^^^ -1))) (io u) (I 21 a))) (by rw [hJ2 27 (by omega)]; exact hV1) (fun J3 hJ3 => ?_)
    rw [hJ2 (q + 1) (by omega), hJ1 (q + 1) (by omega), hJ2 (q + 2) (by omega), hJ1 (q + 2) (by omega)]
    refine r_bipush ?_
    refine r_bipush ?_
    refine r_static (vs := [_, _, _]) (by decide) (zl rfl) rfl rfl (zl rfl) (Nat.le_refl _) rfl ?_
    refine s_X6_within (by omega) ?_
    refine r_istore (ls' := [_, _, _, _, _, _]) (zt rfl) rfl ?_
    refine r_aload_n rfl ?_
    refine r_getA (q := 22) (by decide) rfl rfl (by decide) ?_
    refine r_iload_n rfl ?_
    refine r_dup2 rfl rfl ?_
    refine r_iaload (by decide) rfl (by decide) (ixE rfl (show a < 5 by omega) (by decide)) rfl ?_
    refine r_aload_n rfl ?_
    refine r_getA (q := 14) (by decide) rfl rfl (by decide) ?_
    refine r_iload_n rfl ?_
    refine r_iaload (by decide) rfl (by decide) (ixE rfl (show a < 5 by omega) (by decide)) rfl ?_
    refine r_aload_n rfl ?_
    refine r_getA (q := 15) (by decide) rfl rfl (by decide) ?_
    refine r_iload_n rfl ?_
    refine r_iaload (by decide) rfl (by decide) (ixE rfl (show a < 5 by omega) (by decide)) rfl ?_
    refine r_iload rfl ?_
    refine r_aload_n rfl ?_
    refine r_getI (by decide) rfl rfl (by decide) rfl ?_
    refine r_static (vs := [_, _, _, _]) (by decide) (zl rfl) rfl rfl (zl rfl) (Nat.le_refl _) rfl ?_
    refine s_X1_joyOfCup (by omega) ?_
    refine r_iadd ?_
    refine r_iastore rfl (by decide) (ixE rfl (show a < 5 by omega) (by decide)) ?_
    refine r_aload_n rfl ?_
    refine r_iconst ?_
    refine r_aload_n rfl ?_
    refine r_getI (by decide) rfl rfl (by decide) rfl ?_
    refine r_aload_n rfl ?_
    refine r_getA (q := 14) (by decide) rfl rfl (by decide) ?_
    refine r_iload_n rfl ?_
    refine r_iaload (by decide) rfl (by decide) (ixE rfl (show a < 5 by omega) (by decide)) rfl ?_
    refine r_aload_n rfl ?_
    refine r_getA (q := 15) (by decide) rfl rfl (by decide) ?_
    refine r_iload_n rfl ?_
    refine r_iaload (by decide) rfl (by decide) (ixE rfl (show a < 5 by omega) (by decide)) rfl ?_
    refine r_static (vs := [_, _]) (by decide) (zl rfl) rfl rfl (zl rfl) (Nat.le_refl _) rfl ?_
    refine s_X1_takesOfHeat (by omega) ?_
    refine r_isub ?_
    refine r_max rfl (zl rfl) ?_
    refine r_putI rfl rfl (by decide) ?_
    refine r_aload_n rfl ?_
    refine r_getA (q := 20) (by decide) rfl rfl (by decide) ?_
    refine r_iload_n rfl ?_
    refine r_iconst ?_
    refine r_aload_n rfl ?_
    refine r_getA (q := 20) (by decide) rfl rfl (by decide) ?_
    refine r_iload_n rfl ?_
    refine r_iaload (by decide) rfl (by decide) (ixE rfl (show a < 5 by omega) (by decide)) rfl ?_
    refine r_bipush ?_
    refine r_isub ?_
    refine r_max rfl (zl rfl) ?_
    refine r_iastore rfl (by decide) (ixE rfl (show a < 5 by omega) (by decide)) ?_
    refine r_aload_n rfl ?_
    refine r_getA (q := 21) (by decide) rfl rfl (by decide) ?_
    refine r_iload_n rfl ?_
    refine r_dup2 rfl rfl ?_
    refine r_iaload (by decide) rfl (by decide) (ixE rfl (show a < 5 by omega) (by decide)) rfl ?_
    refine r_iconst ?_
    refine r_iadd ?_
    refine r_iastore rfl (by decide) (ixE rfl (show a < 5 by omega) (by decide)) ?_
    refine r_aload_n rfl ?_
    refine r_getA (q := 25) (by decide) rfl rfl (by decide) ?_
    refine r_iload_n rfl ?_
    refine r_dup2 rfl rfl ?_
    refine r_iaload (by decide) rfl (by decide) (ixE rfl (show u < 6 by omega) (by decide)) rfl ?_
    refine r_iconst ?_
    refine r_iload_n rfl ?_
    refine r_ishl ?_
    refine r_ior ?_
    refine r_iastore rfl (by decide) (ixE rfl (show u < 6 by omega) (by decide)) ?_
    refine r_ret rfl ?_
    have hX : oF 27 28 I J3 := ((hJ1.wide (by omega) (by omega)).trans (hJ2.wide (by omega) (by omega))).trans (hJ3.wide (by omega) (by omega))
    have g19 := hX 19 (by omega)
    have g20 := hX 20 (by omega)
    have g21 := hX 21 (by omega)
    have g22 := hX 22 (by omega)
    have g24 := hX 24 (by omega)
    have g25 := hX 25 (by omega)
    have g26 := hX 26 (by omega)
    have g14 := hX 14 (by omega)
    have g15 := hX 15 (by omega)
    refine hQ _ (((((((mF.of hX).up (by omega) (by omega) (by omega)).up (by omega) (by omega) (by omega)).up (by omega) (by omega) (by omega)).up (by omega) (by omega) (by omega)).up (by omega) (by omega) (by omega))) ?_ ?_
    · show J3 24 u = I 24 u
      rw [g24]
    · rw [rch, ← hc.1.1, ← hc.1.2.2.1 a hn, ← hc.1.2.2.2.1 a hn, if_neg c_21]
      refine ⟨⟨?_, ?_, ?_, ?_, ?_⟩, ?_, ?_⟩
      · show (if 0 < J3 19 0 - kTake (J3 14 a) (J3 15 a) then J3 19 0 - kTake (J3 14 a) (J3 15 a) else 0) = _
        rw [g19, g14, g15]; rfl
      · show J3 19 8 = _
        rw [g19]; exact hc.1.2.1
      · show ∀ b, b < n → u1 (J3 20) a (if 0 < J3 20 a - 10 then J3 20 a - 10 else 0) b = _
        rw [g20]
        exact u1_all hc.1.2.2.1 rfl
      · show ∀ b, b < n → u1 (J3 21) a (J3 21 a + 1) b = _
        rw [g21]
        exact u1_all hc.1.2.2.2.1 rfl
      · show ∀ b, b < n → u1 (J3 22) a (J3 22 a + kJoy (J3 14 a) (J3 15 a) (if -99 < _ then _ else -99) (J3 19 0)) b = _
        rw [g22, g14, g15, g19, x6w (by decide)]
        exact u1_all hc.1.2.2.2.2 (by rw [hc.1.2.2.2.2 a hn])
      · show up2 J3 25 u (J3 25 u ||| _) 25 u = _
        rw [up2_at, g25, hc.2.1]; rfl
      · show J3 26 u = _
        rw [g26]; exact hc.2.2
  · refine r_aload_n rfl ?_
    refine r_getA (q := 26) (by decide) rfl rfl (by decide) ?_
    refine r_iload_n rfl ?_
    refine r_dup2 rfl rfl ?_
    refine r_iaload (by decide) rfl (by decide) (ixE rfl (show u < 6 by omega) (by decide)) rfl ?_
    refine r_iconst ?_
    refine r_iload_n rfl ?_
    refine r_ishl ?_
    refine r_ior ?_
    refine r_iastore rfl (by decide) (ixE rfl (show u < 6 by omega) (by decide)) ?_
    refine r_ret rfl ?_
    have hX : oF 27 28 I J2 := (hJ1.wide (by omega) (by omega)).trans (hJ2.wide (by omega) (by omega))
    refine hQ _ ((mF.of hX).up (by omega) (by omega) (by omega)) ?_ ?_
    · show J2 24 u = I 24 u
      rw [hX 24 (by omega)]
    · have e : rch (cru (I (q + 1)) (I (q + 2))) (I 14) (I 15) (io u) (I 24 u) a s = (s.1, s.2.1, s.2.2 ||| bit a) := by
        rw [rch, ← hc.1.1, ← hc.1.2.2.1 a hn, ← hc.1.2.2.2.1 a hn]
        exact if_pos c_21
      rw [e]
      have hy := cH_of hX hc.1
      refine ⟨⟨hy.1, hy.2.1, hy.2.2.1, hy.2.2.2.1, hy.2.2.2.2⟩, ?_, ?_⟩
      · show J2 25 u = _
        rw [hX 25 (by omega)]; exact hc.2.1
      · show up2 J2 26 u _ 26 u = _
        rw [up2_at, hX 26 (by omega), hc.2.2]; rfl

theorem thi_0 {th : Nat → Int32} : thi 0 th = th := by
  funext b
  exact if_neg (by omega)
theorem thi_at {a : Nat} {th : Nat → Int32} : thi a th a = th a := if_neg (by omega)
theorem thi_s {a : Nat} {th : Nat → Int32} : thi (a + 1) th = u1 (thi a th) a (mn99 (th a + 2)) := by
  funext b
  by_cases c : b = a
  · subst c
    rw [u1_eq]
    exact if_pos (by omega)
  · rw [u1_ne c]
    by_cases d : b < a
    · rw [thi, thi, if_pos d, if_pos (by omega)]
    · rw [thi, thi, if_neg d, if_neg (by omega)]

set_option maxRecDepth 10000 in
theorem s_passes_1 {xs : xSc} {m : Nat} {I : Nat → Nat → Int32} {L : Nat → Nat → Int64} {Q : Value → xHp → Prop} (hm : 4 ≤ m) {u n q e0 e1 e2 : Nat} {s : Hs} (hu : u < 6) (h5 : n ≤ 5) (hq : TxP q) (hE : okE (I (q + 2)) e0 e1 e2) (hc : cH n I s) (hQ : ∀ J, mF u I J → cH n J (mnt (cru (I (q + 1)) (I (q + 2))) n (I 2) (I 3) (I 5) u s).1 → J 23 u = (mnt (cru (I (q + 1)) (I (q + 2))) n (I 2) (I 3) (I 5) u s).2.1 → J 24 u = (mnt (cru (I (q + 1)) (I (q + 2))) n (I 2) (I 3) (I 5) u s).2.2.1 → J 25 u = (mnt (cru (I (q + 1)) (I (q + 2))) n (I 2) (I 3) (I 5) u s).2.2.2.1 → J 26 u = (mnt (cru (I (q + 1)) (I (q + 2))) n (I 2) (I 3) (I 5) u s).2.2.2.2 → Q .null (Hp J L)) : M xs m xi_X0_passes [.ref 19, .int (io u), .ref 1, .ref q] (Hp I L) Q := by
  obtain ⟨m, rfl⟩ : ∃ k, m = k + 1 := ⟨m - 1, by omega⟩
  have hqq := hq.1.2.2
  have hqk1 := hq.1.1
  have hqk2 := hq.1.2.1
  have eS : shw (I 2) (I 3) (I 20) (io u) n = (shw (I 2) (I 3) s.2.1 (io u) n) := shw_cong hc.2.2.1
  obtain ⟨shk, hsh2, hsh3⟩ : ∃ k, k < 32 ∧ (shw (I 2) (I 3) s.2.1 (io u) n) = io k := shw_32 h5
  simp only [mnt] at hQ
  have key2 : ∀ d a, a + d = n → ∀ J, (mF u I J ∧ J 24 u = (shw (I 2) (I 3) s.2.1 (io u) n) ∧ cM n u J (((tal (cru (I (q + 1)) (I (q + 2))) (I 2) (I 3) (I 5) (io u) (shw (I 2) (I 3) s.2.1 (io u) n) n ((mx0 (s.1 - w3 ((cru (I (q + 1)) (I (q + 2))) 2 (vw s.1 0 0 (bc (shw (I 2) (I 3) s.2.1 (io u) n)) (io u) 0)) 0 40), s.2.1, s.2.2.1, s.2.2.2), 0, 0)).1.1, thi a (tal (cru (I (q + 1)) (I (q + 2))) (I 2) (I 3) (I 5) (io u) (shw (I 2) (I 3) s.2.1 (io u) n) n ((mx0 (s.1 - w3 ((cru (I (q + 1)) (I (q + 2))) 2 (vw s.1 0 0 (bc (shw (I 2) (I 3) s.2.1 (io u) n)) (io u) 0)) 0 40), s.2.1, s.2.2.1, s.2.2.2), 0, 0)).1.2.1, (tal (cru (I (q + 1)) (I (q + 2))) (I 2) (I 3) (I 5) (io u) (shw (I 2) (I 3) s.2.1 (io u) n) n ((mx0 (s.1 - w3 ((cru (I (q + 1)) (I (q + 2))) 2 (vw s.1 0 0 (bc (shw (I 2) (I 3) s.2.1 (io u) n)) (io u) 0)) 0 40), s.2.1, s.2.2.1, s.2.2.2), 0, 0)).1.2.2.1, (tal (cru (I (q + 1)) (I (q + 2))) (I 2) (I 3) (I 5) (io u) (shw (I 2) (I 3) s.2.1 (io u) n) n ((mx0 (s.1 - w3 ((cru (I (q + 1)) (I (q + 2))) 2 (vw s.1 0 0 (bc (shw (I 2) (I 3) s.2.1 (io u) n)) (io u) 0)) 0 40), s.2.1, s.2.2.1, s.2.2.2), 0, 0)).1.2.2.2), (tal (cru (I (q + 1)) (I (q + 2))) (I 2) (I 3) (I 5) (io u) (shw (I 2) (I 3) s.2.1 (io u) n) n ((mx0 (s.1 - w3 ((cru (I (q + 1)) (I (q + 2))) 2 (vw s.1 0 0 (bc (shw (I 2) (I 3) s.2.1 (io u) n)) (io u) 0)) 0 40), s.2.1, s.2.2.1, s.2.2.2), 0, 0)).2.1, (tal (cru (I (q + 1)) (I (q + 2))) (I 2) (I 3) (I 5) (io u) (shw (I 2) (I 3) s.2.1 (io u) n) n ((mx0 (s.1 - w3 ((cru (I (q + 1)) (I (q + 2))) 2 (vw s.1 0 0 (bc (shw (I 2) (I 3) s.2.1 (io u) n)) (io u) 0)) 0 40), s.2.1, s.2.2.1, s.2.2.2), 0, 0)).2.2)) → E xs m xi_X0_passes 82 Q 110 [.ref 19, .int (io u), .ref 1, .ref q, .int (io a)] [] (82, J, L, xF0) := by
    intro d
    induction d using Nat.strongRecOn with
    | _ d ih =>
    intro a hd J hJ
    refine E_go 4 rfl ?_
    refine r_iload rfl ?_
    refine r_aload_n rfl ?_
    refine r_getI (by decide) rfl rfl (by decide) hJ.2.2.1.2.1 ?_
    refine r_icmp_ge (fun c_116 => ?_) (fun c_116 => ?_)
    · have c_116 := (n_le (a := n) (b := a) rfl rfl (by omega) (by omega)).mp c_116
      refine E_go 5 rfl ?_
      refine r_aload_n rfl ?_
      refine r_getA (q := 23) (by decide) rfl rfl (by decide) ?_
      refine r_iload_n rfl ?_
      refine r_aload_n rfl ?_
      refine r_getI (by decide) rfl rfl (by decide) rfl ?_
      refine r_iastore rfl (by decide) (ixE rfl (show u < 6 by omega) (by decide)) ?_
      refine r_ret rfl ?_
      have e : a = n := by omega
      subst e
      refine hQ _ (hJ.1.up (by omega) (by omega) (by omega)) ?_ ?_ ?_ ?_ ?_
      · exact hJ.2.2.1
      · rw [up2_at]; exact hJ.2.2.1.1
      · exact hJ.2.1
      · exact hJ.2.2.2.1
      · exact hJ.2.2.2.2
    · have c_116 := (not_congr (n_le (a := n) (b := a) rfl rfl (by omega) (by omega))).mp c_116
      refine r_aload_n rfl ?_
      refine r_getA (q := 20) (by decide) rfl rfl (by decide) ?_
      refine r_iload rfl ?_
      refine r_bipush ?_
      refine r_aload_n rfl ?_
      refine r_getA (q := 20) (by decide) rfl rfl (by decide) ?_
      refine r_iload rfl ?_
      refine r_iaload (by decide) rfl (by decide) (ixE rfl (show a < 5 by omega) (by decide)) rfl ?_
      refine r_iconst ?_
      refine r_iadd ?_
      refine r_min rfl (zl rfl) ?_
      refine r_iastore rfl (by decide) (ixE rfl (show a < 5 by omega) (by decide)) ?_
      refine r_iincN (y := io (a + 1)) (ls' := [_, _, _, _, _]) rfl (zt rfl) (n_add (a := a) (b := 1) rfl rfl) rfl ?_
      refine r_goto ?_
      refine ih (d - 1) (by omega) (a + 1) (by omega) _ ⟨hJ.1.up (by omega) (by omega) (by omega), hJ.2.1, ⟨hJ.2.2.1.1, hJ.2.2.1.2.1, ?_, hJ.2.2.1.2.2.2.1, hJ.2.2.1.2.2.2.2⟩, hJ.2.2.2.1, hJ.2.2.2.2⟩
      rw [up2_p]
      show ∀ b, b < n → _ = thi (a + 1) _ b
      rw [thi_s]
      have e := hJ.2.2.1.2.2.1 a (by omega)
      refine u1_all hJ.2.2.1.2.2.1 ?_
      rw [e]
      show mn99 (thi a _ a + 2) = _
      rw [thi_at]
  have key : ∀ d a, a + d = n → ∀ J, (mF u I J ∧ J 24 u = (shw (I 2) (I 3) s.2.1 (io u) n) ∧ cM n u J (tal (cru (I (q + 1)) (I (q + 2))) (I 2) (I 3) (I 5) (io u) (shw (I 2) (I 3) s.2.1 (io u) n) a ((mx0 (s.1 - w3 ((cru (I (q + 1)) (I (q + 2))) 2 (vw s.1 0 0 (bc (shw (I 2) (I 3) s.2.1 (io u) n)) (io u) 0)) 0 40), s.2.1, s.2.2.1, s.2.2.2), 0, 0))) → E xs m xi_X0_passes 82 Q 68 [.ref 19, .int (io u), .ref 1, .ref q, .int (io a)] [] (82, J, L, xF0) := by
    intro d
    induction d using Nat.strongRecOn with
    | _ d ih =>
    intro a hd J hJ
    refine E_go 1 rfl ?_
    refine r_iload rfl ?_
    refine r_aload_n rfl ?_
    refine r_getI (by decide) rfl rfl (by decide) hJ.2.2.1.2.1 ?_
    refine r_icmp_ge (fun c_74 => ?_) (fun c_74 => ?_)
    · have c_74 := (n_le (a := n) (b := a) rfl rfl (by omega) (by omega)).mp c_74
      refine E_go 3 rfl ?_
      refine r_iconst ?_
      refine r_istore (ls' := [_, _, _, _, _]) (zt rfl) rfl ?_
      refine r_nil ?_
      have e : a = n := by omega
      subst e
      refine key2 a 0 (by omega) _ ⟨hJ.1, hJ.2.1, ?_⟩
      rw [thi_0]
      exact hJ.2.2
    · have c_74 := (not_congr (n_le (a := n) (b := a) rfl rfl (by omega) (by omega))).mp c_74
      refine r_aload_n rfl ?_
      refine r_getA (q := 5) (by decide) rfl rfl (by decide) ?_
      refine r_iload rfl ?_
      refine r_iaload (by decide) rfl (by decide) (ixE rfl (show a < 5 by omega) (by decide)) (congrFun (hJ.1.1 5 (by omega)) a) ?_
      refine r_iload_n rfl ?_
      refine r_ishr ?_
      refine r_iconst ?_
      refine r_iand ?_
      refine r_iconst ?_
      refine r_icmp_ne (fun c_89 => ?_) (fun c_89 => ?_)
      · refine E_go 2 rfl ?_
        refine r_iincN (y := io (a + 1)) (ls' := [_, _, _, _, _]) rfl (zt rfl) (n_add (a := a) (b := 1) rfl rfl) rfl ?_
        refine r_goto ?_
        refine ih (d - 1) (by omega) (a + 1) (by omega) _ ⟨hJ.1, hJ.2.1, ?_⟩
        rw [tal, if_neg c_89]
        exact hJ.2.2
      · refine r_aload_n rfl ?_
        refine r_iload rfl ?_
        refine r_iload_n rfl ?_
        refine r_aload_n rfl ?_
        refine r_aload_n rfl ?_
        refine r_virtual (vs := []) (as := [_, _, _, _]) (by decide) (zl rfl) rfl rfl (zl rfl) (Nat.le_refl _) (Or.inr (Or.inr ⟨zt rfl, rfl, zt rfl⟩)) ?_
        refine s_reaches_1 (by omega) hu h5 (s := (tal (cru (I (q + 1)) (I (q + 2))) (I 2) (I 3) (I 5) (io u) (shw (I 2) (I 3) s.2.1 (io u) n) a ((mx0 (s.1 - w3 ((cru (I (q + 1)) (I (q + 2))) 2 (vw s.1 0 0 (bc (shw (I 2) (I 3) s.2.1 (io u) n)) (io u) 0)) 0 40), s.2.1, s.2.2.1, s.2.2.2), 0, 0))) (a := a) (by omega) ⟨_, hsh2, by rw [hJ.2.1]; exact hsh3⟩ hq (e0 := e0) (e1 := e1) (e2 := e2) (by rw [hJ.1.1 (q + 2) (by omega)]; exact hE) hJ.2.2 (fun J2 h21 h22 h23 => ?_)
        rw [hJ.2.1, hJ.1.1 (q + 1) (by omega), hJ.1.1 (q + 2) (by omega), hJ.1.1 2 (by omega), hJ.1.1 3 (by omega)] at h23
        refine r_nil ?_
        refine E_go 2 rfl ?_
        refine r_iincN (y := io (a + 1)) (ls' := [_, _, _, _, _]) rfl (zt rfl) (n_add (a := a) (b := 1) rfl rfl) rfl ?_
        refine r_goto ?_
        refine ih (d - 1) (by omega) (a + 1) (by omega) _ ⟨hJ.1.trans h21, by rw [h22]; exact hJ.2.1, ?_⟩
        rw [tal, if_pos c_89]
        exact h23
  refine M_go (ls := [_, _, _, _, _]) (ml := 5) rfl rfl rfl (zl rfl) rfl ?_
  refine r_aload_n rfl ?_
  refine r_getA (q := 24) (by decide) rfl rfl (by decide) ?_
  refine r_iload_n rfl ?_
  refine r_aload_n rfl ?_
  refine r_iload_n rfl ?_
  refine r_aload_n rfl ?_
  refine r_virtual (vs := []) (as := [_, _]) (by decide) (zl rfl) rfl rfl (zl rfl) (Nat.le_refl _) (Or.inr (Or.inr ⟨zt rfl, rfl, zt rfl⟩)) ?_
  refine s_wants_1 (by omega) hc.2.1 h5 ?_
  rw [eS]
  refine r_iastore rfl (by decide) (ixE rfl (show u < 6 by omega) (by decide)) ?_
  refine r_aload_n rfl ?_
  refine r_getA (q := 25) (by decide) rfl rfl (by decide) ?_
  refine r_iload_n rfl ?_
  refine r_iconst ?_
  refine r_iastore rfl (by decide) (ixE rfl (show u < 6 by omega) (by decide)) ?_
  refine r_aload_n rfl ?_
  refine r_getA (q := 26) (by decide) rfl rfl (by decide) ?_
  refine r_iload_n rfl ?_
  refine r_iconst ?_
  refine r_iastore rfl (by decide) (ixE rfl (show u < 6 by omega) (by decide)) ?_
  refine r_aload_n rfl ?_
  refine r_iconst ?_
  refine r_iload_n rfl ?_
  refine r_aload_n rfl ?_
  refine r_virtual (vs := []) (as := [_, _, _]) (by decide) (zl rfl) rfl rfl (zl rfl) (Nat.le_refl _) (Or.inr (Or.inr ⟨zt rfl, rfl, zt rfl⟩)) ?_
  refine s_looksN_1 (by omega) hu (by simpa [up2] using ⟨_, hsh2, hsh3⟩) (fun J1 hJ1 hV1 => ?_)
  refine r_aload_n rfl ?_
  refine r_iconst ?_
  refine r_aload_n rfl ?_
  refine r_getI (by decide) rfl rfl (by decide) rfl ?_
  refine r_aload_n rfl ?_
  refine r_iconst ?_
  refine r_aload_n rfl ?_
  refine r_getA (q := 27) (by decide) rfl rfl (by decide) ?_
  refine r_aload_n rfl ?_
  refine r_getA (q := 28) (by decide) rfl rfl (by decide) ?_
  refine r_virtual (vs := []) (as := [_, _, _]) (by decide) (zl rfl) rfl rfl (zl rfl) (Nat.le_refl _) (Or.inr (Or.inr ⟨zt rfl, hqk1, hqk2⟩)) ?_
  have hV2 : ∀ k, k < 6 → J1 27 k = (vw s.1 0 0 (bc (shw (I 2) (I 3) s.2.1 (io u) n)) (io u) 0) k := by
    intro k hk
    rw [hV1 k hk, ← hc.1]
    simp [up2]
  refine s_val2 (by omega) hq (a := e0) (b := e1) (c := e2) (by rw [hJ1 (q + 2) (by omega), up2_q (by omega), up2_q (by omega), up2_q (by omega)]; exact hE) hV2 (fun J2 hJ2 => ?_)
  rw [hJ1 (q + 1) (by omega), hJ1 (q + 2) (by omega), up2_q (p := 26) (by omega), up2_q (p := 25) (by omega), up2_q (p := 24) (by omega), up2_q (p := 26) (by omega), up2_q (p := 25) (by omega), up2_q (p := 24) (by omega)]
  refine r_iconst ?_
  refine r_bipush ?_
  refine r_static (vs := [_, _, _]) (by decide) (zl rfl) rfl rfl (zl rfl) (Nat.le_refl _) rfl ?_
  refine s_X6_within (by omega) ?_
  refine r_isub ?_
  refine r_max rfl (zl rfl) ?_
  refine r_putI rfl rfl (by decide) ?_
  refine r_iconst ?_
  refine r_istore (ls' := [_, _, _, _, _]) (zt rfl) rfl ?_
  refine r_nil ?_
  have hX : oF 27 28 (up2 (up2 (up2 I 24 u (shw (I 2) (I 3) s.2.1 (io u) n)) 25 u 0) 26 u 0) J2 := (hJ1.wide (by omega) (by omega)).trans (hJ2.wide (by omega) (by omega))
  have hY := cH_of (n := n) (s := s) hX ⟨hc.1, hc.2.1, hc.2.2.1, hc.2.2.2.1, hc.2.2.2.2⟩
  refine key n 0 (by omega) _ ⟨((((mF.refl.up (by omega) (by omega) (by omega)).up (by omega) (by omega) (by omega)).up (by omega) (by omega) (by omega)).trans (mF.of hX)).up (by omega) (by omega) (by omega), ?_, ⟨?_, ?_, ?_, ?_, ?_⟩, ?_, ?_⟩
  · show J2 24 u = _
    rw [hX 24 (by omega)]
    simp [up2]
  · show (if 0 < J1 19 0 - (if 0 < _ then _ else 0) then J1 19 0 - (if 0 < _ then _ else 0) else 0) = _
    rw [x6w (by decide), hJ1 19 (by omega)]
    show mx0 (I 19 0 - _) = _
    rw [hc.1]; rfl
  · exact hY.2.1
  · exact hY.2.2.1
  · exact hY.2.2.2.1
  · exact hY.2.2.2.2
  · show J2 25 u = _
    rw [hX 25 (by omega)]
    simp [up2, tal]
  · show J2 26 u = _
    rw [hX 26 (by omega)]
    simp [up2, tal]

set_option maxRecDepth 10000 in
theorem s_passes_13 {xs : xSc} {m : Nat} {I : Nat → Nat → Int32} {L : Nat → Nat → Int64} {Q : Value → xHp → Prop} (hm : 4 ≤ m) {u n q e0 e1 e2 : Nat} {s : Hs} (hu : u < 6) (h5 : n ≤ 5) (hq : TxP q) (hE : okE (I (q + 2)) e0 e1 e2) (hc : cH n I s) (hQ : ∀ J, mF u I J → cH n J (mnt (cru (I (q + 1)) (I (q + 2))) n (I 14) (I 15) (I 17) u s).1 → J 23 u = (mnt (cru (I (q + 1)) (I (q + 2))) n (I 14) (I 15) (I 17) u s).2.1 → J 24 u = (mnt (cru (I (q + 1)) (I (q + 2))) n (I 14) (I 15) (I 17) u s).2.2.1 → J 25 u = (mnt (cru (I (q + 1)) (I (q + 2))) n (I 14) (I 15) (I 17) u s).2.2.2.1 → J 26 u = (mnt (cru (I (q + 1)) (I (q + 2))) n (I 14) (I 15) (I 17) u s).2.2.2.2 → Q .null (Hp J L)) : M xs m xi_X0_passes [.ref 19, .int (io u), .ref 13, .ref q] (Hp I L) Q := by
  obtain ⟨m, rfl⟩ : ∃ k, m = k + 1 := ⟨m - 1, by omega⟩
  have hqq := hq.1.2.2
  have hqk1 := hq.1.1
  have hqk2 := hq.1.2.1
  have eS : shw (I 14) (I 15) (I 20) (io u) n = (shw (I 14) (I 15) s.2.1 (io u) n) := shw_cong hc.2.2.1
  obtain ⟨shk, hsh2, hsh3⟩ : ∃ k, k < 32 ∧ (shw (I 14) (I 15) s.2.1 (io u) n) = io k := shw_32 h5
  simp only [mnt] at hQ
  have key2 : ∀ d a, a + d = n → ∀ J, (mF u I J ∧ J 24 u = (shw (I 14) (I 15) s.2.1 (io u) n) ∧ cM n u J (((tal (cru (I (q + 1)) (I (q + 2))) (I 14) (I 15) (I 17) (io u) (shw (I 14) (I 15) s.2.1 (io u) n) n ((mx0 (s.1 - w3 ((cru (I (q + 1)) (I (q + 2))) 2 (vw s.1 0 0 (bc (shw (I 14) (I 15) s.2.1 (io u) n)) (io u) 0)) 0 40), s.2.1, s.2.2.1, s.2.2.2), 0, 0)).1.1, thi a (tal (cru (I (q + 1)) (I (q + 2))) (I 14) (I 15) (I 17) (io u) (shw (I 14) (I 15) s.2.1 (io u) n) n ((mx0 (s.1 - w3 ((cru (I (q + 1)) (I (q + 2))) 2 (vw s.1 0 0 (bc (shw (I 14) (I 15) s.2.1 (io u) n)) (io u) 0)) 0 40), s.2.1, s.2.2.1, s.2.2.2), 0, 0)).1.2.1, (tal (cru (I (q + 1)) (I (q + 2))) (I 14) (I 15) (I 17) (io u) (shw (I 14) (I 15) s.2.1 (io u) n) n ((mx0 (s.1 - w3 ((cru (I (q + 1)) (I (q + 2))) 2 (vw s.1 0 0 (bc (shw (I 14) (I 15) s.2.1 (io u) n)) (io u) 0)) 0 40), s.2.1, s.2.2.1, s.2.2.2), 0, 0)).1.2.2.1, (tal (cru (I (q + 1)) (I (q + 2))) (I 14) (I 15) (I 17) (io u) (shw (I 14) (I 15) s.2.1 (io u) n) n ((mx0 (s.1 - w3 ((cru (I (q + 1)) (I (q + 2))) 2 (vw s.1 0 0 (bc (shw (I 14) (I 15) s.2.1 (io u) n)) (io u) 0)) 0 40), s.2.1, s.2.2.1, s.2.2.2), 0, 0)).1.2.2.2), (tal (cru (I (q + 1)) (I (q + 2))) (I 14) (I 15) (I 17) (io u) (shw (I 14) (I 15) s.2.1 (io u) n) n ((mx0 (s.1 - w3 ((cru (I (q + 1)) (I (q + 2))) 2 (vw s.1 0 0 (bc (shw (I 14) (I 15) s.2.1 (io u) n)) (io u) 0)) 0 40), s.2.1, s.2.2.1, s.2.2.2), 0, 0)).2.1, (tal (cru (I (q + 1)) (I (q + 2))) (I 14) (I 15) (I 17) (io u) (shw (I 14) (I 15) s.2.1 (io u) n) n ((mx0 (s.1 - w3 ((cru (I (q + 1)) (I (q + 2))) 2 (vw s.1 0 0 (bc (shw (I 14) (I 15) s.2.1 (io u) n)) (io u) 0)) 0 40), s.2.1, s.2.2.1, s.2.2.2), 0, 0)).2.2)) → E xs m xi_X0_passes 82 Q 110 [.ref 19, .int (io u), .ref 13, .ref q, .int (io a)] [] (82, J, L, xF0) := by
    intro d
    induction d using Nat.strongRecOn with
    | _ d ih =>
    intro a hd J hJ
    refine E_go 4 rfl ?_
    refine r_iload rfl ?_
    refine r_aload_n rfl ?_
    refine r_getI (by decide) rfl rfl (by decide) hJ.2.2.1.2.1 ?_
    refine r_icmp_ge (fun c_116 => ?_) (fun c_116 => ?_)
    · have c_116 := (n_le (a := n) (b := a) rfl rfl (by omega) (by omega)).mp c_116
      refine E_go 5 rfl ?_
      refine r_aload_n rfl ?_
      refine r_getA (q := 23) (by decide) rfl rfl (by decide) ?_
      refine r_iload_n rfl ?_
      refine r_aload_n rfl ?_
      refine r_getI (by decide) rfl rfl (by decide) rfl ?_
      refine r_iastore rfl (by decide) (ixE rfl (show u < 6 by omega) (by decide)) ?_
      refine r_ret rfl ?_
      have e : a = n := by omega
      subst e
      refine hQ _ (hJ.1.up (by omega) (by omega) (by omega)) ?_ ?_ ?_ ?_ ?_
      · exact hJ.2.2.1
      · rw [up2_at]; exact hJ.2.2.1.1
      · exact hJ.2.1
      · exact hJ.2.2.2.1
      · exact hJ.2.2.2.2
    · have c_116 := (not_congr (n_le (a := n) (b := a) rfl rfl (by omega) (by omega))).mp c_116
      refine r_aload_n rfl ?_
      refine r_getA (q := 20) (by decide) rfl rfl (by decide) ?_
      refine r_iload rfl ?_
      refine r_bipush ?_
      refine r_aload_n rfl ?_
      refine r_getA (q := 20) (by decide) rfl rfl (by decide) ?_
      refine r_iload rfl ?_
      refine r_iaload (by decide) rfl (by decide) (ixE rfl (show a < 5 by omega) (by decide)) rfl ?_
      refine r_iconst ?_
      refine r_iadd ?_
      refine r_min rfl (zl rfl) ?_
      refine r_iastore rfl (by decide) (ixE rfl (show a < 5 by omega) (by decide)) ?_
      refine r_iincN (y := io (a + 1)) (ls' := [_, _, _, _, _]) rfl (zt rfl) (n_add (a := a) (b := 1) rfl rfl) rfl ?_
      refine r_goto ?_
      refine ih (d - 1) (by omega) (a + 1) (by omega) _ ⟨hJ.1.up (by omega) (by omega) (by omega), hJ.2.1, ⟨hJ.2.2.1.1, hJ.2.2.1.2.1, ?_, hJ.2.2.1.2.2.2.1, hJ.2.2.1.2.2.2.2⟩, hJ.2.2.2.1, hJ.2.2.2.2⟩
      rw [up2_p]
      show ∀ b, b < n → _ = thi (a + 1) _ b
      rw [thi_s]
      have e := hJ.2.2.1.2.2.1 a (by omega)
      refine u1_all hJ.2.2.1.2.2.1 ?_
      rw [e]
      show mn99 (thi a _ a + 2) = _
      rw [thi_at]
  have key : ∀ d a, a + d = n → ∀ J, (mF u I J ∧ J 24 u = (shw (I 14) (I 15) s.2.1 (io u) n) ∧ cM n u J (tal (cru (I (q + 1)) (I (q + 2))) (I 14) (I 15) (I 17) (io u) (shw (I 14) (I 15) s.2.1 (io u) n) a ((mx0 (s.1 - w3 ((cru (I (q + 1)) (I (q + 2))) 2 (vw s.1 0 0 (bc (shw (I 14) (I 15) s.2.1 (io u) n)) (io u) 0)) 0 40), s.2.1, s.2.2.1, s.2.2.2), 0, 0))) → E xs m xi_X0_passes 82 Q 68 [.ref 19, .int (io u), .ref 13, .ref q, .int (io a)] [] (82, J, L, xF0) := by
    intro d
    induction d using Nat.strongRecOn with
    | _ d ih =>
    intro a hd J hJ
    refine E_go 1 rfl ?_
    refine r_iload rfl ?_
    refine r_aload_n rfl ?_
    refine r_getI (by decide) rfl rfl (by decide) hJ.2.2.1.2.1 ?_
    refine r_icmp_ge (fun c_74 => ?_) (fun c_74 => ?_)
    · have c_74 := (n_le (a := n) (b := a) rfl rfl (by omega) (by omega)).mp c_74
      refine E_go 3 rfl ?_
      refine r_iconst ?_
      refine r_istore (ls' := [_, _, _, _, _]) (zt rfl) rfl ?_
      refine r_nil ?_
      have e : a = n := by omega
      subst e
      refine key2 a 0 (by omega) _ ⟨hJ.1, hJ.2.1, ?_⟩
      rw [thi_0]
      exact hJ.2.2
    · have c_74 := (not_congr (n_le (a := n) (b := a) rfl rfl (by omega) (by omega))).mp c_74
      refine r_aload_n rfl ?_
      refine r_getA (q := 17) (by decide) rfl rfl (by decide) ?_
      refine r_iload rfl ?_
      refine r_iaload (by decide) rfl (by decide) (ixE rfl (show a < 5 by omega) (by decide)) (congrFun (hJ.1.1 17 (by omega)) a) ?_
      refine r_iload_n rfl ?_
      refine r_ishr ?_
      refine r_iconst ?_
      refine r_iand ?_
      refine r_iconst ?_
      refine r_icmp_ne (fun c_89 => ?_) (fun c_89 => ?_)
      · refine E_go 2 rfl ?_
        refine r_iincN (y := io (a + 1)) (ls' := [_, _, _, _, _]) rfl (zt rfl) (n_add (a := a) (b := 1) rfl rfl) rfl ?_
        refine r_goto ?_
        refine ih (d - 1) (by omega) (a + 1) (by omega) _ ⟨hJ.1, hJ.2.1, ?_⟩
        rw [tal, if_neg c_89]
        exact hJ.2.2
      · refine r_aload_n rfl ?_
        refine r_iload rfl ?_
        refine r_iload_n rfl ?_
        refine r_aload_n rfl ?_
        refine r_aload_n rfl ?_
        refine r_virtual (vs := []) (as := [_, _, _, _]) (by decide) (zl rfl) rfl rfl (zl rfl) (Nat.le_refl _) (Or.inr (Or.inr ⟨zt rfl, rfl, zt rfl⟩)) ?_
        refine s_reaches_13 (by omega) hu h5 (s := (tal (cru (I (q + 1)) (I (q + 2))) (I 14) (I 15) (I 17) (io u) (shw (I 14) (I 15) s.2.1 (io u) n) a ((mx0 (s.1 - w3 ((cru (I (q + 1)) (I (q + 2))) 2 (vw s.1 0 0 (bc (shw (I 14) (I 15) s.2.1 (io u) n)) (io u) 0)) 0 40), s.2.1, s.2.2.1, s.2.2.2), 0, 0))) (a := a) (by omega) ⟨_, hsh2, by rw [hJ.2.1]; exact hsh3⟩ hq (e0 := e0) (e1 := e1) (e2 := e2) (by rw [hJ.1.1 (q + 2) (by omega)]; exact hE) hJ.2.2 (fun J2 h21 h22 h23 => ?_)
        rw [hJ.2.1, hJ.1.1 (q + 1) (by omega), hJ.1.1 (q + 2) (by omega), hJ.1.1 14 (by omega), hJ.1.1 15 (by omega)] at h23
        refine r_nil ?_
        refine E_go 2 rfl ?_
        refine r_iincN (y := io (a + 1)) (ls' := [_, _, _, _, _]) rfl (zt rfl) (n_add (a := a) (b := 1) rfl rfl) rfl ?_
        refine r_goto ?_
        refine ih (d - 1) (by omega) (a + 1) (by omega) _ ⟨hJ.1.trans h21, by rw [h22]; exact hJ.2.1, ?_⟩
        rw [tal, if_pos c_89]
        exact h23
  refine M_go (ls := [_, _, _, _, _]) (ml := 5) rfl rfl rfl (zl rfl) rfl ?_
  refine r_aload_n rfl ?_
  refine r_getA (q := 24) (by decide) rfl rfl (by decide) ?_
  refine r_iload_n rfl ?_
  refine r_aload_n rfl ?_
  refine r_iload_n rfl ?_
  refine r_aload_n rfl ?_
  refine r_virtual (vs := []) (as := [_, _]) (by decide) (zl rfl) rfl rfl (zl rfl) (Nat.le_refl _) (Or.inr (Or.inr ⟨zt rfl, rfl, zt rfl⟩)) ?_
  refine s_wants_13 (by omega) hc.2.1 h5 ?_
  rw [eS]
  refine r_iastore rfl (by decide) (ixE rfl (show u < 6 by omega) (by decide)) ?_
  refine r_aload_n rfl ?_
  refine r_getA (q := 25) (by decide) rfl rfl (by decide) ?_
  refine r_iload_n rfl ?_
  refine r_iconst ?_
  refine r_iastore rfl (by decide) (ixE rfl (show u < 6 by omega) (by decide)) ?_
  refine r_aload_n rfl ?_
  refine r_getA (q := 26) (by decide) rfl rfl (by decide) ?_
  refine r_iload_n rfl ?_
  refine r_iconst ?_
  refine r_iastore rfl (by decide) (ixE rfl (show u < 6 by omega) (by decide)) ?_
  refine r_aload_n rfl ?_
  refine r_iconst ?_
  refine r_iload_n rfl ?_
  refine r_aload_n rfl ?_
  refine r_virtual (vs := []) (as := [_, _, _]) (by decide) (zl rfl) rfl rfl (zl rfl) (Nat.le_refl _) (Or.inr (Or.inr ⟨zt rfl, rfl, zt rfl⟩)) ?_
  refine s_looksN_13 (by omega) hu (by simpa [up2] using ⟨_, hsh2, hsh3⟩) (fun J1 hJ1 hV1 => ?_)
  refine r_aload_n rfl ?_
  refine r_iconst ?_
  refine r_aload_n rfl ?_
  refine r_getI (by decide) rfl rfl (by decide) rfl ?_
  refine r_aload_n rfl ?_
  refine r_iconst ?_
  refine r_aload_n rfl ?_
  refine r_getA (q := 27) (by decide) rfl rfl (by decide) ?_
  refine r_aload_n rfl ?_
  refine r_getA (q := 28) (by decide) rfl rfl (by decide) ?_
  refine r_virtual (vs := []) (as := [_, _, _]) (by decide) (zl rfl) rfl rfl (zl rfl) (Nat.le_refl _) (Or.inr (Or.inr ⟨zt rfl, hqk1, hqk2⟩)) ?_
  have hV2 : ∀ k, k < 6 → J1 27 k = (vw s.1 0 0 (bc (shw (I 14) (I 15) s.2.1 (io u) n)) (io u) 0) k := by
    intro k hk
    rw [hV1 k hk, ← hc.1]
    simp [up2]
  refine s_val2 (by omega) hq (a := e0) (b := e1) (c := e2) (by rw [hJ1 (q + 2) (by omega), up2_q (by omega), up2_q (by omega), up2_q (by omega)]; exact hE) hV2 (fun J2 hJ2 => ?_)
  rw [hJ1 (q + 1) (by omega), hJ1 (q + 2) (by omega), up2_q (p := 26) (by omega), up2_q (p := 25) (by omega), up2_q (p := 24) (by omega), up2_q (p := 26) (by omega), up2_q (p := 25) (by omega), up2_q (p := 24) (by omega)]
  refine r_iconst ?_
  refine r_bipush ?_
  refine r_static (vs := [_, _, _]) (by decide) (zl rfl) rfl rfl (zl rfl) (Nat.le_refl _) rfl ?_
  refine s_X6_within (by omega) ?_
  refine r_isub ?_
  refine r_max rfl (zl rfl) ?_
  refine r_putI rfl rfl (by decide) ?_
  refine r_iconst ?_
  refine r_istore (ls' := [_, _, _, _, _]) (zt rfl) rfl ?_
  refine r_nil ?_
  have hX : oF 27 28 (up2 (up2 (up2 I 24 u (shw (I 14) (I 15) s.2.1 (io u) n)) 25 u 0) 26 u 0) J2 := (hJ1.wide (by omega) (by omega)).trans (hJ2.wide (by omega) (by omega))
  have hY := cH_of (n := n) (s := s) hX ⟨hc.1, hc.2.1, hc.2.2.1, hc.2.2.2.1, hc.2.2.2.2⟩
  refine key n 0 (by omega) _ ⟨((((mF.refl.up (by omega) (by omega) (by omega)).up (by omega) (by omega) (by omega)).up (by omega) (by omega) (by omega)).trans (mF.of hX)).up (by omega) (by omega) (by omega), ?_, ⟨?_, ?_, ?_, ?_, ?_⟩, ?_, ?_⟩
  · show J2 24 u = _
    rw [hX 24 (by omega)]
    simp [up2]
  · show (if 0 < J1 19 0 - (if 0 < _ then _ else 0) then J1 19 0 - (if 0 < _ then _ else 0) else 0) = _
    rw [x6w (by decide), hJ1 19 (by omega)]
    show mx0 (I 19 0 - _) = _
    rw [hc.1]; rfl
  · exact hY.2.1
  · exact hY.2.2.1
  · exact hY.2.2.2.1
  · exact hY.2.2.2.2
  · show J2 25 u = _
    rw [hX 25 (by omega)]
    simp [up2, tal]
  · show J2 26 u = _
    rw [hX 26 (by omega)]
    simp [up2, tal]

/-- a table of the class -/
def cP (p n : Nat) (I : Nat → Nat → Int32) : Pot := (I p 0, n, I (p + 1), I (p + 2), I (p + 3), I (p + 4))
/-- minutes of an hour, told -/
def hR (J : Nat → Nat → Int32) (r : Int32 × Int32 × Int32 × Int32) (a b c d k : Nat) : Prop := J a k = r.1 ∧ J b k = r.2.1 ∧ J c k = r.2.2.1 ∧ J d k = r.2.2.2
/-- the glass holds a whole hour -/
def hD (n : Nat) (J : Nat → Nat → Int32) (ru : Ru) (X : Pot) : Prop := cH n J (hrs ru X 6) ∧ ∀ k, k < 6 → hR J (hri ru X k) 23 24 25 26 k
def tq (t : Nat) : Nat := 35 + 3 * t
def cT (t : Nat) (I : Nat → Nat → Int32) : Ru := cru (I (tq t + 1)) (I (tq t + 2))

set_option maxRecDepth 10000 in
theorem s_think_1 {xs : xSc} {m : Nat} {I : Nat → Nat → Int32} {L : Nat → Nat → Int64} {Q : Value → xHp → Prop} (hm : 5 ≤ m) {n t e0 e1 e2 : Nat} (h5 : n ≤ 5) (hn : I 1 3 = io n) (ht : t < 6) (hr : I 1 2 = io t) (hE : okE (I (tq t + 2)) e0 e1 e2) (hQ : ∀ J, oF 19 28 I J → hD n J (cT t I) (cP 1 n I) → Q .null (Hp J L)) : M xs m xi_X6_think [.ref 0, .ref 1] (Hp I L) Q := by
  obtain ⟨m, rfl⟩ : ∃ k, m = k + 1 := ⟨m - 1, by omega⟩
  have hq : TxP (tq t) := txP t ht
  have hqq : 35 ≤ tq t := Nat.le_add_right _ _
  have key : ∀ d a, a + d = 6 → ∀ J, (oF 19 28 I J ∧ cH n J (hrs (cT t I) (cP 1 n I) a) ∧ ∀ k, k < a → hR J (hri (cT t I) (cP 1 n I) k) 23 24 25 26 k) → E xs m xi_X6_think 82 Q 10 [.ref 0, .ref 1, .int (io a)] [] (82, J, L, xF0) := by
    intro d
    induction d using Nat.strongRecOn with
    | _ d ih =>
    intro a hd J hJ
    refine E_go 1 rfl ?_
    refine r_iload_n rfl ?_
    refine r_bipush ?_
    refine r_icmp_ge (fun c_13 => ?_) (fun c_13 => ?_)
    · have c_13 := (n_le (a := 6) (b := a) rfl rfl (by omega) (by omega)).mp c_13
      refine E_go 2 rfl ?_
      refine r_ret rfl ?_
      have e : a = 6 := by omega
      subst e
      exact hQ _ hJ.1 hJ.2
    · have c_13 := (not_congr (n_le (a := 6) (b := a) rfl rfl (by omega) (by omega))).mp c_13
      refine r_aload_n rfl ?_
      refine r_getA (q := 19) (by decide) rfl rfl (by decide) ?_
      refine r_iload_n rfl ?_
      refine r_aload_n rfl ?_
      refine r_aload_n rfl ?_
      refine r_getA (q := 33) (by decide) rfl rfl (by decide) ?_
      refine r_aload_n rfl ?_
      refine r_getI (by decide) rfl rfl (by decide) ((congrFun (hJ.1 1 (by omega)) 2).trans hr) ?_
      refine r_aaload (by decide) (by decide) (ixE rfl (show t < 6 by omega) (by decide)) (tx33 t ht) ?_
      refine r_virtual (vs := []) (as := [_, _, _]) (by decide) (zl rfl) rfl rfl (zl rfl) (Nat.le_refl _) (Or.inr (Or.inr ⟨zt rfl, rfl, zt rfl⟩)) ?_
      refine s_passes_1 (by omega) (u := a) (n := n) (q := tq t) (e0 := e0) (e1 := e1) (e2 := e2) (by omega) h5 hq (by rw [hJ.1 (tq t + 2) (by omega)]; exact hE) hJ.2.1 (fun J2 k1 k2 k3 k4 k5 k6 => ?_)
      rw [hJ.1 (tq t + 1) (by omega), hJ.1 (tq t + 2) (by omega), hJ.1 2 (by omega), hJ.1 3 (by omega), hJ.1 5 (by omega)] at k2 k3 k4 k5 k6
      refine r_iincN (y := io (a + 1)) (ls' := [_, _, _]) rfl (zt rfl) (n_add (a := a) (b := 1) rfl rfl) rfl ?_
      refine r_goto ?_
      refine ih (d - 1) (by omega) (a + 1) (by omega) _ ⟨hJ.1.trans k1.1, k2, all_succ (fun b hb => ?_) ⟨k3, k4, k5, k6⟩⟩
      have e := hJ.2.2 b hb
      exact ⟨by rw [k1.2 23 b (by omega) (by omega)]; exact e.1, by rw [k1.2 24 b (by omega) (by omega)]; exact e.2.1, by rw [k1.2 25 b (by omega) (by omega)]; exact e.2.2.1, by rw [k1.2 26 b (by omega) (by omega)]; exact e.2.2.2⟩
  refine M_go (ls := [_, _, _]) (ml := 3) rfl rfl rfl (zl rfl) rfl ?_
  refine r_aload_n rfl ?_
  refine r_getA (q := 19) (by decide) rfl rfl (by decide) ?_
  refine r_aload_n rfl ?_
  refine r_virtual (vs := []) (as := [_]) (by decide) (zl rfl) rfl rfl (zl rfl) (Nat.le_refl _) (Or.inr (Or.inr ⟨zt rfl, rfl, zt rfl⟩)) ?_
  refine s_turns_1 (by omega) (fun J1 t1 t2 t3 t4 => ?_)
  refine r_iconst ?_
  refine r_istore_n (ls' := [_, _, _]) (zt rfl) rfl ?_
  refine r_nil ?_
  refine key 6 0 rfl _ ⟨t1, ⟨t2, t3.trans hn, fun b hb => ?_, fun b hb => (t4 b (by omega)).2.1, fun b hb => (t4 b (by omega)).2.2⟩, fun b hb => absurd hb (by omega)⟩
  rw [(t4 b (by omega)).1]
  exact (cl_at (n := n) hb).symm

set_option maxRecDepth 10000 in
theorem s_think_13 {xs : xSc} {m : Nat} {I : Nat → Nat → Int32} {L : Nat → Nat → Int64} {Q : Value → xHp → Prop} (hm : 5 ≤ m) {n t e0 e1 e2 : Nat} (h5 : n ≤ 5) (hn : I 13 3 = io n) (ht : t < 6) (hr : I 13 2 = io t) (hE : okE (I (tq t + 2)) e0 e1 e2) (hQ : ∀ J, oF 19 28 I J → hD n J (cT t I) (cP 13 n I) → Q .null (Hp J L)) : M xs m xi_X6_think [.ref 0, .ref 13] (Hp I L) Q := by
  obtain ⟨m, rfl⟩ : ∃ k, m = k + 1 := ⟨m - 1, by omega⟩
  have hq : TxP (tq t) := txP t ht
  have hqq : 35 ≤ tq t := Nat.le_add_right _ _
  have key : ∀ d a, a + d = 6 → ∀ J, (oF 19 28 I J ∧ cH n J (hrs (cT t I) (cP 13 n I) a) ∧ ∀ k, k < a → hR J (hri (cT t I) (cP 13 n I) k) 23 24 25 26 k) → E xs m xi_X6_think 82 Q 10 [.ref 0, .ref 13, .int (io a)] [] (82, J, L, xF0) := by
    intro d
    induction d using Nat.strongRecOn with
    | _ d ih =>
    intro a hd J hJ
    refine E_go 1 rfl ?_
    refine r_iload_n rfl ?_
    refine r_bipush ?_
    refine r_icmp_ge (fun c_13 => ?_) (fun c_13 => ?_)
    · have c_13 := (n_le (a := 6) (b := a) rfl rfl (by omega) (by omega)).mp c_13
      refine E_go 2 rfl ?_
      refine r_ret rfl ?_
      have e : a = 6 := by omega
      subst e
      exact hQ _ hJ.1 hJ.2
    · have c_13 := (not_congr (n_le (a := 6) (b := a) rfl rfl (by omega) (by omega))).mp c_13
      refine r_aload_n rfl ?_
      refine r_getA (q := 19) (by decide) rfl rfl (by decide) ?_
      refine r_iload_n rfl ?_
      refine r_aload_n rfl ?_
      refine r_aload_n rfl ?_
      refine r_getA (q := 33) (by decide) rfl rfl (by decide) ?_
      refine r_aload_n rfl ?_
      refine r_getI (by decide) rfl rfl (by decide) ((congrFun (hJ.1 13 (by omega)) 2).trans hr) ?_
      refine r_aaload (by decide) (by decide) (ixE rfl (show t < 6 by omega) (by decide)) (tx33 t ht) ?_
      refine r_virtual (vs := []) (as := [_, _, _]) (by decide) (zl rfl) rfl rfl (zl rfl) (Nat.le_refl _) (Or.inr (Or.inr ⟨zt rfl, rfl, zt rfl⟩)) ?_
      refine s_passes_13 (by omega) (u := a) (n := n) (q := tq t) (e0 := e0) (e1 := e1) (e2 := e2) (by omega) h5 hq (by rw [hJ.1 (tq t + 2) (by omega)]; exact hE) hJ.2.1 (fun J2 k1 k2 k3 k4 k5 k6 => ?_)
      rw [hJ.1 (tq t + 1) (by omega), hJ.1 (tq t + 2) (by omega), hJ.1 14 (by omega), hJ.1 15 (by omega), hJ.1 17 (by omega)] at k2 k3 k4 k5 k6
      refine r_iincN (y := io (a + 1)) (ls' := [_, _, _]) rfl (zt rfl) (n_add (a := a) (b := 1) rfl rfl) rfl ?_
      refine r_goto ?_
      refine ih (d - 1) (by omega) (a + 1) (by omega) _ ⟨hJ.1.trans k1.1, k2, all_succ (fun b hb => ?_) ⟨k3, k4, k5, k6⟩⟩
      have e := hJ.2.2 b hb
      exact ⟨by rw [k1.2 23 b (by omega) (by omega)]; exact e.1, by rw [k1.2 24 b (by omega) (by omega)]; exact e.2.1, by rw [k1.2 25 b (by omega) (by omega)]; exact e.2.2.1, by rw [k1.2 26 b (by omega) (by omega)]; exact e.2.2.2⟩
  refine M_go (ls := [_, _, _]) (ml := 3) rfl rfl rfl (zl rfl) rfl ?_
  refine r_aload_n rfl ?_
  refine r_getA (q := 19) (by decide) rfl rfl (by decide) ?_
  refine r_aload_n rfl ?_
  refine r_virtual (vs := []) (as := [_]) (by decide) (zl rfl) rfl rfl (zl rfl) (Nat.le_refl _) (Or.inr (Or.inr ⟨zt rfl, rfl, zt rfl⟩)) ?_
  refine s_turns_13 (by omega) (fun J1 t1 t2 t3 t4 => ?_)
  refine r_iconst ?_
  refine r_istore_n (ls' := [_, _, _]) (zt rfl) rfl ?_
  refine r_nil ?_
  refine key 6 0 rfl _ ⟨t1, ⟨t2, t3.trans hn, fun b hb => ?_, fun b hb => (t4 b (by omega)).2.1, fun b hb => (t4 b (by omega)).2.2⟩, fun b hb => absurd hb (by omega)⟩
  rw [(t4 b (by omega)).1]
  exact (cl_at (n := n) hb).symm
