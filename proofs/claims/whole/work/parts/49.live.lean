/-! an hour of the model, continued -/

theorem mTx_f {t : Nat} {I J : Nat → Nat → Int32} {c : List Int32 × List Int32 × List Int32} (h2 : J 62 = I 62) (h3 : J 63 = I 63) (h : mTx t I c) : mTx t J c := by
  have e : mb t J = mb t I := by
    unfold mb
    rw [h2]
  unfold mTx
  rw [e, h3]
  exact h

set_option maxRecDepth 10000 in
theorem s_joyOf {xs : xSc} {m : Nat} {I : Nat → Nat → Int32} {L : Nat → Nat → Int64} {Q : Value → xHp → Prop} (hm : 61 ≤ m) {u t : Nat} {c : List Int32 × List Int32 × List Int32} (hu : u < 6) (ht : t < 6) (hr : I 61 4 = io t) (hc : mTx t I c) (hs : ∃ k, k < 32 ∧ I 72 u = io k) {a : Nat} (ha : a < 5) (hQ : ∀ J L2, aF I J → Q (.int (kJoy (I 65 a) (mNu I a) (w3 (ruL c 1 (vw (I 61 28) (I 68 a) (mNu I a) (bc (I 72 u &&& (bit a ^^^ -1))) (io u) (I 69 a))) (-99) 99) (I 61 28))) (Hp J L2)) : M xs m xi_X7_joyOf [.ref 61, .int (io a), .int (io u)] (Hp I L) Q := by
  obtain ⟨m, rfl⟩ : ∃ k, m = k + 1 := ⟨m - 1, by omega⟩
  refine M_go (ls := [_, _, _, _, _, _]) (ml := 6) rfl rfl rfl (zl rfl) rfl ?_
  refine r_aload_n rfl ?_
  refine r_getA (q := 65) (by decide) rfl rfl (by decide) ?_
  refine r_iload_n rfl ?_
  refine r_iaload (by decide) rfl (by decide) (ixE rfl (show a < 5 by omega) (by decide)) rfl ?_
  refine r_istore_n (ls' := [_, _, _, _, _, _]) (zt rfl) rfl ?_
  refine r_iload_n rfl ?_
  refine r_iconst ?_
  refine r_icmp_ne (fun c_9 => ?_) (fun c_9 => ?_)
  · refine E_go 1 rfl ?_
    refine r_aload_n rfl ?_
    refine r_iconst ?_
    refine r_iload_n rfl ?_
    refine r_iload_n rfl ?_
    refine r_virtual (vs := []) (as := [_, _, _]) (by decide) (zl rfl) rfl rfl (zl rfl) (Nat.le_refl _) (Or.inr (Or.inr ⟨zt rfl, rfl, zt rfl⟩)) ?_
    refine s_asks1 (a := a) (by omega) hu ht hr hc hs ha (fun J L2 hX => ?_)
    have g65 := hX.1 65 (by omega)
    have g66 := hX.1 66 (by omega)
    have g28 := hX.2 28 (by omega)
    generalize hv : w3 (ruL c 1 (vw (I 61 28) (I 68 a) (mNu I a) (bc (I 72 u &&& (bit a ^^^ -1))) (io u) (I 69 a))) (-99) 99 = v at hQ ⊢
    refine r_istore (ls' := [_, _, _, _, _, _]) (zt rfl) rfl ?_
    refine r_aload_n rfl ?_
    refine r_getI (by decide) rfl rfl (by decide) rfl ?_
    refine r_bipush ?_
    refine r_icmp_le (fun c_29 => ?_) (fun c_29 => ?_)
    · refine E_go 2 rfl ?_
      refine r_iconst ?_
      refine r_nil ?_
      refine E_go 3 rfl ?_
      refine r_istore (ls' := [_, _, _, _, _, _]) (zt rfl) rfl ?_
      refine r_iload_n rfl ?_
      refine r_iconst ?_
      refine r_icmp_ne (fun c_44 => ?_) (fun c_44 => ?_)
      · refine E_go 4 rfl ?_
        refine r_iload_n rfl ?_
        refine r_iconst ?_
        refine r_icmp_ne (fun c_54 => ?_) (fun c_54 => ?_)
        · refine E_go 5 rfl ?_
          refine r_iload_n rfl ?_
          refine r_iconst ?_
          refine r_icmp_ne (fun c_66 => ?_) (fun c_66 => ?_)
          · refine E_go 6 rfl ?_
            refine r_iload_n rfl ?_
            refine r_iconst ?_
            refine r_icmp_ne (fun c_85 => ?_) (fun c_85 => ?_)
            · refine E_go 7 rfl ?_
              refine r_iload rfl ?_
              refine r_nil ?_
              refine E_go 8 rfl ?_
              refine r_iret rfl trivial ?_
              refine qi (hQ _ _ hX) ?_
              unfold kJoy mNu
              rw [← g65, ← g66, ← g28]
              simp_all [ltn, -Int32.not_le]
            · refine r_iload rfl ?_
              refine r_aload_n rfl ?_
              refine r_getA (q := 66) (by decide) rfl rfl (by decide) ?_
              refine r_iconst ?_
              refine r_iload_n rfl ?_
              refine r_imul ?_
              refine r_iaload (by decide) rfl (by decide) (ixE (n_mul (a := 3) (b := a) rfl rfl) (show (3 * a) < 15 by omega) (by decide)) rfl ?_
              refine r_iadd ?_
              refine r_iconst ?_
              refine r_idiv (by decide) ?_
              refine r_goto ?_
              refine E_go 8 rfl ?_
              refine r_iret rfl trivial ?_
              refine qi (hQ _ _ hX) ?_
              unfold kJoy mNu
              rw [← g65, ← g66, ← g28]
              simp_all [ltn, -Int32.not_le]
          · refine r_iload rfl ?_
            refine r_aload_n rfl ?_
            refine r_getA (q := 66) (by decide) rfl rfl (by decide) ?_
            refine r_iconst ?_
            refine r_iload_n rfl ?_
            refine r_imul ?_
            refine r_iaload (by decide) rfl (by decide) (ixE (n_mul (a := 3) (b := a) rfl rfl) (show (3 * a) < 15 by omega) (by decide)) rfl ?_
            refine r_iadd ?_
            refine r_goto ?_
            refine E_go 8 rfl ?_
            refine r_iret rfl trivial ?_
            refine qi (hQ _ _ hX) ?_
            unfold kJoy mNu
            rw [← g65, ← g66, ← g28]
            simp_all [ltn, -Int32.not_le]
        · refine r_iload rfl ?_
          refine r_iconst ?_
          refine r_iadd ?_
          refine r_goto ?_
          refine E_go 8 rfl ?_
          refine r_iret rfl trivial ?_
          refine qi (hQ _ _ hX) ?_
          unfold kJoy mNu
          rw [← g65, ← g66, ← g28]
          simp_all [ltn, -Int32.not_le]
      · refine r_iload rfl ?_
        refine r_goto ?_
        refine E_go 8 rfl ?_
        refine r_iret rfl trivial ?_
        refine qi (hQ _ _ hX) ?_
        unfold kJoy mNu
        rw [← g65, ← g66, ← g28]
        simp_all [ltn, -Int32.not_le]
    · refine r_iconst ?_
      refine r_iload rfl ?_
      refine r_imul ?_
      refine r_goto ?_
      refine E_go 3 rfl ?_
      refine r_istore (ls' := [_, _, _, _, _, _]) (zt rfl) rfl ?_
      refine r_iload_n rfl ?_
      refine r_iconst ?_
      refine r_icmp_ne (fun c_44 => ?_) (fun c_44 => ?_)
      · refine E_go 4 rfl ?_
        refine r_iload_n rfl ?_
        refine r_iconst ?_
        refine r_icmp_ne (fun c_54 => ?_) (fun c_54 => ?_)
        · refine E_go 5 rfl ?_
          refine r_iload_n rfl ?_
          refine r_iconst ?_
          refine r_icmp_ne (fun c_66 => ?_) (fun c_66 => ?_)
          · refine E_go 6 rfl ?_
            refine r_iload_n rfl ?_
            refine r_iconst ?_
            refine r_icmp_ne (fun c_85 => ?_) (fun c_85 => ?_)
            · refine E_go 7 rfl ?_
              refine r_iload rfl ?_
              refine r_nil ?_
              refine E_go 8 rfl ?_
              refine r_iret rfl trivial ?_
              refine qi (hQ _ _ hX) ?_
              unfold kJoy mNu
              rw [← g65, ← g66, ← g28]
              simp_all [ltn, -Int32.not_le]
            · refine r_iload rfl ?_
              refine r_aload_n rfl ?_
              refine r_getA (q := 66) (by decide) rfl rfl (by decide) ?_
              refine r_iconst ?_
              refine r_iload_n rfl ?_
              refine r_imul ?_
              refine r_iaload (by decide) rfl (by decide) (ixE (n_mul (a := 3) (b := a) rfl rfl) (show (3 * a) < 15 by omega) (by decide)) rfl ?_
              refine r_iadd ?_
              refine r_iconst ?_
              refine r_idiv (by decide) ?_
              refine r_goto ?_
              refine E_go 8 rfl ?_
              refine r_iret rfl trivial ?_
              refine qi (hQ _ _ hX) ?_
              unfold kJoy mNu
              rw [← g65, ← g66, ← g28]
              simp_all [ltn, -Int32.not_le]
          · refine r_iload rfl ?_
            refine r_aload_n rfl ?_
            refine r_getA (q := 66) (by decide) rfl rfl (by decide) ?_
            refine r_iconst ?_
            refine r_iload_n rfl ?_
            refine r_imul ?_
            refine r_iaload (by decide) rfl (by decide) (ixE (n_mul (a := 3) (b := a) rfl rfl) (show (3 * a) < 15 by omega) (by decide)) rfl ?_
            refine r_iadd ?_
            refine r_goto ?_
            refine E_go 8 rfl ?_
            refine r_iret rfl trivial ?_
            refine qi (hQ _ _ hX) ?_
            unfold kJoy mNu
            rw [← g65, ← g66, ← g28]
            simp_all [ltn, -Int32.not_le]
        · refine r_iload rfl ?_
          refine r_iconst ?_
          refine r_iadd ?_
          refine r_goto ?_
          refine E_go 8 rfl ?_
          refine r_iret rfl trivial ?_
          refine qi (hQ _ _ hX) ?_
          unfold kJoy mNu
          rw [← g65, ← g66, ← g28]
          simp_all [ltn, -Int32.not_le]
      · refine r_iload rfl ?_
        refine r_goto ?_
        refine E_go 8 rfl ?_
        refine r_iret rfl trivial ?_
        refine qi (hQ _ _ hX) ?_
        unfold kJoy mNu
        rw [← g65, ← g66, ← g28]
        simp_all [ltn, -Int32.not_le]
  · refine r_iconst ?_
    refine r_iret rfl trivial ?_
    refine qi (hQ _ _ aF.refl) ?_
    unfold kJoy
    simp_all

set_option maxRecDepth 10000 in
theorem s_mreaches {xs : xSc} {m : Nat} {I : Nat → Nat → Int32} {L : Nat → Nat → Int64} {Q : Value → xHp → Prop} (hm : 62 ≤ m) {u t : Nat} {c : List Int32 × List Int32 × List Int32} (hu : u < 6) (ht : t < 6) (hr : I 61 4 = io t) (hc : mTx t I c) (hs : ∃ k, k < 32 ∧ I 72 u = io k) {n a : Nat} {s : Ms} (h5 : n ≤ 5) (hn : a < n) (hN : okN n (mNu I)) (hok : okS n s.1) (hc2 : mM n u I s) (hQ : ∀ J L2, gM u I J ∧ J 72 u = I 72 u → mM n u J (rch (ruL c) (I 65) (mNu I) (io u) (I 72 u) a s) → Q .null (Hp J L2)) : M xs m xi_X7_reaches [.ref 61, .int (io a), .int (io u)] (Hp I L) Q := by
  obtain ⟨m, rfl⟩ : ∃ k, m = k + 1 := ⟨m - 1, by omega⟩
  have ha : a < 5 := by omega
  refine M_go (ls := [_, _, _]) (ml := 3) rfl rfl rfl (zl rfl) rfl ?_
  refine r_aload_n rfl ?_
  refine r_iconst ?_
  refine r_iload_n rfl ?_
  refine r_iload_n rfl ?_
  refine r_virtual (vs := []) (as := [_, _, _]) (by decide) (zl rfl) rfl rfl (zl rfl) (Nat.le_refl _) (Or.inr (Or.inr ⟨zt rfl, rfl, zt rfl⟩)) ?_
  refine s_asks0 (a := a) (by omega) hu ht hr hc hs ha (fun J1 L1 h1 => ?_)
  have f65 := h1.1 65 (by omega)
  have f66 := h1.1 66 (by omega)
  have f72 := h1.1 72 (by omega)
  have f28 := h1.2 28 (by omega)
  refine r_if_ne (fun c_7 => ?_) (fun c_7 => ?_)
  · refine E_go 1 rfl ?_
    refine r_aload_n rfl ?_
    refine r_getA (q := 73) (by decide) rfl rfl (by decide) ?_
    refine r_iload_n rfl ?_
    refine r_dup2 rfl rfl ?_
    refine r_iaload (by decide) rfl (by decide) (ixE rfl (show u < 6 by omega) (by decide)) rfl ?_
    refine r_iconst ?_
    refine r_iload_n rfl ?_
    refine r_ishl ?_
    refine r_ior ?_
    refine r_iastore rfl (by decide) (ixE rfl (show u < 6 by omega) (by decide)) ?_
    refine r_aload_n rfl ?_
    refine r_getA (q := 70) (by decide) rfl rfl (by decide) ?_
    refine r_iload_n rfl ?_
    refine r_dup2 rfl rfl ?_
    refine r_iaload (by decide) rfl (by decide) (ixE rfl (show a < 5 by omega) (by decide)) rfl ?_
    refine r_aload_n rfl ?_
    refine r_iload_n rfl ?_
    refine r_iload_n rfl ?_
    refine r_virtual (vs := []) (as := [_, _]) (by decide) (zl rfl) rfl rfl (zl rfl) (Nat.le_refl _) (Or.inr (Or.inr ⟨zt rfl, rfl, zt rfl⟩)) ?_
    refine s_joyOf (t := t) (c := c) (a := a) (by omega) hu ht ?_ ?_ ?_ ha (fun J2 L2 h2 => ?_)
    · show J1 61 4 = _
      rw [h1.2 4 (by omega)]; exact hr
    · exact mTx_f (by rw [up2_q (by omega)]; exact h1.1 62 (by omega)) (by rw [up2_q (by omega)]; exact h1.1 63 (by omega)) hc
    · show ∃ k, k < 32 ∧ J1 72 u = io k
      rw [f72]; exact hs
    refine r_iadd ?_
    refine r_iastore rfl (by decide) (ixE rfl (show a < 5 by omega) (by decide)) ?_
    refine r_aload_n rfl ?_
    refine r_aload_n rfl ?_
    refine r_getI (by decide) rfl rfl (by decide) rfl ?_
    refine r_aload_n rfl ?_
    refine r_iload_n rfl ?_
    refine r_virtual (vs := []) (as := [_]) (by decide) (zl rfl) rfl rfl (zl rfl) (Nat.le_refl _) (Or.inr (Or.inr ⟨zt rfl, rfl, zt rfl⟩)) ?_
    refine s_drinksOf (by omega) ha ?_
    refine r_isub ?_
    refine r_iconst ?_
    refine r_bipush ?_
    refine r_static (vs := [_, _, _]) (by decide) (zl rfl) rfl rfl (zl rfl) (Nat.le_refl _) rfl ?_
    refine s_X7_within (by omega) ?_
    refine r_putI rfl rfl (by decide) ?_
    refine r_aload_n rfl ?_
    refine r_getA (q := 68) (by decide) rfl rfl (by decide) ?_
    refine r_iload_n rfl ?_
    refine r_aload_n rfl ?_
    refine r_getA (q := 68) (by decide) rfl rfl (by decide) ?_
    refine r_iload_n rfl ?_
    refine r_iaload (by decide) rfl (by decide) (ixE rfl (show a < 5 by omega) (by decide)) rfl ?_
    refine r_bipush ?_
    refine r_isub ?_
    refine r_iconst ?_
    refine r_bipush ?_
    refine r_static (vs := [_, _, _]) (by decide) (zl rfl) rfl rfl (zl rfl) (Nat.le_refl _) rfl ?_
    refine s_X7_within (by omega) ?_
    refine r_iastore rfl (by decide) (ixE rfl (show a < 5 by omega) (by decide)) ?_
    refine r_aload_n rfl ?_
    refine r_getA (q := 69) (by decide) rfl rfl (by decide) ?_
    refine r_iload_n rfl ?_
    refine r_dup2 rfl rfl ?_
    refine r_iaload (by decide) rfl (by decide) (ixE rfl (show a < 5 by omega) (by decide)) rfl ?_
    refine r_iconst ?_
    refine r_iadd ?_
    refine r_iastore rfl (by decide) (ixE rfl (show a < 5 by omega) (by decide)) ?_
    refine r_ret rfl ?_
    have k65 : J2 65 = I 65 := (h2.1 65 (by omega)).trans f65
    have k66 : J2 66 = I 66 := (h2.1 66 (by omega)).trans f66
    have k28 : J2 61 28 = I 61 28 := (h2.2 28 (by omega)).trans f28
    have k68 : J2 68 = I 68 := (h2.1 68 (by omega)).trans (h1.1 68 (by omega))
    have k69 : J2 69 = I 69 := (h2.1 69 (by omega)).trans (h1.1 69 (by omega))
    have k70 : J2 70 = I 70 := (h2.1 70 (by omega)).trans (h1.1 70 (by omega))
    have k74 : J2 74 = I 74 := (h2.1 74 (by omega)).trans (h1.1 74 (by omega))
    have k73 : J2 73 u = I 73 u ||| bit a := by
      rw [h2.1 73 (by omega), up2_at, h1.1 73 (by omega)]; rfl
    refine hQ _ _ ⟨((((((h1.g.up (by omega) (by omega) (Or.inr rfl)).trans h2.g).up (by omega) (by omega) (by omega)).s (by omega) (by omega)).up (by omega) (by omega) (by omega)).up (by omega) (by omega) (by omega)), congrFun ((h2.1 72 (by omega)).trans f72) u⟩ ?_
    rw [rch, ← hc2.1.1, ← hc2.1.2.1 a hn, ← hc2.1.2.2.1 a hn, if_neg c_7]
    have ok1 := hok.1
    have ok2 := hok.2 a hn
    rw [← hc2.1.1] at ok1
    rw [← hc2.1.2.1 a hn] at ok2
    refine ⟨⟨?_, ?_, ?_, ?_⟩, ?_, ?_⟩
    · show (if 0 ≤ J2 61 28 - kTake (J2 65 a) (mNu J2 a) then (if J2 61 28 - kTake (J2 65 a) (mNu J2 a) ≤ 99 then J2 61 28 - kTake (J2 65 a) (mNu J2 a) else 99) else 0) = _
      rw [x7w (by decide), k28, k65, mNu_g k66]
      exact w3_mx ok1 (isN_le (kT_b (hN a hn)) (by omega))
    · show ∀ b, b < n → u1 (J2 68) a (if 0 ≤ J2 68 a - 10 then (if J2 68 a - 10 ≤ 99 then J2 68 a - 10 else 99) else 0) b = _
      rw [x7w (by decide), k68]
      refine u1_all hc2.1.2.1 ?_
      exact w3_mx ok2 ⟨10, by omega, rfl⟩
    · show ∀ b, b < n → u1 (J2 69) a (J2 69 a + 1) b = _
      rw [k69]
      exact u1_all hc2.1.2.2.1 rfl
    · show ∀ b, b < n → u1 (J2 70) a (J1 70 a + kJoy (J1 65 a) (mNu J1 a) (w3 (ruL c 1 (vw (J1 61 28) (J1 68 a) (mNu J1 a) (bc (J1 72 u &&& (bit a ^^^ -1))) (io u) (J1 69 a))) (-99) 99) (J1 61 28)) b = _
      rw [k70, h1.1 70 (by omega), f65, mNu_g f66, f72, f28, h1.1 68 (by omega), h1.1 69 (by omega)]
      exact u1_all hc2.1.2.2.2 (by rw [hc2.1.2.2.2 a hn])
    · show J2 73 u = _
      rw [k73, hc2.2.1]
    · show J2 74 u = _
      rw [k74]; exact hc2.2.2
  · refine r_aload_n rfl ?_
    refine r_getA (q := 74) (by decide) rfl rfl (by decide) ?_
    refine r_iload_n rfl ?_
    refine r_dup2 rfl rfl ?_
    refine r_iaload (by decide) rfl (by decide) (ixE rfl (show u < 6 by omega) (by decide)) rfl ?_
    refine r_iconst ?_
    refine r_iload_n rfl ?_
    refine r_ishl ?_
    refine r_ior ?_
    refine r_iastore rfl (by decide) (ixE rfl (show u < 6 by omega) (by decide)) ?_
    refine r_ret rfl ?_
    refine hQ _ _ ⟨h1.g.up (by omega) (by omega) (Or.inr rfl), congrFun f72 u⟩ ?_
    rw [rch, ← hc2.1.1, ← hc2.1.2.1 a hn, ← hc2.1.2.2.1 a hn, if_pos c_7]
    have hy := mH_a h1 hc2.1
    refine ⟨⟨hy.1, hy.2.1, hy.2.2.1, hy.2.2.2⟩, ?_, ?_⟩
    · show J1 73 u = _
      rw [h1.1 73 (by omega)]; exact hc2.2.1
    · show up2 J1 74 u (J1 74 u ||| _) 74 u = _
      rw [up2_at, h1.1 74 (by omega), hc2.2.2]; rfl

theorem mTx_g {t : Nat} {I J : Nat → Nat → Int32} {c : List Int32 × List Int32 × List Int32} (g : gF I J) (h : mTx t I c) : mTx t J c := mTx_f (g.1 62 (by omega)) (g.1 63 (by omega)) h
theorem sh0 : ∀ a, a < 5 → (0 : Int32) <<< (io a &&& 31) = 0 := by decide +kernel

set_option maxRecDepth 10000 in
set_option maxHeartbeats 4000000 in
theorem s_livesM {xs : xSc} {m : Nat} {I : Nat → Nat → Int32} {L : Nat → Nat → Int64} {Q : Value → xHp → Prop} (hm : 63 ≤ m) {n t u : Nat} {c : List Int32 × List Int32 × List Int32} {s : Hs} {h : Int32} {x3 : Value} (hu : u < 6) (ht : t < 6) (h5 : n ≤ 5) (hn : I 61 12 = io n) (hr : I 61 4 = io t) (hc : mTx t I c) (hK : ∀ a, a < n → isN 6 (I 65 a)) (hN : okN n (mNu I)) (hS : okS n s) (hH : mH n I s) (hQ : ∀ J L2 x4, gM u I J → mH n J (mnt (ruL c) n (I 65) (mNu I) (mPl I) u s).1 → hR J (mnt (ruL c) n (I 65) (mNu I) (mPl I) u s).2 71 72 73 74 u → E xs m xi_X7_lives 82 Q 53 [.ref 61, .int h, .int (io (u + 1)), x4] [] (82, J, L2, xF0)) : E xs m xi_X7_lives 82 Q 53 [.ref 61, .int h, .int (io u), x3] [] (82, I, L, xF0) := by
  obtain ⟨sh, hsh⟩ : ∃ x, x = (shw (I 65) (mNu I) s.2.1 (io u) n) := ⟨_, rfl⟩
  obtain ⟨s0, hs0⟩ : ∃ x : Ms, x = ((mx0 (s.1 - w3 ((ruL c) 2 (vw s.1 0 0 (bc sh) (io u) 0)) 0 40), s.2.1, s.2.2.1, s.2.2.2), 0, 0) := ⟨_, rfl⟩
  obtain ⟨shk, hsh2, hsh3⟩ : ∃ k, k < 32 ∧ sh = io k := by rw [hsh]; exact shw_32 h5
  have hS0 : okS n s0.1 := by rw [hs0]; exact ⟨mx_n hS.1 w3_40, hS.2⟩
  have htal := tal_ok (ru := ruL c) (K := I 65) (P := mPl I) (m := io u) (sh := sh) hN hS0 n (Nat.le_refl _)
  simp only [mnt] at hQ
  rw [← hsh, ← hs0] at hQ
  have key3 : ∀ d a, a + d = n → ∀ J L2, (gM u I J ∧ J 72 u = sh ∧ mM n u J (((tal (ruL c) (I 65) (mNu I) (mPl I) (io u) sh n s0).1.1, thi a (tal (ruL c) (I 65) (mNu I) (mPl I) (io u) sh n s0).1.2.1, (tal (ruL c) (I 65) (mNu I) (mPl I) (io u) sh n s0).1.2.2.1, (tal (ruL c) (I 65) (mNu I) (mPl I) (io u) sh n s0).1.2.2.2), (tal (ruL c) (I 65) (mNu I) (mPl I) (io u) sh n s0).2.1, (tal (ruL c) (I 65) (mNu I) (mPl I) (io u) sh n s0).2.2)) → E xs m xi_X7_lives 82 Q 191 [.ref 61, .int h, .int (io u), .int (io a)] [] (82, J, L2, xF0) := by
    intro d
    induction d using Nat.strongRecOn with
    | _ d ih =>
    intro a hd J L2 hJ
    refine E_go 11 rfl ?_
    refine r_iload_n rfl ?_
    refine r_aload_n rfl ?_
    refine r_getI (by decide) rfl rfl (by decide) ((hJ.1.1.2 12 (by omega)).trans hn) ?_
    refine r_icmp_ge (fun c_196 => ?_) (fun c_196 => ?_)
    · have c_196 := (n_le (a := n) (b := a) rfl rfl (by omega) (by omega)).mp c_196
      refine E_go 12 rfl ?_
      refine r_aload_n rfl ?_
      refine r_getA (q := 71) (by decide) rfl rfl (by decide) ?_
      refine r_iload_n rfl ?_
      refine r_aload_n rfl ?_
      refine r_getI (by decide) rfl rfl (by decide) rfl ?_
      refine r_iastore rfl (by decide) (ixE rfl (show u < 6 by omega) (by decide)) ?_
      refine r_iincN (y := io (u + 1)) (ls' := [_, _, _, _]) rfl (zt rfl) (n_add (a := u) (b := 1) rfl rfl) rfl ?_
      refine r_goto ?_
      have e : a = n := by omega
      subst e
      refine hQ _ _ _ (hJ.1.up (by omega) (by omega) (Or.inr rfl)) hJ.2.2.1 ⟨?_, hJ.2.1, hJ.2.2.2.1, hJ.2.2.2.2⟩
      rw [up2_at]
      exact hJ.2.2.1.1
    · have c_196 := (not_congr (n_le (a := n) (b := a) rfl rfl (by omega) (by omega))).mp c_196
      refine r_aload_n rfl ?_
      refine r_getA (q := 68) (by decide) rfl rfl (by decide) ?_
      refine r_iload_n rfl ?_
      refine r_aload_n rfl ?_
      refine r_getA (q := 68) (by decide) rfl rfl (by decide) ?_
      refine r_iload_n rfl ?_
      refine r_iaload (by decide) rfl (by decide) (ixE rfl (show a < 5 by omega) (by decide)) rfl ?_
      refine r_iconst ?_
      refine r_iadd ?_
      refine r_iconst ?_
      refine r_bipush ?_
      refine r_static (vs := [_, _, _]) (by decide) (zl rfl) rfl rfl (zl rfl) (Nat.le_refl _) rfl ?_
      refine s_X7_within (by omega) ?_
      refine r_iastore rfl (by decide) (ixE rfl (show a < 5 by omega) (by decide)) ?_
      refine r_iincN (y := io (a + 1)) (ls' := [_, _, _, _]) rfl (zt rfl) (n_add (a := a) (b := 1) rfl rfl) rfl ?_
      refine r_goto ?_
      refine ih (d - 1) (by omega) (a + 1) (by omega) _ _ ⟨hJ.1.up (by omega) (by omega) (by omega), hJ.2.1, ⟨hJ.2.2.1.1, ?_, hJ.2.2.1.2.2.1, hJ.2.2.1.2.2.2⟩, hJ.2.2.2.1, hJ.2.2.2.2⟩
      rw [up2_p]
      show ∀ b, b < n → _ = thi (a + 1) _ b
      rw [thi_s]
      have e : J 68 a = (tal (ruL c) (I 65) (mNu I) (mPl I) (io u) sh n s0).1.2.1 a := (hJ.2.2.1.2.1 a (by omega)).trans thi_at
      refine u1_all hJ.2.2.1.2.1 ?_
      rw [x7w (by decide), e]
      exact (w3_mn (htal.2 a (by omega))).1
  have key2 : ∀ d a, a + d = n → ∀ J L2, (gM u I J ∧ J 72 u = sh ∧ mM n u J (tal (ruL c) (I 65) (mNu I) (mPl I) (io u) sh a s0)) → E xs m xi_X7_lives 82 Q 151 [.ref 61, .int h, .int (io u), .int (io a)] [] (82, J, L2, xF0) := by
    intro d
    induction d using Nat.strongRecOn with
    | _ d ih =>
    intro a hd J L2 hJ
    have g65 := hJ.1.1.1 65 (by omega)
    have g66 := hJ.1.1.1 66 (by omega)
    refine E_go 8 rfl ?_
    refine r_iload_n rfl ?_
    refine r_aload_n rfl ?_
    refine r_getI (by decide) rfl rfl (by decide) ((hJ.1.1.2 12 (by omega)).trans hn) ?_
    refine r_icmp_ge (fun c_156 => ?_) (fun c_156 => ?_)
    · have c_156 := (n_le (a := n) (b := a) rfl rfl (by omega) (by omega)).mp c_156
      refine E_go 10 rfl ?_
      refine r_iconst ?_
      refine r_istore_n (ls' := [_, _, _, _]) (zt rfl) rfl ?_
      refine r_nil ?_
      have e : a = n := by omega
      subst e
      refine key3 a 0 (by omega) _ _ ⟨hJ.1, hJ.2.1, ?_⟩
      rw [thi_0]
      exact hJ.2.2
    · have c_156 := (not_congr (n_le (a := n) (b := a) rfl rfl (by omega) (by omega))).mp c_156
      refine r_aload_n rfl ?_
      refine r_getA (q := 66) (by decide) rfl rfl (by decide) ?_
      refine r_iconst ?_
      refine r_iload_n rfl ?_
      refine r_imul ?_
      refine r_iconst ?_
      refine r_iadd ?_
      refine r_iaload (by decide) rfl (by decide) (ixE (n_add (a := (3 * a)) (b := 2) (n_mul (a := 3) (b := a) rfl rfl) rfl) (show ((3 * a) + 2) < 15 by omega) (by decide)) (congrFun g66 (3 * a + 2)) ?_
      refine r_iload_n rfl ?_
      refine r_ishr ?_
      refine r_iconst ?_
      refine r_iand ?_
      refine r_iconst ?_
      refine r_icmp_ne (fun c_174 => ?_) (fun c_174 => ?_)
      · refine E_go 9 rfl ?_
        refine r_iincN (y := io (a + 1)) (ls' := [_, _, _, _]) rfl (zt rfl) (n_add (a := a) (b := 1) rfl rfl) rfl ?_
        refine r_goto ?_
        refine ih (d - 1) (by omega) (a + 1) (by omega) _ _ ⟨hJ.1, hJ.2.1, ?_⟩
        rw [tal, if_neg (show ¬ (mPl I a >>> (io u &&& 31)) &&& 1 = 1 from c_174)]
        exact hJ.2.2
      · refine r_aload_n rfl ?_
        refine r_iload_n rfl ?_
        refine r_iload_n rfl ?_
        refine r_virtual (vs := []) (as := [_, _]) (by decide) (zl rfl) rfl rfl (zl rfl) (Nat.le_refl _) (Or.inr (Or.inr ⟨zt rfl, rfl, zt rfl⟩)) ?_
        refine s_mreaches (t := t) (c := c) (n := n) (a := a) (s := (tal (ruL c) (I 65) (mNu I) (mPl I) (io u) sh a s0)) (by omega) hu ht (by rw [hJ.1.1.2 4 (by omega)]; exact hr) ?_ ⟨_, hsh2, by rw [hJ.2.1]; exact hsh3⟩ h5 (by omega) ?_ ?_ hJ.2.2 (fun J2 L3 h21 h23 => ?_)
        · exact mTx_g hJ.1.1 hc
        · rw [mNu_g g66]; exact hN
        · exact tal_ok hN hS0 a (by omega)
        rw [hJ.2.1, g65, mNu_g g66] at h23
        skip
        refine r_nil ?_
        refine E_go 9 rfl ?_
        refine r_iincN (y := io (a + 1)) (ls' := [_, _, _, _]) rfl (zt rfl) (n_add (a := a) (b := 1) rfl rfl) rfl ?_
        refine r_goto ?_
        refine ih (d - 1) (by omega) (a + 1) (by omega) _ _ ⟨hJ.1.trans h21.1, by rw [h21.2]; exact hJ.2.1, ?_⟩
        rw [tal, if_pos (show (mPl I a >>> (io u &&& 31)) &&& 1 = 1 from c_174)]
        exact h23
  have key1 : ∀ d a, a + d = n → ∀ J L2, (gM u I J ∧ mH n J s ∧ J 72 u = shw (I 65) (mNu I) s.2.1 (io u) a ∧ J 73 u = 0 ∧ J 74 u = 0) → E xs m xi_X7_lives 82 Q 82 [.ref 61, .int h, .int (io u), .int (io a)] [] (82, J, L2, xF0) := by
    intro d
    induction d using Nat.strongRecOn with
    | _ d ih =>
    intro a hd J L2 hJ
    have g65 := hJ.1.1.1 65 (by omega)
    have g66 := hJ.1.1.1 66 (by omega)
    refine E_go 4 rfl ?_
    refine r_iload_n rfl ?_
    refine r_aload_n rfl ?_
    refine r_getI (by decide) rfl rfl (by decide) ((hJ.1.1.2 12 (by omega)).trans hn) ?_
    refine r_icmp_ge (fun c_87 => ?_) (fun c_87 => ?_)
    · have c_87 := (n_le (a := n) (b := a) rfl rfl (by omega) (by omega)).mp c_87
      refine E_go 7 rfl ?_
      refine r_aload_n rfl ?_
      refine r_aload_n rfl ?_
      refine r_getI (by decide) rfl rfl (by decide) rfl ?_
      refine r_aload_n rfl ?_
      refine r_iconst ?_
      refine r_iconst ?_
      refine r_iload_n rfl ?_
      refine r_virtual (vs := []) (as := [_, _, _]) (by decide) (zl rfl) rfl rfl (zl rfl) (Nat.le_refl _) (Or.inr (Or.inr ⟨zt rfl, rfl, zt rfl⟩)) ?_
      have e : a = n := by omega
      subst e
      refine s_asks2 (t := t) (c := c) (by omega) hu ht (by rw [hJ.1.1.2 4 (by omega)]; exact hr) (mTx_g hJ.1.1 hc) ⟨_, hsh2, by rw [hJ.2.2.1, ← hsh]; exact hsh3⟩ (fun J2 L3 h2 => ?_)
      rw [hJ.2.2.1, hJ.2.1.1, ← hsh]
      refine r_isub ?_
      refine r_iconst ?_
      refine r_bipush ?_
      refine r_static (vs := [_, _, _]) (by decide) (zl rfl) rfl rfl (zl rfl) (Nat.le_refl _) rfl ?_
      refine s_X7_within (by omega) ?_
      refine r_putI rfl rfl (by decide) ?_
      refine r_iconst ?_
      refine r_istore_n (ls' := [_, _, _, _]) (zt rfl) rfl ?_
      refine r_nil ?_
      have hX := hJ.1.trans (h2.g (m := u))
      have hY := mH_a h2 hJ.2.1
      refine key2 a 0 (by omega) _ _ ⟨hX.s (by omega) (by omega), ?_, ⟨?_, by rw [tal, hs0]; exact hY.2.1, by rw [tal, hs0]; exact hY.2.2.1, by rw [tal, hs0]; exact hY.2.2.2⟩, ?_, ?_⟩
      · show J2 72 u = _
        rw [h2.1 72 (by omega), hsh]; exact hJ.2.2.1
      · rw [up2_at, x7w (by decide)]
        refine (w3_mx hS.1 w3_40).trans ?_
        rw [tal, hs0]
      · show J2 73 u = _
        rw [h2.1 73 (by omega), tal, hs0]; exact hJ.2.2.2.1
      · show J2 74 u = _
        rw [h2.1 74 (by omega), tal, hs0]; exact hJ.2.2.2.2
    · have c_87 := (not_congr (n_le (a := n) (b := a) rfl rfl (by omega) (by omega))).mp c_87
      refine r_aload_n rfl ?_
      refine r_getA (q := 72) (by decide) rfl rfl (by decide) ?_
      refine r_iload_n rfl ?_
      refine r_dup2 rfl rfl ?_
      refine r_iaload (by decide) rfl (by decide) (ixE rfl (show u < 6 by omega) (by decide)) rfl ?_
      refine r_aload_n rfl ?_
      refine r_iload_n rfl ?_
      refine r_iload_n rfl ?_
      refine r_aload_n rfl ?_
      refine r_getA (q := 68) (by decide) rfl rfl (by decide) ?_
      refine r_iload_n rfl ?_
      refine r_iaload (by decide) rfl (by decide) (ixE rfl (show a < 5 by omega) (by decide)) rfl ?_
      refine r_virtual (vs := []) (as := [_, _, _]) (by decide) (zl rfl) rfl rfl (zl rfl) (Nat.le_refl _) (Or.inr (Or.inr ⟨zt rfl, rfl, zt rfl⟩)) ?_
      refine s_X7_wants (by omega) (by omega) (by rw [g65]; exact hK a (by omega)) ?_
      rw [g65, mNu_g g66, hJ.2.1.2.1 a (by omega)]
      refine r_if_eq (fun c_109 => ?_) (fun c_109 => ?_)
      · refine E_go 5 rfl ?_
        refine r_iconst ?_
        refine r_nil ?_
        refine E_go 6 rfl ?_
        refine r_iload_n rfl ?_
        refine r_ishl ?_
        refine r_ior ?_
        refine r_iastore rfl (by decide) (ixE rfl (show u < 6 by omega) (by decide)) ?_
        refine r_iincN (y := io (a + 1)) (ls' := [_, _, _, _]) rfl (zt rfl) (n_add (a := a) (b := 1) rfl rfl) rfl ?_
        refine r_goto ?_
        refine ih (d - 1) (by omega) (a + 1) (by omega) _ _ ⟨hJ.1.up (by omega) (by omega) (Or.inr rfl), ⟨hJ.2.1.1, hJ.2.1.2.1, hJ.2.1.2.2.1, hJ.2.1.2.2.2⟩, ?_, hJ.2.2.2.1, hJ.2.2.2.2⟩
        rw [up2_at, shw, hJ.2.2.1]
        first
          | rw [if_pos c_109]; rw [sh0 a (by omega)]; exact Int32.or_zero
          | rw [if_neg c_109]; rfl
      · refine r_iconst ?_
        refine r_goto ?_
        refine E_go 6 rfl ?_
        refine r_iload_n rfl ?_
        refine r_ishl ?_
        refine r_ior ?_
        refine r_iastore rfl (by decide) (ixE rfl (show u < 6 by omega) (by decide)) ?_
        refine r_iincN (y := io (a + 1)) (ls' := [_, _, _, _]) rfl (zt rfl) (n_add (a := a) (b := 1) rfl rfl) rfl ?_
        refine r_goto ?_
        refine ih (d - 1) (by omega) (a + 1) (by omega) _ _ ⟨hJ.1.up (by omega) (by omega) (Or.inr rfl), ⟨hJ.2.1.1, hJ.2.1.2.1, hJ.2.1.2.2.1, hJ.2.1.2.2.2⟩, ?_, hJ.2.2.2.1, hJ.2.2.2.2⟩
        rw [up2_at, shw, hJ.2.2.1]
        first
          | rw [if_pos c_109]; rw [sh0 a (by omega)]; exact Int32.or_zero
          | rw [if_neg c_109]; rfl
  refine E_go 3 rfl ?_
  refine r_iload_n rfl ?_
  refine r_bipush ?_
  refine r_icmp_ge (fun c_56 => ?_) (fun c_56 => ?_)
  · have c_56 := (n_le (a := 6) (b := u) rfl rfl (by omega) (by omega)).mp c_56
    omega
  · have c_56 := (not_congr (n_le (a := 6) (b := u) rfl rfl (by omega) (by omega))).mp c_56
    refine r_aload_n rfl ?_
    refine r_getA (q := 72) (by decide) rfl rfl (by decide) ?_
    refine r_iload_n rfl ?_
    refine r_iconst ?_
    refine r_iastore rfl (by decide) (ixE rfl (show u < 6 by omega) (by decide)) ?_
    refine r_aload_n rfl ?_
    refine r_getA (q := 73) (by decide) rfl rfl (by decide) ?_
    refine r_iload_n rfl ?_
    refine r_iconst ?_
    refine r_iastore rfl (by decide) (ixE rfl (show u < 6 by omega) (by decide)) ?_
    refine r_aload_n rfl ?_
    refine r_getA (q := 74) (by decide) rfl rfl (by decide) ?_
    refine r_iload_n rfl ?_
    refine r_iconst ?_
    refine r_iastore rfl (by decide) (ixE rfl (show u < 6 by omega) (by decide)) ?_
    refine r_iconst ?_
    refine r_istore_n (ls' := [_, _, _, _]) (zt rfl) rfl ?_
    refine r_nil ?_
    refine key1 n 0 (by omega) _ _ ⟨((gM.refl.up (by omega) (by omega) (Or.inr rfl)).up (by omega) (by omega) (Or.inr rfl)).up (by omega) (by omega) (Or.inr rfl), hH, ?_, ?_, ?_⟩
    · simp [up2, shw]
    · simp [up2]
    · simp [up2]

/-- the model holds a whole hour -/
def mD (n : Nat) (J : Nat → Nat → Int32) (ru : Ru) (X : Pot) : Prop := mH n J (hrs ru X 6) ∧ ∀ k, k < 6 → hR J (hri ru X k) 71 72 73 74 k

set_option maxRecDepth 10000 in
theorem s_lives {xs : xSc} {m : Nat} {I : Nat → Nat → Int32} {L : Nat → Nat → Int64} {Q : Value → xHp → Prop} (hm : 64 ≤ m) {n t : Nat} {c : List Int32 × List Int32 × List Int32} {h : Int32} (ht : t < 6) (hn : I 61 12 = io n) (hr : I 61 4 = io t) (hc : mTx t I c) (hX : okX (mP n h I)) (hQ : ∀ J L2, gF I J → mD n J (ruL c) (mP n h I) → Q .null (Hp J L2)) : M xs m xi_X7_lives [.ref 61, .int h] (Hp I L) Q := by
  obtain ⟨m, rfl⟩ : ∃ k, m = k + 1 := ⟨m - 1, by omega⟩
  have h5 : n ≤ 5 := hX.2.1
  have key : ∀ d a, a + d = 6 → ∀ J L2 x3, (gF I J ∧ mH n J (hrs (ruL c) (mP n h I) a) ∧ ∀ k, k < a → hR J (hri (ruL c) (mP n h I) k) 71 72 73 74 k) → E xs m xi_X7_lives 82 Q 53 [.ref 61, .int h, .int (io a), x3] [] (82, J, L2, xF0) := by
    intro d
    induction d using Nat.strongRecOn with
    | _ d ih =>
    intro a hd J L2 x3 hJ
    by_cases ha : a < 6
    · have g65 := hJ.1.1 65 (by omega)
      have g66 := hJ.1.1 66 (by omega)
      refine s_livesM (by omega) ha ht h5 (n := n) (t := t) (c := c) (s := hrs (ruL c) (mP n h I) a) (by rw [hJ.1.2 12 (by omega)]; exact hn) (by rw [hJ.1.2 4 (by omega)]; exact hr) (mTx_g hJ.1 hc) (by rw [g65]; exact hX.2.2.1) (by rw [mNu_g g66]; exact hX.2.2.2.1) (hrs_ok hX a) hJ.2.1 (fun J2 L3 x4 k1 k2 k3 => ?_)
      rw [g65, mNu_g g66, mPl_g g66] at k2 k3
      refine ih (d - 1) (by omega) (a + 1) (by omega) _ _ _ ⟨hJ.1.trans k1.1, k2, all_succ (fun b hb => ?_) k3⟩
      have e := hJ.2.2 b hb
      exact ⟨by rw [k1.2 71 b (by omega) (by omega)]; exact e.1, by rw [k1.2 72 b (by omega) (by omega)]; exact e.2.1, by rw [k1.2 73 b (by omega) (by omega)]; exact e.2.2.1, by rw [k1.2 74 b (by omega) (by omega)]; exact e.2.2.2⟩
    · refine E_go 3 rfl ?_
      refine r_iload_n rfl ?_
      refine r_bipush ?_
      refine r_icmp_ge (fun c_56 => ?_) (fun c_56 => ?_)
      · have c_56 := (n_le (a := 6) (b := a) rfl rfl (by omega) (by omega)).mp c_56
        refine E_go 13 rfl ?_
        refine r_ret rfl ?_
        have e : a = 6 := by omega
        subst e
        exact hQ _ _ hJ.1 hJ.2
      · have c_56 := (not_congr (n_le (a := 6) (b := a) rfl rfl (by omega) (by omega))).mp c_56
        omega
  have keyA : ∀ d a, a + d = n → ∀ J, ((gF I J ∧ J 61 28 = h) ∧ ∀ b, b < a → J 68 b = mTh I b ∧ J 69 b = 0 ∧ J 70 b = 0) → E xs m xi_X7_lives 82 Q 7 [.ref 61, .int h, .int (io a), xU] [] (82, J, L, xF0) := by
    intro d
    induction d using Nat.strongRecOn with
    | _ d ih =>
    intro a hd J hJ
    refine E_go 1 rfl ?_
    refine r_iload_n rfl ?_
    refine r_aload_n rfl ?_
    refine r_getI (by decide) rfl rfl (by decide) ((hJ.1.1.2 12 (by omega)).trans hn) ?_
    refine r_icmp_ge (fun c_12 => ?_) (fun c_12 => ?_)
    · have c_12 := (n_le (a := n) (b := a) rfl rfl (by omega) (by omega)).mp c_12
      refine E_go 2 rfl ?_
      refine r_iconst ?_
      refine r_istore_n (ls' := [_, _, _, _]) (zt rfl) rfl ?_
      refine r_nil ?_
      have e : a = n := by omega
      subst e
      refine key 6 0 rfl _ _ _ ⟨hJ.1.1, ⟨hJ.1.2, fun b hb => ?_, fun b hb => (hJ.2 b hb).2.1, fun b hb => (hJ.2 b hb).2.2⟩, fun b hb => absurd hb (by omega)⟩
      rw [(hJ.2 b hb).1]
      exact (cl_at (n := a) hb).symm
    · have c_12 := (not_congr (n_le (a := n) (b := a) rfl rfl (by omega) (by omega))).mp c_12
      refine r_aload_n rfl ?_
      refine r_getA (q := 68) (by decide) rfl rfl (by decide) ?_
      refine r_iload_n rfl ?_
      refine r_aload_n rfl ?_
      refine r_getA (q := 66) (by decide) rfl rfl (by decide) ?_
      refine r_iconst ?_
      refine r_iload_n rfl ?_
      refine r_imul ?_
      refine r_iconst ?_
      refine r_iadd ?_
      refine r_iaload (by decide) rfl (by decide) (ixE (n_add (a := (3 * a)) (b := 1) (n_mul (a := 3) (b := a) rfl rfl) rfl) (show ((3 * a) + 1) < 15 by omega) (by decide)) rfl ?_
      refine r_iastore rfl (by decide) (ixE rfl (show a < 5 by omega) (by decide)) ?_
      refine r_aload_n rfl ?_
      refine r_getA (q := 69) (by decide) rfl rfl (by decide) ?_
      refine r_iload_n rfl ?_
      refine r_iconst ?_
      refine r_iastore rfl (by decide) (ixE rfl (show a < 5 by omega) (by decide)) ?_
      refine r_aload_n rfl ?_
      refine r_getA (q := 70) (by decide) rfl rfl (by decide) ?_
      refine r_iload_n rfl ?_
      refine r_iconst ?_
      refine r_iastore rfl (by decide) (ixE rfl (show a < 5 by omega) (by decide)) ?_
      refine r_iincN (y := io (a + 1)) (ls' := [_, _, _, _]) rfl (zt rfl) (n_add (a := a) (b := 1) rfl rfl) rfl ?_
      refine r_goto ?_
      refine ih (d - 1) (by omega) (a + 1) (by omega) _ ⟨⟨((hJ.1.1.up (by omega) (by omega)).up (by omega) (by omega)).up (by omega) (by omega), hJ.1.2⟩, all_succ (fun b hb => ?_) ?_⟩
      · have e := hJ.2 b hb
        simp [up2, show ¬ b = a by omega, e]
      · simp [up2, hJ.1.1.1 66 (by omega), mTh]
  refine M_go (ls := [_, _, _, _]) (ml := 4) rfl rfl rfl (zl rfl) rfl ?_
  refine r_aload_n rfl ?_
  refine r_iload_n rfl ?_
  refine r_putI rfl rfl (by decide) ?_
  refine r_iconst ?_
  refine r_istore_n (ls' := [_, _, _, _]) (zt rfl) rfl ?_
  refine r_nil ?_
  refine keyA n 0 (by omega) _ ⟨⟨gF.refl.s (by omega) (by omega), by simp [up2]⟩, fun b hb => absurd hb (by omega)⟩
