/-! calls: text -/

section
variable {b b2 : Nat → Int32} {z : Nat}
theorem scn_c {P : Int32 → Bool} (h : ∀ i, i < z → b i = b2 i) : ∀ d i, scn P b z d i = scn P b2 z d i
  | 0, _ => rfl
  | d + 1, i => by
    rw [scn, scn]
    by_cases c : i < z
    · rw [if_pos c, if_pos c, h i c, scn_c h d (i + 1)]
    · rw [if_neg c, if_neg c]
theorem sc_c {P : Int32 → Bool} (h : ∀ i, i < z → b i = b2 i) (i : Nat) : sc P b z i = sc P b2 z i := scn_c h _ i
theorem lst_c (h : ∀ i, i < z → b i = b2 i) : ∀ d i, i + d ≤ z → lst b i d = lst b2 i d
  | 0, _, _ => rfl
  | d + 1, i, hd => by rw [lst, lst, h i (by omega), lst_c h d (i + 1) (by omega)]
theorem dec_c {s : Nat} (h : ∀ i, i < z → b i = b2 i) : ∀ d, s + d ≤ z → dec b s d = dec b2 s d
  | 0, _ => rfl
  | d + 1, hd => by rw [dec, dec, dec_c h d (by omega), h (s + d) (by omega)]
theorem tpl_c (h : ∀ i, i < z → b i = b2 i) (i : Nat) : tpl b z i = tpl b2 z i := sc_c h i
theorem ten_c (h : ∀ i, i < z → b i = b2 i) (s : Nat) : ten b z s = ten b2 z s := by
  unfold ten
  by_cases c : z ≤ s
  · rw [if_pos c, if_pos c]
  · rw [if_neg c, if_neg c, h s (by omega), sc_c h, sc_c h]
theorem tkk_c (h : ∀ i, i < z → b i = b2 i) (s : Nat) : tkk b z s = tkk b2 z s := by
  unfold tkk
  by_cases c : z ≤ s
  · rw [if_pos c, if_pos c]
  · have e := sc_z (P := isL) (b := b2) (z := z) (i := s) (by omega)
    have e1 := sc_le (P := isL) (b := b2) (z := z) (i := s)
    rw [if_neg c, if_neg c, h s (by omega), sc_c h, sc_c h, lst_c h _ s (by omega)]
theorem tst_c (h : ∀ i, i < z → b i = b2 i) : tst b z = tst b2 z := by
  funext i
  unfold tst
  rw [tpl_c h, ten_c h]
theorem tkd_c (h : ∀ i, i < z → b i = b2 i) : tkd b z = tkd b2 z := by
  funext i
  unfold tkd
  rw [tpl_c h, tkk_c h]
theorem twt_c (h : ∀ i, i < z → b i = b2 i) : twt b z = twt b2 z := by
  funext i
  unfold twt
  rw [tpl_c h, sc_c h]
  by_cases c : tpl b2 z i ≤ z
  · have e := sc_z (P := isD) (b := b2) c
    have e1 := sc_le (P := isD) (b := b2) (z := z) (i := tpl b2 z i)
    exact dec_c h _ (by omega)
  · rw [sc_n (fun q => absurd q (by omega)), Nat.sub_self]
    rfl
theorem gT_c (h : ∀ i, i < z → b i = b2 i) : gT b z = gT b2 z := by
  unfold gT
  rw [tkd_c h, tst_c h, twt_c h]
theorem bOk_c (h : ∀ i, i < z → b i = b2 i) (k : bOk b2 z) : bOk b z := fun i hi => by rw [h i hi]; exact k i hi
end
theorem txK : ∀ t, t < 6 → xKd (35 + 3 * t) = 4 ∧ 35 + 3 * t < 82 ∧ xF0 33 t = some (35 + 3 * t) ∧ (xF0 (35 + 3 * t) 0 = some (36 + 3 * t) ∧ xF0 (35 + 3 * t) 1 = some (37 + 3 * t)) ∧ (xKd (36 + 3 * t) = 7 ∧ xLn (36 + 3 * t) = 160 ∧ 36 + 3 * t < 82) ∧ xKd (37 + 3 * t) = 7 ∧ xLn (37 + 3 * t) = 3 ∧ 37 + 3 * t < 82 := by decide +kernel
theorem txg0 {t : Nat} (h : t < 6) {I : Nat → Nat → Int32} {L : Nat → Nat → Int64} : xVal (82, I, L, xF0) (35 + 3 * t) 0 (xFt 4 0) = .ref (36 + 3 * t) := by
  show va_rf (xF0 (35 + 3 * t) 0) = _
  rw [(txK t h).2.2.2.1.1]
  rfl
theorem txg1 {t : Nat} (h : t < 6) {I : Nat → Nat → Int32} {L : Nat → Nat → Int64} : xVal (82, I, L, xF0) (35 + 3 * t) 1 (xFt 4 1) = .ref (37 + 3 * t) := by
  show va_rf (xF0 (35 + 3 * t) 1) = _
  rw [(txK t h).2.2.2.1.2]
  rfl
/-- a text more, or none; the tape is empty -/
theorem RX.txt {n tc tc2 r tp : Nat} {I K : Nat → Nat → Int32} (h : RX n tc r tp I) (f : ∀ p, ¬ (p = 0 ∨ (29 ≤ p ∧ p ≤ 31) ∨ p = 61 ∨ p = 62 ∨ p = 63 ∨ p = 36 + 3 * tc ∨ p = 37 + 3 * tc) → K p = I p) (h6 : tc < 6) (s : ∀ k, ¬ (k = 3 ∨ k = 6 ∨ (19 ≤ k ∧ k ≤ 27)) → K 61 k = I 61 k) (z1 : K 29 0 = 0) (z2 : K 61 6 = 0) (m1 : ∀ t, t < tc → K 63 t = I 63 t) (m2 : ∀ j, j < 160 * tc → K 62 j = I 62 j) (k0 : ∀ k, ¬ k = 7 → K 0 k = I 0 k) (t2 : K 0 7 = io tc2 ∧ K 61 3 = io tc2 ∧ tc ≤ tc2 ∧ tc2 ≤ 6) (new : ∀ t, tc ≤ t → t < tc2 → ∃ c, mTx t K c ∧ cTx t K c) : RX n tc2 r 0 K := by
  obtain ⟨t21, t22, t23, t24⟩ := t2
  refine ⟨h.1.g ?_ ?_ ?_ ?_ ?_ ?_ ?_ ?_ ?_ ?_ ?_ ?_ ?_ ?_, ⟨⟨by have := h.2.1.1.1; omega, t24, t21, t22⟩, ⟨by have := h.rt; omega, by rw [f 1 (by omega)]; exact h.cr, by rw [s 4 (by omega)]; exact h.mr⟩, fun t ht => ?_⟩, ⟨⟨by omega, z1, z2⟩, fun i hi => absurd hi (by omega)⟩, ?_, h.2.2.2.2.g (fun p _ => f p (by omega))⟩
  any_goals exact s _ (by omega)
  any_goals exact f _ (by omega)
  any_goals exact congrFun (f _ (by omega)) _
  · by_cases c : t < tc
    · obtain ⟨w, ⟨z, q1, q2, q3, q4⟩, k2⟩ := h.2.1.2.2 t c
      have e : ∀ i, i < z → mb t K i = mb t I i := fun i hi => m2 _ (by have := q1.1; omega)
      have eg := gT_c e
      refine ⟨w, ⟨z, ⟨q1.1, by rw [m1 t c]; exact q1.2⟩, bOk_c e q2, by rw [eg]; exact q3, by rw [eg]; exact q4⟩, cTx_s (f _ ?_) (f _ ?_) k2⟩
      · unfold tq; omega
      · unfold tq; omega
    · exact new t (by omega) ht
  · have q := h.2.2.2.1
    unfold RI RIy at q ⊢
    rw [k0 8 (by omega), f 2 (by omega), f 7 (by omega), f 8 (by omega), f 9 (by omega), f 10 (by omega), f 11 (by omega), f 12 (by omega), f 76 (by omega), f 77 (by omega), s 41 (by omega), s 42 (by omega), s 43 (by omega), s 44 (by omega)]
    rcases q with q | ⟨q, nk, rk, q1, ⟨q2, q3⟩, q4⟩
    · exact Or.inl q
    · exact Or.inr ⟨q, nk, rk, q1, ⟨by omega, q3⟩, q4⟩

set_option maxRecDepth 10000 in
theorem s_txBecomes {xs : xSc} {m : Nat} {I : Nat → Nat → Int32} {L : Nat → Nat → Int64} {Q : Value → xHp → Prop} (hm : 1 ≤ m) {t : Nat} (ht : t < 6) (hQ : ∀ J, (∀ p, ¬ (p = 36 + 3 * t ∨ p = 37 + 3 * t) → J p = I p) → (∀ i, i < 160 → J (36 + 3 * t) i = I 30 i) → (∀ i, i < 3 → J (37 + 3 * t) i = I 31 i) → Q .null (Hp J L)) : M xs m xi_X5_becomes [.ref (35 + 3 * t), .ref 30, .ref 31] (Hp I L) Q := by
  obtain ⟨m, rfl⟩ : ∃ k, m = k + 1 := ⟨m - 1, by omega⟩
  refine M_go (ls := [_, _, _]) (ml := 3) rfl rfl rfl (zl rfl) rfl ?_
  refine r_aload_n rfl ?_
  refine r_iconst ?_
  refine r_aload_n rfl ?_
  refine r_getA (q := (36 + 3 * t)) (by decide) (txg0 ht) (txK t ht).1 (txK t ht).2.1 ?_
  refine r_iconst ?_
  refine r_sipush ?_
  refine r_copy rfl ⟨rfl, (txK t ht).2.2.2.2.1.1, (by decide), (txK t ht).2.2.2.2.1.2.2⟩ (by decide) (by decide) (by rw [(txK t ht).2.2.2.2.1.2.1]; decide) (zl rfl) ?_
  refine r_aload_n rfl ?_
  refine r_iconst ?_
  refine r_aload_n rfl ?_
  refine r_getA (q := (37 + 3 * t)) (by decide) (txg1 ht) (txK t ht).1 (txK t ht).2.1 ?_
  refine r_iconst ?_
  refine r_iconst ?_
  refine r_copy rfl ⟨rfl, (txK t ht).2.2.2.2.2.1, (by decide), (txK t ht).2.2.2.2.2.2.2⟩ (by decide) (by decide) (by rw [(txK t ht).2.2.2.2.2.2.1]; decide) (zl rfl) ?_
  refine r_ret rfl ?_
  refine hQ _ (fun p hp => ?_) (fun i hi => ?_) (fun i hi => ?_)
  · exact (va_u (by omega)).trans (va_u (by omega))
  · exact (congrFun (va_u (by omega)) i).trans ((congrFun va_uq i).trans ((cpy_at (i := 0) (j := 0) (n := 160) (by omega) (by omega) (by omega)).trans ((if_pos ⟨by omega, by omega⟩).trans (by rw [Nat.zero_add, Nat.sub_zero]))))
  · exact (congrFun va_uq i).trans ((cpy_at (i := 0) (j := 0) (n := 3) (by omega) (by omega) (by omega)).trans ((if_pos ⟨by omega, by omega⟩).trans (by rw [Nat.zero_add, Nat.sub_zero]; exact congrFun (va_u (by omega)) i)))

set_option maxRecDepth 10000 in
theorem s_mtext {xs : xSc} {m : Nat} {I : Nat → Nat → Int32} {L : Nat → Nat → Int64} {Q : Value → xHp → Prop} (hm : 52 ≤ m) {t z : Nat} (ht : t < 6) (hz : z ≤ 160) (h3 : I 61 3 = io t) (h6 : I 61 6 = io z) (hb : bOk (I 64) z) (hQ1 : ∀ J L2, (∀ p, ¬ (p = 61 ∨ p = 62 ∨ p = 63) → J p = I p) → (∀ j, ¬ (j = 6 ∨ (19 ≤ j ∧ j ≤ 27)) → J 61 j = I 61 j) → J 61 6 = 0 → (J 63 t = io z ∧ ∀ j, ¬ j = t → J 63 j = I 63 j) → ((∀ i, i < z → J 62 (160 * t + i) = I 64 i) ∧ ∀ j, j < 160 * t → J 62 j = I 62 j) → (gT (I 64) z).1 = true → Q (.int (io t)) (Hp (up2 J 61 3 (io t + 1)) L2)) (hQ0 : ∀ J L2, (∀ p, ¬ (p = 61 ∨ p = 62 ∨ p = 63) → J p = I p) → (∀ j, ¬ (j = 6 ∨ (19 ≤ j ∧ j ≤ 27)) → J 61 j = I 61 j) → J 61 6 = 0 → (J 63 t = io z ∧ ∀ j, ¬ j = t → J 63 j = I 63 j) → ((∀ i, i < z → J 62 (160 * t + i) = I 64 i) ∧ ∀ j, j < 160 * t → J 62 j = I 62 j) → ¬ (gT (I 64) z).1 = true → Q (.int (-100 - io (tpl (I 64) z (gT (I 64) z).2.1))) (Hp J L2)) : M xs m xi_X7_text [.ref 61] (Hp I L) Q := by
  obtain ⟨m, rfl⟩ : ∃ k, m = k + 1 := ⟨m - 1, by omega⟩
  have key : ∀ d k, k + d = z → ∀ K : Mem, ((∀ p, ¬ p = 62 → K p = I p) ∧ (∀ i, i < k → K 62 (160 * t + i) = I 64 i) ∧ ∀ j, ¬ (160 * t ≤ j ∧ j < 160 * t + k) → K 62 j = I 62 j) → E xs m xi_X7_text 82 Q 14 [.ref 61, .int (io k)] [] (82, K, L, xF0) := by
    intro d
    induction d using Nat.strongRecOn with
    | _ d ih =>
    intro k hd K hK
    refine E_go 2 rfl ?_
    refine r_iload_n rfl ?_
    refine r_aload_n rfl ?_
    refine r_getI (by decide) rfl rfl (by decide) ((congrFun (hK.1 61 (by omega)) 6).trans h6) ?_
    refine r_icmp_ge (fun c_19 => ?_) (fun c_19 => ?_)
    · have c_19 := (n_le (a := z) (b := k) rfl rfl (by omega) (by omega)).mp c_19
      refine E_go 3 rfl ?_
      refine r_aload_n rfl ?_
      refine r_getA (q := 63) (by decide) rfl rfl (by decide) ?_
      refine r_aload_n rfl ?_
      refine r_getI (by decide) rfl rfl (by decide) ((congrFun (hK.1 61 (by omega)) 3).trans h3) ?_
      refine r_aload_n rfl ?_
      refine r_getI (by decide) rfl rfl (by decide) ((congrFun (hK.1 61 (by omega)) 6).trans h6) ?_
      refine r_iastore rfl (by decide) (ixE rfl (show t < 6 by omega) (by decide)) ?_
      refine r_aload_n rfl ?_
      refine r_iconst ?_
      refine r_putI rfl rfl (by decide) ?_
      refine r_aload_n rfl ?_
      refine r_aload_n rfl ?_
      refine r_getI (by decide) rfl rfl (by decide) ((congrFun (hK.1 61 (by omega)) 3).trans h3) ?_
      refine r_iconst ?_
      refine r_virtual (vs := []) (as := [_, _]) (by decide) (zl rfl) rfl rfl (zl rfl) (Nat.le_refl _) (Or.inr (Or.inr ⟨zt rfl, rfl, zt rfl⟩)) ?_
      have ek : k = z := by omega
      subst ek
      have eb : ∀ i, i < k → mb t (up2 (up2 K 63 t (io k)) 61 6 0) i = I 64 i := fun i hi => by
        show up2 (up2 K 63 t (io k)) 61 6 0 62 (160 * t + i) = _
        rw [up2_q (by omega), up2_q (by omega)]; exact hK.2.1 i hi
      refine s_readX0 (t := t) (z := k) (w := fun j => up2 (up2 K 63 t (io k)) 61 6 0 61 (13 + j)) (by omega) ht hz ?_ (bOk_c eb hb) (fun _ _ => rfl) (fun J M2 v f1 _ a1 a2 => ?_)
      · rw [up2_q (by omega)]; exact up2_at
      rw [gT_c eb] at a1
      rw [gT_c eb, tpl_c eb] at a2
      have w1 : ∀ p, ¬ (p = 61 ∨ p = 62 ∨ p = 63) → J p = I p := fun p hp => by rw [f1.1 p (by omega), up2_q (by omega), up2_q (by omega), hK.1 p (by omega)]
      have w2 : ∀ j, ¬ (j = 6 ∨ (19 ≤ j ∧ j ≤ 27)) → J 61 j = I 61 j := fun j hj => by rw [f1.2 j (by omega), up2_k (by omega), up2_q (by omega), hK.1 61 (by omega)]
      have w3 : J 61 6 = 0 := by rw [f1.2 6 (by omega), up2_at]
      have w4 : J 63 t = io k ∧ ∀ j, ¬ j = t → J 63 j = I 63 j := ⟨by rw [f1.1 63 (by omega), up2_q (by omega), up2_at], fun j hj => by rw [f1.1 63 (by omega), up2_q (by omega), up2_k hj, hK.1 63 (by omega)]⟩
      have w5 : (∀ i, i < k → J 62 (160 * t + i) = I 64 i) ∧ ∀ j, j < 160 * t → J 62 j = I 62 j := ⟨fun i hi => by rw [f1.1 62 (by omega), up2_q (by omega), up2_q (by omega)]; exact hK.2.1 i hi, fun j hj => by rw [f1.1 62 (by omega), up2_q (by omega), up2_q (by omega)]; exact hK.2.2 j (by omega)⟩
      by_cases g : (gT (I 64) k).1 = true
      · refine r_istore_n (ls' := [_, _]) (zt rfl) rfl ?_
        refine r_aload_n rfl ?_
        refine r_getZ (by decide) rfl rfl (by decide) (a1 g) ?_
        refine r_if_eq (fun c_81 => ?_) (fun c_81 => ?_)
        · have c_81 := (n_eq (a := 0) (b := 0) rfl rfl (by omega) (by omega)).mp c_81
          refine E_go 4 rfl ?_
          refine r_aload_n rfl ?_
          refine r_dup rfl ?_
          refine r_getI (by decide) rfl rfl (by decide) ((w2 3 (by omega)).trans h3) ?_
          refine r_iconst ?_
          refine r_iadd ?_
          refine r_putI rfl rfl (by decide) ?_
          refine r_aload_n rfl ?_
          refine r_getI (by decide) rfl rfl (by decide) (n_add (a := t) (b := 1) rfl rfl) ?_
          refine r_iconst ?_
          refine r_isub ?_
          refine r_iret rfl trivial ?_
          rw [show io (t + 1) - 1 = io t from n_sub (a := t + 1) (b := 1) rfl rfl (by omega)]
          exact hQ1 _ _ w1 w2 w3 w4 w5 g
        · have c_81 := (not_congr (n_eq (a := 0) (b := 0) rfl rfl (by omega) (by omega))).mp c_81
          omega
      · obtain ⟨b1, b2⟩ := a2 g
        refine r_istore_n (ls' := [_, _]) (zt rfl) rfl ?_
        refine r_aload_n rfl ?_
        refine r_getZ (by decide) rfl rfl (by decide) b1 ?_
        refine r_if_eq (fun c_81 => ?_) (fun c_81 => ?_)
        · have c_81 := (n_eq (a := 1) (b := 0) rfl rfl (by omega) (by omega)).mp c_81
          omega
        · have c_81 := (not_congr (n_eq (a := 1) (b := 0) rfl rfl (by omega) (by omega))).mp c_81
          refine r_bipush ?_
          refine r_aload_n rfl ?_
          refine r_getI (by decide) rfl rfl (by decide) b2 ?_
          refine r_isub ?_
          refine r_iret rfl trivial ?_
          exact hQ0 _ _ w1 w2 w3 w4 w5 g
    · have c_19 := (not_congr (n_le (a := z) (b := k) rfl rfl (by omega) (by omega))).mp c_19
      refine r_aload_n rfl ?_
      refine r_getA (q := 62) (by decide) rfl rfl (by decide) ?_
      refine r_sipush ?_
      refine r_aload_n rfl ?_
      refine r_getI (by decide) rfl rfl (by decide) ((congrFun (hK.1 61 (by omega)) 3).trans h3) ?_
      refine r_imul ?_
      refine r_iload_n rfl ?_
      refine r_iadd ?_
      refine r_aload_n rfl ?_
      refine r_getA (q := 64) (by decide) rfl rfl (by decide) ?_
      refine r_iload_n rfl ?_
      refine r_iaload (by decide) rfl (by decide) (ixE rfl (show k < 160 by omega) (by decide)) (congrFun (hK.1 64 (by omega)) k) ?_
      refine r_iastore rfl (by decide) (ixE (n_add (a := (160 * t)) (b := k) (n_mul (a := 160) (b := t) rfl rfl) rfl) (show ((160 * t) + k) < 960 by omega) (by decide)) ?_
      refine r_iincN (y := io (k + 1)) (ls' := [_, _]) rfl (zt rfl) (n_add (a := k) (b := 1) rfl rfl) rfl ?_
      refine r_goto ?_
      refine ih (d - 1) (by omega) (k + 1) (by omega) _ ⟨fun p hp => by rw [up2_q hp]; exact hK.1 p hp, all_succ (fun i hi => by rw [up2_k (by omega)]; exact hK.2.1 i hi) up2_at, fun j hj => by rw [up2_k (by omega)]; exact hK.2.2 j (by omega)⟩
  refine M_go (ls := [_, _]) (ml := 2) rfl rfl rfl (zl rfl) rfl ?_
  refine r_aload_n rfl ?_
  refine r_getI (by decide) rfl rfl (by decide) h3 ?_
  refine r_bipush ?_
  refine r_icmp_ne (fun c_6 => ?_) (fun c_6 => ?_)
  · have c_6 := (not_congr (n_eq (a := t) (b := 6) rfl rfl (by omega) (by omega))).mp c_6
    refine E_go 1 rfl ?_
    refine r_iconst ?_
    refine r_istore_n (ls' := [_, _]) (zt rfl) rfl ?_
    refine r_nil ?_
    exact key z 0 (by omega) I ⟨fun _ _ => rfl, fun i hi => absurd hi (by omega), fun _ _ => rfl⟩
  · have c_6 := (n_eq (a := t) (b := 6) rfl rfl (by omega) (by omega)).mp c_6
    omega

theorem pPt_z {b : Nat → Int32} {z j i : Nat} (h : i ≤ z) : (gP j b z i).2.1 ≤ z := (pPt_gd i h).1.2
theorem gT_z {b : Nat → Int32} {z : Nat} : (gT b z).2.1 ≤ z := by
  by_cases c : (gP 0 b z 0).1 = true
  · have h0 := pPt_z (b := b) (j := 0) (Nat.zero_le z)
    by_cases c1 : (gP 1 b z (gP 0 b z 0).2.1).1 = true
    · rw [gT_2 c c1]; exact pPt_z (pPt_z h0)
    · rw [gT_1 c c1]; exact pPt_z h0
  · rw [gT_0 c]; exact pPt_z (Nat.zero_le z)
theorem gT_pl {b : Nat → Int32} {z : Nat} (h : z ≤ 160) : tpl b z (gT b z).2.1 < 2147483648 := by
  have := tpl_z (b := b) (gT_z (b := b) (z := z))
  omega

set_option maxRecDepth 10000 in
theorem tz_text {xs : xSc} {m : Nat} {I : Nat → Nat → Int32} {L : Nat → Nat → Int64} {Q : Value → Value → xHp → Prop} (hm : 90 ≤ m) (hR : Rel I) (hQ : ∀ (x : Int32) J L2, Rel J → Q (.int x) (.int x) (Hp J L2)) : M xs m xi_X6_text [.ref 0] (Hp I L) (fun r1 h1 => M xs m xi_X7_text [.ref 61] h1 (fun r2 h2 => Q r1 r2 h2)) := by
  obtain ⟨m, rfl⟩ : ∃ k, m = k + 6 := ⟨m - 6, by omega⟩
  obtain ⟨n, tc, r, tp, R⟩ := hR
  have h5 := R.n5
  have hr6 := R.r6
  have ht6 := R.t6
  have hrt := R.rt
  have hp160 := R.2.2.1.1.1
  by_cases h6 : tc = 6
  · subst h6
    refine M_go (ls := [_, _]) (ml := 2) rfl rfl rfl (zl rfl) rfl ?_
    refine r_aload_n rfl ?_
    refine r_getI (by decide) rfl rfl (by decide) R.ct ?_
    refine r_bipush ?_
    refine r_icmp_lt (fun c_6 => ?_) (fun c_6 => ?_)
    · have c_6 := (n_lt (a := 6) (b := 6) rfl rfl (by omega) (by omega)).mp c_6
      omega
    · have c_6 := (not_congr (n_lt (a := 6) (b := 6) rfl rfl (by omega) (by omega))).mp c_6
      refine r_bipush ?_
      refine r_iret rfl trivial ?_
      refine M_go (ls := [_, _]) (ml := 2) rfl rfl rfl (zl rfl) rfl ?_
      refine r_aload_n rfl ?_
      refine r_getI (by decide) rfl rfl (by decide) R.mt ?_
      refine r_bipush ?_
      refine r_icmp_ne (fun c_6 => ?_) (fun c_6 => ?_)
      · have c_6 := (not_congr (n_eq (a := 6) (b := 6) rfl rfl (by omega) (by omega))).mp c_6
        omega
      · have c_6 := (n_eq (a := 6) (b := 6) rfl rfl (by omega) (by omega)).mp c_6
        refine r_bipush ?_
        refine r_iret rfl trivial ?_
        exact hQ _ _ _ R.rel
  · have ht : tc < 6 := by omega
    have tpb31 : tpl (I 32) tp (gT (I 32) tp).2.1 < 2147483648 := gT_pl hp160
    have e64 : ∀ i, i < tp → I 64 i = I 32 i := fun i hi => (R.2.2.1.2 i hi).1
    have bo : bOk (I 64) tp := bOk_c e64 (fun i hi => (R.2.2.1.2 i hi).2)
    refine M_go (ls := [_, _]) (ml := 2) rfl rfl rfl (zl rfl) rfl ?_
    refine r_aload_n rfl ?_
    refine r_getI (by decide) rfl rfl (by decide) R.ct ?_
    refine r_bipush ?_
    refine r_icmp_lt (fun c_6 => ?_) (fun c_6 => ?_)
    · have c_6 := (n_lt (a := tc) (b := 6) rfl rfl (by omega) (by omega)).mp c_6
      refine E_go 1 rfl ?_
      refine r_aload_n rfl ?_
      refine r_getA (q := 29) (by decide) rfl rfl (by decide) ?_
      refine r_virtual (vs := []) (as := []) (by decide) (zl rfl) rfl rfl (zl rfl) (Nat.le_refl _) (Or.inr (Or.inr ⟨zt rfl, rfl, zt rfl⟩)) ?_
      refine s_readsTape (by omega) R.cp hp160 (fun J f1 g e1 e2 => ?_) (fun J f1 g => ?_)
      · refine r_istore_n (ls' := [_, _]) (zt rfl) rfl ?_
        refine r_aload_n rfl ?_
        refine r_getA (q := 29) (by decide) rfl rfl (by decide) ?_
        refine r_iconst ?_
        refine r_putI rfl rfl (by decide) ?_
        refine r_iload_n rfl ?_
        refine r_iconst ?_
        refine r_icmp_eq (fun c_30 => ?_) (fun c_30 => ?_)
        · refine E_go 2 rfl ?_
          refine r_aload_n rfl ?_
          refine r_getA (q := 33) (by decide) rfl rfl (by decide) ?_
          refine r_aload_n rfl ?_
          refine r_getI (by decide) rfl rfl (by decide) ((congrFun (f1.1 0 (by omega)) 7).trans R.ct) ?_
          refine r_aaload (by decide) (by decide) (ixE rfl (show tc < 6 by omega) (by decide)) (txK tc ht).2.2.1 ?_
          refine r_aload_n rfl ?_
          refine r_getA (q := 29) (by decide) rfl rfl (by decide) ?_
          refine r_getA (q := 30) (by decide) rfl rfl (by decide) ?_
          refine r_aload_n rfl ?_
          refine r_getA (q := 29) (by decide) rfl rfl (by decide) ?_
          refine r_getA (q := 31) (by decide) rfl rfl (by decide) ?_
          refine r_virtual (vs := []) (as := [_, _]) (by decide) (zl rfl) rfl rfl (zl rfl) (Nat.le_refl _) (Or.inr (Or.inr ⟨zt rfl, (txK tc ht).1, (txK tc ht).2.1⟩)) ?_
          refine s_txBecomes (by omega) ht (fun J2 j1 j2 j3 => ?_)
          refine r_aload_n rfl ?_
          refine r_dup rfl ?_
          refine r_getI (by decide) rfl rfl (by decide) ((congrFun (j1 0 (by omega)) 7).trans ((congrFun (f1.1 0 (by omega)) 7).trans R.ct)) ?_
          refine r_dup_x1 rfl rfl ?_
          refine r_iconst ?_
          refine r_iadd ?_
          refine r_putI rfl rfl (by decide) ?_
          refine r_iret rfl trivial ?_
          have cI : ∀ p, ¬ (p = 0 ∨ (29 ≤ p ∧ p ≤ 31) ∨ p = 36 + 3 * tc ∨ p = 37 + 3 * tc) → (up2 J2 0 7 (io tc + 1)) p = I p := fun p hp => by rw [up2_q (by omega), j1 p (by omega), up2_q (by omega), f1.1 p (by omega)]
          have cA : ∀ i, i < 160 → (up2 J2 0 7 (io tc + 1)) (36 + 3 * tc) i = J 30 i := fun i hi => by rw [up2_q (by omega), j2 i hi, up2_q (by omega)]
          have cB : ∀ i, i < 3 → (up2 J2 0 7 (io tc + 1)) (37 + 3 * tc) i = J 31 i := fun i hi => by rw [up2_q (by omega), j3 i hi, up2_q (by omega)]
          have c0 : ∀ k, ¬ k = 7 → (up2 J2 0 7 (io tc + 1)) 0 k = I 0 k := fun k hk => by rw [up2_k hk, j1 0 (by omega), up2_q (by omega), f1.1 0 (by omega)]
          have c7 : (up2 J2 0 7 (io tc + 1)) 0 7 = io tc + 1 := up2_at
          have c29 : (up2 J2 0 7 (io tc + 1)) 29 0 = 0 := by rw [up2_q (by omega), j1 29 (by omega), up2_at]
          generalize (up2 J2 0 7 (io tc + 1)) = C at cI cA cB c0 c7 c29 ⊢
          have s61 : C 61 = I 61 := cI 61 (by omega)
          have s64 : C 64 = I 64 := cI 64 (by omega)
          have gc : gT (C 64) tp = gT (I 32) tp := by rw [s64]; exact gT_c e64
          refine s_mtext (t := tc) (z := tp) (by omega) ht hp160 (by rw [s61]; exact R.mt) (by rw [s61]; exact R.mp) (by rw [s64]; exact bo) (fun K L2 w1 w2 w3 w4 w5 _ => ?_) (fun K L2 w1 w2 w3 w4 w5 w6 => absurd (by rw [gc]; exact g) w6)
          have eb : ∀ i, i < tp → mb tc (up2 K 61 3 (io tc + 1)) i = I 32 i := fun i hi => by
            show up2 K 61 3 (io tc + 1) 62 (160 * tc + i) = _
            rw [up2_q (by omega), w5.1 i hi, s64]; exact e64 i hi
          have eg := gT_c eb
          have b32 : bOk (I 32) tp := fun i hi => (R.2.2.1.2 i hi).2
          have el := e1.1.2.2
          refine hQ _ _ _ (R.txt (tc2 := tc + 1) (fun p hp => ?_) ht (fun k hk => ?_) ?_ ?_ (fun t ht => ?_) (fun j hj => ?_) (fun k hk => ?_) ⟨?_, ?_, by omega, by omega⟩ (fun t h1 h2 => ?_)).rel
          · rw [up2_q (by omega), w1 p (by omega)]; exact cI p (by omega)
          · rw [up2_k (by omega), w2 k (by omega), s61]
          · rw [up2_q (by omega), w1 29 (by omega)]; exact c29
          · rw [up2_k (by omega)]; exact w3
          · rw [up2_q (by omega), w4.2 t (by omega)]; exact congrFun (cI 63 (by omega)) t
          · rw [up2_q (by omega), w5.2 j hj]; exact congrFun (cI 62 (by omega)) j
          · rw [up2_q (by omega), w1 0 (by omega)]; exact c0 k hk
          · rw [up2_q (by omega), w1 0 (by omega), c7]; exact io_succ tc
          · rw [up2_at]; exact io_succ tc
          · have et : t = tc := by omega
            subst et
            refine ⟨(gT (I 32) tp).2.2, ⟨tp, ⟨hp160, by rw [up2_q (by omega)]; exact w4.1⟩, bOk_c eb b32, by rw [eg]; exact g, by rw [eg]⟩, ?_, fun j hj => ?_⟩
            · have q : ∀ i, i < 3 → up2 K 61 3 (io t + 1) (tq t + 2) i = J 31 i := fun i hi => by
                rw [show tq t + 2 = 37 + 3 * t by unfold tq; omega, up2_q (by omega), w1 _ (by omega)]; exact cB i hi
              exact ⟨e1.1, by rw [q 0 (by omega)]; exact e1.2.1, by rw [q 1 (by omega)]; exact e1.2.2.1, by rw [q 2 (by omega)]; exact e1.2.2.2⟩
            · rw [show tq t + 1 = 36 + 3 * t by unfold tq; omega, up2_q (by omega), w1 _ (by omega), cA j (by omega)]; exact e2 j hj
        · exact absurd rfl c_30
      · refine r_istore_n (ls' := [_, _]) (zt rfl) rfl ?_
        refine r_aload_n rfl ?_
        refine r_getA (q := 29) (by decide) rfl rfl (by decide) ?_
        refine r_iconst ?_
        refine r_putI rfl rfl (by decide) ?_
        refine r_iload_n rfl ?_
        refine r_iconst ?_
        refine r_icmp_eq (fun c_30 => ?_) (fun c_30 => ?_)
        · exact absurd c_30 (io_m1 tpb31)
        · refine r_bipush ?_
          refine r_iload_n rfl ?_
          refine r_isub ?_
          refine r_iret rfl trivial ?_
          have cI : ∀ p, ¬ (29 ≤ p ∧ p ≤ 31) → (up2 J 29 0 0) p = I p := fun p hp => by rw [up2_q (by omega), f1.1 p (by omega)]
          have c29 : (up2 J 29 0 0) 29 0 = 0 := up2_at
          generalize (up2 J 29 0 0) = C at cI c29 ⊢
          have s61 : C 61 = I 61 := cI 61 (by omega)
          have s64 : C 64 = I 64 := cI 64 (by omega)
          have gc : gT (C 64) tp = gT (I 32) tp := by rw [s64]; exact gT_c e64
          refine s_mtext (t := tc) (z := tp) (by omega) ht hp160 (by rw [s61]; exact R.mt) (by rw [s61]; exact R.mp) (by rw [s64]; exact bo) (fun K L2 w1 w2 w3 w4 w5 w6 => absurd (by rw [← gc]; exact w6) g) (fun K L2 w1 w2 w3 w4 w5 w6 => ?_)
          rw [gc, s64, tpl_c e64]
          refine hQ _ _ _ (R.txt (tc2 := tc) (fun p hp => ?_) ht (fun k hk => ?_) ?_ ?_ (fun t ht => ?_) (fun j hj => ?_) (fun k hk => ?_) ⟨?_, ?_, by omega, by omega⟩ (fun t h1 h2 => absurd h2 (by omega))).rel
          · rw [w1 p (by omega)]; exact cI p (by omega)
          · rw [w2 k (by omega), s61]
          · rw [w1 29 (by omega)]; exact c29
          · exact w3
          · rw [w4.2 t (by omega)]; exact congrFun (cI 63 (by omega)) t
          · rw [w5.2 j hj]; exact congrFun (cI 62 (by omega)) j
          · rw [w1 0 (by omega)]; exact congrFun (cI 0 (by omega)) k
          · rw [w1 0 (by omega), cI 0 (by omega)]; exact R.ct
          · rw [w2 3 (by omega), s61]; exact R.mt
    · have c_6 := (not_congr (n_lt (a := tc) (b := 6) rfl rfl (by omega) (by omega))).mp c_6
      omega
