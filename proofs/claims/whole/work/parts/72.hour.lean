/-! calls: hour -/

section
variable {n tc r tp : Nat} {I J K : Nat → Nat → Int32} {ru : Ru}
/-- a new table, all else as it was or scratch -/
theorem RX.tab (h : RX n tc r tp I) (a : RA n K) (f : ∀ p, ¬ ((13 ≤ p ∧ p ≤ 31) ∨ p = 61 ∨ (66 ≤ p ∧ p ≤ 75) ∨ p = 1 ∨ (3 ≤ p ∧ p ≤ 6)) → K p = I p) (f29 : K 29 0 = I 29 0) (f2 : K 1 2 = I 1 2) (f61 : ∀ k, ¬ ((13 ≤ k ∧ k ≤ 28) ∨ k = 36 ∨ k = 37 ∨ k = 7 ∨ k = 8) → K 61 k = I 61 k) : RX n tc r tp K := by
  refine ⟨a, h.2.1.g ?_ f2 ?_ ?_ ?_ ?_ (fun p h1 h2 => f p (by omega)), h.2.2.1.g f29 ?_ ?_ ?_, h.2.2.2.1.g ?_ ?_ (fun p h1 h2 => f p (by omega)) ?_ ?_ (fun k _ _ => f61 k (by omega)), h.2.2.2.2.g (fun p _ => f p (by omega))⟩
  any_goals exact f61 _ (by omega)
  any_goals exact f _ (by omega)
  any_goals exact congrFun (f _ (by omega)) _
theorem MC.g (h : MC n r ru I) (e1 : J 61 12 = I 61 12) (e2 : J 61 4 = I 61 4) (e3 : J 62 = I 62) (e4 : J 63 = I 63) : MC n r ru J := by
  obtain ⟨⟨h1, h2, h3, h4⟩, c, k1, k2⟩ := h
  exact ⟨⟨by rw [e1]; exact h1, h2, by rw [e2]; exact h3, h4⟩, c, mTx_s e3 e4 k1, k2⟩
theorem mP_g {v : Int32} (e1 : J 65 = I 65) (e2 : J 66 = I 66) : mP n v J = mP n v I := by
  unfold mP
  rw [e1, mNu_g e2, mTh_g e2, mPl_g e2]
end
/-- what one has had -/
def hdN (ru : Ru) (X : Pot) (f : Nat → Int32) (a : Nat) : Int32 := w3 (f a + shr ru X a) (-999999) 999999
theorem hd_lo : (-999999 : Int32).toInt = -999999 := by decide
theorem hd_hi : (999999 : Int32).toInt = 999999 := by decide
theorem hd_B {ru : Ru} {X : Pot} {f : Nat → Int32} {a : Nat} : hadB (hdN ru X f a) := by
  unfold hdN w3 hadB
  by_cases c1 : f a + shr ru X a < -999999
  · rw [if_pos c1, hd_lo]; exact ⟨by omega, by omega⟩
  · rw [if_neg c1]
    by_cases c2 : 999999 < f a + shr ru X a
    · rw [if_pos c2, hd_hi]; exact ⟨by omega, by omega⟩
    · rw [if_neg c2]
      rw [lt_int, hd_lo] at c1
      rw [lt_int, hd_hi] at c2
      exact ⟨by omega, by omega⟩
theorem c_within {v : Int32} : (if (-999999 : Int32) < (if v < 999999 then v else 999999) then (if v < 999999 then v else 999999) else -999999) = w3 v (-999999) 999999 := by
  unfold w3
  by_cases c1 : v < -999999
  · rw [if_pos c1]
    have c2 : v < 999999 := by rw [lt_int, hd_lo] at c1; rw [lt_int, hd_hi]; omega
    rw [if_pos c2, if_neg (by rw [lt_int, hd_lo]; rw [lt_int, hd_lo] at c1; omega)]
  · rw [if_neg c1]
    by_cases c2 : 999999 < v
    · have c3 : ¬ v < 999999 := by rw [lt_int, hd_hi]; rw [lt_int, hd_hi] at c2; omega
      rw [if_pos c2, if_neg c3, if_pos (by decide)]
    · rw [if_neg c2]
      by_cases c3 : v < 999999
      · rw [if_pos c3]
        by_cases c4 : (-999999 : Int32) < v
        · rw [if_pos c4]
        · rw [if_neg c4]; rw [lt_int, hd_lo] at c1 c4; exact (eq_int.mpr (by rw [hd_lo]; omega)).symm
      · rw [if_neg c3, if_pos (by decide)]; rw [lt_int, hd_hi] at c2 c3; exact (eq_int.mpr (by rw [hd_hi]; omega)).symm
theorem m_within {v : Int32} : (if (-999999 : Int32) ≤ v then (if v ≤ 999999 then v else 999999) else -999999) = w3 v (-999999) 999999 := by
  unfold w3
  by_cases c1 : v < -999999
  · rw [if_pos c1, if_neg (by rw [le_int, hd_lo]; rw [lt_int, hd_lo] at c1; omega)]
  · rw [if_neg c1, if_pos (by rw [le_int, hd_lo]; rw [lt_int, hd_lo] at c1; omega)]
    by_cases c2 : 999999 < v
    · rw [if_pos c2, if_neg (by rw [le_int, hd_hi]; rw [lt_int, hd_hi] at c2; omega)]
    · rw [if_neg c2, if_pos (by rw [le_int, hd_hi]; rw [lt_int, hd_hi] at c2; omega)]

set_option maxRecDepth 10000 in
theorem tz_hour {xs : xSc} {m : Nat} {I : Nat → Nat → Int32} {L : Nat → Nat → Int64} {Q : Value → Value → xHp → Prop} (hm : 90 ≤ m) (hR : Rel I) (hQ : ∀ (x : Int32) J L2, Rel J → Q (.int x) (.int x) (Hp J L2)) : M xs m xi_X6_hour [.ref 0] (Hp I L) (fun r1 h1 => M xs m xi_X7_hour [.ref 61] h1 (fun r2 h2 => Q r1 r2 h2)) := by
  obtain ⟨m, rfl⟩ : ∃ k, m = k + 6 := ⟨m - 6, by omega⟩
  obtain ⟨n, tc, r, tp, R⟩ := hR
  have h5 := R.n5
  have hr6 := R.r6
  have ht6 := R.t6
  have hrt := R.rt
  have hp160 := R.2.2.1.1.1
  obtain ⟨ru, hl⟩ := R.rl
  obtain ⟨h, hh, eh⟩ := R.1.2.2.1.2
  have eo := R.mo.trans eh
  by_cases h9 : h = 999
  · subst h9
    refine M_go (ls := [_, _]) (ml := 2) rfl rfl rfl (zl rfl) rfl ?_
    refine r_aload_n rfl ?_
    refine r_getA (q := 1) (by decide) rfl rfl (by decide) ?_
    refine r_getI (by decide) rfl rfl (by decide) eh ?_
    refine r_sipush ?_
    refine r_icmp_lt (fun c_10 => ?_) (fun c_10 => ?_)
    · have c_10 := (n_lt (a := 999) (b := 999) rfl rfl (by omega) (by omega)).mp c_10
      omega
    · have c_10 := (not_congr (n_lt (a := 999) (b := 999) rfl rfl (by omega) (by omega))).mp c_10
      refine r_ldc rfl ?_
      refine r_iret rfl trivial ?_
      refine M_go (ls := [_, _, _]) (ml := 3) rfl rfl rfl (zl rfl) rfl ?_
      refine r_aload_n rfl ?_
      refine r_getI (by decide) rfl rfl (by decide) eo ?_
      refine r_sipush ?_
      refine r_icmp_ne (fun c_7 => ?_) (fun c_7 => ?_)
      · have c_7 := (not_congr (n_eq (a := 999) (b := 999) rfl rfl (by omega) (by omega))).mp c_7
        omega
      · have c_7 := (n_eq (a := 999) (b := 999) rfl rfl (by omega) (by omega)).mp c_7
        refine r_ldc rfl ?_
        refine r_iret rfl trivial ?_
        exact hQ _ _ _ R.rel
  · have h98 : h < 999 := by omega
    refine M_go (ls := [_, _]) (ml := 2) rfl rfl rfl (zl rfl) rfl ?_
    refine r_aload_n rfl ?_
    refine r_getA (q := 1) (by decide) rfl rfl (by decide) ?_
    refine r_getI (by decide) rfl rfl (by decide) eh ?_
    refine r_sipush ?_
    refine r_icmp_lt (fun c_10 => ?_) (fun c_10 => ?_)
    · have c_10 := (n_lt (a := h) (b := 999) rfl rfl (by omega) (by omega)).mp c_10
      refine E_go 1 rfl ?_
      refine r_aload_n rfl ?_
      refine r_aload_n rfl ?_
      refine r_getA (q := 1) (by decide) rfl rfl (by decide) ?_
      refine r_virtual (vs := []) (as := [_]) (by decide) (zl rfl) rfl rfl (zl rfl) (Nat.le_refl _) (Or.inr (Or.inr ⟨zt rfl, rfl, zt rfl⟩)) ?_
      refine w_think (by omega) (R.c hl) (fun J1 k1 k2 => ?_)
      refine r_iconst ?_
      refine r_istore_n (ls' := [_, _]) (zt rfl) rfl ?_
      refine r_nil ?_
      have fin : ∀ J : Nat → Nat → Int32, ((∀ p, ¬ ((19 ≤ p ∧ p ≤ 28) ∨ p = 1 ∨ p = 4 ∨ p = 6) → J p = I p) ∧ (∀ b, b < n → J 6 b = hdN ru (pX n I) (I 6) b ∧ J 4 b = (hrs ru (pX n I) 6).2.1 b) ∧ (J 1 0 = (hrs ru (pX n I) 6).1 ∧ J 1 1 = io h + 1) ∧ J 1 3 = io n ∧ J 1 2 = I 1 2) → M xs (m + 6) xi_X7_hour [.ref 61] (Hp J L) (fun r2 h2 => Q (.int (alr ru (pX n I))) r2 h2) := by
        intro J hJ
        have s61 : J 61 = I 61 := hJ.1 61 (by omega)
        have e61a : J 61 12 = I 61 12 := congrFun s61 12
        have e61b : J 61 4 = I 61 4 := congrFun s61 4
        have e62 : ∀ p, 62 ≤ p → J p = I p := fun p hp => hJ.1 p (by omega)
        refine M_go (ls := [_, _, _]) (ml := 3) rfl rfl rfl (zl rfl) rfl ?_
        refine r_aload_n rfl ?_
        refine r_getI (by decide) rfl rfl (by decide) ((congrFun s61 8).trans eo) ?_
        refine r_sipush ?_
        refine r_icmp_ne (fun c_7 => ?_) (fun c_7 => ?_)
        · have c_7 := (not_congr (n_eq (a := h) (b := 999) rfl rfl (by omega) (by omega))).mp c_7
          refine E_go 1 rfl ?_
          refine r_aload_n rfl ?_
          refine r_aload_n rfl ?_
          refine r_getI (by decide) rfl rfl (by decide) rfl ?_
          refine r_virtual (vs := []) (as := [_]) (by decide) (zl rfl) rfl rfl (zl rfl) (Nat.le_refl _) (Or.inr (Or.inr ⟨zt rfl, rfl, zt rfl⟩)) ?_
          refine s_allOf (X := pX n I) (by omega) ((R.m hl).g e61a e61b (e62 62 (by omega)) (e62 63 (by omega))) (by rw [mP_g (e62 65 (by omega)) (e62 66 (by omega)), s61]; exact R.pM) R.okX (fun K1 L3 g1 g2 => ?_)
          refine r_istore_n (ls' := [_, _, _]) (zt rfl) rfl ?_
          refine r_iconst ?_
          refine r_istore_n (ls' := [_, _, _]) (zt rfl) rfl ?_
          refine r_nil ?_
          have hn : K1 61 12 = io n := by rw [g1.2 12 (by omega), s61]; exact R.mn
          have h8 : K1 61 8 = io h := by rw [g1.2 8 (by omega), s61]; exact eo
          have b67 : ∀ b, b < n → K1 67 b = I 6 b := fun b hb => by rw [g1.1 67 (by omega), e62 67 (by omega)]; exact R.hd hb
          have fin : ∀ (K : Nat → Nat → Int32) L2, ((∀ p, ¬ (p = 66 ∨ p = 67) → K p = K1 p) ∧ (∀ b, b < n → K 67 b = hdN ru (pX n I) (I 6) b ∧ K 66 (3 * b + 1) = (hrs ru (pX n I) 6).2.1 b) ∧ (∀ j, (∀ b, b < n → ¬ j = 3 * b + 1) → K 66 j = K1 66 j) ∧ ∀ b, ¬ b < n → K 67 b = K1 67 b) → Q (.int (alr ru (pX n I))) (.int (alr ru (pX n I))) (Hp (up2 (up2 K 61 7 (K 61 28)) 61 8 (io h + 1)) L2) := by
            intro K L2 hK
            refine hQ _ _ _ (R.tab ⟨⟨h5, ?_, ?_⟩, ⟨?_, ?_⟩, ⟨?_, ?_⟩, fun a ha => ?_⟩ (fun p hp => ?_) ?_ ?_ (fun k hk => ?_)).rel
            · show K 1 3 = _; rw [hK.1 1 (by omega), g1.1 1 (by omega)]; exact hJ.2.2.2.1
            · show K 61 12 = _; rw [hK.1 61 (by omega)]; exact hn
            · show K 61 28 = K 1 0; rw [hK.1 61 (by omega), hK.1 1 (by omega), g1.1 1 (by omega), g2.1.1]; exact hJ.2.2.1.1.symm
            · show isN 100 (K 1 0); rw [hK.1 1 (by omega), g1.1 1 (by omega), hJ.2.2.1.1]; exact (hrs_ok R.okX 6).1
            · show io h + 1 = K 1 1; rw [hK.1 1 (by omega), g1.1 1 (by omega)]; exact hJ.2.2.1.2.symm
            · show isN 1000 (K 1 1); rw [hK.1 1 (by omega), g1.1 1 (by omega), hJ.2.2.1.2]; exact ⟨h + 1, by omega, io_succ h⟩
            · have e66 : ∀ j, (∀ b, b < n → ¬ j = 3 * b + 1) → K 66 j = I 66 j := fun j hj => by rw [hK.2.2.1 j hj, g1.1 66 (by omega), e62 66 (by omega)]
              obtain ⟨i1, i2, i3, i4, i5⟩ := R.1.2.2.2 a ha
              have k6 : ∀ p, p = 2 ∨ p = 3 ∨ p = 5 → K p = I p := fun p hp => by rw [hK.1 p (by omega), g1.1 p (by omega)]; exact hJ.1 p (by omega)
              have q4 : K 4 a = (hrs ru (pX n I) 6).2.1 a := by rw [hK.1 4 (by omega), g1.1 4 (by omega)]; exact (hJ.2.1 a ha).2
              have q6 : K 6 a = hdN ru (pX n I) (I 6) a := by rw [hK.1 6 (by omega), g1.1 6 (by omega)]; exact (hJ.2.1 a ha).1
              refine ⟨?_, ?_, ?_, ?_, ?_⟩
              · show K 65 a = K 2 a ∧ isN 6 (K 2 a); rw [hK.1 65 (by omega), g1.1 65 (by omega), e62 65 (by omega), k6 2 (by omega)]; exact i1
              · show K 66 (3 * a) = K 3 a ∧ isN 10 (K 3 a); rw [e66 _ (fun b hb => by omega), k6 3 (by omega)]; exact i2
              · show K 66 (3 * a + 1) = K 4 a ∧ isN 100 (K 4 a); rw [(hK.2.1 a ha).2, q4]; exact ⟨rfl, (hrs_ok R.okX 6).2 a ha⟩
              · show K 66 (3 * a + 2) = K 5 a ∧ isN 64 (K 5 a); rw [e66 _ (fun b hb => by omega), k6 5 (by omega)]; exact i4
              · show K 67 a = K 6 a ∧ hadB (K 6 a); rw [(hK.2.1 a ha).1, q6]; exact ⟨rfl, hd_B⟩
            · rw [up2_q (by omega), up2_q (by omega), hK.1 p (by omega), g1.1 p (by omega)]; exact hJ.1 p (by omega)
            · show K 29 0 = _; rw [hK.1 29 (by omega), g1.1 29 (by omega)]; exact congrFun (hJ.1 29 (by omega)) 0
            · show K 1 2 = _; rw [hK.1 1 (by omega), g1.1 1 (by omega)]; exact hJ.2.2.2.2
            · rw [up2_k (by omega), up2_k (by omega), hK.1 61 (by omega), g1.2 k (by omega), s61]
          have key : ∀ d a, a + d = n → ∀ (K : Nat → Nat → Int32) L2, ((∀ p, ¬ (p = 66 ∨ p = 67) → K p = K1 p) ∧ (∀ b, b < a → K 67 b = hdN ru (pX n I) (I 6) b ∧ K 66 (3 * b + 1) = (hrs ru (pX n I) 6).2.1 b) ∧ (∀ j, (∀ b, b < a → ¬ j = 3 * b + 1) → K 66 j = K1 66 j) ∧ ∀ b, ¬ b < a → K 67 b = K1 67 b) → E xs (m + 5) xi_X7_hour 82 (fun r2 h2 => Q (.int (alr ru (pX n I))) r2 h2) 24 [.ref 61, .int (alr ru (pX n I)), .int (io a)] [] (82, K, L2, xF0) := by
            intro d
            induction d using Nat.strongRecOn with
            | _ d ih =>
            intro a hd K L2 hK
            refine E_go 2 rfl ?_
            refine r_iload_n rfl ?_
            refine r_aload_n rfl ?_
            refine r_getI (by decide) rfl rfl (by decide) ((congrFun (hK.1 61 (by omega)) 12).trans hn) ?_
            refine r_icmp_ge (fun c_29 => ?_) (fun c_29 => ?_)
            · have c_29 := (n_le (a := n) (b := a) rfl rfl (by omega) (by omega)).mp c_29
              refine E_go 3 rfl ?_
              refine r_aload_n rfl ?_
              refine r_aload_n rfl ?_
              refine r_getI (by decide) rfl rfl (by decide) rfl ?_
              refine r_putI rfl rfl (by decide) ?_
              refine r_aload_n rfl ?_
              refine r_dup rfl ?_
              refine r_getI (by decide) rfl rfl (by decide) ((congrFun (hK.1 61 (by omega)) 8).trans h8) ?_
              refine r_iconst ?_
              refine r_iadd ?_
              refine r_putI rfl rfl (by decide) ?_
              refine r_iload_n rfl ?_
              refine r_iret rfl trivial ?_
              have ea : n = a := by omega
              subst ea
              exact fin K _ hK
            · have c_29 := (not_congr (n_le (a := n) (b := a) rfl rfl (by omega) (by omega))).mp c_29
              refine r_aload_n rfl ?_
              refine r_getA (q := 67) (by decide) rfl rfl (by decide) ?_
              refine r_iload_n rfl ?_
              refine r_aload_n rfl ?_
              refine r_getA (q := 67) (by decide) rfl rfl (by decide) ?_
              refine r_iload_n rfl ?_
              refine r_iaload (by decide) rfl (by decide) (ixE rfl (show a < 5 by omega) (by decide)) ((hK.2.2.2 a (by omega)).trans (b67 a (by omega))) ?_
              refine r_aload_n rfl ?_
              refine r_getA (q := 70) (by decide) rfl rfl (by decide) ?_
              refine r_iload_n rfl ?_
              refine r_iaload (by decide) rfl (by decide) (ixE rfl (show a < 5 by omega) (by decide)) ((congrFun (hK.1 70 (by omega)) a).trans (mD_j g2 (by omega))) ?_
              refine r_iadd ?_
              refine r_ldc_w ?_
              refine r_ldc_w ?_
              refine r_static (vs := [_, _, _]) (by decide) (zl rfl) rfl rfl (zl rfl) (Nat.le_refl _) rfl ?_
              refine s_X7_within (by omega) ?_
              rw [m_within]
              refine r_iastore rfl (by decide) (ixE rfl (show a < 5 by omega) (by decide)) ?_
              refine r_aload_n rfl ?_
              refine r_getA (q := 66) (by decide) rfl rfl (by decide) ?_
              refine r_iconst ?_
              refine r_iload_n rfl ?_
              refine r_imul ?_
              refine r_iconst ?_
              refine r_iadd ?_
              refine r_aload_n rfl ?_
              refine r_getA (q := 68) (by decide) rfl rfl (by decide) ?_
              refine r_iload_n rfl ?_
              refine r_iaload (by decide) rfl (by decide) (ixE rfl (show a < 5 by omega) (by decide)) ((congrFun (hK.1 68 (by omega)) a).trans (g2.1.2.1 a (by omega))) ?_
              refine r_iastore rfl (by decide) (ixE (n_add (a := (3 * a)) (b := 1) (n_mul (a := 3) (b := a) rfl rfl) rfl) (show ((3 * a) + 1) < 15 by omega) (by decide)) ?_
              refine r_iincN (y := io (a + 1)) (ls' := [_, _, _]) rfl (zt rfl) (n_add (a := a) (b := 1) rfl rfl) rfl ?_
              refine r_goto ?_
              refine ih (d - 1) (by omega) (a + 1) (by omega) _ _ ⟨fun p hp => by rw [up2_q (by omega), up2_q (by omega)]; exact hK.1 p hp, all_succ (fun b hb => ?_) ?_, fun j hj => ?_, fun b hb => ?_⟩
              · rw [up2_q (by omega), up2_k (by omega), up2_k (by omega), up2_q (by omega)]; exact hK.2.1 b hb
              · rw [up2_q (by omega), up2_at, up2_at]; exact ⟨rfl, rfl⟩
              · rw [up2_k (hj a (by omega)), up2_q (by omega)]; exact hK.2.2.1 j (fun b hb => hj b (by omega))
              · rw [up2_q (by omega), up2_k (by omega)]; exact hK.2.2.2 b (by omega)
          exact key n 0 (by omega) K1 _ ⟨fun _ _ => rfl, fun b hb => absurd hb (by omega), fun _ _ => rfl, fun _ _ => rfl⟩
        · have c_7 := (n_eq (a := h) (b := 999) rfl rfl (by omega) (by omega)).mp c_7
          omega
      have key : ∀ d a, a + d = n → ∀ J : Nat → Nat → Int32, ((∀ p, ¬ (p = 4 ∨ p = 6) → J p = J1 p) ∧ (∀ b, b < a → J 6 b = hdN ru (pX n I) (I 6) b ∧ J 4 b = (hrs ru (pX n I) 6).2.1 b) ∧ ∀ b, ¬ b < a → J 6 b = I 6 b) → E xs (m + 5) xi_X6_hour 82 (fun r1 h1 => M xs (m + 6) xi_X7_hour [.ref 61] h1 (fun r2 h2 => Q r1 r2 h2)) 26 [.ref 0, .int (io a)] [] (82, J, L, xF0) := by
        intro d
        induction d using Nat.strongRecOn with
        | _ d ih =>
        intro a hd J hJ
        refine E_go 2 rfl ?_
        refine r_iload_n rfl ?_
        refine r_aload_n rfl ?_
        refine r_getA (q := 1) (by decide) rfl rfl (by decide) ?_
        refine r_getI (by decide) rfl rfl (by decide) (((congrFun (hJ.1 1 (by omega)) 3).trans (congrFun (k1 1 (by omega)) 3)).trans R.cn) ?_
        refine r_icmp_ge (fun c_34 => ?_) (fun c_34 => ?_)
        · have c_34 := (n_le (a := n) (b := a) rfl rfl (by omega) (by omega)).mp c_34
          refine E_go 3 rfl ?_
          have ea : n = a := by omega
          subst ea
          refine r_aload_n rfl ?_
          refine r_getA (q := 1) (by decide) rfl rfl (by decide) ?_
          refine r_aload_n rfl ?_
          refine r_getA (q := 19) (by decide) rfl rfl (by decide) ?_
          refine r_getI (by decide) rfl rfl (by decide) ((congrFun (hJ.1 19 (by omega)) 0).trans k2.1.1) ?_
          refine r_putI rfl rfl (by decide) ?_
          refine r_aload_n rfl ?_
          refine r_getA (q := 1) (by decide) rfl rfl (by decide) ?_
          refine r_dup rfl ?_
          refine r_getI (by decide) rfl rfl (by decide) (((congrFun (hJ.1 1 (by omega)) 1).trans (congrFun (k1 1 (by omega)) 1)).trans eh) ?_
          refine r_iconst ?_
          refine r_iadd ?_
          refine r_putI rfl rfl (by decide) ?_
          refine r_aload_n rfl ?_
          refine r_getA (q := 19) (by decide) rfl rfl (by decide) ?_
          refine r_virtual (vs := []) (as := []) (by decide) (zl rfl) rfl rfl (zl rfl) (Nat.le_refl _) (Or.inr (Or.inr ⟨zt rfl, rfl, zt rfl⟩)) ?_
          refine s_joyOfAll (by omega) (n := n) ?_ h5 ?_
          · show J 19 8 = _; rw [hJ.1 19 (by omega)]; exact k2.1.2.1
          have ej : sm (up2 (up2 J 1 0 (hrs ru (pX n I) 6).1) 1 1 (io h + 1) 22) n = alr ru (pX n I) := (sm_c fun a ha => by rw [up2_q (by omega), up2_q (by omega), hJ.1 22 (by omega)]).trans (hD_s k2 rfl)
          skip
          rw [ej]
          refine r_iret rfl trivial ?_
          exact fin _ ⟨fun p hp => by rw [up2_q (by omega), up2_q (by omega), hJ.1 p (by omega)]; exact k1 p (by omega), fun b hb => by rw [up2_q (by omega), up2_q (by omega), up2_q (by omega), up2_q (by omega)]; exact hJ.2.1 b hb, ⟨rfl, rfl⟩, ((congrFun (hJ.1 1 (by omega)) 3).trans (congrFun (k1 1 (by omega)) 3)).trans R.cn, (congrFun (hJ.1 1 (by omega)) 2).trans (congrFun (k1 1 (by omega)) 2)⟩
        · have c_34 := (not_congr (n_le (a := n) (b := a) rfl rfl (by omega) (by omega))).mp c_34
          refine r_aload_n rfl ?_
          refine r_getA (q := 1) (by decide) rfl rfl (by decide) ?_
          refine r_getA (q := 6) (by decide) rfl rfl (by decide) ?_
          refine r_iload_n rfl ?_
          refine r_aload_n rfl ?_
          refine r_getA (q := 1) (by decide) rfl rfl (by decide) ?_
          refine r_getA (q := 6) (by decide) rfl rfl (by decide) ?_
          refine r_iload_n rfl ?_
          refine r_iaload (by decide) rfl (by decide) (ixE rfl (show a < 5 by omega) (by decide)) (hJ.2.2 a (by omega)) ?_
          refine r_aload_n rfl ?_
          refine r_getA (q := 19) (by decide) rfl rfl (by decide) ?_
          refine r_getA (q := 22) (by decide) rfl rfl (by decide) ?_
          refine r_iload_n rfl ?_
          refine r_iaload (by decide) rfl (by decide) (ixE rfl (show a < 5 by omega) (by decide)) ((congrFun (hJ.1 22 (by omega)) a).trans (hD_j k2 (by omega))) ?_
          refine r_iadd ?_
          refine r_ldc rfl ?_
          refine r_ldc rfl ?_
          refine r_static (vs := [_, _, _]) (by decide) (zl rfl) rfl rfl (zl rfl) (Nat.le_refl _) rfl ?_
          refine s_X6_within (by omega) ?_
          rw [c_within]
          refine r_iastore rfl (by decide) (ixE rfl (show a < 5 by omega) (by decide)) ?_
          refine r_aload_n rfl ?_
          refine r_getA (q := 1) (by decide) rfl rfl (by decide) ?_
          refine r_getA (q := 4) (by decide) rfl rfl (by decide) ?_
          refine r_iload_n rfl ?_
          refine r_aload_n rfl ?_
          refine r_getA (q := 19) (by decide) rfl rfl (by decide) ?_
          refine r_getA (q := 20) (by decide) rfl rfl (by decide) ?_
          refine r_iload_n rfl ?_
          refine r_iaload (by decide) rfl (by decide) (ixE rfl (show a < 5 by omega) (by decide)) ((congrFun (hJ.1 20 (by omega)) a).trans (k2.1.2.2.1 a (by omega))) ?_
          refine r_iastore rfl (by decide) (ixE rfl (show a < 5 by omega) (by decide)) ?_
          refine r_iincN (y := io (a + 1)) (ls' := [_, _]) rfl (zt rfl) (n_add (a := a) (b := 1) rfl rfl) rfl ?_
          refine r_goto ?_
          refine ih (d - 1) (by omega) (a + 1) (by omega) _ ⟨fun p hp => by rw [up2_q (by omega), up2_q (by omega)]; exact hJ.1 p hp, all_succ (fun b hb => ?_) ?_, fun b hb => ?_⟩
          · rw [up2_q (by omega), up2_k (by omega), up2_k (by omega), up2_q (by omega)]; exact hJ.2.1 b hb
          · rw [up2_q (by omega), up2_at, up2_at]; exact ⟨rfl, rfl⟩
          · rw [up2_q (by omega), up2_k (by omega)]; exact hJ.2.2 b (by omega)
      exact key n 0 (by omega) J1 ⟨fun _ _ => rfl, fun b hb => absurd hb (by omega), fun b _ => congrFun (k1 6 (by omega)) b⟩
    · have c_10 := (not_congr (n_lt (a := h) (b := 999) rfl rfl (by omega) (by omega))).mp c_10
      omega
