/-! calls: settle -/

/-- one's plan, once settled -/
def sto (ru : Ru) (X : Pot) (a : Nat) : Pot := if shr ru X a < (bst (shv ru X a) 63).2 then wP X a (io (bst (shv ru X a) 63).1) else X
def stl (ru : Ru) (X : Pot) : Nat → Pot
  | 0 => X
  | a + 1 => sto ru (stl ru X a) a
def stc (ru : Ru) (X : Pot) : Nat → Nat
  | 0 => 0
  | a + 1 => if shr ru (stl ru X a) a < (bst (shv ru (stl ru X a) a) 63).2 then stc ru X a + 1 else stc ru X a
theorem sto_y {ru : Ru} {X : Pot} {a : Nat} (h : shr ru X a < (bst (shv ru X a) 63).2) : sto ru X a = wP X a (io (bst (shv ru X a) 63).1) := if_pos h
theorem sto_n {ru : Ru} {X : Pot} {a : Nat} (h : ¬ shr ru X a < (bst (shv ru X a) 63).2) : sto ru X a = X := if_neg h
theorem stc_y {ru : Ru} {X : Pot} {a : Nat} (h : shr ru (stl ru X a) a < (bst (shv ru (stl ru X a) a) 63).2) : stc ru X (a + 1) = stc ru X a + 1 := if_pos h
theorem stc_n {ru : Ru} {X : Pot} {a : Nat} (h : ¬ shr ru (stl ru X a) a < (bst (shv ru (stl ru X a) a) 63).2) : stc ru X (a + 1) = stc ru X a := if_neg h
theorem stc_le {ru : Ru} {X : Pot} : ∀ a, stc ru X a ≤ a
  | 0 => Nat.le_refl _
  | a + 1 => by
    rw [stc]
    have := @stc_le ru X a
    split
    · omega
    · omega
theorem stl_ok {ru : Ru} {X : Pot} (h : okX X) : ∀ a, okX (stl ru X a)
  | 0 => h
  | a + 1 => by
    rw [stl, sto]
    split
    · exact wP_ok (stl_ok h a)
    · exact stl_ok h a
theorem stl_n {ru : Ru} {X : Pot} : ∀ a, (stl ru X a).2.1 = X.2.1
  | 0 => rfl
  | a + 1 => by
    rw [stl, sto]
    split
    · exact stl_n a
    · exact stl_n a
theorem stl_pl {ru : Ru} {X : Pot} (h : ∀ b, b < X.2.1 → isN 64 (X.2.2.2.2.2 b)) : ∀ a b, b < X.2.1 → isN 64 ((stl ru X a).2.2.2.2.2 b)
  | 0, b, hb => h b hb
  | a + 1, b, hb => by
    rw [stl, sto]
    split
    · show isN 64 (u1 _ a _ b)
      by_cases c : b = a
      · subst c
        rw [u1_eq]
        exact ⟨_, Nat.lt_succ_of_le (bst_le _ 63), rfl⟩
      · rw [u1_ne c]; exact stl_pl h a b hb
    · exact stl_pl h a b hb
def f5 (I J : Nat → Nat → Int32) : Prop := (∀ p, ¬ ((13 ≤ p ∧ p ≤ 31) ∨ p = 61 ∨ (68 ≤ p ∧ p ≤ 75) ∨ p = 5) → J p = I p) ∧ J 29 0 = I 29 0 ∧ ∀ k, ¬ ((13 ≤ k ∧ k ≤ 28) ∨ k = 36 ∨ k = 37) → J 61 k = I 61 k
theorem f5.refl {I : Nat → Nat → Int32} : f5 I I := ⟨fun _ _ => rfl, rfl, fun _ _ => rfl⟩
theorem f5.g {I J K : Nat → Nat → Int32} (h : f5 I J) (g : fS J K) : f5 I K :=
  ⟨fun p hp => by rw [g.1 p (by omega)]; exact h.1 p hp, by rw [g.2.1]; exact h.2.1, fun k hk => by rw [g.2.2 k hk]; exact h.2.2 k hk⟩
theorem f5.up {k : Nat} {v : Int32} {I J : Nat → Nat → Int32} (h : f5 I J) : f5 I (up2 J 5 k v) :=
  ⟨fun p hp => by rw [up2_q (by omega)]; exact h.1 p hp, by rw [up2_q (by omega)]; exact h.2.1, fun j hj => by rw [up2_q (by omega)]; exact h.2.2 j hj⟩
theorem CC.w5 {n r : Nat} {ru : Ru} {I J : Nat → Nat → Int32} (h : CC n r ru I) (f : f5 I J) : CC n r ru J := by
  obtain ⟨⟨h1, h2, h3, h4⟩, c, k1, k2⟩ := h
  have := tq_b h4
  exact ⟨⟨by rw [f.1 1 (by omega)]; exact h1, h2, by rw [f.1 1 (by omega)]; exact h3, h4⟩, c, cTx_s (f.1 _ (by omega)) (f.1 _ (by omega)) k1, k2⟩
theorem pX_5 {n a : Nat} {v : Int32} {I : Nat → Nat → Int32} : pX n (up2 I 5 a v) = wP (pX n I) a v := by
  show (up2 I 5 a v 1 0, n, up2 I 5 a v 2, up2 I 5 a v 3, up2 I 5 a v 4, up2 I 5 a v 5) = (I 1 0, n, I 2, I 3, I 4, u1 (I 5) a v)
  rw [up2_q (by omega), up2_q (by omega), up2_q (by omega), up2_q (by omega), up2_p]
theorem pEq.p5 {n a : Nat} {v : Int32} {I : Nat → Nat → Int32} {Y : Pot} (h : pEq (pX n I) Y) : pEq (pX n (up2 I 5 a v)) (wP Y a v) := by
  rw [pX_5]
  exact wP_c h a v

set_option maxRecDepth 10000 in
theorem s_csettle {xs : xSc} {m : Nat} {I : Nat → Nat → Int32} {L : Nat → Nat → Int64} {Q : Value → xHp → Prop} (hm : 9 ≤ m) {n r : Nat} {ru : Ru} (h : CC n r ru I) (hQ : ∀ J, f5 I J → pEq (pX n J) (stl ru (pX n I) n) → Q (.int (io (stc ru (pX n I) n))) (Hp J L)) : M xs m xi_X6_settle [.ref 0] (Hp I L) Q := by
  obtain ⟨m, rfl⟩ : ∃ k, m = k + 1 := ⟨m - 1, by omega⟩
  have h5 := h.1.2.1
  have key : ∀ d a, a + d = n → ∀ (J : Nat → Nat → Int32) c, c = stc ru (pX n I) a → (f5 I J ∧ pEq (pX n J) (stl ru (pX n I) a)) → ∀ x3, E xs m xi_X6_settle 82 Q 4 [.ref 0, .int (io c), .int (io a), x3] [] (82, J, L, xF0) := by
    intro d
    induction d using Nat.strongRecOn with
    | _ d ih =>
    intro a hd J c hc hJ x3
    have hc5 : c ≤ a := by rw [hc]; exact stc_le a
    refine E_go 1 rfl ?_
    refine r_iload_n rfl ?_
    refine r_aload_n rfl ?_
    refine r_getA (q := 1) (by decide) rfl rfl (by decide) ?_
    refine r_getI (by decide) rfl rfl (by decide) ((congrFun (hJ.1.1 1 (by omega)) 3).trans h.1.1) ?_
    refine r_icmp_ge (fun c_12 => ?_) (fun c_12 => ?_)
    · have c_12 := (n_le (a := n) (b := a) rfl rfl (by omega) (by omega)).mp c_12
      refine E_go 3 rfl ?_
      refine r_iload_n rfl ?_
      refine r_iret rfl trivial ?_
      have ea : n = a := by omega
      subst ea
      rw [hc]
      exact hQ _ hJ.1 hJ.2
    · have c_12 := (not_congr (n_le (a := n) (b := a) rfl rfl (by omega) (by omega))).mp c_12
      refine r_aload_n rfl ?_
      refine r_iload_n rfl ?_
      refine r_virtual (vs := []) (as := [_]) (by decide) (zl rfl) rfl rfl (zl rfl) (Nat.le_refl _) (Or.inr (Or.inr ⟨zt rfl, rfl, zt rfl⟩)) ?_
      have ha : a < n := by omega
      refine s_bestPlan (by omega) ha ((h.w5 hJ.1)) (fun J1 q1 => ?_)
      rw [shv_c hJ.2 a]
      have g1 := hJ.1.g q1
      have e1 : pEq (pX n J1) (stl ru (pX n I) a) := by rw [q1.pe]; exact hJ.2
      refine r_istore_n (ls' := [_, _, _, _]) (zt rfl) rfl ?_
      refine r_aload_n rfl ?_
      refine r_iload_n rfl ?_
      refine r_iload_n rfl ?_
      refine r_virtual (vs := []) (as := [_, _]) (by decide) (zl rfl) rfl rfl (zl rfl) (Nat.le_refl _) (Or.inr (Or.inr ⟨zt rfl, rfl, zt rfl⟩)) ?_
      refine s_wouldRather (by omega) ha (h.w5 g1) (fun J2 q2 => ?_)
      rw [shr_c e1, shr_c (wP_c e1 a _), show shr ru (wP (stl ru (pX n I) a) a (io (bst (shv ru (stl ru (pX n I) a) a) 63).1)) a = (bst (shv ru (stl ru (pX n I) a) a) 63).2 from (bst_2 (shv ru (stl ru (pX n I) a) a) 63).symm]
      have g2 := g1.g q2
      have e2 : pEq (pX n J2) (stl ru (pX n I) a) := by rw [q2.pe]; exact e1
      refine r_if_eq (fun c_27 => ?_) (fun c_27 => ?_)
      · refine E_go 2 rfl ?_
        refine r_iincN (y := io (a + 1)) (ls' := [_, _, _, _]) rfl (zt rfl) (n_add (a := a) (b := 1) rfl rfl) rfl ?_
        refine r_goto ?_
        exact ih (d - 1) (by omega) (a + 1) (by omega) _ _ (by rw [stc_n (b01.mp c_27), hc]) ⟨g2, by rw [stl, sto_n (b01.mp c_27)]; exact e2⟩ _
      · refine r_aload_n rfl ?_
        refine r_getA (q := 1) (by decide) rfl rfl (by decide) ?_
        refine r_getA (q := 5) (by decide) rfl rfl (by decide) ?_
        refine r_iload_n rfl ?_
        refine r_iload_n rfl ?_
        refine r_iastore rfl (by decide) (ixE rfl (show a < 5 by omega) (by decide)) ?_
        refine r_iincN (y := io (c + 1)) (ls' := [_, _, _, _]) rfl (zt rfl) (n_add (a := c) (b := 1) rfl rfl) rfl ?_
        refine r_nil ?_
        refine E_go 2 rfl ?_
        refine r_iincN (y := io (a + 1)) (ls' := [_, _, _, _]) rfl (zt rfl) (n_add (a := a) (b := 1) rfl rfl) rfl ?_
        refine r_goto ?_
        exact ih (d - 1) (by omega) (a + 1) (by omega) _ _ (by rw [stc_y (b01n.mp c_27), hc]) ⟨g2.up, by rw [stl, sto_y (b01n.mp c_27)]; exact e2.p5⟩ _
  refine M_go (ls := [_, _, _, _]) (ml := 4) rfl rfl rfl (zl rfl) rfl ?_
  refine r_iconst ?_
  refine r_istore_n (ls' := [_, _, _, _]) (zt rfl) rfl ?_
  refine r_iconst ?_
  refine r_istore_n (ls' := [_, _, _, _]) (zt rfl) rfl ?_
  refine r_nil ?_
  exact key n 0 (by omega) I 0 rfl ⟨f5.refl, pEq.refl⟩ _

set_option maxRecDepth 10000 in
theorem s_msettle {xs : xSc} {m : Nat} {I : Nat → Nat → Int32} {L : Nat → Nat → Int64} {Q : Value → xHp → Prop} (hm : 67 ≤ m) {n r : Nat} {ru : Ru} {X : Pot} (h : MC n r ru I) (hX : pEq (mP n (I 61 7) I) X) (ho : okX X) (hQ : ∀ J L2, f6 I J → pEq (mP n (J 61 7) J) (stl ru X n) → (∀ j, (∀ b, b < n → ¬ j = 3 * b + 2) → J 66 j = I 66 j) → Q (.int (io (stc ru X n))) (Hp J L2)) : M xs m xi_X7_settle [.ref 61] (Hp I L) Q := by
  obtain ⟨m, rfl⟩ : ∃ k, m = k + 1 := ⟨m - 1, by omega⟩
  have h5 := h.1.2.1
  have key : ∀ d a, a + d = n → ∀ (J : Nat → Nat → Int32) L2 c, c = stc ru X a → (f6 I J ∧ pEq (mP n (J 61 7) J) (stl ru X a) ∧ ∀ j, (∀ b, b < n → ¬ j = 3 * b + 2) → J 66 j = I 66 j) → E xs m xi_X7_settle 82 Q 4 [.ref 61, .int (io c), .int (io a)] [] (82, J, L2, xF0) := by
    intro d
    induction d using Nat.strongRecOn with
    | _ d ih =>
    intro a hd J L2 c hc hJ
    have hc5 : c ≤ a := by rw [hc]; exact stc_le a
    refine E_go 1 rfl ?_
    refine r_iload_n rfl ?_
    refine r_aload_n rfl ?_
    refine r_getI (by decide) rfl rfl (by decide) ((f6_s hJ.1 (by omega)).trans h.1.1) ?_
    refine r_icmp_ge (fun c_9 => ?_) (fun c_9 => ?_)
    · have c_9 := (n_le (a := n) (b := a) rfl rfl (by omega) (by omega)).mp c_9
      refine E_go 3 rfl ?_
      refine r_iload_n rfl ?_
      refine r_iret rfl trivial ?_
      have ea : n = a := by omega
      subst ea
      rw [hc]
      exact hQ _ _ hJ.1 hJ.2.1 hJ.2.2
    · have c_9 := (not_congr (n_le (a := n) (b := a) rfl rfl (by omega) (by omega))).mp c_9
      refine r_aload_n rfl ?_
      refine r_iload_n rfl ?_
      refine r_virtual (vs := []) (as := [_]) (by decide) (zl rfl) rfl rfl (zl rfl) (Nat.le_refl _) (Or.inr (Or.inr ⟨zt rfl, rfl, zt rfl⟩)) ?_
      have ha : a < n := by omega
      refine s_seeks (X := (stl ru X a)) (by omega) ha (h.w6 hJ.1) hJ.2.1 (stl_ok ho a) (fun J1 M1 q1 g1 w1 => ?_)
      have f1 := f6_g hJ.1 q1
      refine r_aload_n rfl ?_
      refine r_getI (by decide) rfl rfl (by decide) w1 ?_
      refine r_aload_n rfl ?_
      refine r_iload_n rfl ?_
      refine r_virtual (vs := []) (as := [_]) (by decide) (zl rfl) rfl rfl (zl rfl) (Nat.le_refl _) (Or.inr (Or.inr ⟨zt rfl, rfl, zt rfl⟩)) ?_
      refine s_shareOf (X := (stl ru X a)) (by omega) ha (h.w6 f1) (hJ.2.1.mf q1) (stl_ok ho a) (fun J2 M2 q2 p2 => ?_)
      have f2 := f6_g f1 q2.fS
      have e2 := (hJ.2.1.mf q1).mf q2.fS
      have k2 : ∀ j, (∀ b, b < n → ¬ j = 3 * b + 2) → J2 66 j = I 66 j := fun j hj => by rw [q2.fS.1 66 (by omega), q1.1 66 (by omega)]; exact hJ.2.2 j hj
      refine r_icmp_le (fun c_26 => ?_) (fun c_26 => ?_)
      · refine E_go 2 rfl ?_
        refine r_iincN (y := io (a + 1)) (ls' := [_, _, _]) rfl (zt rfl) (n_add (a := a) (b := 1) rfl rfl) rfl ?_
        refine r_goto ?_
        exact ih (d - 1) (by omega) (a + 1) (by omega) _ _ _ (by rw [stc_n (Int32.not_lt.mpr c_26), hc]) ⟨f2, by rw [stl, sto_n (Int32.not_lt.mpr c_26)]; exact e2, k2⟩
      · refine r_aload_n rfl ?_
        refine r_getA (q := 66) (by decide) rfl rfl (by decide) ?_
        refine r_iconst ?_
        refine r_iload_n rfl ?_
        refine r_imul ?_
        refine r_iconst ?_
        refine r_iadd ?_
        refine r_aload_n rfl ?_
        refine r_getI (by decide) rfl rfl (by decide) ((q2.2 36 (by omega)).trans g1) ?_
        refine r_iastore rfl (by decide) (ixE (n_add (a := (3 * a)) (b := 2) (n_mul (a := 3) (b := a) rfl rfl) rfl) (show ((3 * a) + 2) < 15 by omega) (by decide)) ?_
        refine r_iincN (y := io (c + 1)) (ls' := [_, _, _]) rfl (zt rfl) (n_add (a := c) (b := 1) rfl rfl) rfl ?_
        refine r_nil ?_
        refine E_go 2 rfl ?_
        refine r_iincN (y := io (a + 1)) (ls' := [_, _, _]) rfl (zt rfl) (n_add (a := a) (b := 1) rfl rfl) rfl ?_
        refine r_goto ?_
        exact ih (d - 1) (by omega) (a + 1) (by omega) _ _ _ (by rw [stc_y (Int32.not_le.mp c_26), hc]) ⟨f6_up f2 (Or.inl rfl), by rw [stl, sto_y (Int32.not_le.mp c_26)]; exact mP_plan.trans (wP_c e2 a _), fun j hj => by rw [up2_k (hj a ha)]; exact k2 j hj⟩
  refine M_go (ls := [_, _, _]) (ml := 3) rfl rfl rfl (zl rfl) rfl ?_
  refine r_iconst ?_
  refine r_istore_n (ls' := [_, _, _]) (zt rfl) rfl ?_
  refine r_iconst ?_
  refine r_istore_n (ls' := [_, _, _]) (zt rfl) rfl ?_
  refine r_nil ?_
  exact key n 0 (by omega) I L 0 rfl ⟨f6_refl, hX, fun _ _ => rfl⟩

theorem tz_settle {xs : xSc} {m : Nat} {I : Nat → Nat → Int32} {L : Nat → Nat → Int64} {Q : Value → Value → xHp → Prop} (hm : 90 ≤ m) (hR : Rel I) (hQ : ∀ (x : Int32) J L2, Rel J → Q (.int x) (.int x) (Hp J L2)) : M xs m xi_X6_settle [.ref 0] (Hp I L) (fun r1 h1 => M xs m xi_X7_settle [.ref 61] h1 (fun r2 h2 => Q r1 r2 h2)) := by
  obtain ⟨n, tc, r, tp, R⟩ := hR
  obtain ⟨ru, hl⟩ := R.rl
  refine s_csettle (by omega) (R.c hl) (fun J f1 e1 => ?_)
  have s61 : J 61 7 = I 61 7 := f1.2.2 7 (by omega)
  have hX : pEq (mP n (J 61 7) J) (pX n I) := by rw [s61, mP_g (f1.1 65 (by omega)) (f1.1 66 (by omega))]; exact R.pM
  refine s_msettle (X := pX n I) (by omega) ((R.m hl).g (f1.2.2 12 (by omega)) (f1.2.2 4 (by omega)) (f1.1 62 (by omega)) (f1.1 63 (by omega))) hX R.okX (fun K L2 f2 e2 k2 => ?_)
  have kI : ∀ p, ¬ ((13 ≤ p ∧ p ≤ 31) ∨ p = 61 ∨ (68 ≤ p ∧ p ≤ 75) ∨ p = 5 ∨ p = 66) → K p = I p := fun p hp => (f6_p f2 (by omega)).trans (f1.1 p (by omega))
  have k61 : ∀ k, ¬ ((13 ≤ k ∧ k ≤ 28) ∨ k = 36 ∨ k = 37) → K 61 k = I 61 k := fun k hk => (f6_s f2 hk).trans (f1.2.2 k hk)
  have k66 : ∀ j, (∀ b, b < n → ¬ j = 3 * b + 2) → K 66 j = I 66 j := fun j hj => (k2 j hj).trans (congrFun (f1.1 66 (by omega)) j)
  refine hQ _ _ _ (R.tab ⟨⟨R.n5, ?_, ?_⟩, ⟨?_, ?_⟩, ⟨?_, ?_⟩, fun a ha => ?_⟩ (fun p hp => kI p (by omega)) ((f6_0 f2).trans f1.2.1) (congrFun (kI 1 (by omega)) 2) (fun k hk => k61 k (by omega))).rel
  · rw [kI 1 (by omega)]; exact R.cn
  · rw [k61 12 (by omega)]; exact R.mn
  · rw [k61 7 (by omega), kI 1 (by omega)]; exact R.mh
  · rw [kI 1 (by omega)]; exact R.1.2.1.2
  · rw [k61 8 (by omega), kI 1 (by omega)]; exact R.mo
  · rw [kI 1 (by omega)]; exact R.1.2.2.1.2
  · obtain ⟨i1, i2, i3, i4, i5⟩ := R.1.2.2.2 a ha
    have a1 := (e1.2.2 a ha).2.2
    have a2 := (e2.2.2 a ha).2.2
    have a3 : K 5 a = J 5 a := congrFun (f6_p f2 (by omega)) a
    refine ⟨?_, ?_, ?_, ?_, ?_⟩
    · rw [kI 65 (by omega), kI 2 (by omega)]; exact i1
    · show K 66 (3 * a) = K 3 a ∧ _; rw [k66 _ (fun b hb => by omega), kI 3 (by omega)]; exact i2
    · show K 66 (3 * a + 1) = K 4 a ∧ _; rw [k66 _ (fun b hb => by omega), kI 4 (by omega)]; exact i3
    · show K 66 (3 * a + 2) = K 5 a ∧ isN 64 (K 5 a)
      rw [a3]
      refine ⟨a2.trans a1.symm, ?_⟩
      rw [show J 5 a = _ from a1]
      exact stl_pl (fun b hb => (R.1.2.2.2 b hb).2.2.2.1.2) n a ha
    · rw [kI 67 (by omega), kI 6 (by omega)]; exact i5
