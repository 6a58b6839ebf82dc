/-! calls: drawn, chance -/

def mx (a : Nat) (f g : Nat → Int32) : Nat → Int32 := fun b => if b < a then f b else g b
theorem mx_0 {f g : Nat → Int32} : mx 0 f g = g := by
  funext b
  exact if_neg (by omega)
theorem mx_s {a : Nat} {f g : Nat → Int32} : u1 (mx a f g) a (f a) = mx (a + 1) f g := by
  funext b
  by_cases c : b = a
  · subst c; rw [u1_eq]; exact (if_pos (by omega)).symm
  · rw [u1_ne c]
    unfold mx
    by_cases d : b < a
    · rw [if_pos d, if_pos (by omega)]
    · rw [if_neg d, if_neg (by omega)]
theorem TC.mxs {n r a : Nat} {X : Pot} {f g : Nat → Int32} {I J : Nat → Nat → Int32} (h : TC n r (wT X (mx a f g)) I J) : TC n r (wT X (mx (a + 1) f g)) I (up2 J 16 a (f a)) := by
  refine ⟨h.1.up (by omega) (by omega), h.2.1, h.2.2.1, h.2.2.2.1, h.2.2.2.2.1, fun b hb => ?_⟩
  obtain ⟨i1, i2, i3⟩ := h.2.2.2.2.2 b hb
  refine ⟨i1, ?_, i3⟩
  show up2 J 16 a (f a) 16 b = mx (a + 1) f g b
  rw [up2_p, ← mx_s]
  by_cases c : b = a
  · subst c; rw [u1_eq, u1_eq]
  · rw [u1_ne c, u1_ne c]; exact i2
theorem TC.fin {n r : Nat} {X : Pot} {f g : Nat → Int32} {I J : Nat → Nat → Int32} (h : TC n r (wT X (mx n f g)) I J) : TC n r (wT X f) I J := by
  refine ⟨h.1, h.2.1, h.2.2.1, h.2.2.2.1, h.2.2.2.2.1, fun b hb => ?_⟩
  obtain ⟨i1, i2, i3⟩ := h.2.2.2.2.2 b hb
  exact ⟨i1, i2.trans (if_pos hb), i3⟩

set_option maxRecDepth 10000 in
theorem s_drawThirsts {xs : xSc} {m : Nat} {I J : Nat → Nat → Int32} {L : Nat → Nat → Int64} {Q : Value → xHp → Prop} (hm : 1 ≤ m) {n r : Nat} {X : Pot} {s : Int32} (h5 : n ≤ 5) (h : TC n r X I J) (hQ : ∀ K, TC n r (wT X (dT s)) I K → Q .null (Hp K L)) : M xs m xi_X6_drawThirsts [.ref 0, .int s] (Hp J L) Q := by
  obtain ⟨m, rfl⟩ : ∃ k, m = k + 1 := ⟨m - 1, by omega⟩
  have key : ∀ d a, a + d = n → ∀ J, TC n r (wT X (mx a (dT s) X.2.2.2.2.1)) I J → E xs m xi_X6_drawThirsts 82 Q 4 [.ref 0, .int s, .int (zs s a), .int (io a)] [] (82, J, L, xF0) := by
    intro d
    induction d using Nat.strongRecOn with
    | _ d ih =>
    intro a hd J hJ
    refine E_go 1 rfl ?_
    refine r_iload_n rfl ?_
    refine r_aload_n rfl ?_
    refine r_getA (q := 13) (by decide) rfl rfl (by decide) ?_
    refine r_getI (by decide) rfl rfl (by decide) hJ.2.1 ?_
    refine r_icmp_ge (fun c_12 => ?_) (fun c_12 => ?_)
    · have c_12 := (n_le (a := n) (b := a) rfl rfl (by omega) (by omega)).mp c_12
      refine E_go 2 rfl ?_
      refine r_ret rfl ?_
      have e : a = n := by omega
      subst e
      exact hQ _ hJ.fin
    · have c_12 := (not_congr (n_le (a := n) (b := a) rfl rfl (by omega) (by omega))).mp c_12
      refine r_iload_n rfl ?_
      refine r_ldc_w ?_
      refine r_imul ?_
      refine r_sipush ?_
      refine r_iadd ?_
      refine r_istore_n (ls' := [_, _, _, _]) (zt rfl) rfl ?_
      refine r_aload_n rfl ?_
      refine r_getA (q := 13) (by decide) rfl rfl (by decide) ?_
      refine r_getA (q := 16) (by decide) rfl rfl (by decide) ?_
      refine r_iload_n rfl ?_
      refine r_iload_n rfl ?_
      refine r_bipush ?_
      refine r_iushr ?_
      refine r_bipush ?_
      refine r_irem (by decide) ?_
      refine r_iastore rfl (by decide) (ixE rfl (show a < 5 by omega) (by decide)) ?_
      refine r_iincN (y := io (a + 1)) (ls' := [_, _, _, _]) rfl (zt rfl) (n_add (a := a) (b := 1) rfl rfl) rfl ?_
      refine r_goto ?_
      refine ih (d - 1) (by omega) (a + 1) (by omega) _ (hJ.mxs (f := dT s))
  refine M_go (ls := [_, _, _, _]) (ml := 4) rfl rfl rfl (zl rfl) rfl ?_
  refine r_iload_n rfl ?_
  refine r_istore_n (ls' := [_, _, _, _]) (zt rfl) rfl ?_
  refine r_iconst ?_
  refine r_istore_n (ls' := [_, _, _, _]) (zt rfl) rfl ?_
  refine r_nil ?_
  refine key n 0 (by omega) J ?_
  rw [mx_0]
  exact h

def w66 (I : Nat → Nat → Int32) (f : Nat → Int32) : Nat → Nat → Int32 := fun p => if p = 66 then f else I p
theorem w66_q {I : Nat → Nat → Int32} {f : Nat → Int32} {p : Nat} (h : ¬ p = 66) : w66 I f p = I p := if_neg h
theorem w66_self {I : Nat → Nat → Int32} : w66 I (I 66) = I := by
  funext p
  by_cases c : p = 66
  · subst c; exact if_pos rfl
  · exact if_neg c
/-- all but place 66 is as it was, or scratch -/
def f6 (I J : Nat → Nat → Int32) : Prop := fS (w66 I (J 66)) J
theorem f6_of {I J : Nat → Nat → Int32} (h1 : ∀ p, ¬ ((13 ≤ p ∧ p ≤ 31) ∨ p = 61 ∨ (68 ≤ p ∧ p ≤ 75) ∨ p = 66) → J p = I p) (h2 : J 29 0 = I 29 0) (h3 : ∀ k, ¬ ((13 ≤ k ∧ k ≤ 28) ∨ k = 36 ∨ k = 37) → J 61 k = I 61 k) : f6 I J := by
  refine ⟨fun p hp => ?_, by rw [w66_q (by omega)]; exact h2, fun k hk => by rw [w66_q (by omega)]; exact h3 k hk⟩
  by_cases c : p = 66
  · subst c; exact (if_pos rfl).symm
  · rw [w66_q c]; exact h1 p (by omega)
theorem f6_p {I J : Nat → Nat → Int32} (h : f6 I J) {p : Nat} (hp : ¬ ((13 ≤ p ∧ p ≤ 31) ∨ p = 61 ∨ (68 ≤ p ∧ p ≤ 75) ∨ p = 66)) : J p = I p := by rw [h.1 p (by omega), w66_q (by omega)]
theorem f6_s {I J : Nat → Nat → Int32} (h : f6 I J) {k : Nat} (hk : ¬ ((13 ≤ k ∧ k ≤ 28) ∨ k = 36 ∨ k = 37)) : J 61 k = I 61 k := by rw [h.2.2 k hk, w66_q (by omega)]
theorem f6_0 {I J : Nat → Nat → Int32} (h : f6 I J) : J 29 0 = I 29 0 := by rw [h.2.1, w66_q (by omega)]
theorem f6_refl {I : Nat → Nat → Int32} : f6 I I := f6_of (fun _ _ => rfl) rfl (fun _ _ => rfl)
theorem f6_up {I J : Nat → Nat → Int32} {p k : Nat} {v : Int32} (h : f6 I J) (hp : p = 66 ∨ (68 ≤ p ∧ p ≤ 75)) : f6 I (up2 J p k v) :=
  f6_of (fun q hq => by rw [up2_q (by omega)]; exact f6_p h hq) (by rw [up2_q (by omega)]; exact f6_0 h) (fun j hj => by rw [up2_q (by omega)]; exact f6_s h hj)
theorem f6_g {I J K : Nat → Nat → Int32} (h : f6 I J) (g : fS J K) : f6 I K :=
  f6_of (fun q hq => by rw [g.1 q (by omega)]; exact f6_p h hq) (by rw [g.2.1]; exact f6_0 h) (fun j hj => by rw [g.2.2 j hj]; exact f6_s h hj)
theorem f6_fS {I J : Nat → Nat → Int32} (h : f6 I J) (e : J 66 = I 66) : fS I J := by
  unfold f6 at h
  rw [e, w66_self] at h
  exact h
theorem MC.w6 {n r : Nat} {ru : Ru} {I J : Nat → Nat → Int32} (h : MC n r ru I) (f : f6 I J) : MC n r ru J := by
  obtain ⟨⟨h1, h2, h3, h4⟩, c, k1, k2⟩ := h
  exact ⟨⟨by rw [f6_s f (by omega)]; exact h1, h2, by rw [f6_s f (by omega)]; exact h3, h4⟩, c, mTx_s (f6_p f (by omega)) (f6_p f (by omega)) k1, k2⟩
/-- thirsts are drawn: the first a of n -/
def dW (a : Nat) (f : Nat → Int32) (I K : Nat → Nat → Int32) : Prop := f6 I K ∧ (∀ b, b < a → K 75 b = I 66 (3 * b + 1)) ∧ (∀ b, b < a → K 66 (3 * b + 1) = f b) ∧ ∀ j, (∀ b, b < a → ¬ j = 3 * b + 1) → K 66 j = I 66 j
theorem dW_P {n : Nat} {f : Nat → Int32} {X : Pot} {I K : Nat → Nat → Int32} (h : dW n f I K) (hX : pEq (mP n (I 61 7) I) X) : pEq (mP n (K 61 7) K) (wT X f) := by
  refine ⟨?_, hX.2.1, fun a ha => ?_⟩
  · show K 61 7 = X.1
    rw [f6_s h.1 (by omega)]
    exact hX.1
  · obtain ⟨⟨i1, i2⟩, i3, i4⟩ := hX.2.2 a ha
    refine ⟨⟨?_, ?_⟩, ?_, ?_⟩
    · show K 65 a = _
      rw [f6_p h.1 (by omega)]
      exact i1
    · show K 66 (3 * a) = _
      rw [h.2.2.2 _ (fun b hb => by omega)]
      exact i2
    · exact h.2.2.1 a ha
    · show K 66 (3 * a + 2) = _
      rw [h.2.2.2 _ (fun b hb => by omega)]
      exact i4
theorem dW_g {n : Nat} {f : Nat → Int32} {I K K2 : Nat → Nat → Int32} (h : dW n f I K) (g : gF K K2) : dW n f I K2 := by
  obtain ⟨h1, h2, h3, h4⟩ := h
  refine ⟨f6_g h1 g.fS, ?_, ?_, ?_⟩
  · rw [g.1 75 (by omega)]; exact h2
  · rw [g.1 66 (by omega)]; exact h3
  · rw [g.1 66 (by omega)]; exact h4

set_option maxRecDepth 10000 in
theorem s_draws {xs : xSc} {m : Nat} {I : Nat → Nat → Int32} {L : Nat → Nat → Int64} {Q : Value → xHp → Prop} (hm : 1 ≤ m) {n : Nat} {s : Int32} (h5 : n ≤ 5) (hn : I 61 12 = io n) (hQ : ∀ K, dW n (dT s) I K → Q .null (Hp K L)) : M xs m xi_X7_draws [.ref 61, .int s] (Hp I L) Q := by
  obtain ⟨m, rfl⟩ : ∃ k, m = k + 1 := ⟨m - 1, by omega⟩
  have key : ∀ d a, a + d = n → ∀ J, dW a (dT s) I J → E xs m xi_X7_draws 82 Q 4 [.ref 61, .int s, .int (zs s a), .int (io a)] [] (82, J, L, xF0) := by
    intro d
    induction d using Nat.strongRecOn with
    | _ d ih =>
    intro a hd J hJ
    refine E_go 1 rfl ?_
    refine r_iload_n rfl ?_
    refine r_aload_n rfl ?_
    refine r_getI (by decide) rfl rfl (by decide) ((f6_s hJ.1 (by omega)).trans hn) ?_
    refine r_icmp_ge (fun c_9 => ?_) (fun c_9 => ?_)
    · have c_9 := (n_le (a := n) (b := a) rfl rfl (by omega) (by omega)).mp c_9
      refine E_go 2 rfl ?_
      refine r_ret rfl ?_
      have e : a = n := by omega
      subst e
      exact hQ _ hJ
    · have c_9 := (not_congr (n_le (a := n) (b := a) rfl rfl (by omega) (by omega))).mp c_9
      refine r_aload_n rfl ?_
      refine r_getA (q := 75) (by decide) rfl rfl (by decide) ?_
      refine r_iload_n rfl ?_
      refine r_aload_n rfl ?_
      refine r_getA (q := 66) (by decide) rfl rfl (by decide) ?_
      refine r_iconst ?_
      refine r_iload_n rfl ?_
      refine r_imul ?_
      refine r_iconst ?_
      refine r_iadd ?_
      refine r_iaload (by decide) rfl (by decide) (ixE (n_add (a := (3 * a)) (b := 1) (n_mul (a := 3) (b := a) rfl rfl) rfl) (show ((3 * a) + 1) < 15 by omega) (by decide)) rfl ?_
      refine r_iastore rfl (by decide) (ixE rfl (show a < 5 by omega) (by decide)) ?_
      refine r_iload_n rfl ?_
      refine r_ldc_w ?_
      refine r_imul ?_
      refine r_sipush ?_
      refine r_iadd ?_
      refine r_istore_n (ls' := [_, _, _, _]) (zt rfl) rfl ?_
      refine r_aload_n rfl ?_
      refine r_getA (q := 66) (by decide) rfl rfl (by decide) ?_
      refine r_iconst ?_
      refine r_iload_n rfl ?_
      refine r_imul ?_
      refine r_iconst ?_
      refine r_iadd ?_
      refine r_iload_n rfl ?_
      refine r_bipush ?_
      refine r_iushr ?_
      refine r_bipush ?_
      refine r_irem (by decide) ?_
      refine r_iastore rfl (by decide) (ixE (n_add (a := (3 * a)) (b := 1) (n_mul (a := 3) (b := a) rfl rfl) rfl) (show ((3 * a) + 1) < 15 by omega) (by decide)) ?_
      refine r_iincN (y := io (a + 1)) (ls' := [_, _, _, _]) rfl (zt rfl) (n_add (a := a) (b := 1) rfl rfl) rfl ?_
      refine r_goto ?_
      refine ih (d - 1) (by omega) (a + 1) (by omega) _ ⟨f6_up (f6_up hJ.1 (by omega)) (by omega), all_succ (fun b hb => ?_) ?_, all_succ (fun b hb => ?_) ?_, fun j hj => ?_⟩
      · rw [up2_q (by omega), up2_k (by omega)]; exact hJ.2.1 b hb
      · rw [up2_q (by omega), up2_at]; exact hJ.2.2.2 _ (fun b hb => by omega)
      · rw [up2_k (by omega), up2_q (by omega)]; exact hJ.2.2.1 b hb
      · rw [up2_at]; rfl
      · have := hj a (by omega)
        rw [up2_k (by omega), up2_q (by omega)]; exact hJ.2.2.2 j (fun b hb => hj b (by omega))
  refine M_go (ls := [_, _, _, _]) (ml := 4) rfl rfl rfl (zl rfl) rfl ?_
  refine r_iload_n rfl ?_
  refine r_istore_n (ls' := [_, _, _, _]) (zt rfl) rfl ?_
  refine r_iconst ?_
  refine r_istore_n (ls' := [_, _, _, _]) (zt rfl) rfl ?_
  refine r_nil ?_
  exact key n 0 (by omega) I ⟨f6_refl, fun b hb => absurd hb (by omega), fun b hb => absurd hb (by omega), fun _ _ => rfl⟩

set_option maxRecDepth 10000 in
theorem s_laysBack {xs : xSc} {m : Nat} {I J : Nat → Nat → Int32} {L : Nat → Nat → Int64} {Q : Value → xHp → Prop} (hm : 1 ≤ m) {n : Nat} {f : Nat → Int32} (h5 : n ≤ 5) (hn : I 61 12 = io n) (h : dW n f I J) (hQ : ∀ K, fS I K → Q .null (Hp K L)) : M xs m xi_X7_laysBack [.ref 61] (Hp J L) Q := by
  obtain ⟨m, rfl⟩ : ∃ k, m = k + 1 := ⟨m - 1, by omega⟩
  have key : ∀ d a, a + d = n → ∀ J, (f6 I J ∧ (∀ b, b < n → J 75 b = I 66 (3 * b + 1)) ∧ (∀ b, b < a → J 66 (3 * b + 1) = I 66 (3 * b + 1)) ∧ ∀ j, (∀ b, b < n → ¬ j = 3 * b + 1) → J 66 j = I 66 j) → E xs m xi_X7_laysBack 82 Q 2 [.ref 61, .int (io a)] [] (82, J, L, xF0) := by
    intro d
    induction d using Nat.strongRecOn with
    | _ d ih =>
    intro a hd J hJ
    refine E_go 1 rfl ?_
    refine r_iload_n rfl ?_
    refine r_aload_n rfl ?_
    refine r_getI (by decide) rfl rfl (by decide) ((f6_s hJ.1 (by omega)).trans hn) ?_
    refine r_icmp_ge (fun c_7 => ?_) (fun c_7 => ?_)
    · have c_7 := (n_le (a := n) (b := a) rfl rfl (by omega) (by omega)).mp c_7
      refine E_go 2 rfl ?_
      refine r_ret rfl ?_
      have e : a = n := by omega
      subst e
      refine hQ _ (f6_fS hJ.1 (funext fun j => ?_))
      by_cases c : ∃ b, b < a ∧ j = 3 * b + 1
      · obtain ⟨b, hb, rfl⟩ := c
        exact hJ.2.2.1 b hb
      · exact hJ.2.2.2 j (fun b hb q => c ⟨b, hb, q⟩)
    · have c_7 := (not_congr (n_le (a := n) (b := a) rfl rfl (by omega) (by omega))).mp c_7
      refine r_aload_n rfl ?_
      refine r_getA (q := 66) (by decide) rfl rfl (by decide) ?_
      refine r_iconst ?_
      refine r_iload_n rfl ?_
      refine r_imul ?_
      refine r_iconst ?_
      refine r_iadd ?_
      refine r_aload_n rfl ?_
      refine r_getA (q := 75) (by decide) rfl rfl (by decide) ?_
      refine r_iload_n rfl ?_
      refine r_iaload (by decide) rfl (by decide) (ixE rfl (show a < 5 by omega) (by decide)) rfl ?_
      refine r_iastore rfl (by decide) (ixE (n_add (a := (3 * a)) (b := 1) (n_mul (a := 3) (b := a) rfl rfl) rfl) (show ((3 * a) + 1) < 15 by omega) (by decide)) ?_
      refine r_iincN (y := io (a + 1)) (ls' := [_, _]) rfl (zt rfl) (n_add (a := a) (b := 1) rfl rfl) rfl ?_
      refine r_goto ?_
      refine ih (d - 1) (by omega) (a + 1) (by omega) _ ⟨f6_up hJ.1 (by omega), fun b hb => ?_, all_succ (fun b hb => ?_) ?_, fun j hj => ?_⟩
      · rw [up2_q (by omega)]; exact hJ.2.1 b hb
      · rw [up2_k (by omega)]; exact hJ.2.2.1 b hb
      · rw [up2_at]; exact hJ.2.1 a (by omega)
      · have := hj a (by omega)
        rw [up2_k (by omega)]; exact hJ.2.2.2 j hj
  refine M_go (ls := [_, _]) (ml := 2) rfl rfl rfl (zl rfl) rfl ?_
  refine r_iconst ?_
  refine r_istore_n (ls' := [_, _]) (zt rfl) rfl ?_
  refine r_nil ?_
  exact key n 0 (by omega) J ⟨h.1, h.2.1, fun b hb => absurd hb (by omega), h.2.2.2⟩

set_option maxRecDepth 10000 in
theorem tz_drawn {xs : xSc} {m : Nat} {I : Nat → Nat → Int32} {L : Nat → Nat → Int64} {Q : Value → Value → xHp → Prop} (hm : 90 ≤ m) (hR : Rel I) {x : Int32} (hQ : ∀ (x : Int32) J L2, Rel J → Q (.int x) (.int x) (Hp J L2)) : M xs m xi_X6_drawn [.ref 0, .int x] (Hp I L) (fun r1 h1 => M xs m xi_X7_drawn [.ref 61, .int x] h1 (fun r2 h2 => Q r1 r2 h2)) := by
  obtain ⟨m, rfl⟩ : ∃ k, m = k + 6 := ⟨m - 6, by omega⟩
  obtain ⟨n, tc, r, tp, R⟩ := hR
  have h5 := R.n5
  have hr6 := R.r6
  have ht6 := R.t6
  have hrt := R.rt
  have hp160 := R.2.2.1.1.1
  obtain ⟨ru, hl⟩ := R.rl
  refine M_go (ls := [_, _]) (ml := 2) rfl rfl rfl (zl rfl) rfl ?_
  refine r_aload_n rfl ?_
  refine r_getA (q := 13) (by decide) rfl rfl (by decide) ?_
  refine r_aload_n rfl ?_
  refine r_getA (q := 1) (by decide) rfl rfl (by decide) ?_
  refine r_virtual (vs := []) (as := [_]) (by decide) (zl rfl) rfl rfl (zl rfl) (Nat.le_refl _) (Or.inr (Or.inr ⟨zt rfl, rfl, zt rfl⟩)) ?_
  refine s_becomes_13_1 (by omega) (fun J b1 => ?_)
  have t0 := TC_bec (R.c hl) b1
  refine r_aload_n rfl ?_
  refine r_iload_n rfl ?_
  refine r_virtual (vs := []) (as := [_]) (by decide) (zl rfl) rfl rfl (zl rfl) (Nat.le_refl _) (Or.inr (Or.inr ⟨zt rfl, rfl, zt rfl⟩)) ?_
  refine s_drawThirsts (by omega) h5 t0 (fun J1 t1 => ?_)
  refine r_aload_n rfl ?_
  refine r_aload_n rfl ?_
  refine r_getA (q := 13) (by decide) rfl rfl (by decide) ?_
  refine r_virtual (vs := []) (as := [_]) (by decide) (zl rfl) rfl rfl (zl rfl) (Nat.le_refl _) (Or.inr (Or.inr ⟨zt rfl, rfl, zt rfl⟩)) ?_
  refine w_thoughtC (by omega) (R.c hl) t1 (fun J2 t2 k2 => ?_)
  refine r_aload_n rfl ?_
  refine r_getA (q := 19) (by decide) rfl rfl (by decide) ?_
  refine r_virtual (vs := []) (as := []) (by decide) (zl rfl) rfl rfl (zl rfl) (Nat.le_refl _) (Or.inr (Or.inr ⟨zt rfl, rfl, zt rfl⟩)) ?_
  refine s_joyOfAll (by omega) (n := n) k2.1.2.1 h5 ?_
  rw [hD_s k2 rfl]
  have f1 := t2.1.fS (by omega) (by omega)
  have R1 := R.f f1
  refine r_iret rfl trivial ?_
  refine M_go (ls := [_, _, _]) (ml := 3) rfl rfl rfl (zl rfl) rfl ?_
  refine r_aload_n rfl ?_
  refine r_iload_n rfl ?_
  refine r_virtual (vs := []) (as := [_]) (by decide) (zl rfl) rfl rfl (zl rfl) (Nat.le_refl _) (Or.inr (Or.inr ⟨zt rfl, rfl, zt rfl⟩)) ?_
  refine s_draws (by omega) h5 R1.mn (fun K hK => ?_)
  have mc := (R1.m (hl.f f1 hr6)).w6 hK.1
  refine r_aload_n rfl ?_
  refine r_aload_n rfl ?_
  refine r_getI (by decide) rfl rfl (by decide) rfl ?_
  refine r_virtual (vs := []) (as := [_]) (by decide) (zl rfl) rfl rfl (zl rfl) (Nat.le_refl _) (Or.inr (Or.inr ⟨zt rfl, rfl, zt rfl⟩)) ?_
  refine s_allOf (X := (wT (pX n I) (dT x))) (by omega) mc (dW_P hK (R1.eM f1)) (wT_ok R.okX (dT_n x)) (fun K2 L2 q1 q2 => ?_)
  refine r_istore_n (ls' := [_, _, _]) (zt rfl) rfl ?_
  refine r_aload_n rfl ?_
  refine r_virtual (vs := []) (as := []) (by decide) (zl rfl) rfl rfl (zl rfl) (Nat.le_refl _) (Or.inr (Or.inr ⟨zt rfl, rfl, zt rfl⟩)) ?_
  refine s_laysBack (by omega) h5 R1.mn (dW_g hK q1) (fun K3 q3 => ?_)
  refine r_iload_n rfl ?_
  refine r_iret rfl trivial ?_
  exact hQ _ _ _ (R1.f q3).rel

abbrev jo (k : Nat) : Int64 := Int64.ofNat k
theorem jo_int {k : Nat} (h : k < 2147483648) : (jo k).toInt = k := Int64.toInt_ofNat_of_lt (by omega)
theorem jo_inj {a b : Nat} (ha : a < 2147483648) (hb : b < 2147483648) (h : jo a = jo b) : a = b := by
  have q := congrArg Int64.toInt h
  rw [jo_int ha, jo_int hb] at q
  omega
theorem io_jo {k : Nat} (h : k < 2147483648) : (io k).toInt64 = jo k := Int64.toInt_inj.mp (by rw [Int32.toInt_toInt64, io_int h, jo_int h])
theorem bm64 {z : Int} (h1 : 0 ≤ z) (h2 : z < 2147483648) : z.bmod (2 ^ 64) = z := by
  rw [Int.bmod_eq_of_le] <;> omega
theorem j_div {a b : Nat} (ha : a < 2147483648) (hb : b < 2147483648) : jo a / jo b = jo (a / b) := by
  have h := Nat.div_le_self a b
  refine Int64.toInt_inj.mp ?_
  rw [Int64.toInt_div, jo_int ha, jo_int hb, jo_int (by omega), ← Int.ofNat_tdiv]
  generalize a / b = q at h ⊢
  exact bm64 (by omega) (by omega)
theorem j_mul {a b : Nat} : jo a * jo b = jo (a * b) := (Int64.ofNat_mul a b).symm
theorem j_rem {a b : Nat} (ha : a < 2147483648) (hb : b < 2147483648) : jo a - jo a / jo b * jo b = jo (a % b) := by
  have h := Nat.div_add_mod a b
  rw [Nat.mul_comm] at h
  rw [j_div ha hb, j_mul, show jo a - jo (a / b * b) = jo (a - a / b * b) from (Int64.ofNat_sub a _ (by omega)).symm]
  exact congrArg jo (by omega)
/-- how many of the first have none -/
def qn (g : Nat → Int32) : Nat → Nat
  | 0 => 0
  | i + 1 => if g i = -1 then qn g i + 1 else qn g i
theorem qn_le (g : Nat → Int32) : ∀ i, qn g i ≤ i
  | 0 => Nat.le_refl _
  | i + 1 => by
    have := qn_le g i
    rw [qn]
    split <;> omega
def fb (ru : Ru) (X : Pot) : Int32 := fbr (dn ru X) 6 0
def fbs (ru : Ru) (X : Pot) (s : Int32) (i : Nat) : Int32 := fb ru (wT X (dT (s + io i)))

set_option maxRecDepth 10000 in
theorem s_gcd {xs : xSc} {m : Nat} (hm : 1 ≤ m) {x y : Nat} (hx : x ≤ 20) (hy : y ≤ 20) {h : xHp} {Q : Value → xHp → Prop} (hQ : Q (.int (io (Nat.gcd x y))) h) : M xs m xi_X6_commonDivisor [.int (io x), .int (io y)] h Q := by
  obtain ⟨m, rfl⟩ : ∃ k, m = k + 1 := ⟨m - 1, by omega⟩
  have key : ∀ d k, k + d = 64 → ∀ a b, Nat.gcd x y = Nat.gcd a b → a ≤ 20 → k + b ≤ 20 → ∀ x5, E xs m xi_X6_commonDivisor (h.1 + xAl xi_X6_commonDivisor) Q 7 [.int (io x), .int (io y), .int (io a), .int (io b), .int (io k), x5] [] h := by
    intro d
    induction d using Nat.strongRecOn with
    | _ d ih =>
    intro k hd a b hg ha hb x5
    refine E_go 1 rfl ?_
    refine r_iload rfl ?_
    refine r_bipush ?_
    refine r_icmp_ge (fun c_11 => ?_) (fun c_11 => ?_)
    · have c_11 := (n_le (a := 64) (b := k) rfl rfl (by omega) (by omega)).mp c_11
      refine E_go 2 rfl ?_
      refine r_iload_n rfl ?_
      refine r_iret rfl trivial ?_
      have e : b = 0 := by omega
      subst e
      have q := qi hQ (congrArg io hg)
      rw [Nat.gcd_zero_right] at q
      exact q
    · have c_11 := (not_congr (n_le (a := 64) (b := k) rfl rfl (by omega) (by omega))).mp c_11
      refine r_iload_n rfl ?_
      refine r_if_eq (fun c_15 => ?_) (fun c_15 => ?_)
      · have c_15 := (n_eq (a := b) (b := 0) rfl rfl (by omega) (by omega)).mp c_15
        refine E_go 2 rfl ?_
        refine r_iload_n rfl ?_
        refine r_iret rfl trivial ?_
        have e : b = 0 := by omega
        subst e
        have q := qi hQ (congrArg io hg)
        rw [Nat.gcd_zero_right] at q
        exact q
      · have c_15 := (not_congr (n_eq (a := b) (b := 0) rfl rfl (by omega) (by omega))).mp c_15
        refine r_iload_n rfl ?_
        refine r_iload_n rfl ?_
        refine r_irem (by intro z; have := (io_inj (a := b) (b := 0) (by omega) (by omega)).mp z; omega) ?_
        refine r_istore (ls' := [_, _, _, _, _, _]) (zt rfl) rfl ?_
        refine r_iload_n rfl ?_
        refine r_istore_n (ls' := [_, _, _, _, _, _]) (zt rfl) rfl ?_
        refine r_iload rfl ?_
        refine r_istore_n (ls' := [_, _, _, _, _, _]) (zt rfl) rfl ?_
        refine r_iincN (y := io (k + 1)) (ls' := [_, _, _, _, _, _]) rfl (zt rfl) (n_add (a := k) (b := 1) rfl rfl) rfl ?_
        refine r_goto ?_
        rw [n_rem (a := a) (b := b) rfl rfl (by omega) (by omega)]
        refine ih (d - 1) (by omega) (k + 1) (by omega) b (a % b) ?_ ?_ ?_ _
        · rw [hg]; exact (Nat.gcd_rec b a |> fun q => by rw [Nat.gcd_comm a b, q, Nat.gcd_comm])
        · omega
        · have := Nat.mod_lt a (show 0 < b by omega); omega
  refine M_go (ls := [_, _, _, _, _, _]) (ml := 6) rfl rfl rfl (zl rfl) rfl ?_
  refine r_iload_n rfl ?_
  refine r_istore_n (ls' := [_, _, _, _, _, _]) (zt rfl) rfl ?_
  refine r_iload_n rfl ?_
  refine r_istore_n (ls' := [_, _, _, _, _, _]) (zt rfl) rfl ?_
  refine r_iconst ?_
  refine r_istore (ls' := [_, _, _, _, _, _]) (zt rfl) rfl ?_
  refine r_nil ?_
  exact key 64 0 rfl x y rfl (by omega) (by omega) _

theorem tz_lt : ∀ k, k < 32 → tz k < 5 := by decide

set_option maxRecDepth 10000 in
theorem tz_chance {xs : xSc} {m : Nat} {I : Nat → Nat → Int32} {L : Nat → Nat → Int64} {Q : Value → Value → xHp → Prop} (hm : 90 ≤ m) (hR : Rel I) {x y z : Int32} (hQ : ∀ (x : Int64) J L2, Rel J → Q (.long x) (.long x) (Hp J L2)) : M xs m xi_X6_chance [.ref 0, .int x, .int y, .int z] (Hp I L) (fun r1 h1 => M xs m xi_X7_chance [.ref 61, .int x, .int y, .int z] h1 (fun r2 h2 => Q r1 r2 h2)) := by
  obtain ⟨m, rfl⟩ : ∃ k, m = k + 6 := ⟨m - 6, by omega⟩
  obtain ⟨n, tc, r, tp, R⟩ := hR
  have h5 := R.n5
  have hr6 := R.r6
  have ht6 := R.t6
  have hrt := R.rt
  have hp160 := R.2.2.1.1.1
  obtain ⟨ru, hl⟩ := R.rl
  by_cases hy : (1 ≤ y.toInt ∧ y.toInt ≤ 20) ∧ inN 2 z
  · obtain ⟨⟨hy1, hy2⟩, hz⟩ := hy
    obtain ⟨mm, hmm, rfl⟩ := inN_ex (n := 21) (x := y) ⟨by omega, by omega⟩ (by omega)
    rw [io_int (by omega)] at hy1 hy2
    have hm20 : mm ≤ 20 := by omega
    have hm1 : 1 ≤ mm := by omega
    obtain ⟨k, hk, rfl⟩ := inN_ex hz (by omega)
    have ek : k = 0 ∨ k = 1 := by omega
    rcases ek with rfl | rfl
    · have hq20 : qn (fbs ru (pX n I) x) mm ≤ 20 := Nat.le_trans (qn_le _ _) hm20
      have hgp : 0 < Nat.gcd (qn (fbs ru (pX n I) x) mm) mm := Nat.gcd_pos_of_pos_right _ (by omega)
      have hg20 : Nat.gcd (qn (fbs ru (pX n I) x) mm) mm ≤ 20 := Nat.le_trans (Nat.gcd_le_right _ (by omega)) hm20
      have hdv := Nat.div_le_self (qn (fbs ru (pX n I) x) mm) (Nat.gcd (qn (fbs ru (pX n I) x) mm) mm)
      have finM : ∀ J, fS I J → M xs (m + 6) xi_X7_chance [.ref 61, .int x, .int (io mm), .int (io 0)] (Hp J L) (fun r2 h2 => Q (.long (jo (qn (fbs ru (pX n I) x) mm / Nat.gcd (qn (fbs ru (pX n I) x) mm) mm))) r2 h2) := by
        intro J f1
        have R1 := R.f f1
        refine M_go (ls := [_, _, _, _, _, _, _, _, _, _, _, _]) (ml := 12) rfl rfl rfl (zl rfl) rfl ?_
        refine r_iload_n rfl ?_
        refine r_i2l ?_
        refine r_lconst ?_
        refine r_ldc2_w ?_
        refine r_static (vs := [_, _, _]) (by decide) (zl rfl) rfl rfl (zl rfl) (Nat.le_refl _) rfl ?_
        refine s_inr (by omega) (x := io mm) (lo := 1) (hi := 20) (Int32.toInt_toInt64 _) (by decide) (by decide) ?_
        rw [if_pos (by rw [io_int (by omega)]; omega)]
        refine r_if_eq (fun c_9 => ?_) (fun c_9 => ?_)
        · have c_9 := (n_eq (a := 1) (b := 0) rfl rfl (by omega) (by omega)).mp c_9
          omega
        · have c_9 := (not_congr (n_eq (a := 1) (b := 0) rfl rfl (by omega) (by omega))).mp c_9
          refine r_iload_n rfl ?_
          refine r_i2l ?_
          refine r_lconst ?_
          refine r_lconst ?_
          refine r_static (vs := [_, _, _]) (by decide) (zl rfl) rfl rfl (zl rfl) (Nat.le_refl _) rfl ?_
          refine s_in0 (by omega) (x := io 0) (k := 2) (Int32.toInt_toInt64 _) i64_0 rfl ?_
          rw [if_pos (inN_io (by omega) (by omega))]
          refine r_if_ne (fun c_19 => ?_) (fun c_19 => ?_)
          · have c_19 := (not_congr (n_eq (a := 1) (b := 0) rfl rfl (by omega) (by omega))).mp c_19
            refine E_go 2 rfl ?_
            refine r_lconst ?_
            refine r_lstore (ls' := [_, _, _, _, _, _, _, _, _, _, _, _]) (zt rfl) rfl ?_
            refine r_iconst ?_
            refine r_istore (ls' := [_, _, _, _, _, _, _, _, _, _, _, _]) (zt rfl) rfl ?_
            refine r_nil ?_
            have fin2 : ∀ J2 L2 (x7 x8 x9 x10 x11 : Value), fS J J2 → E xs (m + 5) xi_X7_chance 82 (fun r2 h2 => Q (.long (jo (qn (fbs ru (pX n I) x) mm / Nat.gcd (qn (fbs ru (pX n I) x) mm) mm))) r2 h2) 74 [.ref 61, .int x, .int (io mm), .int (io 0), .long (jo (qn (fbs ru (pX n I) x) mm)), xU, .int (io mm), x7, x8, x9, x10, x11] [] (82, J2, L2, xF0) := by
              intro J2 L2 x7 x8 x9 x10 x11 gJ
              have key : ∀ b0 a b, b = b0 → Nat.gcd (qn (fbs ru (pX n I) x) mm) mm = Nat.gcd a b → a ≤ 20 → b ≤ 20 → ∀ x10 x11, E xs (m + 5) xi_X7_chance 82 (fun r2 h2 => Q (.long (jo (qn (fbs ru (pX n I) x) mm / Nat.gcd (qn (fbs ru (pX n I) x) mm) mm))) r2 h2) 82 [.ref 61, .int x, .int (io mm), .int (io 0), .long (jo (qn (fbs ru (pX n I) x) mm)), xU, .long (jo a), xU, .long (jo b), xU, x10, x11] [] (82, J2, L2, xF0) := by
                intro b0
                induction b0 using Nat.strongRecOn with
                | _ b0 ih =>
                intro a b hb0 hg ha hb x10 x11
                subst hb0
                refine E_go 7 rfl ?_
                refine r_lload rfl ?_
                refine r_lconst ?_
                refine r_lcmp ?_
                refine r_if_eq (fun c_86 => ?_) (fun c_86 => ?_)
                · refine E_go 8 rfl ?_
                  have eb : b = 0 := jo_inj (by omega) (by omega) (lg_eq.mp c_86)
                  subst eb
                  rw [Nat.gcd_zero_right] at hg
                  refine r_iload_n rfl ?_
                  refine r_if_ne (fun c_108 => ?_) (fun c_108 => ?_)
                  · have c_108 := (not_congr (n_eq (a := 0) (b := 0) rfl rfl (by omega) (by omega))).mp c_108
                    omega
                  · have c_108 := (n_eq (a := 0) (b := 0) rfl rfl (by omega) (by omega)).mp c_108
                    refine r_lload rfl ?_
                    refine r_lload rfl ?_
                    refine r_ldiv (by intro z; have q := jo_inj (b := 0) (by omega) (by omega) z; omega) ?_
                    refine r_goto ?_
                    refine E_go 10 rfl ?_
                    refine r_lret rfl ?_
                    subst hg
                    rw [j_div (by omega) (by omega)]
                    exact hQ _ _ _ (R1.f gJ).rel
                · have hb0 : ¬ b = 0 := fun z => c_86 (lg_eq.mpr (by rw [z]; rfl))
                  refine r_lload rfl ?_
                  refine r_lload rfl ?_
                  refine r_lrem (fun z => c_86 (lg_eq.mpr z)) ?_
                  refine r_lstore (ls' := [_, _, _, _, _, _, _, _, _, _, _, _]) (zt rfl) rfl ?_
                  refine r_lload rfl ?_
                  refine r_lstore (ls' := [_, _, _, _, _, _, _, _, _, _, _, _]) (zt rfl) rfl ?_
                  refine r_lload rfl ?_
                  refine r_lstore (ls' := [_, _, _, _, _, _, _, _, _, _, _, _]) (zt rfl) rfl ?_
                  refine r_goto ?_
                  rw [j_rem (by omega) (by omega)]
                  refine ih (a % b) ?_ b (a % b) rfl ?_ (by omega) (by have := Nat.mod_lt a (show 0 < b by omega); omega) _ _
                  · exact Nat.mod_lt a (by omega)
                  · rw [hg, Nat.gcd_comm a b, Nat.gcd_rec b a, Nat.gcd_comm]
              refine E_go 6 rfl ?_
              refine r_lload rfl ?_
              refine r_lstore (ls' := [_, _, _, _, _, _, _, _, _, _, _, _]) (zt rfl) rfl ?_
              refine r_iload_n rfl ?_
              refine r_i2l ?_
              refine r_lstore (ls' := [_, _, _, _, _, _, _, _, _, _, _, _]) (zt rfl) rfl ?_
              refine r_nil ?_
              rw [io_jo (by omega)]
              exact key mm (qn (fbs ru (pX n I) x) mm) mm rfl rfl hq20 hm20 _ _
            have key : ∀ d i, i + d = mm → ∀ J2 L2, fS J J2 → ∀ x7 x8 x9 x10 x11, E xs (m + 5) xi_X7_chance 82 (fun r2 h2 => Q (.long (jo (qn (fbs ru (pX n I) x) mm / Nat.gcd (qn (fbs ru (pX n I) x) mm) mm))) r2 h2) 32 [.ref 61, .int x, .int (io mm), .int (io 0), .long (jo (qn (fbs ru (pX n I) x) i)), xU, .int (io i), x7, x8, x9, x10, x11] [] (82, J2, L2, xF0) := by
              intro d
              induction d using Nat.strongRecOn with
              | _ d ih =>
              intro i hd J2 L2 gJ x7 x8 x9 x10 x11
              refine E_go 3 rfl ?_
              refine r_iload rfl ?_
              refine r_iload_n rfl ?_
              refine r_icmp_ge (fun c_35 => ?_) (fun c_35 => ?_)
              · have c_35 := (n_le (a := mm) (b := i) rfl rfl (by omega) (by omega)).mp c_35
                have e : i = mm := by omega
                subst e
                exact fin2 _ _ _ _ _ _ _ gJ
              · have c_35 := (not_congr (n_le (a := mm) (b := i) rfl rfl (by omega) (by omega))).mp c_35
                refine r_aload_n rfl ?_
                refine r_iload_n rfl ?_
                refine r_iload rfl ?_
                refine r_iadd ?_
                refine r_virtual (vs := []) (as := [_]) (by decide) (zl rfl) rfl rfl (zl rfl) (Nat.le_refl _) (Or.inr (Or.inr ⟨zt rfl, rfl, zt rfl⟩)) ?_
                refine s_draws (s := x + io i) (by omega) h5 ((gJ.2.2 12 (by omega)).trans R1.mn) (fun K hK => ?_)
                have mc := ((R1.m (hl.f f1 hr6)).f gJ).w6 hK.1
                have hP := dW_P hK ((R1.eM f1).mf gJ)
                refine r_lload rfl ?_
                refine r_aload_n rfl ?_
                refine r_virtual (vs := []) (as := []) (by decide) (zl rfl) rfl rfl (zl rfl) (Nat.le_refl _) (Or.inr (Or.inr ⟨zt rfl, rfl, zt rfl⟩)) ?_
                have okd : okX (wT (pX n I) (dT (x + io i))) := wT_ok R.okX (dT_n _)
                refine s_firstDenied (X := (wT (pX n I) (dT (x + io i)))) (by omega) mc hP okd (fun K2 L3 q1 v hv hzv hnv => ?_) (fun K2 L3 q1 q2 => ?_)
                · have e1 : ¬ (fbs ru (pX n I) x) i = -1 := by
                    rcases fbr_cs (f := dn ru (wT (pX n I) (dT (x + io i)))) 6 0 with ⟨j, _, hj, _, _, e⟩ | ⟨hz, e⟩
                    · intro q
                      exact io_m1 (a := j) (by omega) (e.symm.trans q)
                    · exact absurd (hz v (by omega) (by omega)) hnv
                  refine r_iconst ?_
                  refine r_icmp_ne (fun c_53 => ?_) (fun c_53 => ?_)
                  · refine E_go 4 rfl ?_
                    refine r_lconst ?_
                    refine r_nil ?_
                    refine E_go 5 rfl ?_
                    refine r_ladd ?_
                    refine r_lstore (ls' := [_, _, _, _, _, _, _, _, _, _, _, _]) (zt rfl) rfl ?_
                    refine r_aload_n rfl ?_
                    refine r_virtual (vs := []) (as := []) (by decide) (zl rfl) rfl rfl (zl rfl) (Nat.le_refl _) (Or.inr (Or.inr ⟨zt rfl, rfl, zt rfl⟩)) ?_
                    refine s_laysBack (by omega) h5 ((gJ.2.2 12 (by omega)).trans R1.mn) (dW_g hK q1) (fun K3 q3 => ?_)
                    refine r_iincN (y := io (i + 1)) (ls' := [_, _, _, _, _, _, _, _, _, _, _, _]) rfl (zt rfl) (n_add (a := i) (b := 1) rfl rfl) rfl ?_
                    refine r_goto ?_
                    rw [show jo (qn (fbs ru (pX n I) x) i) + 0 = jo (qn (fbs ru (pX n I) x) i + 0) from (Int64.ofNat_add _ _).symm]
                    have e : qn (fbs ru (pX n I) x) (i + 1) = qn (fbs ru (pX n I) x) i + 0 := if_neg e1
                    have hx := ih (d - 1) (by omega) (i + 1) (by omega) K3 L3 (gJ.trans q3)
                    rw [e] at hx
                    exact hx _ _ _ _ _
                  · exact absurd c_53 (by unfold fdn; exact io_m1 (by have h3 : ∃ k, k < 2 ^ n ∧ dn ru (wT (pX n I) (dT (x + io i))) v = io k := dn_n (ru := ru) (X := (wT (pX n I) (dT (x + io i)))) h5 v; obtain ⟨k, hk, ek⟩ := h3; have h32 := two5 h5; rw [ek, io_nat (by omega)]; have ht := tz_lt k (by omega); omega))
                · have e1 : (fbs ru (pX n I) x) i = -1 := by
                    rcases fbr_cs (f := dn ru (wT (pX n I) (dT (x + io i)))) 6 0 with ⟨j, _, hj, _, hn2, e⟩ | ⟨hz, e⟩
                    · exact absurd (q2 j (by omega)) hn2
                    · exact e
                  refine r_iconst ?_
                  refine r_icmp_ne (fun c_53 => ?_) (fun c_53 => ?_)
                  · exact absurd rfl c_53
                  · refine r_lconst ?_
                    refine r_goto ?_
                    refine E_go 5 rfl ?_
                    refine r_ladd ?_
                    refine r_lstore (ls' := [_, _, _, _, _, _, _, _, _, _, _, _]) (zt rfl) rfl ?_
                    refine r_aload_n rfl ?_
                    refine r_virtual (vs := []) (as := []) (by decide) (zl rfl) rfl rfl (zl rfl) (Nat.le_refl _) (Or.inr (Or.inr ⟨zt rfl, rfl, zt rfl⟩)) ?_
                    refine s_laysBack (by omega) h5 ((gJ.2.2 12 (by omega)).trans R1.mn) (dW_g hK q1) (fun K3 q3 => ?_)
                    refine r_iincN (y := io (i + 1)) (ls' := [_, _, _, _, _, _, _, _, _, _, _, _]) rfl (zt rfl) (n_add (a := i) (b := 1) rfl rfl) rfl ?_
                    refine r_goto ?_
                    rw [show jo (qn (fbs ru (pX n I) x) i) + 1 = jo (qn (fbs ru (pX n I) x) i + 1) from (Int64.ofNat_add _ _).symm]
                    have e : qn (fbs ru (pX n I) x) (i + 1) = qn (fbs ru (pX n I) x) i + 1 := if_pos e1
                    have hx := ih (d - 1) (by omega) (i + 1) (by omega) K3 L3 (gJ.trans q3)
                    rw [e] at hx
                    exact hx _ _ _ _ _
            exact key mm 0 (by omega) J L fS.refl _ _ _ _ _
          · have c_19 := (n_eq (a := 1) (b := 0) rfl rfl (by omega) (by omega)).mp c_19
            omega
      have fin : ∀ J f, TC n r (wT (pX n I) f) I J → E xs (m + 5) xi_X6_chance 82 (fun r1 h1 => M xs (m + 6) xi_X7_chance [.ref 61, .int x, .int (io mm), .int (io 0)] h1 (fun r2 h2 => Q r1 r2 h2)) 81 [.ref 0, .int x, .int (io mm), .int (io 0), .int (io (qn (fbs ru (pX n I) x) mm)), .int (io mm)] [] (82, J, L, xF0) := by
        intro J f hJ
        refine E_go 5 rfl ?_
        refine r_iload rfl ?_
        refine r_iload_n rfl ?_
        refine r_static (vs := [_, _]) (by decide) (zl rfl) rfl rfl (zl rfl) (Nat.le_refl _) rfl ?_
        refine s_gcd (by omega) hq20 hm20 ?_
        refine r_istore (ls' := [_, _, _, _, _, _]) (zt rfl) rfl ?_
        refine r_iload rfl ?_
        refine r_iconst ?_
        refine r_icmp_ge (fun c_92 => ?_) (fun c_92 => ?_)
        · have c_92 := (n_le (a := 1) (b := (Nat.gcd (qn (fbs ru (pX n I) x) mm) mm)) rfl rfl (by omega) (by omega)).mp c_92
          refine E_go 6 rfl ?_
          refine r_iload_n rfl ?_
          refine r_if_ne (fun c_102 => ?_) (fun c_102 => ?_)
          · have c_102 := (not_congr (n_eq (a := 0) (b := 0) rfl rfl (by omega) (by omega))).mp c_102
            omega
          · have c_102 := (n_eq (a := 0) (b := 0) rfl rfl (by omega) (by omega)).mp c_102
            refine r_iload rfl ?_
            refine r_goto ?_
            refine E_go 8 rfl ?_
            refine r_iload rfl ?_
            refine r_idiv (by intro z; have := (io_inj (a := Nat.gcd (qn (fbs ru (pX n I) x) mm) mm) (b := 0) (by omega) (by omega)).mp z; omega) ?_
            refine r_i2l ?_
            refine r_nil ?_
            refine E_go 9 rfl ?_
            refine r_lret rfl ?_
            rw [n_div (a := qn (fbs ru (pX n I) x) mm) (b := Nat.gcd (qn (fbs ru (pX n I) x) mm) mm) rfl rfl (by omega) (by omega), io_jo (by omega)]
            exact finM J (hJ.1.fS (by omega) (by omega))
        · have c_92 := (not_congr (n_le (a := 1) (b := (Nat.gcd (qn (fbs ru (pX n I) x) mm) mm)) rfl rfl (by omega) (by omega))).mp c_92
          omega
      refine M_go (ls := [_, _, _, _, _, _]) (ml := 6) rfl rfl rfl (zl rfl) rfl ?_
      refine r_iload_n rfl ?_
      refine r_iconst ?_
      refine r_icmp_lt (fun c_2 => ?_) (fun c_2 => ?_)
      · have c_2 := (n_lt (a := mm) (b := 1) rfl rfl (by omega) (by omega)).mp c_2
        omega
      · have c_2 := (not_congr (n_lt (a := mm) (b := 1) rfl rfl (by omega) (by omega))).mp c_2
        refine r_iload_n rfl ?_
        refine r_bipush ?_
        refine r_icmp_gt (fun c_8 => ?_) (fun c_8 => ?_)
        · have c_8 := (n_lt (a := 20) (b := mm) rfl rfl (by omega) (by omega)).mp c_8
          omega
        · have c_8 := (not_congr (n_lt (a := 20) (b := mm) rfl rfl (by omega) (by omega))).mp c_8
          refine r_iload_n rfl ?_
          refine r_static (vs := [_]) (by decide) (zl rfl) rfl rfl (zl rfl) (Nat.le_refl _) rfl ?_
          refine s_isEither (by omega) ?_
          rw [if_pos (inN_io (by omega) (by omega))]
          refine r_if_ne (fun c_15 => ?_) (fun c_15 => ?_)
          · have c_15 := (not_congr (n_eq (a := 1) (b := 0) rfl rfl (by omega) (by omega))).mp c_15
            refine E_go 2 rfl ?_
            refine r_iconst ?_
            refine r_istore (ls' := [_, _, _, _, _, _]) (zt rfl) rfl ?_
            refine r_aload_n rfl ?_
            refine r_getA (q := 13) (by decide) rfl rfl (by decide) ?_
            refine r_aload_n rfl ?_
            refine r_getA (q := 1) (by decide) rfl rfl (by decide) ?_
            refine r_virtual (vs := []) (as := [_]) (by decide) (zl rfl) rfl rfl (zl rfl) (Nat.le_refl _) (Or.inr (Or.inr ⟨zt rfl, rfl, zt rfl⟩)) ?_
            refine s_becomes_13_1 (by omega) (fun J b1 => ?_)
            have t0 := TC_bec (R.c hl) b1
            refine r_iconst ?_
            refine r_istore (ls' := [_, _, _, _, _, _]) (zt rfl) rfl ?_
            refine r_nil ?_
            have key : ∀ d i, i + d = mm → ∀ J f, TC n r (wT (pX n I) f) I J → E xs (m + 5) xi_X6_chance 82 (fun r1 h1 => M xs (m + 6) xi_X7_chance [.ref 61, .int x, .int (io mm), .int (io 0)] h1 (fun r2 h2 => Q r1 r2 h2)) 39 [.ref 0, .int x, .int (io mm), .int (io 0), .int (io (qn (fbs ru (pX n I) x) i)), .int (io i)] [] (82, J, L, xF0) := by
              intro d
              induction d using Nat.strongRecOn with
              | _ d ih =>
              intro i hd J f hJ
              refine E_go 3 rfl ?_
              refine r_iload rfl ?_
              refine r_iload_n rfl ?_
              refine r_icmp_ge (fun c_42 => ?_) (fun c_42 => ?_)
              · have c_42 := (n_le (a := mm) (b := i) rfl rfl (by omega) (by omega)).mp c_42
                have e : i = mm := by omega
                subst e
                exact fin J f hJ
              · have c_42 := (not_congr (n_le (a := mm) (b := i) rfl rfl (by omega) (by omega))).mp c_42
                refine r_aload_n rfl ?_
                refine r_iload_n rfl ?_
                refine r_iload rfl ?_
                refine r_iadd ?_
                refine r_virtual (vs := []) (as := [_]) (by decide) (zl rfl) rfl rfl (zl rfl) (Nat.le_refl _) (Or.inr (Or.inr ⟨zt rfl, rfl, zt rfl⟩)) ?_
                refine s_drawThirsts (s := x + io i) (by omega) h5 hJ (fun J1 t1 => ?_)
                refine r_aload_n rfl ?_
                refine r_aload_n rfl ?_
                refine r_getA (q := 13) (by decide) rfl rfl (by decide) ?_
                refine r_virtual (vs := []) (as := [_]) (by decide) (zl rfl) rfl rfl (zl rfl) (Nat.le_refl _) (Or.inr (Or.inr ⟨zt rfl, rfl, zt rfl⟩)) ?_
                refine w_thoughtC (by omega) (R.c hl) t1 (fun J2 t2 k2 => ?_)
                refine r_aload_n rfl ?_
                refine r_getA (q := 19) (by decide) rfl rfl (by decide) ?_
                refine r_virtual (vs := []) (as := []) (by decide) (zl rfl) rfl rfl (zl rfl) (Nat.le_refl _) (Or.inr (Or.inr ⟨zt rfl, rfl, zt rfl⟩)) ?_
                refine s_firstBreach (by omega) ?_
                rw [fbr_c (fun j _ hj => hD_d k2 (by omega)), show fbr (dn ru (wT (wT (pX n I) f) (dT (x + io i)))) 6 0 = (fbs ru (pX n I) x) i from rfl]
                refine r_iconst ?_
                refine r_icmp_ne (fun c_69 => ?_) (fun c_69 => ?_)
                · refine E_go 4 rfl ?_
                  refine r_iincN (y := io (i + 1)) (ls' := [_, _, _, _, _, _]) rfl (zt rfl) (n_add (a := i) (b := 1) rfl rfl) rfl ?_
                  refine r_goto ?_
                  have e : qn (fbs ru (pX n I) x) (i + 1) = qn (fbs ru (pX n I) x) i := if_neg c_69
                  have hx := ih (d - 1) (by omega) (i + 1) (by omega) _ _ t2
                  rw [e] at hx
                  exact hx
                · refine r_iincN (y := io ((qn (fbs ru (pX n I) x) i) + 1)) (ls' := [_, _, _, _, _, _]) rfl (zt rfl) (n_add (a := (qn (fbs ru (pX n I) x) i)) (b := 1) rfl rfl) rfl ?_
                  refine r_nil ?_
                  refine E_go 4 rfl ?_
                  refine r_iincN (y := io (i + 1)) (ls' := [_, _, _, _, _, _]) rfl (zt rfl) (n_add (a := i) (b := 1) rfl rfl) rfl ?_
                  refine r_goto ?_
                  have e : qn (fbs ru (pX n I) x) (i + 1) = qn (fbs ru (pX n I) x) i + 1 := if_pos c_69
                  have hx := ih (d - 1) (by omega) (i + 1) (by omega) _ _ t2
                  rw [e] at hx
                  exact hx
            exact key mm 0 (by omega) J _ t0
          · have c_15 := (n_eq (a := 1) (b := 0) rfl rfl (by omega) (by omega)).mp c_15
            omega
    · have hq20 : qn (fbs ru (pX n I) x) mm ≤ 20 := Nat.le_trans (qn_le _ _) hm20
      have hgp : 0 < Nat.gcd (qn (fbs ru (pX n I) x) mm) mm := Nat.gcd_pos_of_pos_right _ (by omega)
      have hg20 : Nat.gcd (qn (fbs ru (pX n I) x) mm) mm ≤ 20 := Nat.le_trans (Nat.gcd_le_right _ (by omega)) hm20
      have hdv := Nat.div_le_self (mm) (Nat.gcd (qn (fbs ru (pX n I) x) mm) mm)
      have finM : ∀ J, fS I J → M xs (m + 6) xi_X7_chance [.ref 61, .int x, .int (io mm), .int (io 1)] (Hp J L) (fun r2 h2 => Q (.long (jo (mm / Nat.gcd (qn (fbs ru (pX n I) x) mm) mm))) r2 h2) := by
        intro J f1
        have R1 := R.f f1
        refine M_go (ls := [_, _, _, _, _, _, _, _, _, _, _, _]) (ml := 12) rfl rfl rfl (zl rfl) rfl ?_
        refine r_iload_n rfl ?_
        refine r_i2l ?_
        refine r_lconst ?_
        refine r_ldc2_w ?_
        refine r_static (vs := [_, _, _]) (by decide) (zl rfl) rfl rfl (zl rfl) (Nat.le_refl _) rfl ?_
        refine s_inr (by omega) (x := io mm) (lo := 1) (hi := 20) (Int32.toInt_toInt64 _) (by decide) (by decide) ?_
        rw [if_pos (by rw [io_int (by omega)]; omega)]
        refine r_if_eq (fun c_9 => ?_) (fun c_9 => ?_)
        · have c_9 := (n_eq (a := 1) (b := 0) rfl rfl (by omega) (by omega)).mp c_9
          omega
        · have c_9 := (not_congr (n_eq (a := 1) (b := 0) rfl rfl (by omega) (by omega))).mp c_9
          refine r_iload_n rfl ?_
          refine r_i2l ?_
          refine r_lconst ?_
          refine r_lconst ?_
          refine r_static (vs := [_, _, _]) (by decide) (zl rfl) rfl rfl (zl rfl) (Nat.le_refl _) rfl ?_
          refine s_in0 (by omega) (x := io 1) (k := 2) (Int32.toInt_toInt64 _) i64_0 rfl ?_
          rw [if_pos (inN_io (by omega) (by omega))]
          refine r_if_ne (fun c_19 => ?_) (fun c_19 => ?_)
          · have c_19 := (not_congr (n_eq (a := 1) (b := 0) rfl rfl (by omega) (by omega))).mp c_19
            refine E_go 2 rfl ?_
            refine r_lconst ?_
            refine r_lstore (ls' := [_, _, _, _, _, _, _, _, _, _, _, _]) (zt rfl) rfl ?_
            refine r_iconst ?_
            refine r_istore (ls' := [_, _, _, _, _, _, _, _, _, _, _, _]) (zt rfl) rfl ?_
            refine r_nil ?_
            have fin2 : ∀ J2 L2 (x7 x8 x9 x10 x11 : Value), fS J J2 → E xs (m + 5) xi_X7_chance 82 (fun r2 h2 => Q (.long (jo (mm / Nat.gcd (qn (fbs ru (pX n I) x) mm) mm))) r2 h2) 74 [.ref 61, .int x, .int (io mm), .int (io 1), .long (jo (qn (fbs ru (pX n I) x) mm)), xU, .int (io mm), x7, x8, x9, x10, x11] [] (82, J2, L2, xF0) := by
              intro J2 L2 x7 x8 x9 x10 x11 gJ
              have key : ∀ b0 a b, b = b0 → Nat.gcd (qn (fbs ru (pX n I) x) mm) mm = Nat.gcd a b → a ≤ 20 → b ≤ 20 → ∀ x10 x11, E xs (m + 5) xi_X7_chance 82 (fun r2 h2 => Q (.long (jo (mm / Nat.gcd (qn (fbs ru (pX n I) x) mm) mm))) r2 h2) 82 [.ref 61, .int x, .int (io mm), .int (io 1), .long (jo (qn (fbs ru (pX n I) x) mm)), xU, .long (jo a), xU, .long (jo b), xU, x10, x11] [] (82, J2, L2, xF0) := by
                intro b0
                induction b0 using Nat.strongRecOn with
                | _ b0 ih =>
                intro a b hb0 hg ha hb x10 x11
                subst hb0
                refine E_go 7 rfl ?_
                refine r_lload rfl ?_
                refine r_lconst ?_
                refine r_lcmp ?_
                refine r_if_eq (fun c_86 => ?_) (fun c_86 => ?_)
                · refine E_go 8 rfl ?_
                  have eb : b = 0 := jo_inj (by omega) (by omega) (lg_eq.mp c_86)
                  subst eb
                  rw [Nat.gcd_zero_right] at hg
                  refine r_iload_n rfl ?_
                  refine r_if_ne (fun c_108 => ?_) (fun c_108 => ?_)
                  · have c_108 := (not_congr (n_eq (a := 1) (b := 0) rfl rfl (by omega) (by omega))).mp c_108
                    refine E_go 9 rfl ?_
                    refine r_iload_n rfl ?_
                    refine r_i2l ?_
                    refine r_lload rfl ?_
                    refine r_ldiv (by intro z; have q := jo_inj (b := 0) (by omega) (by omega) z; omega) ?_
                    refine r_nil ?_
                    refine E_go 10 rfl ?_
                    refine r_lret rfl ?_
                    subst hg
                    rw [io_jo (by omega)]
                    rw [j_div (by omega) (by omega)]
                    exact hQ _ _ _ (R1.f gJ).rel
                  · have c_108 := (n_eq (a := 1) (b := 0) rfl rfl (by omega) (by omega)).mp c_108
                    omega
                · have hb0 : ¬ b = 0 := fun z => c_86 (lg_eq.mpr (by rw [z]; rfl))
                  refine r_lload rfl ?_
                  refine r_lload rfl ?_
                  refine r_lrem (fun z => c_86 (lg_eq.mpr z)) ?_
                  refine r_lstore (ls' := [_, _, _, _, _, _, _, _, _, _, _, _]) (zt rfl) rfl ?_
                  refine r_lload rfl ?_
                  refine r_lstore (ls' := [_, _, _, _, _, _, _, _, _, _, _, _]) (zt rfl) rfl ?_
                  refine r_lload rfl ?_
                  refine r_lstore (ls' := [_, _, _, _, _, _, _, _, _, _, _, _]) (zt rfl) rfl ?_
                  refine r_goto ?_
                  rw [j_rem (by omega) (by omega)]
                  refine ih (a % b) ?_ b (a % b) rfl ?_ (by omega) (by have := Nat.mod_lt a (show 0 < b by omega); omega) _ _
                  · exact Nat.mod_lt a (by omega)
                  · rw [hg, Nat.gcd_comm a b, Nat.gcd_rec b a, Nat.gcd_comm]
              refine E_go 6 rfl ?_
              refine r_lload rfl ?_
              refine r_lstore (ls' := [_, _, _, _, _, _, _, _, _, _, _, _]) (zt rfl) rfl ?_
              refine r_iload_n rfl ?_
              refine r_i2l ?_
              refine r_lstore (ls' := [_, _, _, _, _, _, _, _, _, _, _, _]) (zt rfl) rfl ?_
              refine r_nil ?_
              rw [io_jo (by omega)]
              exact key mm (qn (fbs ru (pX n I) x) mm) mm rfl rfl hq20 hm20 _ _
            have key : ∀ d i, i + d = mm → ∀ J2 L2, fS J J2 → ∀ x7 x8 x9 x10 x11, E xs (m + 5) xi_X7_chance 82 (fun r2 h2 => Q (.long (jo (mm / Nat.gcd (qn (fbs ru (pX n I) x) mm) mm))) r2 h2) 32 [.ref 61, .int x, .int (io mm), .int (io 1), .long (jo (qn (fbs ru (pX n I) x) i)), xU, .int (io i), x7, x8, x9, x10, x11] [] (82, J2, L2, xF0) := by
              intro d
              induction d using Nat.strongRecOn with
              | _ d ih =>
              intro i hd J2 L2 gJ x7 x8 x9 x10 x11
              refine E_go 3 rfl ?_
              refine r_iload rfl ?_
              refine r_iload_n rfl ?_
              refine r_icmp_ge (fun c_35 => ?_) (fun c_35 => ?_)
              · have c_35 := (n_le (a := mm) (b := i) rfl rfl (by omega) (by omega)).mp c_35
                have e : i = mm := by omega
                subst e
                exact fin2 _ _ _ _ _ _ _ gJ
              · have c_35 := (not_congr (n_le (a := mm) (b := i) rfl rfl (by omega) (by omega))).mp c_35
                refine r_aload_n rfl ?_
                refine r_iload_n rfl ?_
                refine r_iload rfl ?_
                refine r_iadd ?_
                refine r_virtual (vs := []) (as := [_]) (by decide) (zl rfl) rfl rfl (zl rfl) (Nat.le_refl _) (Or.inr (Or.inr ⟨zt rfl, rfl, zt rfl⟩)) ?_
                refine s_draws (s := x + io i) (by omega) h5 ((gJ.2.2 12 (by omega)).trans R1.mn) (fun K hK => ?_)
                have mc := ((R1.m (hl.f f1 hr6)).f gJ).w6 hK.1
                have hP := dW_P hK ((R1.eM f1).mf gJ)
                refine r_lload rfl ?_
                refine r_aload_n rfl ?_
                refine r_virtual (vs := []) (as := []) (by decide) (zl rfl) rfl rfl (zl rfl) (Nat.le_refl _) (Or.inr (Or.inr ⟨zt rfl, rfl, zt rfl⟩)) ?_
                have okd : okX (wT (pX n I) (dT (x + io i))) := wT_ok R.okX (dT_n _)
                refine s_firstDenied (X := (wT (pX n I) (dT (x + io i)))) (by omega) mc hP okd (fun K2 L3 q1 v hv hzv hnv => ?_) (fun K2 L3 q1 q2 => ?_)
                · have e1 : ¬ (fbs ru (pX n I) x) i = -1 := by
                    rcases fbr_cs (f := dn ru (wT (pX n I) (dT (x + io i)))) 6 0 with ⟨j, _, hj, _, _, e⟩ | ⟨hz, e⟩
                    · intro q
                      exact io_m1 (a := j) (by omega) (e.symm.trans q)
                    · exact absurd (hz v (by omega) (by omega)) hnv
                  refine r_iconst ?_
                  refine r_icmp_ne (fun c_53 => ?_) (fun c_53 => ?_)
                  · refine E_go 4 rfl ?_
                    refine r_lconst ?_
                    refine r_nil ?_
                    refine E_go 5 rfl ?_
                    refine r_ladd ?_
                    refine r_lstore (ls' := [_, _, _, _, _, _, _, _, _, _, _, _]) (zt rfl) rfl ?_
                    refine r_aload_n rfl ?_
                    refine r_virtual (vs := []) (as := []) (by decide) (zl rfl) rfl rfl (zl rfl) (Nat.le_refl _) (Or.inr (Or.inr ⟨zt rfl, rfl, zt rfl⟩)) ?_
                    refine s_laysBack (by omega) h5 ((gJ.2.2 12 (by omega)).trans R1.mn) (dW_g hK q1) (fun K3 q3 => ?_)
                    refine r_iincN (y := io (i + 1)) (ls' := [_, _, _, _, _, _, _, _, _, _, _, _]) rfl (zt rfl) (n_add (a := i) (b := 1) rfl rfl) rfl ?_
                    refine r_goto ?_
                    rw [show jo (qn (fbs ru (pX n I) x) i) + 0 = jo (qn (fbs ru (pX n I) x) i + 0) from (Int64.ofNat_add _ _).symm]
                    have e : qn (fbs ru (pX n I) x) (i + 1) = qn (fbs ru (pX n I) x) i + 0 := if_neg e1
                    have hx := ih (d - 1) (by omega) (i + 1) (by omega) K3 L3 (gJ.trans q3)
                    rw [e] at hx
                    exact hx _ _ _ _ _
                  · exact absurd c_53 (by unfold fdn; exact io_m1 (by have h3 : ∃ k, k < 2 ^ n ∧ dn ru (wT (pX n I) (dT (x + io i))) v = io k := dn_n (ru := ru) (X := (wT (pX n I) (dT (x + io i)))) h5 v; obtain ⟨k, hk, ek⟩ := h3; have h32 := two5 h5; rw [ek, io_nat (by omega)]; have ht := tz_lt k (by omega); omega))
                · have e1 : (fbs ru (pX n I) x) i = -1 := by
                    rcases fbr_cs (f := dn ru (wT (pX n I) (dT (x + io i)))) 6 0 with ⟨j, _, hj, _, hn2, e⟩ | ⟨hz, e⟩
                    · exact absurd (q2 j (by omega)) hn2
                    · exact e
                  refine r_iconst ?_
                  refine r_icmp_ne (fun c_53 => ?_) (fun c_53 => ?_)
                  · exact absurd rfl c_53
                  · refine r_lconst ?_
                    refine r_goto ?_
                    refine E_go 5 rfl ?_
                    refine r_ladd ?_
                    refine r_lstore (ls' := [_, _, _, _, _, _, _, _, _, _, _, _]) (zt rfl) rfl ?_
                    refine r_aload_n rfl ?_
                    refine r_virtual (vs := []) (as := []) (by decide) (zl rfl) rfl rfl (zl rfl) (Nat.le_refl _) (Or.inr (Or.inr ⟨zt rfl, rfl, zt rfl⟩)) ?_
                    refine s_laysBack (by omega) h5 ((gJ.2.2 12 (by omega)).trans R1.mn) (dW_g hK q1) (fun K3 q3 => ?_)
                    refine r_iincN (y := io (i + 1)) (ls' := [_, _, _, _, _, _, _, _, _, _, _, _]) rfl (zt rfl) (n_add (a := i) (b := 1) rfl rfl) rfl ?_
                    refine r_goto ?_
                    rw [show jo (qn (fbs ru (pX n I) x) i) + 1 = jo (qn (fbs ru (pX n I) x) i + 1) from (Int64.ofNat_add _ _).symm]
                    have e : qn (fbs ru (pX n I) x) (i + 1) = qn (fbs ru (pX n I) x) i + 1 := if_pos e1
                    have hx := ih (d - 1) (by omega) (i + 1) (by omega) K3 L3 (gJ.trans q3)
                    rw [e] at hx
                    exact hx _ _ _ _ _
            exact key mm 0 (by omega) J L fS.refl _ _ _ _ _
          · have c_19 := (n_eq (a := 1) (b := 0) rfl rfl (by omega) (by omega)).mp c_19
            omega
      have fin : ∀ J f, TC n r (wT (pX n I) f) I J → E xs (m + 5) xi_X6_chance 82 (fun r1 h1 => M xs (m + 6) xi_X7_chance [.ref 61, .int x, .int (io mm), .int (io 1)] h1 (fun r2 h2 => Q r1 r2 h2)) 81 [.ref 0, .int x, .int (io mm), .int (io 1), .int (io (qn (fbs ru (pX n I) x) mm)), .int (io mm)] [] (82, J, L, xF0) := by
        intro J f hJ
        refine E_go 5 rfl ?_
        refine r_iload rfl ?_
        refine r_iload_n rfl ?_
        refine r_static (vs := [_, _]) (by decide) (zl rfl) rfl rfl (zl rfl) (Nat.le_refl _) rfl ?_
        refine s_gcd (by omega) hq20 hm20 ?_
        refine r_istore (ls' := [_, _, _, _, _, _]) (zt rfl) rfl ?_
        refine r_iload rfl ?_
        refine r_iconst ?_
        refine r_icmp_ge (fun c_92 => ?_) (fun c_92 => ?_)
        · have c_92 := (n_le (a := 1) (b := (Nat.gcd (qn (fbs ru (pX n I) x) mm) mm)) rfl rfl (by omega) (by omega)).mp c_92
          refine E_go 6 rfl ?_
          refine r_iload_n rfl ?_
          refine r_if_ne (fun c_102 => ?_) (fun c_102 => ?_)
          · have c_102 := (not_congr (n_eq (a := 1) (b := 0) rfl rfl (by omega) (by omega))).mp c_102
            refine E_go 7 rfl ?_
            refine r_iload_n rfl ?_
            refine r_nil ?_
            refine E_go 8 rfl ?_
            refine r_iload rfl ?_
            refine r_idiv (by intro z; have := (io_inj (a := Nat.gcd (qn (fbs ru (pX n I) x) mm) mm) (b := 0) (by omega) (by omega)).mp z; omega) ?_
            refine r_i2l ?_
            refine r_nil ?_
            refine E_go 9 rfl ?_
            refine r_lret rfl ?_
            rw [n_div (a := mm) (b := Nat.gcd (qn (fbs ru (pX n I) x) mm) mm) rfl rfl (by omega) (by omega), io_jo (by omega)]
            exact finM J (hJ.1.fS (by omega) (by omega))
          · have c_102 := (n_eq (a := 1) (b := 0) rfl rfl (by omega) (by omega)).mp c_102
            omega
        · have c_92 := (not_congr (n_le (a := 1) (b := (Nat.gcd (qn (fbs ru (pX n I) x) mm) mm)) rfl rfl (by omega) (by omega))).mp c_92
          omega
      refine M_go (ls := [_, _, _, _, _, _]) (ml := 6) rfl rfl rfl (zl rfl) rfl ?_
      refine r_iload_n rfl ?_
      refine r_iconst ?_
      refine r_icmp_lt (fun c_2 => ?_) (fun c_2 => ?_)
      · have c_2 := (n_lt (a := mm) (b := 1) rfl rfl (by omega) (by omega)).mp c_2
        omega
      · have c_2 := (not_congr (n_lt (a := mm) (b := 1) rfl rfl (by omega) (by omega))).mp c_2
        refine r_iload_n rfl ?_
        refine r_bipush ?_
        refine r_icmp_gt (fun c_8 => ?_) (fun c_8 => ?_)
        · have c_8 := (n_lt (a := 20) (b := mm) rfl rfl (by omega) (by omega)).mp c_8
          omega
        · have c_8 := (not_congr (n_lt (a := 20) (b := mm) rfl rfl (by omega) (by omega))).mp c_8
          refine r_iload_n rfl ?_
          refine r_static (vs := [_]) (by decide) (zl rfl) rfl rfl (zl rfl) (Nat.le_refl _) rfl ?_
          refine s_isEither (by omega) ?_
          rw [if_pos (inN_io (by omega) (by omega))]
          refine r_if_ne (fun c_15 => ?_) (fun c_15 => ?_)
          · have c_15 := (not_congr (n_eq (a := 1) (b := 0) rfl rfl (by omega) (by omega))).mp c_15
            refine E_go 2 rfl ?_
            refine r_iconst ?_
            refine r_istore (ls' := [_, _, _, _, _, _]) (zt rfl) rfl ?_
            refine r_aload_n rfl ?_
            refine r_getA (q := 13) (by decide) rfl rfl (by decide) ?_
            refine r_aload_n rfl ?_
            refine r_getA (q := 1) (by decide) rfl rfl (by decide) ?_
            refine r_virtual (vs := []) (as := [_]) (by decide) (zl rfl) rfl rfl (zl rfl) (Nat.le_refl _) (Or.inr (Or.inr ⟨zt rfl, rfl, zt rfl⟩)) ?_
            refine s_becomes_13_1 (by omega) (fun J b1 => ?_)
            have t0 := TC_bec (R.c hl) b1
            refine r_iconst ?_
            refine r_istore (ls' := [_, _, _, _, _, _]) (zt rfl) rfl ?_
            refine r_nil ?_
            have key : ∀ d i, i + d = mm → ∀ J f, TC n r (wT (pX n I) f) I J → E xs (m + 5) xi_X6_chance 82 (fun r1 h1 => M xs (m + 6) xi_X7_chance [.ref 61, .int x, .int (io mm), .int (io 1)] h1 (fun r2 h2 => Q r1 r2 h2)) 39 [.ref 0, .int x, .int (io mm), .int (io 1), .int (io (qn (fbs ru (pX n I) x) i)), .int (io i)] [] (82, J, L, xF0) := by
              intro d
              induction d using Nat.strongRecOn with
              | _ d ih =>
              intro i hd J f hJ
              refine E_go 3 rfl ?_
              refine r_iload rfl ?_
              refine r_iload_n rfl ?_
              refine r_icmp_ge (fun c_42 => ?_) (fun c_42 => ?_)
              · have c_42 := (n_le (a := mm) (b := i) rfl rfl (by omega) (by omega)).mp c_42
                have e : i = mm := by omega
                subst e
                exact fin J f hJ
              · have c_42 := (not_congr (n_le (a := mm) (b := i) rfl rfl (by omega) (by omega))).mp c_42
                refine r_aload_n rfl ?_
                refine r_iload_n rfl ?_
                refine r_iload rfl ?_
                refine r_iadd ?_
                refine r_virtual (vs := []) (as := [_]) (by decide) (zl rfl) rfl rfl (zl rfl) (Nat.le_refl _) (Or.inr (Or.inr ⟨zt rfl, rfl, zt rfl⟩)) ?_
                refine s_drawThirsts (s := x + io i) (by omega) h5 hJ (fun J1 t1 => ?_)
                refine r_aload_n rfl ?_
                refine r_aload_n rfl ?_
                refine r_getA (q := 13) (by decide) rfl rfl (by decide) ?_
                refine r_virtual (vs := []) (as := [_]) (by decide) (zl rfl) rfl rfl (zl rfl) (Nat.le_refl _) (Or.inr (Or.inr ⟨zt rfl, rfl, zt rfl⟩)) ?_
                refine w_thoughtC (by omega) (R.c hl) t1 (fun J2 t2 k2 => ?_)
                refine r_aload_n rfl ?_
                refine r_getA (q := 19) (by decide) rfl rfl (by decide) ?_
                refine r_virtual (vs := []) (as := []) (by decide) (zl rfl) rfl rfl (zl rfl) (Nat.le_refl _) (Or.inr (Or.inr ⟨zt rfl, rfl, zt rfl⟩)) ?_
                refine s_firstBreach (by omega) ?_
                rw [fbr_c (fun j _ hj => hD_d k2 (by omega)), show fbr (dn ru (wT (wT (pX n I) f) (dT (x + io i)))) 6 0 = (fbs ru (pX n I) x) i from rfl]
                refine r_iconst ?_
                refine r_icmp_ne (fun c_69 => ?_) (fun c_69 => ?_)
                · refine E_go 4 rfl ?_
                  refine r_iincN (y := io (i + 1)) (ls' := [_, _, _, _, _, _]) rfl (zt rfl) (n_add (a := i) (b := 1) rfl rfl) rfl ?_
                  refine r_goto ?_
                  have e : qn (fbs ru (pX n I) x) (i + 1) = qn (fbs ru (pX n I) x) i := if_neg c_69
                  have hx := ih (d - 1) (by omega) (i + 1) (by omega) _ _ t2
                  rw [e] at hx
                  exact hx
                · refine r_iincN (y := io ((qn (fbs ru (pX n I) x) i) + 1)) (ls' := [_, _, _, _, _, _]) rfl (zt rfl) (n_add (a := (qn (fbs ru (pX n I) x) i)) (b := 1) rfl rfl) rfl ?_
                  refine r_nil ?_
                  refine E_go 4 rfl ?_
                  refine r_iincN (y := io (i + 1)) (ls' := [_, _, _, _, _, _]) rfl (zt rfl) (n_add (a := i) (b := 1) rfl rfl) rfl ?_
                  refine r_goto ?_
                  have e : qn (fbs ru (pX n I) x) (i + 1) = qn (fbs ru (pX n I) x) i + 1 := if_pos c_69
                  have hx := ih (d - 1) (by omega) (i + 1) (by omega) _ _ t2
                  rw [e] at hx
                  exact hx
            exact key mm 0 (by omega) J _ t0
          · have c_15 := (n_eq (a := 1) (b := 0) rfl rfl (by omega) (by omega)).mp c_15
            omega
  · refine M_go (ls := [_, _, _, _, _, _]) (ml := 6) rfl rfl rfl (zl rfl) rfl ?_
    refine r_iload_n rfl ?_
    refine r_iconst ?_
    refine r_icmp_lt (fun c_2 => ?_) (fun c_2 => ?_)
    · have c_2 := (jlt (b := 1) rfl (by omega)).mp c_2
      refine E_go 1 rfl ?_
      refine r_ldc2_w ?_
      refine r_lret rfl ?_
      refine M_go (ls := [_, _, _, _, _, _, _, _, _, _, _, _]) (ml := 12) rfl rfl rfl (zl rfl) rfl ?_
      refine r_iload_n rfl ?_
      refine r_i2l ?_
      refine r_lconst ?_
      refine r_ldc2_w ?_
      refine r_static (vs := [_, _, _]) (by decide) (zl rfl) rfl rfl (zl rfl) (Nat.le_refl _) rfl ?_
      refine s_inr (by omega) (x := y) (lo := 1) (hi := 20) (Int32.toInt_toInt64 _) (by decide) (by decide) ?_
      refine r_if_eq (fun c_9 => ?_) (fun c_9 => ?_)
      · refine E_go 1 rfl ?_
        refine r_ldc2_w ?_
        refine r_lret rfl ?_
        exact hQ _ _ _ R.rel
      · refine r_iload_n rfl ?_
        refine r_i2l ?_
        refine r_lconst ?_
        refine r_lconst ?_
        refine r_static (vs := [_, _, _]) (by decide) (zl rfl) rfl rfl (zl rfl) (Nat.le_refl _) rfl ?_
        refine s_in0 (by omega) (x := z) (k := 2) (Int32.toInt_toInt64 _) i64_0 rfl ?_
        refine r_if_ne (fun c_19 => ?_) (fun c_19 => ?_)
        · exact absurd ⟨b01n.mp c_9, b01n.mp c_19⟩ hy
        · refine r_nil ?_
          refine E_go 1 rfl ?_
          refine r_ldc2_w ?_
          refine r_lret rfl ?_
          exact hQ _ _ _ R.rel
    · have c_2 := (not_congr (jlt (b := 1) rfl (by omega))).mp c_2
      refine r_iload_n rfl ?_
      refine r_bipush ?_
      refine r_icmp_gt (fun c_8 => ?_) (fun c_8 => ?_)
      · have c_8 := (klt (b := 20) rfl (by omega)).mp c_8
        refine E_go 1 rfl ?_
        refine r_ldc2_w ?_
        refine r_lret rfl ?_
        refine M_go (ls := [_, _, _, _, _, _, _, _, _, _, _, _]) (ml := 12) rfl rfl rfl (zl rfl) rfl ?_
        refine r_iload_n rfl ?_
        refine r_i2l ?_
        refine r_lconst ?_
        refine r_ldc2_w ?_
        refine r_static (vs := [_, _, _]) (by decide) (zl rfl) rfl rfl (zl rfl) (Nat.le_refl _) rfl ?_
        refine s_inr (by omega) (x := y) (lo := 1) (hi := 20) (Int32.toInt_toInt64 _) (by decide) (by decide) ?_
        refine r_if_eq (fun c_9 => ?_) (fun c_9 => ?_)
        · refine E_go 1 rfl ?_
          refine r_ldc2_w ?_
          refine r_lret rfl ?_
          exact hQ _ _ _ R.rel
        · refine r_iload_n rfl ?_
          refine r_i2l ?_
          refine r_lconst ?_
          refine r_lconst ?_
          refine r_static (vs := [_, _, _]) (by decide) (zl rfl) rfl rfl (zl rfl) (Nat.le_refl _) rfl ?_
          refine s_in0 (by omega) (x := z) (k := 2) (Int32.toInt_toInt64 _) i64_0 rfl ?_
          refine r_if_ne (fun c_19 => ?_) (fun c_19 => ?_)
          · exact absurd ⟨b01n.mp c_9, b01n.mp c_19⟩ hy
          · refine r_nil ?_
            refine E_go 1 rfl ?_
            refine r_ldc2_w ?_
            refine r_lret rfl ?_
            exact hQ _ _ _ R.rel
      · have c_8 := (not_congr (klt (b := 20) rfl (by omega))).mp c_8
        refine r_iload_n rfl ?_
        refine r_static (vs := [_]) (by decide) (zl rfl) rfl rfl (zl rfl) (Nat.le_refl _) rfl ?_
        refine s_isEither (by omega) ?_
        refine r_if_ne (fun c_15 => ?_) (fun c_15 => ?_)
        · exact absurd ⟨⟨by omega, by omega⟩, b01n.mp c_15⟩ hy
        · refine r_nil ?_
          refine E_go 1 rfl ?_
          refine r_ldc2_w ?_
          refine r_lret rfl ?_
          refine M_go (ls := [_, _, _, _, _, _, _, _, _, _, _, _]) (ml := 12) rfl rfl rfl (zl rfl) rfl ?_
          refine r_iload_n rfl ?_
          refine r_i2l ?_
          refine r_lconst ?_
          refine r_ldc2_w ?_
          refine r_static (vs := [_, _, _]) (by decide) (zl rfl) rfl rfl (zl rfl) (Nat.le_refl _) rfl ?_
          refine s_inr (by omega) (x := y) (lo := 1) (hi := 20) (Int32.toInt_toInt64 _) (by decide) (by decide) ?_
          refine r_if_eq (fun c_9 => ?_) (fun c_9 => ?_)
          · refine E_go 1 rfl ?_
            refine r_ldc2_w ?_
            refine r_lret rfl ?_
            exact hQ _ _ _ R.rel
          · refine r_iload_n rfl ?_
            refine r_i2l ?_
            refine r_lconst ?_
            refine r_lconst ?_
            refine r_static (vs := [_, _, _]) (by decide) (zl rfl) rfl rfl (zl rfl) (Nat.le_refl _) rfl ?_
            refine s_in0 (by omega) (x := z) (k := 2) (Int32.toInt_toInt64 _) i64_0 rfl ?_
            refine r_if_ne (fun c_19 => ?_) (fun c_19 => ?_)
            · exact absurd ⟨b01n.mp c_9, b01n.mp c_19⟩ hy
            · refine r_nil ?_
              refine E_go 1 rfl ?_
              refine r_ldc2_w ?_
              refine r_lret rfl ?_
              exact hQ _ _ _ R.rel
