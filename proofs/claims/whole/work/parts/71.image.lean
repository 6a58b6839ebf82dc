/-! calls: image, back -/

/-- what the model keeps, or takes back -/
def kpt (p q : Nat) (I J : Nat → Nat → Int32) : Prop := (∀ r, ¬ (r = 61 ∨ r = p ∨ r = p + 1) → J r = I r) ∧ (∀ i, i < 15 → J p i = I q i) ∧ ∀ i, i < 5 → J (p + 1) i = I (q + 1) i
def kp1 (p q k : Nat) (I J : Nat → Nat → Int32) : Prop := (∀ r, ¬ r = p → J r = I r) ∧ ∀ i, i < k → J p i = I q i
def kp2 (p q k : Nat) (I J : Nat → Nat → Int32) : Prop := (∀ r, ¬ (r = p ∨ r = p + 1) → J r = I r) ∧ (∀ i, i < 15 → J p i = I q i) ∧ ∀ i, i < k → J (p + 1) i = I (q + 1) i

set_option maxRecDepth 10000 in
theorem s_mimage {xs : xSc} {m : Nat} {I : Nat → Nat → Int32} {L : Nat → Nat → Int64} {Q : Value → xHp → Prop} (hm : 1 ≤ m) (hQ : ∀ J, kpt 76 66 I J → (J 61 41 = I 61 12 ∧ J 61 42 = I 61 7 ∧ J 61 43 = I 61 8 ∧ J 61 44 = I 61 4) → (∀ k, ¬ (k = 41 ∨ k = 42 ∨ k = 43 ∨ k = 44) → J 61 k = I 61 k) → ∀ v, v = I 61 12 → Q (.int v) (Hp J L)) : M xs m xi_X7_image [.ref 61] (Hp I L) Q := by
  obtain ⟨m, rfl⟩ : ∃ k, m = k + 1 := ⟨m - 1, by omega⟩
  refine M_go (ls := [_, _]) (ml := 2) rfl rfl rfl (zl rfl) rfl ?_
  refine r_iconst ?_
  refine r_istore_n (ls' := [_, _]) (zt rfl) rfl ?_
  refine r_nil ?_
  have key2 : ∀ d k, k + d = 5 → ∀ J : Nat → Nat → Int32, kp2 76 66 k I J → E xs m xi_X7_image 82 Q 28 [.ref 61, .int (io k)] [] (82, J, L, xF0) := by
    intro d
    induction d using Nat.strongRecOn with
    | _ d ih =>
    intro k hd J hJ
    refine E_go 3 rfl ?_
    refine r_iload_n rfl ?_
    refine r_iconst ?_
    refine r_icmp_ge (fun c_30 => ?_) (fun c_30 => ?_)
    · have c_30 := (n_le (a := 5) (b := k) rfl rfl (by omega) (by omega)).mp c_30
      refine E_go 4 rfl ?_
      refine r_aload_n rfl ?_
      refine r_aload_n rfl ?_
      refine r_getI (by decide) rfl rfl (by decide) rfl ?_
      refine r_putI rfl rfl (by decide) ?_
      refine r_aload_n rfl ?_
      refine r_aload_n rfl ?_
      refine r_getI (by decide) rfl rfl (by decide) rfl ?_
      refine r_putI rfl rfl (by decide) ?_
      refine r_aload_n rfl ?_
      refine r_aload_n rfl ?_
      refine r_getI (by decide) rfl rfl (by decide) rfl ?_
      refine r_putI rfl rfl (by decide) ?_
      refine r_aload_n rfl ?_
      refine r_aload_n rfl ?_
      refine r_getI (by decide) rfl rfl (by decide) rfl ?_
      refine r_putI rfl rfl (by decide) ?_
      refine r_aload_n rfl ?_
      refine r_getI (by decide) rfl rfl (by decide) rfl ?_
      refine r_iret rfl trivial ?_
      have e : k = 5 := by omega
      subst e
      refine hQ _ ⟨fun r hr => by rw [up2_q (by omega), up2_q (by omega), up2_q (by omega), up2_q (by omega)]; exact hJ.1 r (by omega), fun i hi => by rw [up2_q (by omega), up2_q (by omega), up2_q (by omega), up2_q (by omega)]; exact hJ.2.1 i hi, fun i hi => by rw [up2_q (by omega), up2_q (by omega), up2_q (by omega), up2_q (by omega)]; exact hJ.2.2 i hi⟩ ⟨(by show up2 _ 61 _ _ 61 41 = _; rw [up2_k (by omega), up2_k (by omega), up2_k (by omega), up2_at, hJ.1 61 (by omega)]), (by show up2 _ 61 _ _ 61 42 = _; rw [up2_k (by omega), up2_k (by omega), up2_at, up2_k (by omega), hJ.1 61 (by omega)]), (by show up2 _ 61 _ _ 61 43 = _; rw [up2_k (by omega), up2_at, up2_k (by omega), up2_k (by omega), hJ.1 61 (by omega)]), (by show up2 _ 61 _ _ 61 44 = _; rw [up2_at, up2_k (by omega), up2_k (by omega), up2_k (by omega), hJ.1 61 (by omega)])⟩ (fun k hk => by rw [up2_k (by omega), up2_k (by omega), up2_k (by omega), up2_k (by omega), hJ.1 61 (by omega)]) _ ?_
      rw [up2_k (by omega), up2_k (by omega), up2_k (by omega), up2_k (by omega), hJ.1 61 (by omega)]
    · have c_30 := (not_congr (n_le (a := 5) (b := k) rfl rfl (by omega) (by omega))).mp c_30
      refine r_aload_n rfl ?_
      refine r_getA (q := 77) (by decide) rfl rfl (by decide) ?_
      refine r_iload_n rfl ?_
      refine r_aload_n rfl ?_
      refine r_getA (q := 67) (by decide) rfl rfl (by decide) ?_
      refine r_iload_n rfl ?_
      refine r_iaload (by decide) rfl (by decide) (ixE rfl (show k < 5 by omega) (by decide)) (congrFun (hJ.1 67 (by omega)) _) ?_
      refine r_iastore rfl (by decide) (ixE rfl (show k < 5 by omega) (by decide)) ?_
      refine r_iincN (y := io (k + 1)) (ls' := [_, _]) rfl (zt rfl) (n_add (a := k) (b := 1) rfl rfl) rfl ?_
      refine r_goto ?_
      refine ih (d - 1) (by omega) (k + 1) (by omega) _ ⟨fun r hr => by rw [up2_q (by omega)]; exact hJ.1 r hr, fun i hi => by rw [up2_q (by omega)]; exact hJ.2.1 i hi, all_succ (fun b hb => by rw [up2_k (by omega)]; exact hJ.2.2 b hb) up2_at⟩
  have key : ∀ d k, k + d = 15 → ∀ J : Nat → Nat → Int32, kp1 76 66 k I J → E xs m xi_X7_image 82 Q 2 [.ref 61, .int (io k)] [] (82, J, L, xF0) := by
    intro d
    induction d using Nat.strongRecOn with
    | _ d ih =>
    intro k hd J hJ
    refine E_go 1 rfl ?_
    refine r_iload_n rfl ?_
    refine r_bipush ?_
    refine r_icmp_ge (fun c_5 => ?_) (fun c_5 => ?_)
    · have c_5 := (n_le (a := 15) (b := k) rfl rfl (by omega) (by omega)).mp c_5
      refine E_go 2 rfl ?_
      refine r_iconst ?_
      refine r_istore_n (ls' := [_, _]) (zt rfl) rfl ?_
      refine r_nil ?_
      have e : k = 15 := by omega
      subst e
      exact key2 5 0 rfl J ⟨fun r hr => hJ.1 r (by omega), hJ.2, fun i hi => absurd hi (by omega)⟩
    · have c_5 := (not_congr (n_le (a := 15) (b := k) rfl rfl (by omega) (by omega))).mp c_5
      refine r_aload_n rfl ?_
      refine r_getA (q := 76) (by decide) rfl rfl (by decide) ?_
      refine r_iload_n rfl ?_
      refine r_aload_n rfl ?_
      refine r_getA (q := 66) (by decide) rfl rfl (by decide) ?_
      refine r_iload_n rfl ?_
      refine r_iaload (by decide) rfl (by decide) (ixE rfl (show k < 15 by omega) (by decide)) (congrFun (hJ.1 66 (by omega)) _) ?_
      refine r_iastore rfl (by decide) (ixE rfl (show k < 15 by omega) (by decide)) ?_
      refine r_iincN (y := io (k + 1)) (ls' := [_, _]) rfl (zt rfl) (n_add (a := k) (b := 1) rfl rfl) rfl ?_
      refine r_goto ?_
      refine ih (d - 1) (by omega) (k + 1) (by omega) _ ⟨fun r hr => by rw [up2_q (by omega)]; exact hJ.1 r hr, all_succ (fun b hb => by rw [up2_k (by omega)]; exact hJ.2 b hb) up2_at⟩
  exact key 15 0 rfl I ⟨fun _ _ => rfl, fun i hi => absurd hi (by omega)⟩

set_option maxRecDepth 10000 in
theorem s_mback {xs : xSc} {m : Nat} {I : Nat → Nat → Int32} {L : Nat → Nat → Int64} {Q : Value → xHp → Prop} (hm : 1 ≤ m) (hk : ¬ I 61 41 = -1) (hQ : ∀ J, kpt 66 76 I J → (J 61 12 = I 61 41 ∧ J 61 7 = I 61 42 ∧ J 61 8 = I 61 43 ∧ J 61 4 = I 61 44) → (∀ k, ¬ (k = 12 ∨ k = 7 ∨ k = 8 ∨ k = 4) → J 61 k = I 61 k) → ∀ v, v = J 61 12 → Q (.int v) (Hp J L)) : M xs m xi_X7_back [.ref 61] (Hp I L) Q := by
  obtain ⟨m, rfl⟩ : ∃ k, m = k + 1 := ⟨m - 1, by omega⟩
  refine M_go (ls := [_, _]) (ml := 2) rfl rfl rfl (zl rfl) rfl ?_
  refine r_aload_n rfl ?_
  refine r_getI (by decide) rfl rfl (by decide) rfl ?_
  refine r_iconst ?_
  refine r_icmp_ne (fun c_5 => ?_) (fun c_5 => ?_)
  · refine E_go 1 rfl ?_
    refine r_iconst ?_
    refine r_istore_n (ls' := [_, _]) (zt rfl) rfl ?_
    refine r_nil ?_
    have key2 : ∀ d k, k + d = 5 → ∀ J : Nat → Nat → Int32, kp2 66 76 k I J → E xs m xi_X7_back 82 Q 39 [.ref 61, .int (io k)] [] (82, J, L, xF0) := by
      intro d
      induction d using Nat.strongRecOn with
      | _ d ih =>
      intro k hd J hJ
      refine E_go 4 rfl ?_
      refine r_iload_n rfl ?_
      refine r_iconst ?_
      refine r_icmp_ge (fun c_41 => ?_) (fun c_41 => ?_)
      · have c_41 := (n_le (a := 5) (b := k) rfl rfl (by omega) (by omega)).mp c_41
        refine E_go 5 rfl ?_
        refine r_aload_n rfl ?_
        refine r_aload_n rfl ?_
        refine r_getI (by decide) rfl rfl (by decide) rfl ?_
        refine r_putI rfl rfl (by decide) ?_
        refine r_aload_n rfl ?_
        refine r_aload_n rfl ?_
        refine r_getI (by decide) rfl rfl (by decide) rfl ?_
        refine r_putI rfl rfl (by decide) ?_
        refine r_aload_n rfl ?_
        refine r_aload_n rfl ?_
        refine r_getI (by decide) rfl rfl (by decide) rfl ?_
        refine r_putI rfl rfl (by decide) ?_
        refine r_aload_n rfl ?_
        refine r_aload_n rfl ?_
        refine r_getI (by decide) rfl rfl (by decide) rfl ?_
        refine r_putI rfl rfl (by decide) ?_
        refine r_aload_n rfl ?_
        refine r_getI (by decide) rfl rfl (by decide) rfl ?_
        refine r_iret rfl trivial ?_
        have e : k = 5 := by omega
        subst e
        refine hQ _ ⟨fun r hr => by rw [up2_q (by omega), up2_q (by omega), up2_q (by omega), up2_q (by omega)]; exact hJ.1 r (by omega), fun i hi => by rw [up2_q (by omega), up2_q (by omega), up2_q (by omega), up2_q (by omega)]; exact hJ.2.1 i hi, fun i hi => by rw [up2_q (by omega), up2_q (by omega), up2_q (by omega), up2_q (by omega)]; exact hJ.2.2 i hi⟩ ⟨(by show up2 _ 61 _ _ 61 12 = _; rw [up2_k (by omega), up2_k (by omega), up2_k (by omega), up2_at, hJ.1 61 (by omega)]), (by show up2 _ 61 _ _ 61 7 = _; rw [up2_k (by omega), up2_k (by omega), up2_at, up2_k (by omega), hJ.1 61 (by omega)]), (by show up2 _ 61 _ _ 61 8 = _; rw [up2_k (by omega), up2_at, up2_k (by omega), up2_k (by omega), hJ.1 61 (by omega)]), (by show up2 _ 61 _ _ 61 4 = _; rw [up2_at, up2_k (by omega), up2_k (by omega), up2_k (by omega), hJ.1 61 (by omega)])⟩ (fun k hk => by rw [up2_k (by omega), up2_k (by omega), up2_k (by omega), up2_k (by omega), hJ.1 61 (by omega)]) _ ?_
        rfl
      · have c_41 := (not_congr (n_le (a := 5) (b := k) rfl rfl (by omega) (by omega))).mp c_41
        refine r_aload_n rfl ?_
        refine r_getA (q := 67) (by decide) rfl rfl (by decide) ?_
        refine r_iload_n rfl ?_
        refine r_aload_n rfl ?_
        refine r_getA (q := 77) (by decide) rfl rfl (by decide) ?_
        refine r_iload_n rfl ?_
        refine r_iaload (by decide) rfl (by decide) (ixE rfl (show k < 5 by omega) (by decide)) (congrFun (hJ.1 77 (by omega)) _) ?_
        refine r_iastore rfl (by decide) (ixE rfl (show k < 5 by omega) (by decide)) ?_
        refine r_iincN (y := io (k + 1)) (ls' := [_, _]) rfl (zt rfl) (n_add (a := k) (b := 1) rfl rfl) rfl ?_
        refine r_goto ?_
        refine ih (d - 1) (by omega) (k + 1) (by omega) _ ⟨fun r hr => by rw [up2_q (by omega)]; exact hJ.1 r hr, fun i hi => by rw [up2_q (by omega)]; exact hJ.2.1 i hi, all_succ (fun b hb => by rw [up2_k (by omega)]; exact hJ.2.2 b hb) up2_at⟩
    have key : ∀ d k, k + d = 15 → ∀ J : Nat → Nat → Int32, kp1 66 76 k I J → E xs m xi_X7_back 82 Q 13 [.ref 61, .int (io k)] [] (82, J, L, xF0) := by
      intro d
      induction d using Nat.strongRecOn with
      | _ d ih =>
      intro k hd J hJ
      refine E_go 2 rfl ?_
      refine r_iload_n rfl ?_
      refine r_bipush ?_
      refine r_icmp_ge (fun c_16 => ?_) (fun c_16 => ?_)
      · have c_16 := (n_le (a := 15) (b := k) rfl rfl (by omega) (by omega)).mp c_16
        refine E_go 3 rfl ?_
        refine r_iconst ?_
        refine r_istore_n (ls' := [_, _]) (zt rfl) rfl ?_
        refine r_nil ?_
        have e : k = 15 := by omega
        subst e
        exact key2 5 0 rfl J ⟨fun r hr => hJ.1 r (by omega), hJ.2, fun i hi => absurd hi (by omega)⟩
      · have c_16 := (not_congr (n_le (a := 15) (b := k) rfl rfl (by omega) (by omega))).mp c_16
        refine r_aload_n rfl ?_
        refine r_getA (q := 66) (by decide) rfl rfl (by decide) ?_
        refine r_iload_n rfl ?_
        refine r_aload_n rfl ?_
        refine r_getA (q := 76) (by decide) rfl rfl (by decide) ?_
        refine r_iload_n rfl ?_
        refine r_iaload (by decide) rfl (by decide) (ixE rfl (show k < 15 by omega) (by decide)) (congrFun (hJ.1 76 (by omega)) _) ?_
        refine r_iastore rfl (by decide) (ixE rfl (show k < 15 by omega) (by decide)) ?_
        refine r_iincN (y := io (k + 1)) (ls' := [_, _]) rfl (zt rfl) (n_add (a := k) (b := 1) rfl rfl) rfl ?_
        refine r_goto ?_
        refine ih (d - 1) (by omega) (k + 1) (by omega) _ ⟨fun r hr => by rw [up2_q (by omega)]; exact hJ.1 r hr, all_succ (fun b hb => by rw [up2_k (by omega)]; exact hJ.2 b hb) up2_at⟩
    exact key 15 0 rfl I ⟨fun _ _ => rfl, fun i hi => absurd hi (by omega)⟩
  · exact absurd c_5 hk

theorem RX.img {n tc r tp : Nat} {I J K : Nat → Nat → Int32} (h : RX n tc r tp I) (b : bec 7 1 I J) (k : kpt 76 66 (up2 J 0 8 1) K) (e : K 61 41 = J 61 12 ∧ K 61 42 = J 61 7 ∧ K 61 43 = J 61 8 ∧ K 61 44 = J 61 4) (f : ∀ j, ¬ (j = 41 ∨ j = 42 ∨ j = 43 ∨ j = 44) → K 61 j = J 61 j) : RX n tc r tp K := by
  have kJ : ∀ p, ¬ (p = 0 ∨ p = 61 ∨ p = 76 ∨ p = 77) → K p = J p := fun p hp => (k.1 p (by omega)).trans (up2_q (by omega))
  have kI : ∀ p, ¬ (p = 0 ∨ p = 61 ∨ p = 76 ∨ p = 77 ∨ (7 ≤ p ∧ p ≤ 12)) → K p = I p := fun p hp => (kJ p (by omega)).trans (b.1 p (by omega))
  have s61 : ∀ j, ¬ (j = 41 ∨ j = 42 ∨ j = 43 ∨ j = 44) → K 61 j = I 61 j := fun j hj => (f j hj).trans (congrFun (b.1 61 (by omega)) j)
  have s0 : ∀ j, ¬ j = 8 → K 0 j = I 0 j := fun j hj => by rw [k.1 0 (by omega), up2_k hj, b.1 0 (by omega)]
  have j61 : J 61 = I 61 := b.1 61 (by omega)
  have j66 : ∀ i, i < 15 → K 76 i = I 66 i := fun i hi => by rw [k.2.1 i hi, up2_q (by omega), b.1 66 (by omega)]
  have j67 : ∀ i, i < 5 → K 77 i = I 67 i := fun i hi => by rw [k.2.2 i hi, up2_q (by omega), b.1 67 (by omega)]
  have n5 := h.n5
  refine ⟨h.1.g ?_ ?_ ?_ ?_ ?_ ?_ ?_ ?_ ?_ ?_ ?_ ?_ ?_ ?_, h.2.1.g (s0 _ (by omega)) ?_ ?_ ?_ ?_ ?_ (fun p _ _ => kI p (by omega)), h.2.2.1.g ?_ ?_ ?_ ?_, Or.inr ⟨?_, n, r, ⟨Nat.le_refl _, ?_, ?_⟩, ⟨h.rt, ?_, ?_⟩, ⟨?_, ?_⟩, ⟨?_, ?_⟩, fun a ha => ?_⟩, h.2.2.2.2.g (fun p _ => kI p (by omega))⟩
  any_goals exact s61 _ (by omega)
  any_goals exact kI _ (by omega)
  any_goals exact congrFun (kI _ (by omega)) _
  · rw [k.1 0 (by omega), up2_at]
  · rw [kJ 7 (by omega), b.2.1.2.2.2]; exact h.cn
  · rw [e.1, j61]; exact h.mn
  · rw [kJ 7 (by omega), b.2.1.2.2.1]; exact h.cr
  · rw [e.2.2.2, j61]; exact h.mr
  · rw [e.2.1, j61, kJ 7 (by omega), b.2.1.1]; exact h.mh
  · rw [kJ 7 (by omega), b.2.1.1]; exact h.1.2.1.2
  · rw [e.2.2.1, j61, kJ 7 (by omega), b.2.1.2.1]; exact h.mo
  · rw [kJ 7 (by omega), b.2.1.2.1]; exact h.1.2.2.1.2
  · obtain ⟨⟨q1, q2⟩, q3, q4, q5⟩ := b.2.2 a (by omega)
    obtain ⟨i1, i2, i3, i4, i5⟩ := h.1.2.2.2 a ha
    rw [kJ 8 (by omega), kJ 9 (by omega), kJ 10 (by omega), kJ 11 (by omega), kJ 12 (by omega), q1, q2, q3, q4, q5, kI 2 (by omega), j66 _ (by omega), j66 _ (by omega), j66 _ (by omega), j67 _ (by omega)]
    exact ⟨rfl, i2, i3, i4, i5⟩
theorem RX.bck {n tc r tp nk rk : Nat} {I J K : Nat → Nat → Int32} (h : RX n tc r tp I) (h8 : I 0 8 = 1) (hi : RIy n tc nk rk I) (b : bec 1 7 I J) (k : kpt 66 76 J K) (e : K 61 12 = J 61 41 ∧ K 61 7 = J 61 42 ∧ K 61 8 = J 61 43 ∧ K 61 4 = J 61 44) (f : ∀ j, ¬ (j = 12 ∨ j = 7 ∨ j = 8 ∨ j = 4) → K 61 j = J 61 j) : RX nk tc rk tp K := by
  have kJ : ∀ p, ¬ (p = 61 ∨ p = 66 ∨ p = 67) → K p = J p := fun p hp => k.1 p (by omega)
  have kI : ∀ p, ¬ (p = 61 ∨ p = 66 ∨ p = 67 ∨ (1 ≤ p ∧ p ≤ 6)) → K p = I p := fun p hp => (kJ p (by omega)).trans (b.1 p (by omega))
  have s61 : ∀ j, ¬ (j = 12 ∨ j = 7 ∨ j = 8 ∨ j = 4) → K 61 j = I 61 j := fun j hj => (f j hj).trans (congrFun (b.1 61 (by omega)) j)
  have j61 : J 61 = I 61 := b.1 61 (by omega)
  have j76 : ∀ i, i < 15 → K 66 i = I 76 i := fun i hi => by rw [k.2.1 i hi, b.1 76 (by omega)]
  have j77 : ∀ i, i < 5 → K 67 i = I 77 i := fun i hi => by rw [k.2.2 i hi, b.1 77 (by omega)]
  have n5 := h.n5
  obtain ⟨⟨hn, c1, c2⟩, ⟨hr, c3, c4⟩, ⟨c5, c6⟩, ⟨c7, c8⟩, ca⟩ := hi
  have g0 : K 1 0 = I 7 0 := by rw [kJ 1 (by omega)]; exact b.2.1.1
  have g1 : K 1 1 = I 7 1 := by rw [kJ 1 (by omega)]; exact b.2.1.2.1
  have g2 : K 1 2 = I 7 2 := by rw [kJ 1 (by omega)]; exact b.2.1.2.2.1
  have g3 : K 1 3 = I 7 3 := by rw [kJ 1 (by omega)]; exact b.2.1.2.2.2
  have ga : ∀ a, a < 5 → (K 2 a = I 8 a ∧ K 3 a = I 9 a) ∧ K 4 a = I 10 a ∧ K 5 a = I 11 a ∧ K 6 a = I 12 a := fun a ha => by
    rw [kJ 2 (by omega), kJ 3 (by omega), kJ 4 (by omega), kJ 5 (by omega), kJ 6 (by omega)]
    exact b.2.2 a ha
  refine ⟨⟨⟨by omega, by rw [g3]; exact c1, by rw [e.1, j61]; exact c2⟩, ⟨by rw [e.2.1, j61, g0]; exact c5, by rw [g0]; exact c6⟩, ⟨by rw [e.2.2.1, j61, g1]; exact c7, by rw [g1]; exact c8⟩, fun a ha => ?_⟩, ⟨⟨h.2.1.1.1, h.2.1.1.2.1, by rw [kI 0 (by omega)]; exact h.ct, by rw [s61 3 (by omega)]; exact h.mt⟩, ⟨hr, by rw [g2]; exact c3, by rw [e.2.2.2, j61]; exact c4⟩, fun t ht => ?_⟩, h.2.2.1.g ?_ ?_ ?_ ?_, Or.inr ⟨?_, nk, rk, ⟨Nat.le_refl _, ?_, ?_⟩, ⟨hr, ?_, ?_⟩, ⟨?_, ?_⟩, ⟨?_, ?_⟩, fun a ha => ?_⟩, h.2.2.2.2.g (fun p _ => kI p (by omega))⟩
  any_goals exact s61 _ (by omega)
  any_goals exact kI _ (by omega)
  any_goals exact congrFun (kI _ (by omega)) _
  · obtain ⟨d1, d2, d3, d4, d5⟩ := ca a ha
    obtain ⟨⟨q1, q2⟩, q3, q4, q5⟩ := ga a (by omega)
    unfold mNu mTh mPl
    rw [q1, q2, q3, q4, q5, j76 _ (by omega), j76 _ (by omega), j76 _ (by omega), j77 _ (by omega), kI 65 (by omega), d1]
    exact ⟨(h.1.2.2.2 a (by omega)).1, d2, d3, d4, d5⟩
  · obtain ⟨c, k1, k2⟩ := h.2.1.2.2 t ht
    have := tq_b (show t < 6 from Nat.lt_of_lt_of_le ht h.t6)
    exact ⟨c, mTx_s (kI 62 (by omega)) (kI 63 (by omega)) k1, cTx_s (kI _ (by omega)) (kI _ (by omega)) k2⟩
  · rw [kI 0 (by omega)]; exact h8
  · rw [kI 7 (by omega)]; exact c1
  · rw [s61 _ (by omega)]; exact c2
  · rw [kI 7 (by omega)]; exact c3
  · rw [s61 _ (by omega)]; exact c4
  · rw [s61 _ (by omega), kI 7 (by omega)]; exact c5
  · rw [kI 7 (by omega)]; exact c6
  · rw [s61 _ (by omega), kI 7 (by omega)]; exact c7
  · rw [kI 7 (by omega)]; exact c8
  · obtain ⟨d1, d2, d3, d4, d5⟩ := ca a ha
    rw [kI 8 (by omega), kI 9 (by omega), kI 10 (by omega), kI 11 (by omega), kI 12 (by omega), kI 76 (by omega), kI 77 (by omega), (ga a (by omega)).1.1]
    exact ⟨rfl, d2, d3, d4, d5⟩

set_option maxRecDepth 10000 in
theorem tz_image {xs : xSc} {m : Nat} {I : Nat → Nat → Int32} {L : Nat → Nat → Int64} {Q : Value → Value → xHp → Prop} (hm : 90 ≤ m) (hR : Rel I) (hQ : ∀ (x : Int32) J L2, Rel J → Q (.int x) (.int x) (Hp J L2)) : M xs m xi_X6_image [.ref 0] (Hp I L) (fun r1 h1 => M xs m xi_X7_image [.ref 61] h1 (fun r2 h2 => Q r1 r2 h2)) := by
  obtain ⟨m, rfl⟩ : ∃ k, m = k + 6 := ⟨m - 6, by omega⟩
  obtain ⟨n, tc, r, tp, R⟩ := hR
  have h5 := R.n5
  have hr6 := R.r6
  have ht6 := R.t6
  have hrt := R.rt
  have hp160 := R.2.2.1.1.1
  refine M_go (ls := [_]) (ml := 1) rfl rfl rfl (zl rfl) rfl ?_
  refine r_aload_n rfl ?_
  refine r_getA (q := 7) (by decide) rfl rfl (by decide) ?_
  refine r_aload_n rfl ?_
  refine r_getA (q := 1) (by decide) rfl rfl (by decide) ?_
  refine r_virtual (vs := []) (as := [_]) (by decide) (zl rfl) rfl rfl (zl rfl) (Nat.le_refl _) (Or.inr (Or.inr ⟨zt rfl, rfl, zt rfl⟩)) ?_
  refine s_becomes_7_1 (by omega) (fun J b1 => ?_)
  refine r_aload_n rfl ?_
  refine r_iconst ?_
  refine r_putZ rfl rfl (by decide) (by first | exact Or.inl rfl | exact Or.inr rfl) ?_
  refine r_aload_n rfl ?_
  refine r_getA (q := 1) (by decide) rfl rfl (by decide) ?_
  refine r_getI (by decide) rfl rfl (by decide) ((congrFun (b1.1 1 (by omega)) _).trans R.cn) ?_
  refine r_iret rfl trivial ?_
  refine s_mimage (by omega) (fun K k1 k2 k3 v hv => ?_)
  have ev : v = io n := by rw [hv, up2_q (by omega), b1.1 61 (by omega)]; exact R.mn
  subst ev
  exact hQ _ _ _ (R.img b1 k1 k2 k3).rel

set_option maxRecDepth 10000 in
theorem tz_back {xs : xSc} {m : Nat} {I : Nat → Nat → Int32} {L : Nat → Nat → Int64} {Q : Value → Value → xHp → Prop} (hm : 90 ≤ m) (hR : Rel I) (hQ : ∀ (x : Int32) J L2, Rel J → Q (.int x) (.int x) (Hp J L2)) : M xs m xi_X6_back [.ref 0] (Hp I L) (fun r1 h1 => M xs m xi_X7_back [.ref 61] h1 (fun r2 h2 => Q r1 r2 h2)) := by
  obtain ⟨m, rfl⟩ : ∃ k, m = k + 6 := ⟨m - 6, by omega⟩
  obtain ⟨n, tc, r, tp, R⟩ := hR
  have h5 := R.n5
  have hr6 := R.r6
  have ht6 := R.t6
  have hrt := R.rt
  have hp160 := R.2.2.1.1.1
  rcases R.2.2.2.1 with ⟨h1, h2⟩ | ⟨h1, nk, rk, hi⟩
  · refine M_go (ls := [_]) (ml := 1) rfl rfl rfl (zl rfl) rfl ?_
    refine r_aload_n rfl ?_
    refine r_getZ (by decide) rfl rfl (by decide) h1 ?_
    refine r_if_ne (fun c_4 => ?_) (fun c_4 => ?_)
    · have c_4 := (not_congr (n_eq (a := 0) (b := 0) rfl rfl (by omega) (by omega))).mp c_4
      exact absurd rfl c_4
    · have c_4 := (n_eq (a := 0) (b := 0) rfl rfl (by omega) (by omega)).mp c_4
      refine r_bipush ?_
      refine r_iret rfl trivial ?_
      refine M_go (ls := [_, _]) (ml := 2) rfl rfl rfl (zl rfl) rfl ?_
      refine r_aload_n rfl ?_
      refine r_getI (by decide) rfl rfl (by decide) h2 ?_
      refine r_iconst ?_
      refine r_icmp_ne (fun c_5 => ?_) (fun c_5 => ?_)
      · exact absurd rfl c_5
      · refine r_bipush ?_
        refine r_iret rfl trivial ?_
        exact hQ _ _ _ R.rel
  · refine M_go (ls := [_]) (ml := 1) rfl rfl rfl (zl rfl) rfl ?_
    refine r_aload_n rfl ?_
    refine r_getZ (by decide) rfl rfl (by decide) h1 ?_
    refine r_if_ne (fun c_4 => ?_) (fun c_4 => ?_)
    · have c_4 := (not_congr (n_eq (a := 1) (b := 0) rfl rfl (by omega) (by omega))).mp c_4
      refine E_go 1 rfl ?_
      refine r_aload_n rfl ?_
      refine r_getA (q := 1) (by decide) rfl rfl (by decide) ?_
      refine r_aload_n rfl ?_
      refine r_getA (q := 7) (by decide) rfl rfl (by decide) ?_
      refine r_virtual (vs := []) (as := [_]) (by decide) (zl rfl) rfl rfl (zl rfl) (Nat.le_refl _) (Or.inr (Or.inr ⟨zt rfl, rfl, zt rfl⟩)) ?_
      refine s_becomes_1_7 (by omega) (fun J b1 => ?_)
      refine r_aload_n rfl ?_
      refine r_getA (q := 1) (by decide) rfl rfl (by decide) ?_
      refine r_getI (by decide) rfl rfl (by decide) (b1.2.1.2.2.2.trans hi.1.2.1) ?_
      refine r_iret rfl trivial ?_
      have h41 : J 61 41 = io nk := by rw [b1.1 61 (by omega)]; exact hi.1.2.2
      have hk5 : nk ≤ 5 := by have := hi.1.1; omega
      refine s_mback (by omega) (by rw [h41]; exact io_m1 (by omega)) (fun K k1 k2 k3 v hv => ?_)
      have ev : v = io nk := by rw [hv, k2.1]; exact h41
      subst ev
      exact hQ _ _ _ (R.bck h1 hi b1 k1 k2 k3).rel
    · have c_4 := (n_eq (a := 1) (b := 0) rfl rfl (by omega) (by omega)).mp c_4
      omega
