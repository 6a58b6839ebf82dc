/-! the glass: an hour of the class -/

/-- the glass holds an hour's state -/
def cH (n : Nat) (I : Nat → Nat → Int32) (s : Hs) : Prop := I 19 0 = s.1 ∧ I 19 8 = io n ∧ (∀ a, a < n → I 20 a = s.2.1 a) ∧ (∀ a, a < n → I 21 a = s.2.2.1 a) ∧ (∀ a, a < n → I 22 a = s.2.2.2 a)

set_option maxRecDepth 10000 in
theorem s_turns_1 {xs : xSc} {m : Nat} (hm : 1 ≤ m) {I : Nat → Nat → Int32} {L : Nat → Nat → Int64} {Q : Value → xHp → Prop} (hQ : ∀ J, oF 19 28 I J → J 19 0 = I 1 0 → J 19 8 = I 1 3 → (∀ b, b < 5 → J 20 b = I 4 b ∧ J 21 b = 0 ∧ J 22 b = 0) → Q .null (Hp J L)) : M xs m xi_X0_turns [.ref 19, .ref 1] (Hp I L) Q := by
  obtain ⟨m, rfl⟩ : ∃ k, m = k + 1 := ⟨m - 1, by omega⟩
  have key : ∀ d a, a + d = 5 → ∀ J, (oF 19 28 I J ∧ J 19 0 = I 1 0 ∧ J 19 8 = I 1 3) ∧ (∀ b, b < a → J 20 b = I 4 b ∧ J 21 b = 0 ∧ J 22 b = 0) → E xs m xi_X0_turns 82 Q 18 [.ref 19, .ref 1, .int (io a)] [] (82, J, L, xF0) := by
    intro d
    induction d using Nat.strongRecOn with
    | _ d ih =>
    intro a hd J hJ
    refine E_go 1 rfl ?_
    refine r_iload_n rfl ?_
    refine r_iconst ?_
    refine r_icmp_ge (fun c_20 => ?_) (fun c_20 => ?_)
    · have c_20 := (n_le (a := 5) (b := a) rfl rfl (by omega) (by omega)).mp c_20
      refine E_go 2 rfl ?_
      refine r_ret rfl ?_
      exact hQ J hJ.1.1 hJ.1.2.1 hJ.1.2.2 (fun b hb => hJ.2 b (by omega))
    · have c_20 := (not_congr (n_le (a := 5) (b := a) rfl rfl (by omega) (by omega))).mp c_20
      refine r_aload_n rfl ?_
      refine r_getA (q := 20) (by decide) rfl rfl (by decide) ?_
      refine r_iload_n rfl ?_
      refine r_aload_n rfl ?_
      refine r_getA (q := 4) (by decide) rfl rfl (by decide) ?_
      refine r_iload_n rfl ?_
      refine r_iaload (by decide) rfl (by decide) (ixE rfl (show a < 5 by omega) (by decide)) rfl ?_
      refine r_iastore rfl (by decide) (ixE rfl (show a < 5 by omega) (by decide)) ?_
      refine r_aload_n rfl ?_
      refine r_getA (q := 21) (by decide) rfl rfl (by decide) ?_
      refine r_iload_n rfl ?_
      refine r_iconst ?_
      refine r_iastore rfl (by decide) (ixE rfl (show a < 5 by omega) (by decide)) ?_
      refine r_aload_n rfl ?_
      refine r_getA (q := 22) (by decide) rfl rfl (by decide) ?_
      refine r_iload_n rfl ?_
      refine r_iconst ?_
      refine r_iastore rfl (by decide) (ixE rfl (show a < 5 by omega) (by decide)) ?_
      refine r_iincN (y := io (a + 1)) (ls' := [_, _, _]) rfl (zt rfl) (n_add (a := a) (b := 1) rfl rfl) rfl ?_
      refine r_goto ?_
      refine ih (d - 1) (by omega) (a + 1) (by omega) _ ?_
      refine ⟨⟨((hJ.1.1.up (by omega) (by omega)).up (by omega) (by omega)).up (by omega) (by omega), hJ.1.2.1, hJ.1.2.2⟩, all_succ (fun b hb => ?_) ?_⟩
      · have e := hJ.2 b hb
        simp [up2, show ¬ b = a by omega, e]
      · simp [up2, hJ.1.1 4 (by omega)]
  refine M_go (ls := [_, _, _]) (ml := 3) rfl rfl rfl (zl rfl) rfl ?_
  refine r_aload_n rfl ?_
  refine r_aload_n rfl ?_
  refine r_getI (by decide) rfl rfl (by decide) rfl ?_
  refine r_putI rfl rfl (by decide) ?_
  refine r_aload_n rfl ?_
  refine r_aload_n rfl ?_
  refine r_getI (by decide) rfl rfl (by decide) rfl ?_
  refine r_putI rfl rfl (by decide) ?_
  refine r_iconst ?_
  refine r_istore_n (ls' := [_, _, _]) (zt rfl) rfl ?_
  refine r_nil ?_
  refine key 5 0 rfl _ ?_
  exact ⟨⟨(oF.refl.up (by omega) (by omega)).up (by omega) (by omega), by simp [up2], by simp [up2]⟩, fun b hb => absurd hb (by omega)⟩

set_option maxRecDepth 10000 in
theorem s_turns_13 {xs : xSc} {m : Nat} (hm : 1 ≤ m) {I : Nat → Nat → Int32} {L : Nat → Nat → Int64} {Q : Value → xHp → Prop} (hQ : ∀ J, oF 19 28 I J → J 19 0 = I 13 0 → J 19 8 = I 13 3 → (∀ b, b < 5 → J 20 b = I 16 b ∧ J 21 b = 0 ∧ J 22 b = 0) → Q .null (Hp J L)) : M xs m xi_X0_turns [.ref 19, .ref 13] (Hp I L) Q := by
  obtain ⟨m, rfl⟩ : ∃ k, m = k + 1 := ⟨m - 1, by omega⟩
  have key : ∀ d a, a + d = 5 → ∀ J, (oF 19 28 I J ∧ J 19 0 = I 13 0 ∧ J 19 8 = I 13 3) ∧ (∀ b, b < a → J 20 b = I 16 b ∧ J 21 b = 0 ∧ J 22 b = 0) → E xs m xi_X0_turns 82 Q 18 [.ref 19, .ref 13, .int (io a)] [] (82, J, L, xF0) := by
    intro d
    induction d using Nat.strongRecOn with
    | _ d ih =>
    intro a hd J hJ
    refine E_go 1 rfl ?_
    refine r_iload_n rfl ?_
    refine r_iconst ?_
    refine r_icmp_ge (fun c_20 => ?_) (fun c_20 => ?_)
    · have c_20 := (n_le (a := 5) (b := a) rfl rfl (by omega) (by omega)).mp c_20
      refine E_go 2 rfl ?_
      refine r_ret rfl ?_
      exact hQ J hJ.1.1 hJ.1.2.1 hJ.1.2.2 (fun b hb => hJ.2 b (by omega))
    · have c_20 := (not_congr (n_le (a := 5) (b := a) rfl rfl (by omega) (by omega))).mp c_20
      refine r_aload_n rfl ?_
      refine r_getA (q := 20) (by decide) rfl rfl (by decide) ?_
      refine r_iload_n rfl ?_
      refine r_aload_n rfl ?_
      refine r_getA (q := 16) (by decide) rfl rfl (by decide) ?_
      refine r_iload_n rfl ?_
      refine r_iaload (by decide) rfl (by decide) (ixE rfl (show a < 5 by omega) (by decide)) rfl ?_
      refine r_iastore rfl (by decide) (ixE rfl (show a < 5 by omega) (by decide)) ?_
      refine r_aload_n rfl ?_
      refine r_getA (q := 21) (by decide) rfl rfl (by decide) ?_
      refine r_iload_n rfl ?_
      refine r_iconst ?_
      refine r_iastore rfl (by decide) (ixE rfl (show a < 5 by omega) (by decide)) ?_
      refine r_aload_n rfl ?_
      refine r_getA (q := 22) (by decide) rfl rfl (by decide) ?_
      refine r_iload_n rfl ?_
      refine r_iconst ?_
      refine r_iastore rfl (by decide) (ixE rfl (show a < 5 by omega) (by decide)) ?_
      refine r_iincN (y := io (a + 1)) (ls' := [_, _, _]) rfl (zt rfl) (n_add (a := a) (b := 1) rfl rfl) rfl ?_
      refine r_goto ?_
      refine ih (d - 1) (by omega) (a + 1) (by omega) _ ?_
      refine ⟨⟨((hJ.1.1.up (by omega) (by omega)).up (by omega) (by omega)).up (by omega) (by omega), hJ.1.2.1, hJ.1.2.2⟩, all_succ (fun b hb => ?_) ?_⟩
      · have e := hJ.2 b hb
        simp [up2, show ¬ b = a by omega, e]
      · simp [up2, hJ.1.1 16 (by omega)]
  refine M_go (ls := [_, _, _]) (ml := 3) rfl rfl rfl (zl rfl) rfl ?_
  refine r_aload_n rfl ?_
  refine r_aload_n rfl ?_
  refine r_getI (by decide) rfl rfl (by decide) rfl ?_
  refine r_putI rfl rfl (by decide) ?_
  refine r_aload_n rfl ?_
  refine r_aload_n rfl ?_
  refine r_getI (by decide) rfl rfl (by decide) rfl ?_
  refine r_putI rfl rfl (by decide) ?_
  refine r_iconst ?_
  refine r_istore_n (ls' := [_, _, _]) (zt rfl) rfl ?_
  refine r_nil ?_
  refine key 5 0 rfl _ ?_
  exact ⟨⟨(oF.refl.up (by omega) (by omega)).up (by omega) (by omega), by simp [up2], by simp [up2]⟩, fun b hb => absurd hb (by omega)⟩
