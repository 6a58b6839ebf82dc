/-! the glass: an hour of the class -/

/-- the glass holds an hour's state -/
def cH (n : Nat) (I : Nat → Nat → Int32) (s : Hs) : Prop := I 19 0 = s.1 ∧ I 19 8 = io n ∧ (∀ a, a < n → I 20 a = s.2.1 a) ∧ (∀ a, a < n → I 21 a = s.2.2.1 a) ∧ (∀ a, a < n → I 22 a = s.2.2.2 a)

set_option maxRecDepth 10000 in
theorem s_turns_1 {xs : xSc} {m : Nat} (hm : 1 ≤ m) {I : Nat → Nat → Int32} {L : Nat → Nat → Int64} {Q : Value → xHp → Prop} (hQ : ∀ J, oF 19 28 I J → J 19 0 = I 1 0 → J 19 8 = I 1 3 → (∀ b, b < 5 → J 20 b = I 4 b ∧ J 21 b = 0 ∧ J 22 b = 0) → Q .null (Hp J L)) : M xs m xi_X0_turns [.ref 19, .ref 1] (Hp I L) Q := by
  obtain ⟨m, rfl⟩ : ∃ k, m = k + 1 := ⟨m - 1, by omega⟩
  have key : ∀ d a, a + d = 5 → ∀ J, (oF 19 28 I J ∧ J 19 0 = I 1 0 ∧ J 19 8 = I 1 3) ∧ (∀ b, b < a → J 20 b = I 4 b ∧ J 21 b = 0 ∧ J 22 b = 0) → E xs m xi_X0_turns 82 Q 18 [.ref 19, .ref 1, .int (io a)] [] (82, J, L, xF0) := by
    intro d
    induction d using Nat.strongRecOn with
    | _ d ih =>
    intro a hd J hJ
    refine E_go 1 rfl ?_
    refine r_iload_n rfl ?_
    refine r_iconst ?_
    refine r_icmp_ge (fun c_20 => ?_) (fun c_20 => ?_)
    · have c_20 := (n_le (a := 5) (b := a) rfl rfl (by omega) (by omega)).mp c_20
      refine E_go 2 rfl ?_
      refine r_ret rfl ?_
      exact hQ J hJ.1.1 hJ.1.2.1 hJ.1.2.2 (fun b hb => hJ.2 b (by omega))
    · have c_20 := (not_congr (n_le (a := 5) (b := a) rfl rfl (by omega) (by omega))).mp c_20
      refine r_aload_n rfl ?_
      refine r_getA (q := 20) (by decide) rfl rfl (by decide) ?_
      refine r_iload_n rfl ?_
      refine r_aload_n rfl ?_
      refine r_getA (q := 4) (by decide) rfl rfl (by decide) ?_
      refine r_iload_n rfl ?_
      refine r_iaload (by decide) rfl (by decide) (ixE rfl (show a < 5 by omega) (by decide)) rfl ?_
      refine r_iastore rfl (by decide) (ixE rfl (show a < 5 by omega) (by decide)) ?_
      refine r_aload_n rfl ?_
      refine r_getA (q := 21) (by decide) rfl rfl (by decide) ?_
      refine r_iload_n rfl ?_
      refine r_iconst ?_
      refine r_iastore rfl (by decide) (ixE rfl (show a < 5 by omega) (by decide)) ?_
      refine r_aload_n rfl ?_
      refine r_getA (q := 22) (by decide) rfl rfl (by decide) ?_
      refine r_iload_n rfl ?_
      refine r_iconst ?_
      refine r_iastore rfl (by decide) (ixE rfl (show a < 5 by omega) (by decide)) ?_
      refine r_iincN (y := io (a + 1)) (ls' := [_, _, _]) rfl (zt rfl) (n_add (a := a) (b := 1) rfl rfl) rfl ?_
      refine r_goto ?_
      refine ih (d - 1) (by omega) (a + 1) (by omega) _ ?_
      refine ⟨⟨((hJ.1.1.up (by omega) (by omega)).up (by omega) (by omega)).up (by omega) (by omega), hJ.1.2.1, hJ.1.2.2⟩, all_succ (fun b hb => ?_) ?_⟩
      · have e := hJ.2 b hb
        simp [up2, show ¬ b = a by omega, e]
      · simp [up2, hJ.1.1 4 (by omega)]
  refine M_go (ls := [_, _, _]) (ml := 3) rfl rfl rfl (zl rfl) rfl ?_
  refine r_aload_n rfl ?_
  refine r_aload_n rfl ?_
  refine r_getI (by decide) rfl rfl (by decide) rfl ?_
  refine r_putI rfl rfl (by decide) ?_
  refine r_aload_n rfl ?_
  refine r_aload_n rfl ?_
  refine r_getI (by decide) rfl rfl (by decide) rfl ?_
  refine r_putI rfl rfl (by decide) ?_
  refine r_iconst ?_
  refine r_istore_n (ls' := [_, _, _]) (zt rfl) rfl ?_
  refine r_nil ?_
  refine key 5 0 rfl _ ?_
  exact ⟨⟨(oF.refl.up (by omega) (by omega)).up (by omega) (by omega), by simp [up2], by simp [up2]⟩, fun b hb => absurd hb (by omega)⟩

set_option maxRecDepth 10000 in
theorem s_turns_13 {xs : xSc} {m : Nat} (hm : 1 ≤ m) {I : Nat → Nat → Int32} {L : Nat → Nat → Int64} {Q : Value → xHp → Prop} (hQ : ∀ J, oF 19 28 I J → J 19 0 = I 13 0 → J 19 8 = I 13 3 → (∀ b, b < 5 → J 20 b = I 16 b ∧ J 21 b = 0 ∧ J 22 b = 0) → Q .null (Hp J L)) : M xs m xi_X0_turns [.ref 19, .ref 13] (Hp I L) Q := by
  obtain ⟨m, rfl⟩ : ∃ k, m = k + 1 := ⟨m - 1, by omega⟩
  have key : ∀ d a, a + d = 5 → ∀ J, (oF 19 28 I J ∧ J 19 0 = I 13 0 ∧ J 19 8 = I 13 3) ∧ (∀ b, b < a → J 20 b = I 16 b ∧ J 21 b = 0 ∧ J 22 b = 0) → E xs m xi_X0_turns 82 Q 18 [.ref 19, .ref 13, .int (io a)] [] (82, J, L, xF0) := by
    intro d
    induction d using Nat.strongRecOn with
    | _ d ih =>
    intro a hd J hJ
    refine E_go 1 rfl ?_
    refine r_iload_n rfl ?_
    refine r_iconst ?_
    refine r_icmp_ge (fun c_20 => ?_) (fun c_20 => ?_)
    · have c_20 := (n_le (a := 5) (b := a) rfl rfl (by omega) (by omega)).mp c_20
      refine E_go 2 rfl ?_
      refine r_ret rfl ?_
      exact hQ J hJ.1.1 hJ.1.2.1 hJ.1.2.2 (fun b hb => hJ.2 b (by omega))
    · have c_20 := (not_congr (n_le (a := 5) (b := a) rfl rfl (by omega) (by omega))).mp c_20
      refine r_aload_n rfl ?_
      refine r_getA (q := 20) (by decide) rfl rfl (by decide) ?_
      refine r_iload_n rfl ?_
      refine r_aload_n rfl ?_
      refine r_getA (q := 16) (by decide) rfl rfl (by decide) ?_
      refine r_iload_n rfl ?_
      refine r_iaload (by decide) rfl (by decide) (ixE rfl (show a < 5 by omega) (by decide)) rfl ?_
      refine r_iastore rfl (by decide) (ixE rfl (show a < 5 by omega) (by decide)) ?_
      refine r_aload_n rfl ?_
      refine r_getA (q := 21) (by decide) rfl rfl (by decide) ?_
      refine r_iload_n rfl ?_
      refine r_iconst ?_
      refine r_iastore rfl (by decide) (ixE rfl (show a < 5 by omega) (by decide)) ?_
      refine r_aload_n rfl ?_
      refine r_getA (q := 22) (by decide) rfl rfl (by decide) ?_
      refine r_iload_n rfl ?_
      refine r_iconst ?_
      refine r_iastore rfl (by decide) (ixE rfl (show a < 5 by omega) (by decide)) ?_
      refine r_iincN (y := io (a + 1)) (ls' := [_, _, _]) rfl (zt rfl) (n_add (a := a) (b := 1) rfl rfl) rfl ?_
      refine r_goto ?_
      refine ih (d - 1) (by omega) (a + 1) (by omega) _ ?_
      refine ⟨⟨((hJ.1.1.up (by omega) (by omega)).up (by omega) (by omega)).up (by omega) (by omega), hJ.1.2.1, hJ.1.2.2⟩, all_succ (fun b hb => ?_) ?_⟩
      · have e := hJ.2 b hb
        simp [up2, show ¬ b = a by omega, e]
      · simp [up2, hJ.1.1 16 (by omega)]
  refine M_go (ls := [_, _, _]) (ml := 3) rfl rfl rfl (zl rfl) rfl ?_
  refine r_aload_n rfl ?_
  refine r_aload_n rfl ?_
  refine r_getI (by decide) rfl rfl (by decide) rfl ?_
  refine r_putI rfl rfl (by decide) ?_
  refine r_aload_n rfl ?_
  refine r_aload_n rfl ?_
  refine r_getI (by decide) rfl rfl (by decide) rfl ?_
  refine r_putI rfl rfl (by decide) ?_
  refine r_iconst ?_
  refine r_istore_n (ls' := [_, _, _]) (zt rfl) rfl ?_
  refine r_nil ?_
  refine key 5 0 rfl _ ?_
  exact ⟨⟨(oF.refl.up (by omega) (by omega)).up (by omega) (by omega), by simp [up2], by simp [up2]⟩, fun b hb => absurd hb (by omega)⟩

def sm (f : Nat → Int32) : Nat → Int32
  | 0 => 0
  | a + 1 => sm f a + f a
def fbr (f : Nat → Int32) : Nat → Nat → Int32
  | 0, _ => -1
  | d + 1, k => if f k = 0 then fbr f d (k + 1) else io k
theorem fbr_s {f : Nat → Int32} {d k : Nat} (hd : 0 < d) (h : f k = 0) : fbr f d k = fbr f (d - 1) (k + 1) := by
  obtain ⟨e, rfl⟩ : ∃ e, d = e + 1 := ⟨d - 1, by omega⟩
  exact if_pos h
theorem fbr_n {f : Nat → Int32} {d k : Nat} (hd : 0 < d) (h : ¬ f k = 0) : fbr f d k = io k := by
  obtain ⟨e, rfl⟩ : ∃ e, d = e + 1 := ⟨d - 1, by omega⟩
  exact if_neg h
theorem io_nn {a : Nat} (h : a < 2147483648) : ¬ io a = -1 := by
  rw [eq_int, io_int h]
  show ¬ (a : Int) = -1
  omega
theorem msk : ∀ k, k < 32 → ∀ a, a < 5 → ∃ j, j < 32 ∧ io k &&& (bit a ^^^ -1) = io j := by decide +kernel
theorem msk2 {x : Int32} {a : Nat} (hx : ∃ k, k < 32 ∧ x = io k) (ha : a < 5) : ∃ j, j < 32 ∧ x &&& (bit a ^^^ -1) = io j := by
  obtain ⟨k, hk, rfl⟩ := hx
  exact msk k hk a ha
theorem all6 {P : Nat → Prop} (h0 : P 0) (h1 : P 1) (h2 : P 2) (h3 : P 3) (h4 : P 4) (h5 : P 5) : ∀ k, k < 6 → P k
  | 0, _ => h0
  | 1, _ => h1
  | 2, _ => h2
  | 3, _ => h3
  | 4, _ => h4
  | 5, _ => h5
  | n + 6, h => absurd h (by omega)

set_option maxRecDepth 10000 in
theorem s_wants_1 {xs : xSc} {m : Nat} {I : Nat → Nat → Int32} {L : Nat → Nat → Int64} {Q : Value → xHp → Prop} (hm : 2 ≤ m) {u : Int32} {n : Nat} (hn : I 19 8 = io n) (h5 : n ≤ 5) (hQ : Q (.int (shw (I 2) (I 3) (I 20) u n)) (Hp I L)) : M xs m xi_X0_wants [.ref 19, .int u, .ref 1] (Hp I L) Q := by
  obtain ⟨m, rfl⟩ : ∃ k, m = k + 1 := ⟨m - 1, by omega⟩
  have key : ∀ d a, a + d = n → E xs m xi_X0_wants 82 Q 5 [.ref 19, .int u, .ref 1, .int (shw (I 2) (I 3) (I 20) u a), .int (io a)] [] (82, I, L, xF0) := by
    intro d
    induction d using Nat.strongRecOn with
    | _ d ih =>
    intro a hd
    refine E_go 1 rfl ?_
    refine r_iload rfl ?_
    refine r_aload_n rfl ?_
    refine r_getI (by decide) rfl rfl (by decide) hn ?_
    refine r_icmp_ge (fun c_11 => ?_) (fun c_11 => ?_)
    · have c_11 := (n_le (a := n) (b := a) rfl rfl (by omega) (by omega)).mp c_11
      refine E_go 3 rfl ?_
      refine r_iload_n rfl ?_
      refine r_iret rfl trivial ?_
      rw [show a = n by omega]
      exact hQ
    · have c_11 := (not_congr (n_le (a := n) (b := a) rfl rfl (by omega) (by omega))).mp c_11
      refine r_aload_n rfl ?_
      refine r_getA (q := 2) (by decide) rfl rfl (by decide) ?_
      refine r_iload rfl ?_
      refine r_iaload (by decide) rfl (by decide) (ixE rfl (show a < 5 by omega) (by decide)) rfl ?_
      refine r_aload_n rfl ?_
      refine r_getA (q := 3) (by decide) rfl rfl (by decide) ?_
      refine r_iload rfl ?_
      refine r_iaload (by decide) rfl (by decide) (ixE rfl (show a < 5 by omega) (by decide)) rfl ?_
      refine r_aload_n rfl ?_
      refine r_getA (q := 20) (by decide) rfl rfl (by decide) ?_
      refine r_iload rfl ?_
      refine r_iaload (by decide) rfl (by decide) (ixE rfl (show a < 5 by omega) (by decide)) rfl ?_
      refine r_iload_n rfl ?_
      refine r_static (vs := [_, _, _, _]) (by decide) (zl rfl) rfl rfl (zl rfl) (Nat.le_refl _) rfl ?_
      refine s_X1_showsWant (by omega) ?_
      refine r_if_eq (fun c_39 => ?_) (fun c_39 => ?_)
      · refine E_go 2 rfl ?_
        refine r_iincN (y := io (a + 1)) (ls' := [_, _, _, _, _]) rfl (zt rfl) (n_add (a := a) (b := 1) rfl rfl) rfl ?_
        refine r_goto ?_
        have e := ih (d - 1) (by omega) (a + 1) (by omega)
        first
          | rw [show shw (I 2) (I 3) (I 20) u (a + 1) = shw (I 2) (I 3) (I 20) u a from if_pos c_39] at e; exact e
          | rw [show shw (I 2) (I 3) (I 20) u (a + 1) = shw (I 2) (I 3) (I 20) u a ||| bit a from if_neg c_39] at e; exact e
      · refine r_iload_n rfl ?_
        refine r_iconst ?_
        refine r_iload rfl ?_
        refine r_ishl ?_
        refine r_ior ?_
        refine r_istore_n (ls' := [_, _, _, _, _]) (zt rfl) rfl ?_
        refine r_nil ?_
        refine E_go 2 rfl ?_
        refine r_iincN (y := io (a + 1)) (ls' := [_, _, _, _, _]) rfl (zt rfl) (n_add (a := a) (b := 1) rfl rfl) rfl ?_
        refine r_goto ?_
        have e := ih (d - 1) (by omega) (a + 1) (by omega)
        first
          | rw [show shw (I 2) (I 3) (I 20) u (a + 1) = shw (I 2) (I 3) (I 20) u a from if_pos c_39] at e; exact e
          | rw [show shw (I 2) (I 3) (I 20) u (a + 1) = shw (I 2) (I 3) (I 20) u a ||| bit a from if_neg c_39] at e; exact e
  refine M_go (ls := [_, _, _, _, _]) (ml := 5) rfl rfl rfl (zl rfl) rfl ?_
  refine r_iconst ?_
  refine r_istore_n (ls' := [_, _, _, _, _]) (zt rfl) rfl ?_
  refine r_iconst ?_
  refine r_istore (ls' := [_, _, _, _, _]) (zt rfl) rfl ?_
  refine r_nil ?_
  exact key n 0 (by omega)

set_option maxRecDepth 10000 in
theorem s_wants_13 {xs : xSc} {m : Nat} {I : Nat → Nat → Int32} {L : Nat → Nat → Int64} {Q : Value → xHp → Prop} (hm : 2 ≤ m) {u : Int32} {n : Nat} (hn : I 19 8 = io n) (h5 : n ≤ 5) (hQ : Q (.int (shw (I 14) (I 15) (I 20) u n)) (Hp I L)) : M xs m xi_X0_wants [.ref 19, .int u, .ref 13] (Hp I L) Q := by
  obtain ⟨m, rfl⟩ : ∃ k, m = k + 1 := ⟨m - 1, by omega⟩
  have key : ∀ d a, a + d = n → E xs m xi_X0_wants 82 Q 5 [.ref 19, .int u, .ref 13, .int (shw (I 14) (I 15) (I 20) u a), .int (io a)] [] (82, I, L, xF0) := by
    intro d
    induction d using Nat.strongRecOn with
    | _ d ih =>
    intro a hd
    refine E_go 1 rfl ?_
    refine r_iload rfl ?_
    refine r_aload_n rfl ?_
    refine r_getI (by decide) rfl rfl (by decide) hn ?_
    refine r_icmp_ge (fun c_11 => ?_) (fun c_11 => ?_)
    · have c_11 := (n_le (a := n) (b := a) rfl rfl (by omega) (by omega)).mp c_11
      refine E_go 3 rfl ?_
      refine r_iload_n rfl ?_
      refine r_iret rfl trivial ?_
      rw [show a = n by omega]
      exact hQ
    · have c_11 := (not_congr (n_le (a := n) (b := a) rfl rfl (by omega) (by omega))).mp c_11
      refine r_aload_n rfl ?_
      refine r_getA (q := 14) (by decide) rfl rfl (by decide) ?_
      refine r_iload rfl ?_
      refine r_iaload (by decide) rfl (by decide) (ixE rfl (show a < 5 by omega) (by decide)) rfl ?_
      refine r_aload_n rfl ?_
      refine r_getA (q := 15) (by decide) rfl rfl (by decide) ?_
      refine r_iload rfl ?_
      refine r_iaload (by decide) rfl (by decide) (ixE rfl (show a < 5 by omega) (by decide)) rfl ?_
      refine r_aload_n rfl ?_
      refine r_getA (q := 20) (by decide) rfl rfl (by decide) ?_
      refine r_iload rfl ?_
      refine r_iaload (by decide) rfl (by decide) (ixE rfl (show a < 5 by omega) (by decide)) rfl ?_
      refine r_iload_n rfl ?_
      refine r_static (vs := [_, _, _, _]) (by decide) (zl rfl) rfl rfl (zl rfl) (Nat.le_refl _) rfl ?_
      refine s_X1_showsWant (by omega) ?_
      refine r_if_eq (fun c_39 => ?_) (fun c_39 => ?_)
      · refine E_go 2 rfl ?_
        refine r_iincN (y := io (a + 1)) (ls' := [_, _, _, _, _]) rfl (zt rfl) (n_add (a := a) (b := 1) rfl rfl) rfl ?_
        refine r_goto ?_
        have e := ih (d - 1) (by omega) (a + 1) (by omega)
        first
          | rw [show shw (I 14) (I 15) (I 20) u (a + 1) = shw (I 14) (I 15) (I 20) u a from if_pos c_39] at e; exact e
          | rw [show shw (I 14) (I 15) (I 20) u (a + 1) = shw (I 14) (I 15) (I 20) u a ||| bit a from if_neg c_39] at e; exact e
      · refine r_iload_n rfl ?_
        refine r_iconst ?_
        refine r_iload rfl ?_
        refine r_ishl ?_
        refine r_ior ?_
        refine r_istore_n (ls' := [_, _, _, _, _]) (zt rfl) rfl ?_
        refine r_nil ?_
        refine E_go 2 rfl ?_
        refine r_iincN (y := io (a + 1)) (ls' := [_, _, _, _, _]) rfl (zt rfl) (n_add (a := a) (b := 1) rfl rfl) rfl ?_
        refine r_goto ?_
        have e := ih (d - 1) (by omega) (a + 1) (by omega)
        first
          | rw [show shw (I 14) (I 15) (I 20) u (a + 1) = shw (I 14) (I 15) (I 20) u a from if_pos c_39] at e; exact e
          | rw [show shw (I 14) (I 15) (I 20) u (a + 1) = shw (I 14) (I 15) (I 20) u a ||| bit a from if_neg c_39] at e; exact e
  refine M_go (ls := [_, _, _, _, _]) (ml := 5) rfl rfl rfl (zl rfl) rfl ?_
  refine r_iconst ?_
  refine r_istore_n (ls' := [_, _, _, _, _]) (zt rfl) rfl ?_
  refine r_iconst ?_
  refine r_istore (ls' := [_, _, _, _, _]) (zt rfl) rfl ?_
  refine r_nil ?_
  exact key n 0 (by omega)

set_option maxRecDepth 10000 in
theorem s_joyOfAll {xs : xSc} {m : Nat} {I : Nat → Nat → Int32} {L : Nat → Nat → Int64} {Q : Value → xHp → Prop} (hm : 1 ≤ m) {n : Nat} (hn : I 19 8 = io n) (h5 : n ≤ 5) (hQ : Q (.int (sm (I 22) n)) (Hp I L)) : M xs m xi_X0_joyOfAll [.ref 19] (Hp I L) Q := by
  obtain ⟨m, rfl⟩ : ∃ k, m = k + 1 := ⟨m - 1, by omega⟩
  have key : ∀ d a, a + d = n → E xs m xi_X0_joyOfAll 82 Q 4 [.ref 19, .int (sm (I 22) a), .int (io a)] [] (82, I, L, xF0) := by
    intro d
    induction d using Nat.strongRecOn with
    | _ d ih =>
    intro a hd
    refine E_go 1 rfl ?_
    refine r_iload_n rfl ?_
    refine r_aload_n rfl ?_
    refine r_getI (by decide) rfl rfl (by decide) hn ?_
    refine r_icmp_ge (fun c_9 => ?_) (fun c_9 => ?_)
    · have c_9 := (n_le (a := n) (b := a) rfl rfl (by omega) (by omega)).mp c_9
      refine E_go 2 rfl ?_
      refine r_iload_n rfl ?_
      refine r_iret rfl trivial ?_
      rw [show a = n by omega]
      exact hQ
    · have c_9 := (not_congr (n_le (a := n) (b := a) rfl rfl (by omega) (by omega))).mp c_9
      refine r_iload_n rfl ?_
      refine r_aload_n rfl ?_
      refine r_getA (q := 22) (by decide) rfl rfl (by decide) ?_
      refine r_iload_n rfl ?_
      refine r_iaload (by decide) rfl (by decide) (ixE rfl (show a < 5 by omega) (by decide)) rfl ?_
      refine r_iadd ?_
      refine r_istore_n (ls' := [_, _, _]) (zt rfl) rfl ?_
      refine r_iincN (y := io (a + 1)) (ls' := [_, _, _]) rfl (zt rfl) (n_add (a := a) (b := 1) rfl rfl) rfl ?_
      refine r_goto ?_
      exact ih (d - 1) (by omega) (a + 1) (by omega)
  refine M_go (ls := [_, _, _]) (ml := 3) rfl rfl rfl (zl rfl) rfl ?_
  refine r_iconst ?_
  refine r_istore_n (ls' := [_, _, _]) (zt rfl) rfl ?_
  refine r_iconst ?_
  refine r_istore_n (ls' := [_, _, _]) (zt rfl) rfl ?_
  refine r_nil ?_
  exact key n 0 (by omega)

set_option maxRecDepth 10000 in
theorem s_firstBreach {xs : xSc} {m : Nat} {I : Nat → Nat → Int32} {L : Nat → Nat → Int64} {Q : Value → xHp → Prop} (hm : 1 ≤ m) (hQ : Q (.int (fbr (I 26) 6 0)) (Hp I L)) : M xs m xi_X0_firstBreach [.ref 19] (Hp I L) Q := by
  obtain ⟨m, rfl⟩ : ∃ k, m = k + 1 := ⟨m - 1, by omega⟩
  have key : ∀ d a, a + d = 6 → fbr (I 26) 6 0 = fbr (I 26) d a → E xs m xi_X0_firstBreach 82 Q 2 [.ref 19, .int (io a)] [] (82, I, L, xF0) := by
    intro d
    induction d using Nat.strongRecOn with
    | _ d ih =>
    intro a hd e
    refine E_go 1 rfl ?_
    refine r_iload_n rfl ?_
    refine r_bipush ?_
    refine r_icmp_ge (fun c_5 => ?_) (fun c_5 => ?_)
    · have c_5 := (n_le (a := 6) (b := a) rfl rfl (by omega) (by omega)).mp c_5
      refine E_go 3 rfl ?_
      refine r_iconst ?_
      refine r_iret rfl trivial ?_
      rw [show d = 0 by omega] at e
      exact qi hQ e
    · have c_5 := (not_congr (n_le (a := 6) (b := a) rfl rfl (by omega) (by omega))).mp c_5
      refine r_aload_n rfl ?_
      refine r_getA (q := 26) (by decide) rfl rfl (by decide) ?_
      refine r_iload_n rfl ?_
      refine r_iaload (by decide) rfl (by decide) (ixE rfl (show a < 6 by omega) (by decide)) rfl ?_
      refine r_if_eq (fun c_14 => ?_) (fun c_14 => ?_)
      · refine E_go 2 rfl ?_
        refine r_iincN (y := io (a + 1)) (ls' := [_, _]) rfl (zt rfl) (n_add (a := a) (b := 1) rfl rfl) rfl ?_
        refine r_goto ?_
        exact ih (d - 1) (by omega) (a + 1) (by omega) (e.trans (fbr_s (by omega) c_14))
      · refine r_iload_n rfl ?_
        refine r_iret rfl trivial ?_
        exact qi hQ (e.trans (fbr_n (by omega) c_14))
  refine M_go (ls := [_, _]) (ml := 2) rfl rfl rfl (zl rfl) rfl ?_
  refine r_iconst ?_
  refine r_istore_n (ls' := [_, _]) (zt rfl) rfl ?_
  refine r_nil ?_
  exact key 6 0 rfl rfl

set_option maxRecDepth 10000 in
theorem s_looksN_1 {xs : xSc} {m : Nat} {I : Nat → Nat → Int32} {L : Nat → Nat → Int64} {Q : Value → xHp → Prop} (hm : 2 ≤ m) {u : Nat} (hu : u < 6) (hs : ∃ k, k < 32 ∧ I 24 u = io k) (hQ : ∀ J, oF 27 27 I J → (∀ k, k < 6 → J 27 k = vw (I 19 0) 0 0 (bc (I 24 u)) (io u) 0 k) → Q .null (Hp J L)) : M xs m xi_X0_looks [.ref 19, .int (-1), .int (io u), .ref 1] (Hp I L) Q := by
  obtain ⟨m, rfl⟩ : ∃ k, m = k + 1 := ⟨m - 1, by omega⟩
  refine M_go (ls := [_, _, _, _, _, _]) (ml := 6) rfl rfl rfl (zl rfl) rfl ?_
  refine r_iload_n rfl ?_
  refine r_iconst ?_
  refine r_icmp_ne (fun c_2 => ?_) (fun c_2 => ?_)
  · exact absurd rfl c_2
  · refine r_iconst ?_
    refine r_goto ?_
    refine E_go 2 rfl ?_
    refine r_istore (ls' := [_, _, _, _, _, _]) (zt rfl) rfl ?_
    refine r_iload rfl ?_
    refine r_if_eq (fun c_14 => ?_) (fun c_14 => ?_)
    · have c_14 := (n_eq (a := 1) (b := 0) rfl rfl (by omega) (by omega)).mp c_14
      omega
    · have c_14 := (not_congr (n_eq (a := 1) (b := 0) rfl rfl (by omega) (by omega))).mp c_14
      refine r_aload_n rfl ?_
      refine r_getA (q := 24) (by decide) rfl rfl (by decide) ?_
      refine r_iload_n rfl ?_
      refine r_iaload (by decide) rfl (by decide) (ixE rfl (show u < 6 by omega) (by decide)) rfl ?_
      refine r_goto ?_
      refine E_go 4 rfl ?_
      refine r_istore (ls' := [_, _, _, _, _, _]) (zt rfl) rfl ?_
      refine r_aload_n rfl ?_
      refine r_getA (q := 27) (by decide) rfl rfl (by decide) ?_
      refine r_iconst ?_
      refine r_aload_n rfl ?_
      refine r_getI (by decide) rfl rfl (by decide) rfl ?_
      refine r_iastore rfl (by decide) (ixE rfl (show 0 < 6 by omega) (by decide)) ?_
      refine r_aload_n rfl ?_
      refine r_getA (q := 27) (by decide) rfl rfl (by decide) ?_
      refine r_iconst ?_
      refine r_iload rfl ?_
      refine r_if_eq (fun c_57 => ?_) (fun c_57 => ?_)
      · have c_57 := (n_eq (a := 1) (b := 0) rfl rfl (by omega) (by omega)).mp c_57
        omega
      · have c_57 := (not_congr (n_eq (a := 1) (b := 0) rfl rfl (by omega) (by omega))).mp c_57
        refine r_iconst ?_
        refine r_goto ?_
        refine E_go 6 rfl ?_
        refine r_iastore rfl (by decide) (ixE rfl (show 1 < 6 by omega) (by decide)) ?_
        refine r_aload_n rfl ?_
        refine r_getA (q := 27) (by decide) rfl rfl (by decide) ?_
        refine r_iconst ?_
        refine r_iload rfl ?_
        refine r_if_eq (fun c_78 => ?_) (fun c_78 => ?_)
        · have c_78 := (n_eq (a := 1) (b := 0) rfl rfl (by omega) (by omega)).mp c_78
          omega
        · have c_78 := (not_congr (n_eq (a := 1) (b := 0) rfl rfl (by omega) (by omega))).mp c_78
          refine r_iconst ?_
          refine r_goto ?_
          refine E_go 8 rfl ?_
          refine r_iastore rfl (by decide) (ixE rfl (show 2 < 6 by omega) (by decide)) ?_
          refine r_aload_n rfl ?_
          refine r_getA (q := 27) (by decide) rfl rfl (by decide) ?_
          refine r_iconst ?_
          refine r_iload rfl ?_
          refine r_static (vs := [_]) (by decide) (zl rfl) rfl rfl (zl rfl) (Nat.le_refl _) rfl ?_
          refine s_J6_bitCount_0f7a4 (by omega) hs ?_
          refine r_iastore rfl (by decide) (ixE rfl (show 3 < 6 by omega) (by decide)) ?_
          refine r_aload_n rfl ?_
          refine r_getA (q := 27) (by decide) rfl rfl (by decide) ?_
          refine r_iconst ?_
          refine r_iload_n rfl ?_
          refine r_iastore rfl (by decide) (ixE rfl (show 4 < 6 by omega) (by decide)) ?_
          refine r_aload_n rfl ?_
          refine r_getA (q := 27) (by decide) rfl rfl (by decide) ?_
          refine r_iconst ?_
          refine r_iload rfl ?_
          refine r_if_eq (fun c_117 => ?_) (fun c_117 => ?_)
          · have c_117 := (n_eq (a := 1) (b := 0) rfl rfl (by omega) (by omega)).mp c_117
            omega
          · have c_117 := (not_congr (n_eq (a := 1) (b := 0) rfl rfl (by omega) (by omega))).mp c_117
            refine r_iconst ?_
            refine r_goto ?_
            refine E_go 10 rfl ?_
            refine r_iastore rfl (by decide) (ixE rfl (show 5 < 6 by omega) (by decide)) ?_
            refine r_ret rfl ?_
            refine hQ _ ?_ ?_
            · exact (((((oF.refl.up (by omega) (by omega)).up (by omega) (by omega)).up (by omega) (by omega)).up (by omega) (by omega)).up (by omega) (by omega)).up (by omega) (by omega)
            · exact all6 (by simp [up2, vw]) (by simp [up2, vw]) (by simp [up2, vw]) (by simp [up2, vw, bit]) (by simp [up2, vw]) (by simp [up2, vw])

set_option maxRecDepth 10000 in
theorem s_looksA_1 {xs : xSc} {m : Nat} {I : Nat → Nat → Int32} {L : Nat → Nat → Int64} {Q : Value → xHp → Prop} (hm : 2 ≤ m) {u : Nat} (hu : u < 6) (hs : ∃ k, k < 32 ∧ I 24 u = io k) {a : Nat} (ha : a < 5) (hQ : ∀ J, oF 27 27 I J → (∀ k, k < 6 → J 27 k = vw (I 19 0) (I 20 a) (I 3 a) (bc (I 24 u &&& (bit a ^^^ -1))) (io u) (I 21 a) k) → Q .null (Hp J L)) : M xs m xi_X0_looks [.ref 19, .int (io a), .int (io u), .ref 1] (Hp I L) Q := by
  obtain ⟨m, rfl⟩ : ∃ k, m = k + 1 := ⟨m - 1, by omega⟩
  refine M_go (ls := [_, _, _, _, _, _]) (ml := 6) rfl rfl rfl (zl rfl) rfl ?_
  refine r_iload_n rfl ?_
  refine r_iconst ?_
  refine r_icmp_ne (fun c_2 => ?_) (fun c_2 => ?_)
  · refine E_go 1 rfl ?_
    refine r_iconst ?_
    refine r_nil ?_
    refine E_go 2 rfl ?_
    refine r_istore (ls' := [_, _, _, _, _, _]) (zt rfl) rfl ?_
    refine r_iload rfl ?_
    refine r_if_eq (fun c_14 => ?_) (fun c_14 => ?_)
    · have c_14 := (n_eq (a := 0) (b := 0) rfl rfl (by omega) (by omega)).mp c_14
      refine E_go 3 rfl ?_
      refine r_aload_n rfl ?_
      refine r_getA (q := 24) (by decide) rfl rfl (by decide) ?_
      refine r_iload_n rfl ?_
      refine r_iaload (by decide) rfl (by decide) (ixE rfl (show u < 6 by omega) (by decide)) rfl ?_
      refine r_iconst ?_
      refine r_iload_n rfl ?_
      refine r_ishl ?_
      refine r_iconst ?_
      refine r_ixor ?_
      refine r_iand ?_
      refine r_nil ?_
      refine E_go 4 rfl ?_
      refine r_istore (ls' := [_, _, _, _, _, _]) (zt rfl) rfl ?_
      refine r_aload_n rfl ?_
      refine r_getA (q := 27) (by decide) rfl rfl (by decide) ?_
      refine r_iconst ?_
      refine r_aload_n rfl ?_
      refine r_getI (by decide) rfl rfl (by decide) rfl ?_
      refine r_iastore rfl (by decide) (ixE rfl (show 0 < 6 by omega) (by decide)) ?_
      refine r_aload_n rfl ?_
      refine r_getA (q := 27) (by decide) rfl rfl (by decide) ?_
      refine r_iconst ?_
      refine r_iload rfl ?_
      refine r_if_eq (fun c_57 => ?_) (fun c_57 => ?_)
      · have c_57 := (n_eq (a := 0) (b := 0) rfl rfl (by omega) (by omega)).mp c_57
        refine E_go 5 rfl ?_
        refine r_aload_n rfl ?_
        refine r_getA (q := 20) (by decide) rfl rfl (by decide) ?_
        refine r_iload_n rfl ?_
        refine r_iaload (by decide) rfl (by decide) (ixE rfl (show a < 5 by omega) (by decide)) rfl ?_
        refine r_nil ?_
        refine E_go 6 rfl ?_
        refine r_iastore rfl (by decide) (ixE rfl (show 1 < 6 by omega) (by decide)) ?_
        refine r_aload_n rfl ?_
        refine r_getA (q := 27) (by decide) rfl rfl (by decide) ?_
        refine r_iconst ?_
        refine r_iload rfl ?_
        refine r_if_eq (fun c_78 => ?_) (fun c_78 => ?_)
        · have c_78 := (n_eq (a := 0) (b := 0) rfl rfl (by omega) (by omega)).mp c_78
          refine E_go 7 rfl ?_
          refine r_aload_n rfl ?_
          refine r_getA (q := 3) (by decide) rfl rfl (by decide) ?_
          refine r_iload_n rfl ?_
          refine r_iaload (by decide) rfl (by decide) (ixE rfl (show a < 5 by omega) (by decide)) rfl ?_
          refine r_nil ?_
          refine E_go 8 rfl ?_
          refine r_iastore rfl (by decide) (ixE rfl (show 2 < 6 by omega) (by decide)) ?_
          refine r_aload_n rfl ?_
          refine r_getA (q := 27) (by decide) rfl rfl (by decide) ?_
          refine r_iconst ?_
          refine r_iload rfl ?_
          refine r_static (vs := [_]) (by decide) (zl rfl) rfl rfl (zl rfl) (Nat.le_refl _) rfl ?_
          refine s_J6_bitCount_0f7a4 (by omega) (msk2 hs ha) ?_
          refine r_iastore rfl (by decide) (ixE rfl (show 3 < 6 by omega) (by decide)) ?_
          refine r_aload_n rfl ?_
          refine r_getA (q := 27) (by decide) rfl rfl (by decide) ?_
          refine r_iconst ?_
          refine r_iload_n rfl ?_
          refine r_iastore rfl (by decide) (ixE rfl (show 4 < 6 by omega) (by decide)) ?_
          refine r_aload_n rfl ?_
          refine r_getA (q := 27) (by decide) rfl rfl (by decide) ?_
          refine r_iconst ?_
          refine r_iload rfl ?_
          refine r_if_eq (fun c_117 => ?_) (fun c_117 => ?_)
          · have c_117 := (n_eq (a := 0) (b := 0) rfl rfl (by omega) (by omega)).mp c_117
            refine E_go 9 rfl ?_
            refine r_aload_n rfl ?_
            refine r_getA (q := 21) (by decide) rfl rfl (by decide) ?_
            refine r_iload_n rfl ?_
            refine r_iaload (by decide) rfl (by decide) (ixE rfl (show a < 5 by omega) (by decide)) rfl ?_
            refine r_nil ?_
            refine E_go 10 rfl ?_
            refine r_iastore rfl (by decide) (ixE rfl (show 5 < 6 by omega) (by decide)) ?_
            refine r_ret rfl ?_
            refine hQ _ ?_ ?_
            · exact (((((oF.refl.up (by omega) (by omega)).up (by omega) (by omega)).up (by omega) (by omega)).up (by omega) (by omega)).up (by omega) (by omega)).up (by omega) (by omega)
            · exact all6 (by simp [up2, vw]) (by simp [up2, vw]) (by simp [up2, vw]) (by simp [up2, vw, bit]) (by simp [up2, vw]) (by simp [up2, vw])
          · have c_117 := (not_congr (n_eq (a := 0) (b := 0) rfl rfl (by omega) (by omega))).mp c_117
            omega
        · have c_78 := (not_congr (n_eq (a := 0) (b := 0) rfl rfl (by omega) (by omega))).mp c_78
          omega
      · have c_57 := (not_congr (n_eq (a := 0) (b := 0) rfl rfl (by omega) (by omega))).mp c_57
        omega
    · have c_14 := (not_congr (n_eq (a := 0) (b := 0) rfl rfl (by omega) (by omega))).mp c_14
      omega
  · exact absurd c_2 (io_nn (by omega))

set_option maxRecDepth 10000 in
theorem s_looksN_13 {xs : xSc} {m : Nat} {I : Nat → Nat → Int32} {L : Nat → Nat → Int64} {Q : Value → xHp → Prop} (hm : 2 ≤ m) {u : Nat} (hu : u < 6) (hs : ∃ k, k < 32 ∧ I 24 u = io k) (hQ : ∀ J, oF 27 27 I J → (∀ k, k < 6 → J 27 k = vw (I 19 0) 0 0 (bc (I 24 u)) (io u) 0 k) → Q .null (Hp J L)) : M xs m xi_X0_looks [.ref 19, .int (-1), .int (io u), .ref 13] (Hp I L) Q := by
  obtain ⟨m, rfl⟩ : ∃ k, m = k + 1 := ⟨m - 1, by omega⟩
  refine M_go (ls := [_, _, _, _, _, _]) (ml := 6) rfl rfl rfl (zl rfl) rfl ?_
  refine r_iload_n rfl ?_
  refine r_iconst ?_
  refine r_icmp_ne (fun c_2 => ?_) (fun c_2 => ?_)
  · exact absurd rfl c_2
  · refine r_iconst ?_
    refine r_goto ?_
    refine E_go 2 rfl ?_
    refine r_istore (ls' := [_, _, _, _, _, _]) (zt rfl) rfl ?_
    refine r_iload rfl ?_
    refine r_if_eq (fun c_14 => ?_) (fun c_14 => ?_)
    · have c_14 := (n_eq (a := 1) (b := 0) rfl rfl (by omega) (by omega)).mp c_14
      omega
    · have c_14 := (not_congr (n_eq (a := 1) (b := 0) rfl rfl (by omega) (by omega))).mp c_14
      refine r_aload_n rfl ?_
      refine r_getA (q := 24) (by decide) rfl rfl (by decide) ?_
      refine r_iload_n rfl ?_
      refine r_iaload (by decide) rfl (by decide) (ixE rfl (show u < 6 by omega) (by decide)) rfl ?_
      refine r_goto ?_
      refine E_go 4 rfl ?_
      refine r_istore (ls' := [_, _, _, _, _, _]) (zt rfl) rfl ?_
      refine r_aload_n rfl ?_
      refine r_getA (q := 27) (by decide) rfl rfl (by decide) ?_
      refine r_iconst ?_
      refine r_aload_n rfl ?_
      refine r_getI (by decide) rfl rfl (by decide) rfl ?_
      refine r_iastore rfl (by decide) (ixE rfl (show 0 < 6 by omega) (by decide)) ?_
      refine r_aload_n rfl ?_
      refine r_getA (q := 27) (by decide) rfl rfl (by decide) ?_
      refine r_iconst ?_
      refine r_iload rfl ?_
      refine r_if_eq (fun c_57 => ?_) (fun c_57 => ?_)
      · have c_57 := (n_eq (a := 1) (b := 0) rfl rfl (by omega) (by omega)).mp c_57
        omega
      · have c_57 := (not_congr (n_eq (a := 1) (b := 0) rfl rfl (by omega) (by omega))).mp c_57
        refine r_iconst ?_
        refine r_goto ?_
        refine E_go 6 rfl ?_
        refine r_iastore rfl (by decide) (ixE rfl (show 1 < 6 by omega) (by decide)) ?_
        refine r_aload_n rfl ?_
        refine r_getA (q := 27) (by decide) rfl rfl (by decide) ?_
        refine r_iconst ?_
        refine r_iload rfl ?_
        refine r_if_eq (fun c_78 => ?_) (fun c_78 => ?_)
        · have c_78 := (n_eq (a := 1) (b := 0) rfl rfl (by omega) (by omega)).mp c_78
          omega
        · have c_78 := (not_congr (n_eq (a := 1) (b := 0) rfl rfl (by omega) (by omega))).mp c_78
          refine r_iconst ?_
          refine r_goto ?_
          refine E_go 8 rfl ?_
          refine r_iastore rfl (by decide) (ixE rfl (show 2 < 6 by omega) (by decide)) ?_
          refine r_aload_n rfl ?_
          refine r_getA (q := 27) (by decide) rfl rfl (by decide) ?_
          refine r_iconst ?_
          refine r_iload rfl ?_
          refine r_static (vs := [_]) (by decide) (zl rfl) rfl rfl (zl rfl) (Nat.le_refl _) rfl ?_
          refine s_J6_bitCount_0f7a4 (by omega) hs ?_
          refine r_iastore rfl (by decide) (ixE rfl (show 3 < 6 by omega) (by decide)) ?_
          refine r_aload_n rfl ?_
          refine r_getA (q := 27) (by decide) rfl rfl (by decide) ?_
          refine r_iconst ?_
          refine r_iload_n rfl ?_
          refine r_iastore rfl (by decide) (ixE rfl (show 4 < 6 by omega) (by decide)) ?_
          refine r_aload_n rfl ?_
          refine r_getA (q := 27) (by decide) rfl rfl (by decide) ?_
          refine r_iconst ?_
          refine r_iload rfl ?_
          refine r_if_eq (fun c_117 => ?_) (fun c_117 => ?_)
          · have c_117 := (n_eq (a := 1) (b := 0) rfl rfl (by omega) (by omega)).mp c_117
            omega
          · have c_117 := (not_congr (n_eq (a := 1) (b := 0) rfl rfl (by omega) (by omega))).mp c_117
            refine r_iconst ?_
            refine r_goto ?_
            refine E_go 10 rfl ?_
            refine r_iastore rfl (by decide) (ixE rfl (show 5 < 6 by omega) (by decide)) ?_
            refine r_ret rfl ?_
            refine hQ _ ?_ ?_
            · exact (((((oF.refl.up (by omega) (by omega)).up (by omega) (by omega)).up (by omega) (by omega)).up (by omega) (by omega)).up (by omega) (by omega)).up (by omega) (by omega)
            · exact all6 (by simp [up2, vw]) (by simp [up2, vw]) (by simp [up2, vw]) (by simp [up2, vw, bit]) (by simp [up2, vw]) (by simp [up2, vw])

set_option maxRecDepth 10000 in
theorem s_looksA_13 {xs : xSc} {m : Nat} {I : Nat → Nat → Int32} {L : Nat → Nat → Int64} {Q : Value → xHp → Prop} (hm : 2 ≤ m) {u : Nat} (hu : u < 6) (hs : ∃ k, k < 32 ∧ I 24 u = io k) {a : Nat} (ha : a < 5) (hQ : ∀ J, oF 27 27 I J → (∀ k, k < 6 → J 27 k = vw (I 19 0) (I 20 a) (I 15 a) (bc (I 24 u &&& (bit a ^^^ -1))) (io u) (I 21 a) k) → Q .null (Hp J L)) : M xs m xi_X0_looks [.ref 19, .int (io a), .int (io u), .ref 13] (Hp I L) Q := by
  obtain ⟨m, rfl⟩ : ∃ k, m = k + 1 := ⟨m - 1, by omega⟩
  refine M_go (ls := [_, _, _, _, _, _]) (ml := 6) rfl rfl rfl (zl rfl) rfl ?_
  refine r_iload_n rfl ?_
  refine r_iconst ?_
  refine r_icmp_ne (fun c_2 => ?_) (fun c_2 => ?_)
  · refine E_go 1 rfl ?_
    refine r_iconst ?_
    refine r_nil ?_
    refine E_go 2 rfl ?_
    refine r_istore (ls' := [_, _, _, _, _, _]) (zt rfl) rfl ?_
    refine r_iload rfl ?_
    refine r_if_eq (fun c_14 => ?_) (fun c_14 => ?_)
    · have c_14 := (n_eq (a := 0) (b := 0) rfl rfl (by omega) (by omega)).mp c_14
      refine E_go 3 rfl ?_
      refine r_aload_n rfl ?_
      refine r_getA (q := 24) (by decide) rfl rfl (by decide) ?_
      refine r_iload_n rfl ?_
      refine r_iaload (by decide) rfl (by decide) (ixE rfl (show u < 6 by omega) (by decide)) rfl ?_
      refine r_iconst ?_
      refine r_iload_n rfl ?_
      refine r_ishl ?_
      refine r_iconst ?_
      refine r_ixor ?_
      refine r_iand ?_
      refine r_nil ?_
      refine E_go 4 rfl ?_
      refine r_istore (ls' := [_, _, _, _, _, _]) (zt rfl) rfl ?_
      refine r_aload_n rfl ?_
      refine r_getA (q := 27) (by decide) rfl rfl (by decide) ?_
      refine r_iconst ?_
      refine r_aload_n rfl ?_
      refine r_getI (by decide) rfl rfl (by decide) rfl ?_
      refine r_iastore rfl (by decide) (ixE rfl (show 0 < 6 by omega) (by decide)) ?_
      refine r_aload_n rfl ?_
      refine r_getA (q := 27) (by decide) rfl rfl (by decide) ?_
      refine r_iconst ?_
      refine r_iload rfl ?_
      refine r_if_eq (fun c_57 => ?_) (fun c_57 => ?_)
      · have c_57 := (n_eq (a := 0) (b := 0) rfl rfl (by omega) (by omega)).mp c_57
        refine E_go 5 rfl ?_
        refine r_aload_n rfl ?_
        refine r_getA (q := 20) (by decide) rfl rfl (by decide) ?_
        refine r_iload_n rfl ?_
        refine r_iaload (by decide) rfl (by decide) (ixE rfl (show a < 5 by omega) (by decide)) rfl ?_
        refine r_nil ?_
        refine E_go 6 rfl ?_
        refine r_iastore rfl (by decide) (ixE rfl (show 1 < 6 by omega) (by decide)) ?_
        refine r_aload_n rfl ?_
        refine r_getA (q := 27) (by decide) rfl rfl (by decide) ?_
        refine r_iconst ?_
        refine r_iload rfl ?_
        refine r_if_eq (fun c_78 => ?_) (fun c_78 => ?_)
        · have c_78 := (n_eq (a := 0) (b := 0) rfl rfl (by omega) (by omega)).mp c_78
          refine E_go 7 rfl ?_
          refine r_aload_n rfl ?_
          refine r_getA (q := 15) (by decide) rfl rfl (by decide) ?_
          refine r_iload_n rfl ?_
          refine r_iaload (by decide) rfl (by decide) (ixE rfl (show a < 5 by omega) (by decide)) rfl ?_
          refine r_nil ?_
          refine E_go 8 rfl ?_
          refine r_iastore rfl (by decide) (ixE rfl (show 2 < 6 by omega) (by decide)) ?_
          refine r_aload_n rfl ?_
          refine r_getA (q := 27) (by decide) rfl rfl (by decide) ?_
          refine r_iconst ?_
          refine r_iload rfl ?_
          refine r_static (vs := [_]) (by decide) (zl rfl) rfl rfl (zl rfl) (Nat.le_refl _) rfl ?_
          refine s_J6_bitCount_0f7a4 (by omega) (msk2 hs ha) ?_
          refine r_iastore rfl (by decide) (ixE rfl (show 3 < 6 by omega) (by decide)) ?_
          refine r_aload_n rfl ?_
          refine r_getA (q := 27) (by decide) rfl rfl (by decide) ?_
          refine r_iconst ?_
          refine r_iload_n rfl ?_
          refine r_iastore rfl (by decide) (ixE rfl (show 4 < 6 by omega) (by decide)) ?_
          refine r_aload_n rfl ?_
          refine r_getA (q := 27) (by decide) rfl rfl (by decide) ?_
          refine r_iconst ?_
          refine r_iload rfl ?_
          refine r_if_eq (fun c_117 => ?_) (fun c_117 => ?_)
          · have c_117 := (n_eq (a := 0) (b := 0) rfl rfl (by omega) (by omega)).mp c_117
            refine E_go 9 rfl ?_
            refine r_aload_n rfl ?_
            refine r_getA (q := 21) (by decide) rfl rfl (by decide) ?_
            refine r_iload_n rfl ?_
            refine r_iaload (by decide) rfl (by decide) (ixE rfl (show a < 5 by omega) (by decide)) rfl ?_
            refine r_nil ?_
            refine E_go 10 rfl ?_
            refine r_iastore rfl (by decide) (ixE rfl (show 5 < 6 by omega) (by decide)) ?_
            refine r_ret rfl ?_
            refine hQ _ ?_ ?_
            · exact (((((oF.refl.up (by omega) (by omega)).up (by omega) (by omega)).up (by omega) (by omega)).up (by omega) (by omega)).up (by omega) (by omega)).up (by omega) (by omega)
            · exact all6 (by simp [up2, vw]) (by simp [up2, vw]) (by simp [up2, vw]) (by simp [up2, vw, bit]) (by simp [up2, vw]) (by simp [up2, vw])
          · have c_117 := (not_congr (n_eq (a := 0) (b := 0) rfl rfl (by omega) (by omega))).mp c_117
            omega
        · have c_78 := (not_congr (n_eq (a := 0) (b := 0) rfl rfl (by omega) (by omega))).mp c_78
          omega
      · have c_57 := (not_congr (n_eq (a := 0) (b := 0) rfl rfl (by omega) (by omega))).mp c_57
        omega
    · have c_14 := (not_congr (n_eq (a := 0) (b := 0) rfl rfl (by omega) (by omega))).mp c_14
      omega
  · exact absurd c_2 (io_nn (by omega))
