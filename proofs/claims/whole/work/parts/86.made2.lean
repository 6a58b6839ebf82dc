/-! the model is made -/

def mB0 : List Int32 := [109, 97, 121, 32, 115, 104, 111, 119, 110, 32, 60, 32, 49, 32, 59, 32, 106, 111, 121, 115, 32, 104, 101, 97, 116, 32, 59, 32, 99, 111, 111, 108, 115, 32, 51, 32, 59, 32, 32, 32]
def tb1 : Nat → Int32 := fun i => mB0.getD i 0
theorem gT_tb1 : (gT tb1 40).1 = true ∧ (gT tb1 40).2.2 = wTx := by decide +kernel
theorem bOk_tb1 : bOk tb1 40 := by
  have h : ∀ i, i < 40 → (mB0.getD i 0).toNatClampNeg < 256 ∧ mB0.getD i 0 = io (mB0.getD i 0).toNatClampNeg := by decide +kernel
  intro i hi
  exact ⟨_, (h i hi).1, (h i hi).2⟩
/-- below 61 all is as it was -/
def fB (J I : Nat → Nat → Int32) : Prop := ∀ q, q < 61 → I q = J q
theorem fB_0 {J : Nat → Nat → Int32} : fB J J := fun _ _ => rfl
theorem fB_put {J I : Nat → Nat → Int32} {p k : Nat} {v : Int32} (hp : 61 ≤ p) (h : fB J I) : fB J (up2 I p k v) := fun q hq => by rw [up2_q (by omega)]; exact h q hq
theorem fB_new {J I : Nat → Nat → Int32} {p : Nat} {v : Nat → Int32} (hp : 61 ≤ p) (h : fB J I) : fB J (va_up I p v) := fun q hq => by rw [va_u (by omega)]; exact h q hq

/-- what the model's constructor leaves -/
abbrev mcP (J I : Nat → Nat → Int32) : Prop := fB J I ∧ (I 61 12 = 0 ∧ I 61 7 = 80 ∧ I 61 8 = 0 ∧ I 61 3 = 1 ∧ I 61 4 = 0 ∧ I 61 6 = 0 ∧ I 61 41 = -1 ∧ I 63 0 = 40) ∧ (∀ s, s < 4 → I 78 s = 0) ∧ ∀ i, i < 40 → I 62 i = tb1 i
theorem Q_ini {n : Nat} {r : Value} {I : Nat → Nat → Int32} {L : Nat → Nat → Int64} {F F2 : Nat → Nat → Option Nat} {Q : Value → xHp → Prop} (P : (Nat → Nat → Int32) → Prop) (hF : F = F2) (hP : P I) (k : ∀ J L2, P J → Q r (n, J, L2, F2)) : Q r (n, I, L, F) := by
  subst hF
  exact k _ _ hP

set_option maxHeartbeats 4000000 in
set_option maxRecDepth 10000 in
theorem s_X7_init {xs : xSc} {m : Nat} {J : Nat → Nat → Int32} {L : Nat → Nat → Int64} {Q : Value → xHp → Prop} (hm : 60 ≤ m) (hQ : ∀ I L, mcP J I → Q .null (Hp I L)) : M xs m xi_X7_init [.ref 61] (62, va_up J 61 (fun _ => 0), va_up L 61 (fun _ => 0), va_up xF1 61 (fun _ => none)) Q := by
  obtain ⟨m, rfl⟩ : ∃ k, m = k + 6 := ⟨m - 6, by omega⟩
  refine M_go (ls := [_]) (ml := 1) (lim := 82) rfl rfl rfl (zl rfl) rfl ?_
  refine r_aload_n rfl ?_
  refine r_obj rfl (zl rfl) ?_
  refine r_aload_n rfl ?_
  refine r_sipush ?_
  refine r_newarrayC (n2 := 63) rfl rfl (zl rfl) (by decide) rfl (zl rfl) ?_
  refine r_putA trivial rfl (by decide) (by decide) ?_
  refine r_aload_n rfl ?_
  refine r_bipush ?_
  refine r_newarrayC (n2 := 64) rfl rfl (zl rfl) (by decide) rfl (zl rfl) ?_
  refine r_putA trivial rfl (by decide) (by decide) ?_
  refine r_aload_n rfl ?_
  refine r_sipush ?_
  refine r_newarrayC (n2 := 65) rfl rfl (zl rfl) (by decide) rfl (zl rfl) ?_
  refine r_putA trivial rfl (by decide) (by decide) ?_
  refine r_aload_n rfl ?_
  refine r_bipush ?_
  refine r_putI rfl rfl (by decide) ?_
  refine r_aload_n rfl ?_
  refine r_iconst ?_
  refine r_newarrayC (n2 := 66) rfl rfl (zl rfl) (by decide) rfl (zl rfl) ?_
  refine r_putA trivial rfl (by decide) (by decide) ?_
  refine r_aload_n rfl ?_
  refine r_bipush ?_
  refine r_newarrayC (n2 := 67) rfl rfl (zl rfl) (by decide) rfl (zl rfl) ?_
  refine r_putA trivial rfl (by decide) (by decide) ?_
  refine r_aload_n rfl ?_
  refine r_iconst ?_
  refine r_newarrayC (n2 := 68) rfl rfl (zl rfl) (by decide) rfl (zl rfl) ?_
  refine r_putA trivial rfl (by decide) (by decide) ?_
  refine r_aload_n rfl ?_
  refine r_iconst ?_
  refine r_newarrayC (n2 := 69) rfl rfl (zl rfl) (by decide) rfl (zl rfl) ?_
  refine r_putA trivial rfl (by decide) (by decide) ?_
  refine r_aload_n rfl ?_
  refine r_iconst ?_
  refine r_newarrayC (n2 := 70) rfl rfl (zl rfl) (by decide) rfl (zl rfl) ?_
  refine r_putA trivial rfl (by decide) (by decide) ?_
  refine r_aload_n rfl ?_
  refine r_iconst ?_
  refine r_newarrayC (n2 := 71) rfl rfl (zl rfl) (by decide) rfl (zl rfl) ?_
  refine r_putA trivial rfl (by decide) (by decide) ?_
  refine r_aload_n rfl ?_
  refine r_bipush ?_
  refine r_newarrayC (n2 := 72) rfl rfl (zl rfl) (by decide) rfl (zl rfl) ?_
  refine r_putA trivial rfl (by decide) (by decide) ?_
  refine r_aload_n rfl ?_
  refine r_bipush ?_
  refine r_newarrayC (n2 := 73) rfl rfl (zl rfl) (by decide) rfl (zl rfl) ?_
  refine r_putA trivial rfl (by decide) (by decide) ?_
  refine r_aload_n rfl ?_
  refine r_bipush ?_
  refine r_newarrayC (n2 := 74) rfl rfl (zl rfl) (by decide) rfl (zl rfl) ?_
  refine r_putA trivial rfl (by decide) (by decide) ?_
  refine r_aload_n rfl ?_
  refine r_bipush ?_
  refine r_newarrayC (n2 := 75) rfl rfl (zl rfl) (by decide) rfl (zl rfl) ?_
  refine r_putA trivial rfl (by decide) (by decide) ?_
  refine r_aload_n rfl ?_
  refine r_iconst ?_
  refine r_newarrayC (n2 := 76) rfl rfl (zl rfl) (by decide) rfl (zl rfl) ?_
  refine r_putA trivial rfl (by decide) (by decide) ?_
  refine r_aload_n rfl ?_
  refine r_bipush ?_
  refine r_newarrayC (n2 := 77) rfl rfl (zl rfl) (by decide) rfl (zl rfl) ?_
  refine r_putA trivial rfl (by decide) (by decide) ?_
  refine r_aload_n rfl ?_
  refine r_iconst ?_
  refine r_newarrayC (n2 := 78) rfl rfl (zl rfl) (by decide) rfl (zl rfl) ?_
  refine r_putA trivial rfl (by decide) (by decide) ?_
  refine r_aload_n rfl ?_
  refine r_iconst ?_
  refine r_putI rfl rfl (by decide) ?_
  refine r_aload_n rfl ?_
  refine r_iconst ?_
  refine r_newarrayC (n2 := 79) rfl rfl (zl rfl) (by decide) rfl (zl rfl) ?_
  refine r_putA trivial rfl (by decide) (by decide) ?_
  refine r_aload_n rfl ?_
  refine r_iconst ?_
  refine r_newarrayC (n2 := 80) rfl rfl (zl rfl) (by decide) rfl (zl rfl) ?_
  refine r_putA trivial rfl (by decide) (by decide) ?_
  refine r_aload_n rfl ?_
  refine r_iconst ?_
  refine r_newarrayC (n2 := 81) rfl rfl (zl rfl) (by decide) rfl (zl rfl) ?_
  refine r_putA trivial rfl (by decide) (by decide) ?_
  refine r_aload_n rfl ?_
  refine r_sipush ?_
  refine r_newarrayC (n2 := 82) rfl rfl (zl rfl) (by decide) rfl (zl rfl) ?_
  refine r_putA trivial rfl (by decide) (by decide) ?_
  refine r_aload_n rfl ?_
  refine r_iconst ?_
  refine r_bipush ?_
  refine r_bipush ?_
  refine r_bipush ?_
  refine r_bipush ?_
  refine r_bipush ?_
  refine r_bipush ?_
  refine r_bipush ?_
  refine r_bipush ?_
  refine r_virtual (vs := []) (as := [_, _, _, _, _, _, _, _, _]) (by decide) (zl rfl) rfl rfl (zl rfl) (zl rfl) (Or.inr (Or.inr ⟨zt rfl, rfl, zt rfl⟩)) ?_
  refine M_go (ls := [_, _, _, _, _, _, _, _, _, _]) (ml := 10) (lim := 82) rfl rfl rfl (zl rfl) rfl ?_
  refine r_aload_n rfl ?_
  refine r_getA (q := 62) (by decide) rfl rfl (by decide) ?_
  refine r_iload_n rfl ?_
  refine r_iload_n rfl ?_
  refine r_iastore rfl (by decide) (ixE rfl (show 0 < 960 by omega) (by decide)) ?_
  refine r_aload_n rfl ?_
  refine r_getA (q := 62) (by decide) rfl rfl (by decide) ?_
  refine r_iload_n rfl ?_
  refine r_iconst ?_
  refine r_iadd ?_
  refine r_iload_n rfl ?_
  refine r_iastore rfl (by decide) (ixE (n_add (a := 0) (b := 1) rfl rfl) (show (0 + 1) < 960 by omega) (by decide)) ?_
  refine r_aload_n rfl ?_
  refine r_getA (q := 62) (by decide) rfl rfl (by decide) ?_
  refine r_iload_n rfl ?_
  refine r_iconst ?_
  refine r_iadd ?_
  refine r_iload rfl ?_
  refine r_iastore rfl (by decide) (ixE (n_add (a := 0) (b := 2) rfl rfl) (show (0 + 2) < 960 by omega) (by decide)) ?_
  refine r_aload_n rfl ?_
  refine r_getA (q := 62) (by decide) rfl rfl (by decide) ?_
  refine r_iload_n rfl ?_
  refine r_iconst ?_
  refine r_iadd ?_
  refine r_iload rfl ?_
  refine r_iastore rfl (by decide) (ixE (n_add (a := 0) (b := 3) rfl rfl) (show (0 + 3) < 960 by omega) (by decide)) ?_
  refine r_aload_n rfl ?_
  refine r_getA (q := 62) (by decide) rfl rfl (by decide) ?_
  refine r_iload_n rfl ?_
  refine r_iconst ?_
  refine r_iadd ?_
  refine r_iload rfl ?_
  refine r_iastore rfl (by decide) (ixE (n_add (a := 0) (b := 4) rfl rfl) (show (0 + 4) < 960 by omega) (by decide)) ?_
  refine r_aload_n rfl ?_
  refine r_getA (q := 62) (by decide) rfl rfl (by decide) ?_
  refine r_iload_n rfl ?_
  refine r_iconst ?_
  refine r_iadd ?_
  refine r_iload rfl ?_
  refine r_iastore rfl (by decide) (ixE (n_add (a := 0) (b := 5) rfl rfl) (show (0 + 5) < 960 by omega) (by decide)) ?_
  refine r_aload_n rfl ?_
  refine r_getA (q := 62) (by decide) rfl rfl (by decide) ?_
  refine r_iload_n rfl ?_
  refine r_bipush ?_
  refine r_iadd ?_
  refine r_iload rfl ?_
  refine r_iastore rfl (by decide) (ixE (n_add (a := 0) (b := 6) rfl rfl) (show (0 + 6) < 960 by omega) (by decide)) ?_
  refine r_aload_n rfl ?_
  refine r_getA (q := 62) (by decide) rfl rfl (by decide) ?_
  refine r_iload_n rfl ?_
  refine r_bipush ?_
  refine r_iadd ?_
  refine r_iload rfl ?_
  refine r_iastore rfl (by decide) (ixE (n_add (a := 0) (b := 7) rfl rfl) (show (0 + 7) < 960 by omega) (by decide)) ?_
  refine r_ret rfl ?_
  refine r_aload_n rfl ?_
  refine r_bipush ?_
  refine r_bipush ?_
  refine r_bipush ?_
  refine r_bipush ?_
  refine r_bipush ?_
  refine r_bipush ?_
  refine r_bipush ?_
  refine r_bipush ?_
  refine r_bipush ?_
  refine r_virtual (vs := []) (as := [_, _, _, _, _, _, _, _, _]) (by decide) (zl rfl) rfl rfl (zl rfl) (zl rfl) (Or.inr (Or.inr ⟨zt rfl, rfl, zt rfl⟩)) ?_
  refine M_go (ls := [_, _, _, _, _, _, _, _, _, _]) (ml := 10) (lim := 82) rfl rfl rfl (zl rfl) rfl ?_
  refine r_aload_n rfl ?_
  refine r_getA (q := 62) (by decide) rfl rfl (by decide) ?_
  refine r_iload_n rfl ?_
  refine r_iload_n rfl ?_
  refine r_iastore rfl (by decide) (ixE rfl (show 8 < 960 by omega) (by decide)) ?_
  refine r_aload_n rfl ?_
  refine r_getA (q := 62) (by decide) rfl rfl (by decide) ?_
  refine r_iload_n rfl ?_
  refine r_iconst ?_
  refine r_iadd ?_
  refine r_iload_n rfl ?_
  refine r_iastore rfl (by decide) (ixE (n_add (a := 8) (b := 1) rfl rfl) (show (8 + 1) < 960 by omega) (by decide)) ?_
  refine r_aload_n rfl ?_
  refine r_getA (q := 62) (by decide) rfl rfl (by decide) ?_
  refine r_iload_n rfl ?_
  refine r_iconst ?_
  refine r_iadd ?_
  refine r_iload rfl ?_
  refine r_iastore rfl (by decide) (ixE (n_add (a := 8) (b := 2) rfl rfl) (show (8 + 2) < 960 by omega) (by decide)) ?_
  refine r_aload_n rfl ?_
  refine r_getA (q := 62) (by decide) rfl rfl (by decide) ?_
  refine r_iload_n rfl ?_
  refine r_iconst ?_
  refine r_iadd ?_
  refine r_iload rfl ?_
  refine r_iastore rfl (by decide) (ixE (n_add (a := 8) (b := 3) rfl rfl) (show (8 + 3) < 960 by omega) (by decide)) ?_
  refine r_aload_n rfl ?_
  refine r_getA (q := 62) (by decide) rfl rfl (by decide) ?_
  refine r_iload_n rfl ?_
  refine r_iconst ?_
  refine r_iadd ?_
  refine r_iload rfl ?_
  refine r_iastore rfl (by decide) (ixE (n_add (a := 8) (b := 4) rfl rfl) (show (8 + 4) < 960 by omega) (by decide)) ?_
  refine r_aload_n rfl ?_
  refine r_getA (q := 62) (by decide) rfl rfl (by decide) ?_
  refine r_iload_n rfl ?_
  refine r_iconst ?_
  refine r_iadd ?_
  refine r_iload rfl ?_
  refine r_iastore rfl (by decide) (ixE (n_add (a := 8) (b := 5) rfl rfl) (show (8 + 5) < 960 by omega) (by decide)) ?_
  refine r_aload_n rfl ?_
  refine r_getA (q := 62) (by decide) rfl rfl (by decide) ?_
  refine r_iload_n rfl ?_
  refine r_bipush ?_
  refine r_iadd ?_
  refine r_iload rfl ?_
  refine r_iastore rfl (by decide) (ixE (n_add (a := 8) (b := 6) rfl rfl) (show (8 + 6) < 960 by omega) (by decide)) ?_
  refine r_aload_n rfl ?_
  refine r_getA (q := 62) (by decide) rfl rfl (by decide) ?_
  refine r_iload_n rfl ?_
  refine r_bipush ?_
  refine r_iadd ?_
  refine r_iload rfl ?_
  refine r_iastore rfl (by decide) (ixE (n_add (a := 8) (b := 7) rfl rfl) (show (8 + 7) < 960 by omega) (by decide)) ?_
  refine r_ret rfl ?_
  refine r_aload_n rfl ?_
  refine r_bipush ?_
  refine r_bipush ?_
  refine r_bipush ?_
  refine r_bipush ?_
  refine r_bipush ?_
  refine r_bipush ?_
  refine r_bipush ?_
  refine r_bipush ?_
  refine r_bipush ?_
  refine r_virtual (vs := []) (as := [_, _, _, _, _, _, _, _, _]) (by decide) (zl rfl) rfl rfl (zl rfl) (zl rfl) (Or.inr (Or.inr ⟨zt rfl, rfl, zt rfl⟩)) ?_
  refine M_go (ls := [_, _, _, _, _, _, _, _, _, _]) (ml := 10) (lim := 82) rfl rfl rfl (zl rfl) rfl ?_
  refine r_aload_n rfl ?_
  refine r_getA (q := 62) (by decide) rfl rfl (by decide) ?_
  refine r_iload_n rfl ?_
  refine r_iload_n rfl ?_
  refine r_iastore rfl (by decide) (ixE rfl (show 16 < 960 by omega) (by decide)) ?_
  refine r_aload_n rfl ?_
  refine r_getA (q := 62) (by decide) rfl rfl (by decide) ?_
  refine r_iload_n rfl ?_
  refine r_iconst ?_
  refine r_iadd ?_
  refine r_iload_n rfl ?_
  refine r_iastore rfl (by decide) (ixE (n_add (a := 16) (b := 1) rfl rfl) (show (16 + 1) < 960 by omega) (by decide)) ?_
  refine r_aload_n rfl ?_
  refine r_getA (q := 62) (by decide) rfl rfl (by decide) ?_
  refine r_iload_n rfl ?_
  refine r_iconst ?_
  refine r_iadd ?_
  refine r_iload rfl ?_
  refine r_iastore rfl (by decide) (ixE (n_add (a := 16) (b := 2) rfl rfl) (show (16 + 2) < 960 by omega) (by decide)) ?_
  refine r_aload_n rfl ?_
  refine r_getA (q := 62) (by decide) rfl rfl (by decide) ?_
  refine r_iload_n rfl ?_
  refine r_iconst ?_
  refine r_iadd ?_
  refine r_iload rfl ?_
  refine r_iastore rfl (by decide) (ixE (n_add (a := 16) (b := 3) rfl rfl) (show (16 + 3) < 960 by omega) (by decide)) ?_
  refine r_aload_n rfl ?_
  refine r_getA (q := 62) (by decide) rfl rfl (by decide) ?_
  refine r_iload_n rfl ?_
  refine r_iconst ?_
  refine r_iadd ?_
  refine r_iload rfl ?_
  refine r_iastore rfl (by decide) (ixE (n_add (a := 16) (b := 4) rfl rfl) (show (16 + 4) < 960 by omega) (by decide)) ?_
  refine r_aload_n rfl ?_
  refine r_getA (q := 62) (by decide) rfl rfl (by decide) ?_
  refine r_iload_n rfl ?_
  refine r_iconst ?_
  refine r_iadd ?_
  refine r_iload rfl ?_
  refine r_iastore rfl (by decide) (ixE (n_add (a := 16) (b := 5) rfl rfl) (show (16 + 5) < 960 by omega) (by decide)) ?_
  refine r_aload_n rfl ?_
  refine r_getA (q := 62) (by decide) rfl rfl (by decide) ?_
  refine r_iload_n rfl ?_
  refine r_bipush ?_
  refine r_iadd ?_
  refine r_iload rfl ?_
  refine r_iastore rfl (by decide) (ixE (n_add (a := 16) (b := 6) rfl rfl) (show (16 + 6) < 960 by omega) (by decide)) ?_
  refine r_aload_n rfl ?_
  refine r_getA (q := 62) (by decide) rfl rfl (by decide) ?_
  refine r_iload_n rfl ?_
  refine r_bipush ?_
  refine r_iadd ?_
  refine r_iload rfl ?_
  refine r_iastore rfl (by decide) (ixE (n_add (a := 16) (b := 7) rfl rfl) (show (16 + 7) < 960 by omega) (by decide)) ?_
  refine r_ret rfl ?_
  refine r_aload_n rfl ?_
  refine r_bipush ?_
  refine r_bipush ?_
  refine r_bipush ?_
  refine r_bipush ?_
  refine r_bipush ?_
  refine r_bipush ?_
  refine r_bipush ?_
  refine r_bipush ?_
  refine r_bipush ?_
  refine r_virtual (vs := []) (as := [_, _, _, _, _, _, _, _, _]) (by decide) (zl rfl) rfl rfl (zl rfl) (zl rfl) (Or.inr (Or.inr ⟨zt rfl, rfl, zt rfl⟩)) ?_
  refine M_go (ls := [_, _, _, _, _, _, _, _, _, _]) (ml := 10) (lim := 82) rfl rfl rfl (zl rfl) rfl ?_
  refine r_aload_n rfl ?_
  refine r_getA (q := 62) (by decide) rfl rfl (by decide) ?_
  refine r_iload_n rfl ?_
  refine r_iload_n rfl ?_
  refine r_iastore rfl (by decide) (ixE rfl (show 24 < 960 by omega) (by decide)) ?_
  refine r_aload_n rfl ?_
  refine r_getA (q := 62) (by decide) rfl rfl (by decide) ?_
  refine r_iload_n rfl ?_
  refine r_iconst ?_
  refine r_iadd ?_
  refine r_iload_n rfl ?_
  refine r_iastore rfl (by decide) (ixE (n_add (a := 24) (b := 1) rfl rfl) (show (24 + 1) < 960 by omega) (by decide)) ?_
  refine r_aload_n rfl ?_
  refine r_getA (q := 62) (by decide) rfl rfl (by decide) ?_
  refine r_iload_n rfl ?_
  refine r_iconst ?_
  refine r_iadd ?_
  refine r_iload rfl ?_
  refine r_iastore rfl (by decide) (ixE (n_add (a := 24) (b := 2) rfl rfl) (show (24 + 2) < 960 by omega) (by decide)) ?_
  refine r_aload_n rfl ?_
  refine r_getA (q := 62) (by decide) rfl rfl (by decide) ?_
  refine r_iload_n rfl ?_
  refine r_iconst ?_
  refine r_iadd ?_
  refine r_iload rfl ?_
  refine r_iastore rfl (by decide) (ixE (n_add (a := 24) (b := 3) rfl rfl) (show (24 + 3) < 960 by omega) (by decide)) ?_
  refine r_aload_n rfl ?_
  refine r_getA (q := 62) (by decide) rfl rfl (by decide) ?_
  refine r_iload_n rfl ?_
  refine r_iconst ?_
  refine r_iadd ?_
  refine r_iload rfl ?_
  refine r_iastore rfl (by decide) (ixE (n_add (a := 24) (b := 4) rfl rfl) (show (24 + 4) < 960 by omega) (by decide)) ?_
  refine r_aload_n rfl ?_
  refine r_getA (q := 62) (by decide) rfl rfl (by decide) ?_
  refine r_iload_n rfl ?_
  refine r_iconst ?_
  refine r_iadd ?_
  refine r_iload rfl ?_
  refine r_iastore rfl (by decide) (ixE (n_add (a := 24) (b := 5) rfl rfl) (show (24 + 5) < 960 by omega) (by decide)) ?_
  refine r_aload_n rfl ?_
  refine r_getA (q := 62) (by decide) rfl rfl (by decide) ?_
  refine r_iload_n rfl ?_
  refine r_bipush ?_
  refine r_iadd ?_
  refine r_iload rfl ?_
  refine r_iastore rfl (by decide) (ixE (n_add (a := 24) (b := 6) rfl rfl) (show (24 + 6) < 960 by omega) (by decide)) ?_
  refine r_aload_n rfl ?_
  refine r_getA (q := 62) (by decide) rfl rfl (by decide) ?_
  refine r_iload_n rfl ?_
  refine r_bipush ?_
  refine r_iadd ?_
  refine r_iload rfl ?_
  refine r_iastore rfl (by decide) (ixE (n_add (a := 24) (b := 7) rfl rfl) (show (24 + 7) < 960 by omega) (by decide)) ?_
  refine r_ret rfl ?_
  refine r_aload_n rfl ?_
  refine r_bipush ?_
  refine r_bipush ?_
  refine r_bipush ?_
  refine r_bipush ?_
  refine r_bipush ?_
  refine r_bipush ?_
  refine r_bipush ?_
  refine r_bipush ?_
  refine r_bipush ?_
  refine r_virtual (vs := []) (as := [_, _, _, _, _, _, _, _, _]) (by decide) (zl rfl) rfl rfl (zl rfl) (zl rfl) (Or.inr (Or.inr ⟨zt rfl, rfl, zt rfl⟩)) ?_
  refine M_go (ls := [_, _, _, _, _, _, _, _, _, _]) (ml := 10) (lim := 82) rfl rfl rfl (zl rfl) rfl ?_
  refine r_aload_n rfl ?_
  refine r_getA (q := 62) (by decide) rfl rfl (by decide) ?_
  refine r_iload_n rfl ?_
  refine r_iload_n rfl ?_
  refine r_iastore rfl (by decide) (ixE rfl (show 32 < 960 by omega) (by decide)) ?_
  refine r_aload_n rfl ?_
  refine r_getA (q := 62) (by decide) rfl rfl (by decide) ?_
  refine r_iload_n rfl ?_
  refine r_iconst ?_
  refine r_iadd ?_
  refine r_iload_n rfl ?_
  refine r_iastore rfl (by decide) (ixE (n_add (a := 32) (b := 1) rfl rfl) (show (32 + 1) < 960 by omega) (by decide)) ?_
  refine r_aload_n rfl ?_
  refine r_getA (q := 62) (by decide) rfl rfl (by decide) ?_
  refine r_iload_n rfl ?_
  refine r_iconst ?_
  refine r_iadd ?_
  refine r_iload rfl ?_
  refine r_iastore rfl (by decide) (ixE (n_add (a := 32) (b := 2) rfl rfl) (show (32 + 2) < 960 by omega) (by decide)) ?_
  refine r_aload_n rfl ?_
  refine r_getA (q := 62) (by decide) rfl rfl (by decide) ?_
  refine r_iload_n rfl ?_
  refine r_iconst ?_
  refine r_iadd ?_
  refine r_iload rfl ?_
  refine r_iastore rfl (by decide) (ixE (n_add (a := 32) (b := 3) rfl rfl) (show (32 + 3) < 960 by omega) (by decide)) ?_
  refine r_aload_n rfl ?_
  refine r_getA (q := 62) (by decide) rfl rfl (by decide) ?_
  refine r_iload_n rfl ?_
  refine r_iconst ?_
  refine r_iadd ?_
  refine r_iload rfl ?_
  refine r_iastore rfl (by decide) (ixE (n_add (a := 32) (b := 4) rfl rfl) (show (32 + 4) < 960 by omega) (by decide)) ?_
  refine r_aload_n rfl ?_
  refine r_getA (q := 62) (by decide) rfl rfl (by decide) ?_
  refine r_iload_n rfl ?_
  refine r_iconst ?_
  refine r_iadd ?_
  refine r_iload rfl ?_
  refine r_iastore rfl (by decide) (ixE (n_add (a := 32) (b := 5) rfl rfl) (show (32 + 5) < 960 by omega) (by decide)) ?_
  refine r_aload_n rfl ?_
  refine r_getA (q := 62) (by decide) rfl rfl (by decide) ?_
  refine r_iload_n rfl ?_
  refine r_bipush ?_
  refine r_iadd ?_
  refine r_iload rfl ?_
  refine r_iastore rfl (by decide) (ixE (n_add (a := 32) (b := 6) rfl rfl) (show (32 + 6) < 960 by omega) (by decide)) ?_
  refine r_aload_n rfl ?_
  refine r_getA (q := 62) (by decide) rfl rfl (by decide) ?_
  refine r_iload_n rfl ?_
  refine r_bipush ?_
  refine r_iadd ?_
  refine r_iload rfl ?_
  refine r_iastore rfl (by decide) (ixE (n_add (a := 32) (b := 7) rfl rfl) (show (32 + 7) < 960 by omega) (by decide)) ?_
  refine r_ret rfl ?_
  refine r_aload_n rfl ?_
  refine r_getA (q := 63) (by decide) rfl rfl (by decide) ?_
  refine r_iconst ?_
  refine r_bipush ?_
  refine r_iastore rfl (by decide) (ixE rfl (show 0 < 6 by omega) (by decide)) ?_
  refine r_aload_n rfl ?_
  refine r_iconst ?_
  refine r_putI rfl rfl (by decide) ?_
  refine r_ret rfl ?_
  refine Q_ini (fun I => mcP J I) (sFr_eq (a := 82) (b := 50) ?_ sFr_F0 ?_) ⟨?_, ⟨rfl, rfl, rfl, rfl, rfl, rfl, rfl, rfl⟩, ?_, ?_⟩ (fun I L hI => hQ I L hI)
  · repeat (first | apply sFr_new | apply sFr_put (zt rfl) (zt rfl) | exact sFr_wide sFr_F1 (zl rfl) (zl rfl))
  · decide +kernel
  · repeat (first | apply fB_new (zl rfl) | apply fB_put (zl rfl) | exact fB_0)
  · intro s hs
    rcases (show s = 0 ∨ s = 1 ∨ s = 2 ∨ s = 3 by omega) with rfl | rfl | rfl | rfl <;> rfl
  · refine all_succ ?_ rfl
    refine all_succ ?_ rfl
    refine all_succ ?_ rfl
    refine all_succ ?_ rfl
    refine all_succ ?_ rfl
    refine all_succ ?_ rfl
    refine all_succ ?_ rfl
    refine all_succ ?_ rfl
    refine all_succ ?_ rfl
    refine all_succ ?_ rfl
    refine all_succ ?_ rfl
    refine all_succ ?_ rfl
    refine all_succ ?_ rfl
    refine all_succ ?_ rfl
    refine all_succ ?_ rfl
    refine all_succ ?_ rfl
    refine all_succ ?_ rfl
    refine all_succ ?_ rfl
    refine all_succ ?_ rfl
    refine all_succ ?_ rfl
    refine all_succ ?_ rfl
    refine all_succ ?_ rfl
    refine all_succ ?_ rfl
    refine all_succ ?_ rfl
    refine all_succ ?_ rfl
    refine all_succ ?_ rfl
    refine all_succ ?_ rfl
    refine all_succ ?_ rfl
    refine all_succ ?_ rfl
    refine all_succ ?_ rfl
    refine all_succ ?_ rfl
    refine all_succ ?_ rfl
    refine all_succ ?_ rfl
    refine all_succ ?_ rfl
    refine all_succ ?_ rfl
    refine all_succ ?_ rfl
    refine all_succ ?_ rfl
    refine all_succ ?_ rfl
    refine all_succ ?_ rfl
    refine all_succ ?_ rfl
    exact fun i hi => absurd hi (by omega)

/-- both are made: they are alike -/
theorem rel_0 {J I : Nat → Nat → Int32} (h : ceP J) (hT : cTx 0 J wTx) (h2 : mcP J I) : Rel I := by
  obtain ⟨c7, c8, h0, h1, h2c, h3, h29, h53⟩ := h
  obtain ⟨f, ⟨m12, m7, m8, m3, m4, m6, m41, m63⟩, m78, m62⟩ := h2
  have eb : ∀ i, i < 40 → mb 0 I i = tb1 i := fun i hi => by
    show I 62 (160 * 0 + i) = _
    rw [show 160 * 0 + i = i by omega]; exact m62 i hi
  have g0 := f 0 (by omega)
  have g1 := f 1 (by omega)
  refine ⟨0, 1, 0, 0, ⟨⟨by omega, ?_, m12⟩, ⟨?_, ?_⟩, ⟨?_, ?_⟩, fun a ha => absurd ha (by omega)⟩, ⟨⟨by omega, by omega, ?_, m3⟩, ⟨by omega, ?_, m4⟩, fun t ht => ⟨wTx, ?_, ?_⟩⟩, ⟨⟨by omega, ?_, m6⟩, fun i hi => absurd hi (by omega)⟩, Or.inl ⟨?_, m41⟩, fun s hs => Or.inl ⟨?_, m78 s hs⟩⟩
  · rw [g1]; exact h3
  · rw [g1, h0]; exact m7
  · rw [g1, h0]; exact ⟨80, by omega, rfl⟩
  · rw [g1, h1]; exact m8
  · rw [g1, h1]; exact ⟨0, by omega, rfl⟩
  · rw [g0]; exact c7
  · rw [g1]; exact h2c
  · have et : t = 0 := by omega
    subst et
    refine ⟨40, ⟨by omega, m63⟩, bOk_c eb bOk_tb1, ?_, ?_⟩
    · rw [gT_c eb]; exact gT_tb1.1
    · rw [gT_c eb]; exact gT_tb1.2
  · have et : t = 0 := by omega
    subst et
    exact cTx_s (f _ (by unfold tq; omega)) (f _ (by unfold tq; omega)) hT
  · rw [f 29 (by omega)]; exact h29
  · rw [g0]; exact c8
  · rw [f _ (by omega)]; exact h53 s hs
