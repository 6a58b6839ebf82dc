/-! the law: its cases -/

/-- a method that answers an int (a long): nothing else ends it -/
def xAi : Instr → Bool
  | .lreturn => false
  | .return_ => false
  | _ => true
def xAj : Instr → Bool
  | .ireturn => false
  | .return_ => false
  | _ => true
theorem xStep_int {xs : xSc} {al rk : Nat → Nat} {C : xT} (hC : xMono C) {lim : Nat} {K : Nat → List Value → List Value → xHp → Prop} {Q : Value → xHp → Prop} {a b : Nat} {v : Int32} {w : Int64} {ts : List (Int32 × Nat)} {ls st : List Value} {h : xHp} {k k' : List Value → List Value → xHp → Prop} {ins : Instr}
    (hi : xAi ins = true) (hk : ∀ ls st h, k ls st h → k' ls st h) (hs : xStep xs al rk C lim K Q a b v w ts ls st h k ins) : xStep xs al rk C lim K (fun r h => (∃ x, r = .int x) ∧ h.1 = lim ∧ Q r h) a b v w ts ls st h k' ins := by
  have g := xStep_mono hC (fun _ _ _ _ z => z) (fun _ _ z => z) hk hs
  cases ins <;> first | exact g | exact Bool.noConfusion hi | skip
  case ireturn =>
    delta xStep at g ⊢
    dsimp only at g ⊢
    split at g
    · exact ⟨g.1, g.2.1, ⟨_, rfl⟩, g.2.1, g.2.2⟩
    · exact g.elim
theorem xStep_long {xs : xSc} {al rk : Nat → Nat} {C : xT} (hC : xMono C) {lim : Nat} {K : Nat → List Value → List Value → xHp → Prop} {Q : Value → xHp → Prop} {a b : Nat} {v : Int32} {w : Int64} {ts : List (Int32 × Nat)} {ls st : List Value} {h : xHp} {k k' : List Value → List Value → xHp → Prop} {ins : Instr}
    (hi : xAj ins = true) (hk : ∀ ls st h, k ls st h → k' ls st h) (hs : xStep xs al rk C lim K Q a b v w ts ls st h k ins) : xStep xs al rk C lim K (fun r h => (∃ x, r = .long x) ∧ h.1 = lim ∧ Q r h) a b v w ts ls st h k' ins := by
  have g := xStep_mono hC (fun _ _ _ _ z => z) (fun _ _ z => z) hk hs
  cases ins <;> first | exact g | exact Bool.noConfusion hi | skip
  case lreturn =>
    delta xStep at g ⊢
    dsimp only at g ⊢
    split at g
    · exact ⟨g.1, ⟨_, rfl⟩, g.1, g.2⟩
    · exact g.elim
theorem xR_int {xs : xSc} {al rk : Nat → Nat} {C : xT} (hC : xMono C) {lim : Nat} {K : Nat → List Value → List Value → xHp → Prop} {ep : Nat} {Q : Value → xHp → Prop} :
    ∀ (l : List xEl) (ls st : List Value) (h : xHp), l.all (fun e => xAi e.1) = true → xR xs al rk C lim K ep Q l ls st h → xR xs al rk C lim K ep (fun r h => (∃ x, r = .int x) ∧ h.1 = lim ∧ Q r h) l ls st h
  | [], ls, st, h, _, z => z
  | (ins, (_, _, a, b), v, w, ts) :: l, ls, st, h, hl, z => by
    rw [List.all_cons, Bool.and_eq_true] at hl
    exact xStep_int hC hl.1 (fun ls st h y => xR_int hC l ls st h hl.2 y) z
theorem xR_long {xs : xSc} {al rk : Nat → Nat} {C : xT} (hC : xMono C) {lim : Nat} {K : Nat → List Value → List Value → xHp → Prop} {ep : Nat} {Q : Value → xHp → Prop} :
    ∀ (l : List xEl) (ls st : List Value) (h : xHp), l.all (fun e => xAj e.1) = true → xR xs al rk C lim K ep Q l ls st h → xR xs al rk C lim K ep (fun r h => (∃ x, r = .long x) ∧ h.1 = lim ∧ Q r h) l ls st h
  | [], ls, st, h, _, z => z
  | (ins, (_, _, a, b), v, w, ts) :: l, ls, st, h, hl, z => by
    rw [List.all_cons, Bool.and_eq_true] at hl
    exact xStep_long hC hl.1 (fun ls st h y => xR_long hC l ls st h hl.2 y) z
def xIr (i : Nat) : Bool := (xBl i).all fun q => q.2.2.all fun e => xAi e.1
def xJr (i : Nat) : Bool := (xBl i).all fun q => q.2.2.all fun e => xAj e.1
theorem M_int {xs : xSc} {m i n : Nat} {vs : List Value} {h : xHp} {Q : Value → xHp → Prop} (hi : xIr i = true) (hn : h.1 + xAl i = n) (hM : M xs m i vs h Q) : M xs m i vs h (fun r h1 => (∃ x, r = .int x) ∧ h1.1 = n ∧ Q r h1) := by
  subst hn
  cases m with
  | zero => exact hM.elim
  | succ m =>
    refine ⟨hM.1, fun P hP => hM.2 P fun pc ep l ls st h2 hm hr => hP pc ep l ls st h2 hm ?_⟩
    exact xR_int (xM_mono m) l ls st h2 (List.all_eq_true.mp hi _ hm) hr
theorem M_long {xs : xSc} {m i n : Nat} {vs : List Value} {h : xHp} {Q : Value → xHp → Prop} (hi : xJr i = true) (hn : h.1 + xAl i = n) (hM : M xs m i vs h Q) : M xs m i vs h (fun r h1 => (∃ x, r = .long x) ∧ h1.1 = n ∧ Q r h1) := by
  subst hn
  cases m with
  | zero => exact hM.elim
  | succ m =>
    refine ⟨hM.1, fun P hP => hM.2 P fun pc ep l ls st h2 hm hr => hP pc ep l ls st h2 hm ?_⟩
    exact xR_long (xM_mono m) l ls st h2 (List.all_eq_true.mp hi _ hm) hr
/-- both answered alike, and are alike -/
def lZ (r1 r2 : Value) (h : xHp) : Prop := ∃ (x : Int32) (J : Nat → Nat → Int32) (L : Nat → Nat → Int64), r1 = .int x ∧ r2 = .int x ∧ h = Hp J L ∧ Rel J
def lZ2 (r1 r2 : Value) (h : xHp) : Prop := ∃ (x : Int64) (J : Nat → Nat → Int32) (L : Nat → Nat → Int64), r1 = .long x ∧ r2 = .long x ∧ h = Hp J L ∧ Rel J
/-- the law's answer -/
def lQ (r : Value) (_ : xHp) : Prop := r = .int 1
theorem ixX {i : Int32} {k n : Nat} (e : i = io k) (h : k < n) (hn : n ≤ 3072) : xIx i k n := by
  rw [e]
  exact ⟨vp_in_nI h (by omega), io_nat (by omega)⟩
theorem law_gt {L k : Nat} (hL : L ≤ 3072) (hk : k ≤ L) : (io L - 6 : Int32) < io k ↔ L < k + 6 := by
  rcases Nat.lt_or_ge L 6 with c | c
  · have h : ∀ a, a < 6 → ∀ b, b < 6 → b ≤ a → io a - 6 < io b := by decide +kernel
    exact ⟨fun _ => by omega, fun _ => h L c k (by omega) hk⟩
  · rw [show (io L - 6 : Int32) = io (L - 6) from n_sub (a := L) (b := 6) rfl rfl c]
    exact (io_lt (by omega) (by omega)).trans ⟨fun h => by omega, fun h => by omega⟩

set_option maxRecDepth 10000 in
theorem lc_set {xs : xSc} {m : Nat} {I : Nat → Nat → Int32} {L : Nat → Nat → Int64} {k : Nat} (hm : 90 ≤ m) (hR : Rel I) (hk : k + 6 ≤ xs.1) (hL : xs.1 ≤ 3072) (nx : ∀ J L2, Rel J → E xs m xi_L_law 82 lQ 18 [.ref 5000, .ref 0, .ref 61, .int (io (k + 6))] [] (Hp J L2)) : E xs m xi_L_law 82 lQ 164 [.ref 5000, .ref 0, .ref 61, .int (io k)] [] (Hp I L) := by
  refine E_go 2 rfl ?_
  refine r_aload_n rfl ?_
  refine r_aload_n rfl ?_
  refine r_iload_n rfl ?_
  refine r_iconst ?_
  refine r_iadd ?_
  refine r_ialoadX rfl (ixX (n_add (a := k) (b := 1) rfl rfl) (show k + 1 < xs.1 by omega) hL) ?_
  refine r_aload_n rfl ?_
  refine r_iload_n rfl ?_
  refine r_iconst ?_
  refine r_iadd ?_
  refine r_ialoadX rfl (ixX (n_add (a := k) (b := 2) rfl rfl) (show k + 2 < xs.1 by omega) hL) ?_
  refine r_aload_n rfl ?_
  refine r_iload_n rfl ?_
  refine r_iconst ?_
  refine r_iadd ?_
  refine r_ialoadX rfl (ixX (n_add (a := k) (b := 3) rfl rfl) (show k + 3 < xs.1 by omega) hL) ?_
  refine r_virtual (vs := []) (as := [_, _, _]) (by decide) (zl rfl) rfl rfl (zl rfl) (Nat.le_refl _) (Or.inr (Or.inr ⟨zt rfl, rfl, zt rfl⟩)) ?_
  refine xM_mono m _ _ _ _ _ (fun r h1 hh => ?_) (M_int (n := 82) rfl rfl (tz_set hm hR (Q := lZ) (fun x J L2 hJ => ⟨x, J, L2, rfl, rfl, rfl, hJ⟩)))
  obtain ⟨⟨x1, rfl⟩, h82, hM⟩ := hh
  refine r_aload_n rfl ?_
  refine r_aload_n rfl ?_
  refine r_iload_n rfl ?_
  refine r_iconst ?_
  refine r_iadd ?_
  refine r_ialoadX rfl (ixX (n_add (a := k) (b := 1) rfl rfl) (show k + 1 < xs.1 by omega) hL) ?_
  refine r_aload_n rfl ?_
  refine r_iload_n rfl ?_
  refine r_iconst ?_
  refine r_iadd ?_
  refine r_ialoadX rfl (ixX (n_add (a := k) (b := 2) rfl rfl) (show k + 2 < xs.1 by omega) hL) ?_
  refine r_aload_n rfl ?_
  refine r_iload_n rfl ?_
  refine r_iconst ?_
  refine r_iadd ?_
  refine r_ialoadX rfl (ixX (n_add (a := k) (b := 3) rfl rfl) (show k + 3 < xs.1 by omega) hL) ?_
  refine r_virtual (vs := []) (as := [_, _, _]) (by decide) (zl rfl) rfl rfl (zl rfl) (by rw [h82]; exact zl rfl) (Or.inr (Or.inr ⟨zt rfl, rfl, by rw [h82]; exact zt rfl⟩)) ?_
  refine xM_mono m _ _ _ _ _ (fun r2 h2 hh => ?_) hM
  obtain ⟨x, J, L2, e1, rfl, rfl, hJ⟩ := hh
  injection e1 with e1
  subst e1
  refine r_icmp_eq (fun _ => ?_) (fun c => absurd rfl c)
  refine E_go 31 rfl ?_
  refine r_iincN (y := io (k + 6)) (ls' := [_, _, _, _]) rfl (zt rfl) (n_add (a := k) (b := 6) rfl rfl) rfl ?_
  refine r_goto ?_
  exact nx J L2 hJ

set_option maxRecDepth 10000 in
theorem lc_aunt {xs : xSc} {m : Nat} {I : Nat → Nat → Int32} {L : Nat → Nat → Int64} {k : Nat} (hm : 90 ≤ m) (hR : Rel I) (hk : k + 6 ≤ xs.1) (hL : xs.1 ≤ 3072) (nx : ∀ J L2, Rel J → E xs m xi_L_law 82 lQ 18 [.ref 5000, .ref 0, .ref 61, .int (io (k + 6))] [] (Hp J L2)) : E xs m xi_L_law 82 lQ 207 [.ref 5000, .ref 0, .ref 61, .int (io k)] [] (Hp I L) := by
  refine E_go 3 rfl ?_
  refine r_aload_n rfl ?_
  refine r_aload_n rfl ?_
  refine r_iload_n rfl ?_
  refine r_iconst ?_
  refine r_iadd ?_
  refine r_ialoadX rfl (ixX (n_add (a := k) (b := 1) rfl rfl) (show k + 1 < xs.1 by omega) hL) ?_
  refine r_aload_n rfl ?_
  refine r_iload_n rfl ?_
  refine r_iconst ?_
  refine r_iadd ?_
  refine r_ialoadX rfl (ixX (n_add (a := k) (b := 2) rfl rfl) (show k + 2 < xs.1 by omega) hL) ?_
  refine r_aload_n rfl ?_
  refine r_iload_n rfl ?_
  refine r_iconst ?_
  refine r_iadd ?_
  refine r_ialoadX rfl (ixX (n_add (a := k) (b := 3) rfl rfl) (show k + 3 < xs.1 by omega) hL) ?_
  refine r_virtual (vs := []) (as := [_, _, _]) (by decide) (zl rfl) rfl rfl (zl rfl) (Nat.le_refl _) (Or.inr (Or.inr ⟨zt rfl, rfl, zt rfl⟩)) ?_
  refine xM_mono m _ _ _ _ _ (fun r h1 hh => ?_) (M_int (n := 82) rfl rfl (tz_aunt hm hR (Q := lZ) (fun x J L2 hJ => ⟨x, J, L2, rfl, rfl, rfl, hJ⟩)))
  obtain ⟨⟨x1, rfl⟩, h82, hM⟩ := hh
  refine r_aload_n rfl ?_
  refine r_aload_n rfl ?_
  refine r_iload_n rfl ?_
  refine r_iconst ?_
  refine r_iadd ?_
  refine r_ialoadX rfl (ixX (n_add (a := k) (b := 1) rfl rfl) (show k + 1 < xs.1 by omega) hL) ?_
  refine r_aload_n rfl ?_
  refine r_iload_n rfl ?_
  refine r_iconst ?_
  refine r_iadd ?_
  refine r_ialoadX rfl (ixX (n_add (a := k) (b := 2) rfl rfl) (show k + 2 < xs.1 by omega) hL) ?_
  refine r_aload_n rfl ?_
  refine r_iload_n rfl ?_
  refine r_iconst ?_
  refine r_iadd ?_
  refine r_ialoadX rfl (ixX (n_add (a := k) (b := 3) rfl rfl) (show k + 3 < xs.1 by omega) hL) ?_
  refine r_virtual (vs := []) (as := [_, _, _]) (by decide) (zl rfl) rfl rfl (zl rfl) (by rw [h82]; exact zl rfl) (Or.inr (Or.inr ⟨zt rfl, rfl, by rw [h82]; exact zt rfl⟩)) ?_
  refine xM_mono m _ _ _ _ _ (fun r2 h2 hh => ?_) hM
  obtain ⟨x, J, L2, e1, rfl, rfl, hJ⟩ := hh
  injection e1 with e1
  subst e1
  refine r_icmp_eq (fun _ => ?_) (fun c => absurd rfl c)
  refine E_go 31 rfl ?_
  refine r_iincN (y := io (k + 6)) (ls' := [_, _, _, _]) rfl (zt rfl) (n_add (a := k) (b := 6) rfl rfl) rfl ?_
  refine r_goto ?_
  exact nx J L2 hJ

set_option maxRecDepth 10000 in
theorem lc_told {xs : xSc} {m : Nat} {I : Nat → Nat → Int32} {L : Nat → Nat → Int64} {k : Nat} (hm : 90 ≤ m) (hR : Rel I) (hk : k + 6 ≤ xs.1) (hL : xs.1 ≤ 3072) (nx : ∀ J L2, Rel J → E xs m xi_L_law 82 lQ 18 [.ref 5000, .ref 0, .ref 61, .int (io (k + 6))] [] (Hp J L2)) : E xs m xi_L_law 82 lQ 250 [.ref 5000, .ref 0, .ref 61, .int (io k)] [] (Hp I L) := by
  refine E_go 4 rfl ?_
  refine r_aload_n rfl ?_
  refine r_aload_n rfl ?_
  refine r_iload_n rfl ?_
  refine r_iconst ?_
  refine r_iadd ?_
  refine r_ialoadX rfl (ixX (n_add (a := k) (b := 1) rfl rfl) (show k + 1 < xs.1 by omega) hL) ?_
  refine r_aload_n rfl ?_
  refine r_iload_n rfl ?_
  refine r_iconst ?_
  refine r_iadd ?_
  refine r_ialoadX rfl (ixX (n_add (a := k) (b := 2) rfl rfl) (show k + 2 < xs.1 by omega) hL) ?_
  refine r_virtual (vs := []) (as := [_, _]) (by decide) (zl rfl) rfl rfl (zl rfl) (Nat.le_refl _) (Or.inr (Or.inr ⟨zt rfl, rfl, zt rfl⟩)) ?_
  refine xM_mono m _ _ _ _ _ (fun r h1 hh => ?_) (M_int (n := 82) rfl rfl (tz_told hm hR (Q := lZ) (fun x J L2 hJ => ⟨x, J, L2, rfl, rfl, rfl, hJ⟩)))
  obtain ⟨⟨x1, rfl⟩, h82, hM⟩ := hh
  refine r_aload_n rfl ?_
  refine r_aload_n rfl ?_
  refine r_iload_n rfl ?_
  refine r_iconst ?_
  refine r_iadd ?_
  refine r_ialoadX rfl (ixX (n_add (a := k) (b := 1) rfl rfl) (show k + 1 < xs.1 by omega) hL) ?_
  refine r_aload_n rfl ?_
  refine r_iload_n rfl ?_
  refine r_iconst ?_
  refine r_iadd ?_
  refine r_ialoadX rfl (ixX (n_add (a := k) (b := 2) rfl rfl) (show k + 2 < xs.1 by omega) hL) ?_
  refine r_virtual (vs := []) (as := [_, _]) (by decide) (zl rfl) rfl rfl (zl rfl) (by rw [h82]; exact zl rfl) (Or.inr (Or.inr ⟨zt rfl, rfl, by rw [h82]; exact zt rfl⟩)) ?_
  refine xM_mono m _ _ _ _ _ (fun r2 h2 hh => ?_) hM
  obtain ⟨x, J, L2, e1, rfl, rfl, hJ⟩ := hh
  injection e1 with e1
  subst e1
  refine r_icmp_eq (fun _ => ?_) (fun c => absurd rfl c)
  refine E_go 31 rfl ?_
  refine r_iincN (y := io (k + 6)) (ls' := [_, _, _, _]) rfl (zt rfl) (n_add (a := k) (b := 6) rfl rfl) rfl ?_
  refine r_goto ?_
  exact nx J L2 hJ

set_option maxRecDepth 10000 in
theorem lc_feed {xs : xSc} {m : Nat} {I : Nat → Nat → Int32} {L : Nat → Nat → Int64} {k : Nat} (hm : 90 ≤ m) (hR : Rel I) (hk : k + 6 ≤ xs.1) (hL : xs.1 ≤ 3072) (nx : ∀ J L2, Rel J → E xs m xi_L_law 82 lQ 18 [.ref 5000, .ref 0, .ref 61, .int (io (k + 6))] [] (Hp J L2)) : E xs m xi_L_law 82 lQ 283 [.ref 5000, .ref 0, .ref 61, .int (io k)] [] (Hp I L) := by
  refine E_go 5 rfl ?_
  refine r_aload_n rfl ?_
  refine r_aload_n rfl ?_
  refine r_iload_n rfl ?_
  refine r_iconst ?_
  refine r_iadd ?_
  refine r_ialoadX rfl (ixX (n_add (a := k) (b := 1) rfl rfl) (show k + 1 < xs.1 by omega) hL) ?_
  refine r_virtual (vs := []) (as := [_]) (by decide) (zl rfl) rfl rfl (zl rfl) (Nat.le_refl _) (Or.inr (Or.inr ⟨zt rfl, rfl, zt rfl⟩)) ?_
  refine xM_mono m _ _ _ _ _ (fun r h1 hh => ?_) (M_int (n := 82) rfl rfl (tz_feed hm hR (Q := lZ) (fun x J L2 hJ => ⟨x, J, L2, rfl, rfl, rfl, hJ⟩)))
  obtain ⟨⟨x1, rfl⟩, h82, hM⟩ := hh
  refine r_aload_n rfl ?_
  refine r_aload_n rfl ?_
  refine r_iload_n rfl ?_
  refine r_iconst ?_
  refine r_iadd ?_
  refine r_ialoadX rfl (ixX (n_add (a := k) (b := 1) rfl rfl) (show k + 1 < xs.1 by omega) hL) ?_
  refine r_virtual (vs := []) (as := [_]) (by decide) (zl rfl) rfl rfl (zl rfl) (by rw [h82]; exact zl rfl) (Or.inr (Or.inr ⟨zt rfl, rfl, by rw [h82]; exact zt rfl⟩)) ?_
  refine xM_mono m _ _ _ _ _ (fun r2 h2 hh => ?_) hM
  obtain ⟨x, J, L2, e1, rfl, rfl, hJ⟩ := hh
  injection e1 with e1
  subst e1
  refine r_icmp_eq (fun _ => ?_) (fun c => absurd rfl c)
  refine E_go 31 rfl ?_
  refine r_iincN (y := io (k + 6)) (ls' := [_, _, _, _]) rfl (zt rfl) (n_add (a := k) (b := 6) rfl rfl) rfl ?_
  refine r_goto ?_
  exact nx J L2 hJ

set_option maxRecDepth 10000 in
theorem lc_text {xs : xSc} {m : Nat} {I : Nat → Nat → Int32} {L : Nat → Nat → Int64} {k : Nat} (hm : 90 ≤ m) (hR : Rel I) (hk : k + 6 ≤ xs.1) (hL : xs.1 ≤ 3072) (nx : ∀ J L2, Rel J → E xs m xi_L_law 82 lQ 18 [.ref 5000, .ref 0, .ref 61, .int (io (k + 6))] [] (Hp J L2)) : E xs m xi_L_law 82 lQ 306 [.ref 5000, .ref 0, .ref 61, .int (io k)] [] (Hp I L) := by
  refine E_go 6 rfl ?_
  refine r_aload_n rfl ?_
  refine r_virtual (vs := []) (as := []) (by decide) (zl rfl) rfl rfl (zl rfl) (Nat.le_refl _) (Or.inr (Or.inr ⟨zt rfl, rfl, zt rfl⟩)) ?_
  refine xM_mono m _ _ _ _ _ (fun r h1 hh => ?_) (M_int (n := 82) rfl rfl (tz_text hm hR (Q := lZ) (fun x J L2 hJ => ⟨x, J, L2, rfl, rfl, rfl, hJ⟩)))
  obtain ⟨⟨x1, rfl⟩, h82, hM⟩ := hh
  refine r_aload_n rfl ?_
  refine r_virtual (vs := []) (as := []) (by decide) (zl rfl) rfl rfl (zl rfl) (by rw [h82]; exact zl rfl) (Or.inr (Or.inr ⟨zt rfl, rfl, by rw [h82]; exact zt rfl⟩)) ?_
  refine xM_mono m _ _ _ _ _ (fun r2 h2 hh => ?_) hM
  obtain ⟨x, J, L2, e1, rfl, rfl, hJ⟩ := hh
  injection e1 with e1
  subst e1
  refine r_icmp_eq (fun _ => ?_) (fun c => absurd rfl c)
  refine E_go 31 rfl ?_
  refine r_iincN (y := io (k + 6)) (ls' := [_, _, _, _]) rfl (zt rfl) (n_add (a := k) (b := 6) rfl rfl) rfl ?_
  refine r_goto ?_
  exact nx J L2 hJ

set_option maxRecDepth 10000 in
theorem lc_force {xs : xSc} {m : Nat} {I : Nat → Nat → Int32} {L : Nat → Nat → Int64} {k : Nat} (hm : 90 ≤ m) (hR : Rel I) (hk : k + 6 ≤ xs.1) (hL : xs.1 ≤ 3072) (nx : ∀ J L2, Rel J → E xs m xi_L_law 82 lQ 18 [.ref 5000, .ref 0, .ref 61, .int (io (k + 6))] [] (Hp J L2)) : E xs m xi_L_law 82 lQ 319 [.ref 5000, .ref 0, .ref 61, .int (io k)] [] (Hp I L) := by
  refine E_go 7 rfl ?_
  refine r_aload_n rfl ?_
  refine r_aload_n rfl ?_
  refine r_iload_n rfl ?_
  refine r_iconst ?_
  refine r_iadd ?_
  refine r_ialoadX rfl (ixX (n_add (a := k) (b := 1) rfl rfl) (show k + 1 < xs.1 by omega) hL) ?_
  refine r_virtual (vs := []) (as := [_]) (by decide) (zl rfl) rfl rfl (zl rfl) (Nat.le_refl _) (Or.inr (Or.inr ⟨zt rfl, rfl, zt rfl⟩)) ?_
  refine xM_mono m _ _ _ _ _ (fun r h1 hh => ?_) (M_int (n := 82) rfl rfl (tz_force hm hR (Q := lZ) (fun x J L2 hJ => ⟨x, J, L2, rfl, rfl, rfl, hJ⟩)))
  obtain ⟨⟨x1, rfl⟩, h82, hM⟩ := hh
  refine r_aload_n rfl ?_
  refine r_aload_n rfl ?_
  refine r_iload_n rfl ?_
  refine r_iconst ?_
  refine r_iadd ?_
  refine r_ialoadX rfl (ixX (n_add (a := k) (b := 1) rfl rfl) (show k + 1 < xs.1 by omega) hL) ?_
  refine r_virtual (vs := []) (as := [_]) (by decide) (zl rfl) rfl rfl (zl rfl) (by rw [h82]; exact zl rfl) (Or.inr (Or.inr ⟨zt rfl, rfl, by rw [h82]; exact zt rfl⟩)) ?_
  refine xM_mono m _ _ _ _ _ (fun r2 h2 hh => ?_) hM
  obtain ⟨x, J, L2, e1, rfl, rfl, hJ⟩ := hh
  injection e1 with e1
  subst e1
  refine r_icmp_eq (fun _ => ?_) (fun c => absurd rfl c)
  refine E_go 31 rfl ?_
  refine r_iincN (y := io (k + 6)) (ls' := [_, _, _, _]) rfl (zt rfl) (n_add (a := k) (b := 6) rfl rfl) rfl ?_
  refine r_goto ?_
  exact nx J L2 hJ

set_option maxRecDepth 10000 in
theorem lc_minute {xs : xSc} {m : Nat} {I : Nat → Nat → Int32} {L : Nat → Nat → Int64} {k : Nat} (hm : 90 ≤ m) (hR : Rel I) (hk : k + 6 ≤ xs.1) (hL : xs.1 ≤ 3072) (nx : ∀ J L2, Rel J → E xs m xi_L_law 82 lQ 18 [.ref 5000, .ref 0, .ref 61, .int (io (k + 6))] [] (Hp J L2)) : E xs m xi_L_law 82 lQ 342 [.ref 5000, .ref 0, .ref 61, .int (io k)] [] (Hp I L) := by
  refine E_go 8 rfl ?_
  refine r_aload_n rfl ?_
  refine r_aload_n rfl ?_
  refine r_iload_n rfl ?_
  refine r_iconst ?_
  refine r_iadd ?_
  refine r_ialoadX rfl (ixX (n_add (a := k) (b := 1) rfl rfl) (show k + 1 < xs.1 by omega) hL) ?_
  refine r_aload_n rfl ?_
  refine r_iload_n rfl ?_
  refine r_iconst ?_
  refine r_iadd ?_
  refine r_ialoadX rfl (ixX (n_add (a := k) (b := 2) rfl rfl) (show k + 2 < xs.1 by omega) hL) ?_
  refine r_virtual (vs := []) (as := [_, _]) (by decide) (zl rfl) rfl rfl (zl rfl) (Nat.le_refl _) (Or.inr (Or.inr ⟨zt rfl, rfl, zt rfl⟩)) ?_
  refine xM_mono m _ _ _ _ _ (fun r h1 hh => ?_) (M_int (n := 82) rfl rfl (tz_minute hm hR (Q := lZ) (fun x J L2 hJ => ⟨x, J, L2, rfl, rfl, rfl, hJ⟩)))
  obtain ⟨⟨x1, rfl⟩, h82, hM⟩ := hh
  refine r_aload_n rfl ?_
  refine r_aload_n rfl ?_
  refine r_iload_n rfl ?_
  refine r_iconst ?_
  refine r_iadd ?_
  refine r_ialoadX rfl (ixX (n_add (a := k) (b := 1) rfl rfl) (show k + 1 < xs.1 by omega) hL) ?_
  refine r_aload_n rfl ?_
  refine r_iload_n rfl ?_
  refine r_iconst ?_
  refine r_iadd ?_
  refine r_ialoadX rfl (ixX (n_add (a := k) (b := 2) rfl rfl) (show k + 2 < xs.1 by omega) hL) ?_
  refine r_virtual (vs := []) (as := [_, _]) (by decide) (zl rfl) rfl rfl (zl rfl) (by rw [h82]; exact zl rfl) (Or.inr (Or.inr ⟨zt rfl, rfl, by rw [h82]; exact zt rfl⟩)) ?_
  refine xM_mono m _ _ _ _ _ (fun r2 h2 hh => ?_) hM
  obtain ⟨x, J, L2, e1, rfl, rfl, hJ⟩ := hh
  injection e1 with e1
  subst e1
  refine r_icmp_eq (fun _ => ?_) (fun c => absurd rfl c)
  refine E_go 31 rfl ?_
  refine r_iincN (y := io (k + 6)) (ls' := [_, _, _, _]) rfl (zt rfl) (n_add (a := k) (b := 6) rfl rfl) rfl ?_
  refine r_goto ?_
  exact nx J L2 hJ

set_option maxRecDepth 10000 in
theorem lc_share {xs : xSc} {m : Nat} {I : Nat → Nat → Int32} {L : Nat → Nat → Int64} {k : Nat} (hm : 90 ≤ m) (hR : Rel I) (hk : k + 6 ≤ xs.1) (hL : xs.1 ≤ 3072) (nx : ∀ J L2, Rel J → E xs m xi_L_law 82 lQ 18 [.ref 5000, .ref 0, .ref 61, .int (io (k + 6))] [] (Hp J L2)) : E xs m xi_L_law 82 lQ 375 [.ref 5000, .ref 0, .ref 61, .int (io k)] [] (Hp I L) := by
  refine E_go 9 rfl ?_
  refine r_aload_n rfl ?_
  refine r_aload_n rfl ?_
  refine r_iload_n rfl ?_
  refine r_iconst ?_
  refine r_iadd ?_
  refine r_ialoadX rfl (ixX (n_add (a := k) (b := 1) rfl rfl) (show k + 1 < xs.1 by omega) hL) ?_
  refine r_virtual (vs := []) (as := [_]) (by decide) (zl rfl) rfl rfl (zl rfl) (Nat.le_refl _) (Or.inr (Or.inr ⟨zt rfl, rfl, zt rfl⟩)) ?_
  refine xM_mono m _ _ _ _ _ (fun r h1 hh => ?_) (M_int (n := 82) rfl rfl (tz_share hm hR (Q := lZ) (fun x J L2 hJ => ⟨x, J, L2, rfl, rfl, rfl, hJ⟩)))
  obtain ⟨⟨x1, rfl⟩, h82, hM⟩ := hh
  refine r_aload_n rfl ?_
  refine r_aload_n rfl ?_
  refine r_iload_n rfl ?_
  refine r_iconst ?_
  refine r_iadd ?_
  refine r_ialoadX rfl (ixX (n_add (a := k) (b := 1) rfl rfl) (show k + 1 < xs.1 by omega) hL) ?_
  refine r_virtual (vs := []) (as := [_]) (by decide) (zl rfl) rfl rfl (zl rfl) (by rw [h82]; exact zl rfl) (Or.inr (Or.inr ⟨zt rfl, rfl, by rw [h82]; exact zt rfl⟩)) ?_
  refine xM_mono m _ _ _ _ _ (fun r2 h2 hh => ?_) hM
  obtain ⟨x, J, L2, e1, rfl, rfl, hJ⟩ := hh
  injection e1 with e1
  subst e1
  refine r_icmp_eq (fun _ => ?_) (fun c => absurd rfl c)
  refine E_go 31 rfl ?_
  refine r_iincN (y := io (k + 6)) (ls' := [_, _, _, _]) rfl (zt rfl) (n_add (a := k) (b := 6) rfl rfl) rfl ?_
  refine r_goto ?_
  exact nx J L2 hJ

set_option maxRecDepth 10000 in
theorem lc_cups {xs : xSc} {m : Nat} {I : Nat → Nat → Int32} {L : Nat → Nat → Int64} {k : Nat} (hm : 90 ≤ m) (hR : Rel I) (hk : k + 6 ≤ xs.1) (hL : xs.1 ≤ 3072) (nx : ∀ J L2, Rel J → E xs m xi_L_law 82 lQ 18 [.ref 5000, .ref 0, .ref 61, .int (io (k + 6))] [] (Hp J L2)) : E xs m xi_L_law 82 lQ 398 [.ref 5000, .ref 0, .ref 61, .int (io k)] [] (Hp I L) := by
  refine E_go 10 rfl ?_
  refine r_aload_n rfl ?_
  refine r_aload_n rfl ?_
  refine r_iload_n rfl ?_
  refine r_iconst ?_
  refine r_iadd ?_
  refine r_ialoadX rfl (ixX (n_add (a := k) (b := 1) rfl rfl) (show k + 1 < xs.1 by omega) hL) ?_
  refine r_virtual (vs := []) (as := [_]) (by decide) (zl rfl) rfl rfl (zl rfl) (Nat.le_refl _) (Or.inr (Or.inr ⟨zt rfl, rfl, zt rfl⟩)) ?_
  refine xM_mono m _ _ _ _ _ (fun r h1 hh => ?_) (M_int (n := 82) rfl rfl (tz_cups hm hR (Q := lZ) (fun x J L2 hJ => ⟨x, J, L2, rfl, rfl, rfl, hJ⟩)))
  obtain ⟨⟨x1, rfl⟩, h82, hM⟩ := hh
  refine r_aload_n rfl ?_
  refine r_aload_n rfl ?_
  refine r_iload_n rfl ?_
  refine r_iconst ?_
  refine r_iadd ?_
  refine r_ialoadX rfl (ixX (n_add (a := k) (b := 1) rfl rfl) (show k + 1 < xs.1 by omega) hL) ?_
  refine r_virtual (vs := []) (as := [_]) (by decide) (zl rfl) rfl rfl (zl rfl) (by rw [h82]; exact zl rfl) (Or.inr (Or.inr ⟨zt rfl, rfl, by rw [h82]; exact zt rfl⟩)) ?_
  refine xM_mono m _ _ _ _ _ (fun r2 h2 hh => ?_) hM
  obtain ⟨x, J, L2, e1, rfl, rfl, hJ⟩ := hh
  injection e1 with e1
  subst e1
  refine r_icmp_eq (fun _ => ?_) (fun c => absurd rfl c)
  refine E_go 31 rfl ?_
  refine r_iincN (y := io (k + 6)) (ls' := [_, _, _, _]) rfl (zt rfl) (n_add (a := k) (b := 6) rfl rfl) rfl ?_
  refine r_goto ?_
  exact nx J L2 hJ

set_option maxRecDepth 10000 in
theorem lc_hour {xs : xSc} {m : Nat} {I : Nat → Nat → Int32} {L : Nat → Nat → Int64} {k : Nat} (hm : 90 ≤ m) (hR : Rel I) (hk : k + 6 ≤ xs.1) (hL : xs.1 ≤ 3072) (nx : ∀ J L2, Rel J → E xs m xi_L_law 82 lQ 18 [.ref 5000, .ref 0, .ref 61, .int (io (k + 6))] [] (Hp J L2)) : E xs m xi_L_law 82 lQ 421 [.ref 5000, .ref 0, .ref 61, .int (io k)] [] (Hp I L) := by
  refine E_go 11 rfl ?_
  refine r_aload_n rfl ?_
  refine r_virtual (vs := []) (as := []) (by decide) (zl rfl) rfl rfl (zl rfl) (Nat.le_refl _) (Or.inr (Or.inr ⟨zt rfl, rfl, zt rfl⟩)) ?_
  refine xM_mono m _ _ _ _ _ (fun r h1 hh => ?_) (M_int (n := 82) rfl rfl (tz_hour hm hR (Q := lZ) (fun x J L2 hJ => ⟨x, J, L2, rfl, rfl, rfl, hJ⟩)))
  obtain ⟨⟨x1, rfl⟩, h82, hM⟩ := hh
  refine r_aload_n rfl ?_
  refine r_virtual (vs := []) (as := []) (by decide) (zl rfl) rfl rfl (zl rfl) (by rw [h82]; exact zl rfl) (Or.inr (Or.inr ⟨zt rfl, rfl, by rw [h82]; exact zt rfl⟩)) ?_
  refine xM_mono m _ _ _ _ _ (fun r2 h2 hh => ?_) hM
  obtain ⟨x, J, L2, e1, rfl, rfl, hJ⟩ := hh
  injection e1 with e1
  subst e1
  refine r_icmp_eq (fun _ => ?_) (fun c => absurd rfl c)
  refine E_go 31 rfl ?_
  refine r_iincN (y := io (k + 6)) (ls' := [_, _, _, _]) rfl (zt rfl) (n_add (a := k) (b := 6) rfl rfl) rfl ?_
  refine r_goto ?_
  exact nx J L2 hJ

set_option maxRecDepth 10000 in
theorem lc_best {xs : xSc} {m : Nat} {I : Nat → Nat → Int32} {L : Nat → Nat → Int64} {k : Nat} (hm : 90 ≤ m) (hR : Rel I) (hk : k + 6 ≤ xs.1) (hL : xs.1 ≤ 3072) (nx : ∀ J L2, Rel J → E xs m xi_L_law 82 lQ 18 [.ref 5000, .ref 0, .ref 61, .int (io (k + 6))] [] (Hp J L2)) : E xs m xi_L_law 82 lQ 434 [.ref 5000, .ref 0, .ref 61, .int (io k)] [] (Hp I L) := by
  refine E_go 12 rfl ?_
  refine r_aload_n rfl ?_
  refine r_aload_n rfl ?_
  refine r_iload_n rfl ?_
  refine r_iconst ?_
  refine r_iadd ?_
  refine r_ialoadX rfl (ixX (n_add (a := k) (b := 1) rfl rfl) (show k + 1 < xs.1 by omega) hL) ?_
  refine r_aload_n rfl ?_
  refine r_iload_n rfl ?_
  refine r_iconst ?_
  refine r_iadd ?_
  refine r_ialoadX rfl (ixX (n_add (a := k) (b := 2) rfl rfl) (show k + 2 < xs.1 by omega) hL) ?_
  refine r_virtual (vs := []) (as := [_, _]) (by decide) (zl rfl) rfl rfl (zl rfl) (Nat.le_refl _) (Or.inr (Or.inr ⟨zt rfl, rfl, zt rfl⟩)) ?_
  refine xM_mono m _ _ _ _ _ (fun r h1 hh => ?_) (M_int (n := 82) rfl rfl (tz_best hm hR (Q := lZ) (fun x J L2 hJ => ⟨x, J, L2, rfl, rfl, rfl, hJ⟩)))
  obtain ⟨⟨x1, rfl⟩, h82, hM⟩ := hh
  refine r_aload_n rfl ?_
  refine r_aload_n rfl ?_
  refine r_iload_n rfl ?_
  refine r_iconst ?_
  refine r_iadd ?_
  refine r_ialoadX rfl (ixX (n_add (a := k) (b := 1) rfl rfl) (show k + 1 < xs.1 by omega) hL) ?_
  refine r_aload_n rfl ?_
  refine r_iload_n rfl ?_
  refine r_iconst ?_
  refine r_iadd ?_
  refine r_ialoadX rfl (ixX (n_add (a := k) (b := 2) rfl rfl) (show k + 2 < xs.1 by omega) hL) ?_
  refine r_virtual (vs := []) (as := [_, _]) (by decide) (zl rfl) rfl rfl (zl rfl) (by rw [h82]; exact zl rfl) (Or.inr (Or.inr ⟨zt rfl, rfl, by rw [h82]; exact zt rfl⟩)) ?_
  refine xM_mono m _ _ _ _ _ (fun r2 h2 hh => ?_) hM
  obtain ⟨x, J, L2, e1, rfl, rfl, hJ⟩ := hh
  injection e1 with e1
  subst e1
  refine r_icmp_eq (fun _ => ?_) (fun c => absurd rfl c)
  refine E_go 31 rfl ?_
  refine r_iincN (y := io (k + 6)) (ls' := [_, _, _, _]) rfl (zt rfl) (n_add (a := k) (b := 6) rfl rfl) rfl ?_
  refine r_goto ?_
  exact nx J L2 hJ

set_option maxRecDepth 10000 in
theorem lc_rest {xs : xSc} {m : Nat} {I : Nat → Nat → Int32} {L : Nat → Nat → Int64} {k : Nat} (hm : 90 ≤ m) (hR : Rel I) (hk : k + 6 ≤ xs.1) (hL : xs.1 ≤ 3072) (nx : ∀ J L2, Rel J → E xs m xi_L_law 82 lQ 18 [.ref 5000, .ref 0, .ref 61, .int (io (k + 6))] [] (Hp J L2)) : E xs m xi_L_law 82 lQ 467 [.ref 5000, .ref 0, .ref 61, .int (io k)] [] (Hp I L) := by
  refine E_go 13 rfl ?_
  refine r_aload_n rfl ?_
  refine r_virtual (vs := []) (as := []) (by decide) (zl rfl) rfl rfl (zl rfl) (Nat.le_refl _) (Or.inr (Or.inr ⟨zt rfl, rfl, zt rfl⟩)) ?_
  refine xM_mono m _ _ _ _ _ (fun r h1 hh => ?_) (M_int (n := 82) rfl rfl (tz_rest hm hR (Q := lZ) (fun x J L2 hJ => ⟨x, J, L2, rfl, rfl, rfl, hJ⟩)))
  obtain ⟨⟨x1, rfl⟩, h82, hM⟩ := hh
  refine r_aload_n rfl ?_
  refine r_virtual (vs := []) (as := []) (by decide) (zl rfl) rfl rfl (zl rfl) (by rw [h82]; exact zl rfl) (Or.inr (Or.inr ⟨zt rfl, rfl, by rw [h82]; exact zt rfl⟩)) ?_
  refine xM_mono m _ _ _ _ _ (fun r2 h2 hh => ?_) hM
  obtain ⟨x, J, L2, e1, rfl, rfl, hJ⟩ := hh
  injection e1 with e1
  subst e1
  refine r_icmp_eq (fun _ => ?_) (fun c => absurd rfl c)
  refine E_go 31 rfl ?_
  refine r_iincN (y := io (k + 6)) (ls' := [_, _, _, _]) rfl (zt rfl) (n_add (a := k) (b := 6) rfl rfl) rfl ?_
  refine r_goto ?_
  exact nx J L2 hJ

set_option maxRecDepth 10000 in
theorem lc_settle {xs : xSc} {m : Nat} {I : Nat → Nat → Int32} {L : Nat → Nat → Int64} {k : Nat} (hm : 90 ≤ m) (hR : Rel I) (hk : k + 6 ≤ xs.1) (hL : xs.1 ≤ 3072) (nx : ∀ J L2, Rel J → E xs m xi_L_law 82 lQ 18 [.ref 5000, .ref 0, .ref 61, .int (io (k + 6))] [] (Hp J L2)) : E xs m xi_L_law 82 lQ 480 [.ref 5000, .ref 0, .ref 61, .int (io k)] [] (Hp I L) := by
  refine E_go 14 rfl ?_
  refine r_aload_n rfl ?_
  refine r_virtual (vs := []) (as := []) (by decide) (zl rfl) rfl rfl (zl rfl) (Nat.le_refl _) (Or.inr (Or.inr ⟨zt rfl, rfl, zt rfl⟩)) ?_
  refine xM_mono m _ _ _ _ _ (fun r h1 hh => ?_) (M_int (n := 82) rfl rfl (tz_settle hm hR (Q := lZ) (fun x J L2 hJ => ⟨x, J, L2, rfl, rfl, rfl, hJ⟩)))
  obtain ⟨⟨x1, rfl⟩, h82, hM⟩ := hh
  refine r_aload_n rfl ?_
  refine r_virtual (vs := []) (as := []) (by decide) (zl rfl) rfl rfl (zl rfl) (by rw [h82]; exact zl rfl) (Or.inr (Or.inr ⟨zt rfl, rfl, by rw [h82]; exact zt rfl⟩)) ?_
  refine xM_mono m _ _ _ _ _ (fun r2 h2 hh => ?_) hM
  obtain ⟨x, J, L2, e1, rfl, rfl, hJ⟩ := hh
  injection e1 with e1
  subst e1
  refine r_icmp_eq (fun _ => ?_) (fun c => absurd rfl c)
  refine E_go 31 rfl ?_
  refine r_iincN (y := io (k + 6)) (ls' := [_, _, _, _]) rfl (zt rfl) (n_add (a := k) (b := 6) rfl rfl) rfl ?_
  refine r_goto ?_
  exact nx J L2 hJ

set_option maxRecDepth 10000 in
theorem lc_greediest {xs : xSc} {m : Nat} {I : Nat → Nat → Int32} {L : Nat → Nat → Int64} {k : Nat} (hm : 90 ≤ m) (hR : Rel I) (hk : k + 6 ≤ xs.1) (hL : xs.1 ≤ 3072) (nx : ∀ J L2, Rel J → E xs m xi_L_law 82 lQ 18 [.ref 5000, .ref 0, .ref 61, .int (io (k + 6))] [] (Hp J L2)) : E xs m xi_L_law 82 lQ 493 [.ref 5000, .ref 0, .ref 61, .int (io k)] [] (Hp I L) := by
  refine E_go 15 rfl ?_
  refine r_aload_n rfl ?_
  refine r_aload_n rfl ?_
  refine r_iload_n rfl ?_
  refine r_iconst ?_
  refine r_iadd ?_
  refine r_ialoadX rfl (ixX (n_add (a := k) (b := 1) rfl rfl) (show k + 1 < xs.1 by omega) hL) ?_
  refine r_virtual (vs := []) (as := [_]) (by decide) (zl rfl) rfl rfl (zl rfl) (Nat.le_refl _) (Or.inr (Or.inr ⟨zt rfl, rfl, zt rfl⟩)) ?_
  refine xM_mono m _ _ _ _ _ (fun r h1 hh => ?_) (M_int (n := 82) rfl rfl (tz_greediest hm hR (Q := lZ) (fun x J L2 hJ => ⟨x, J, L2, rfl, rfl, rfl, hJ⟩)))
  obtain ⟨⟨x1, rfl⟩, h82, hM⟩ := hh
  refine r_aload_n rfl ?_
  refine r_aload_n rfl ?_
  refine r_iload_n rfl ?_
  refine r_iconst ?_
  refine r_iadd ?_
  refine r_ialoadX rfl (ixX (n_add (a := k) (b := 1) rfl rfl) (show k + 1 < xs.1 by omega) hL) ?_
  refine r_virtual (vs := []) (as := [_]) (by decide) (zl rfl) rfl rfl (zl rfl) (by rw [h82]; exact zl rfl) (Or.inr (Or.inr ⟨zt rfl, rfl, by rw [h82]; exact zt rfl⟩)) ?_
  refine xM_mono m _ _ _ _ _ (fun r2 h2 hh => ?_) hM
  obtain ⟨x, J, L2, e1, rfl, rfl, hJ⟩ := hh
  injection e1 with e1
  subst e1
  refine r_icmp_eq (fun _ => ?_) (fun c => absurd rfl c)
  refine E_go 31 rfl ?_
  refine r_iincN (y := io (k + 6)) (ls' := [_, _, _, _]) rfl (zt rfl) (n_add (a := k) (b := 6) rfl rfl) rfl ?_
  refine r_goto ?_
  exact nx J L2 hJ

set_option maxRecDepth 10000 in
theorem lc_together {xs : xSc} {m : Nat} {I : Nat → Nat → Int32} {L : Nat → Nat → Int64} {k : Nat} (hm : 90 ≤ m) (hR : Rel I) (hk : k + 6 ≤ xs.1) (hL : xs.1 ≤ 3072) (nx : ∀ J L2, Rel J → E xs m xi_L_law 82 lQ 18 [.ref 5000, .ref 0, .ref 61, .int (io (k + 6))] [] (Hp J L2)) : E xs m xi_L_law 82 lQ 516 [.ref 5000, .ref 0, .ref 61, .int (io k)] [] (Hp I L) := by
  refine E_go 16 rfl ?_
  refine r_aload_n rfl ?_
  refine r_aload_n rfl ?_
  refine r_iload_n rfl ?_
  refine r_iconst ?_
  refine r_iadd ?_
  refine r_ialoadX rfl (ixX (n_add (a := k) (b := 1) rfl rfl) (show k + 1 < xs.1 by omega) hL) ?_
  refine r_aload_n rfl ?_
  refine r_iload_n rfl ?_
  refine r_iconst ?_
  refine r_iadd ?_
  refine r_ialoadX rfl (ixX (n_add (a := k) (b := 2) rfl rfl) (show k + 2 < xs.1 by omega) hL) ?_
  refine r_aload_n rfl ?_
  refine r_iload_n rfl ?_
  refine r_iconst ?_
  refine r_iadd ?_
  refine r_ialoadX rfl (ixX (n_add (a := k) (b := 3) rfl rfl) (show k + 3 < xs.1 by omega) hL) ?_
  refine r_virtual (vs := []) (as := [_, _, _]) (by decide) (zl rfl) rfl rfl (zl rfl) (Nat.le_refl _) (Or.inr (Or.inr ⟨zt rfl, rfl, zt rfl⟩)) ?_
  refine xM_mono m _ _ _ _ _ (fun r h1 hh => ?_) (M_int (n := 82) rfl rfl (tz_together hm hR (Q := lZ) (fun x J L2 hJ => ⟨x, J, L2, rfl, rfl, rfl, hJ⟩)))
  obtain ⟨⟨x1, rfl⟩, h82, hM⟩ := hh
  refine r_aload_n rfl ?_
  refine r_aload_n rfl ?_
  refine r_iload_n rfl ?_
  refine r_iconst ?_
  refine r_iadd ?_
  refine r_ialoadX rfl (ixX (n_add (a := k) (b := 1) rfl rfl) (show k + 1 < xs.1 by omega) hL) ?_
  refine r_aload_n rfl ?_
  refine r_iload_n rfl ?_
  refine r_iconst ?_
  refine r_iadd ?_
  refine r_ialoadX rfl (ixX (n_add (a := k) (b := 2) rfl rfl) (show k + 2 < xs.1 by omega) hL) ?_
  refine r_aload_n rfl ?_
  refine r_iload_n rfl ?_
  refine r_iconst ?_
  refine r_iadd ?_
  refine r_ialoadX rfl (ixX (n_add (a := k) (b := 3) rfl rfl) (show k + 3 < xs.1 by omega) hL) ?_
  refine r_virtual (vs := []) (as := [_, _, _]) (by decide) (zl rfl) rfl rfl (zl rfl) (by rw [h82]; exact zl rfl) (Or.inr (Or.inr ⟨zt rfl, rfl, by rw [h82]; exact zt rfl⟩)) ?_
  refine xM_mono m _ _ _ _ _ (fun r2 h2 hh => ?_) hM
  obtain ⟨x, J, L2, e1, rfl, rfl, hJ⟩ := hh
  injection e1 with e1
  subst e1
  refine r_icmp_eq (fun _ => ?_) (fun c => absurd rfl c)
  refine E_go 31 rfl ?_
  refine r_iincN (y := io (k + 6)) (ls' := [_, _, _, _]) rfl (zt rfl) (n_add (a := k) (b := 6) rfl rfl) rfl ?_
  refine r_goto ?_
  exact nx J L2 hJ

set_option maxRecDepth 10000 in
theorem lc_hotter {xs : xSc} {m : Nat} {I : Nat → Nat → Int32} {L : Nat → Nat → Int64} {k : Nat} (hm : 90 ≤ m) (hR : Rel I) (hk : k + 6 ≤ xs.1) (hL : xs.1 ≤ 3072) (nx : ∀ J L2, Rel J → E xs m xi_L_law 82 lQ 18 [.ref 5000, .ref 0, .ref 61, .int (io (k + 6))] [] (Hp J L2)) : E xs m xi_L_law 82 lQ 559 [.ref 5000, .ref 0, .ref 61, .int (io k)] [] (Hp I L) := by
  refine E_go 17 rfl ?_
  refine r_aload_n rfl ?_
  refine r_aload_n rfl ?_
  refine r_iload_n rfl ?_
  refine r_iconst ?_
  refine r_iadd ?_
  refine r_ialoadX rfl (ixX (n_add (a := k) (b := 1) rfl rfl) (show k + 1 < xs.1 by omega) hL) ?_
  refine r_virtual (vs := []) (as := [_]) (by decide) (zl rfl) rfl rfl (zl rfl) (Nat.le_refl _) (Or.inr (Or.inr ⟨zt rfl, rfl, zt rfl⟩)) ?_
  refine xM_mono m _ _ _ _ _ (fun r h1 hh => ?_) (M_int (n := 82) rfl rfl (tz_hotter hm hR (Q := lZ) (fun x J L2 hJ => ⟨x, J, L2, rfl, rfl, rfl, hJ⟩)))
  obtain ⟨⟨x1, rfl⟩, h82, hM⟩ := hh
  refine r_aload_n rfl ?_
  refine r_aload_n rfl ?_
  refine r_iload_n rfl ?_
  refine r_iconst ?_
  refine r_iadd ?_
  refine r_ialoadX rfl (ixX (n_add (a := k) (b := 1) rfl rfl) (show k + 1 < xs.1 by omega) hL) ?_
  refine r_virtual (vs := []) (as := [_]) (by decide) (zl rfl) rfl rfl (zl rfl) (by rw [h82]; exact zl rfl) (Or.inr (Or.inr ⟨zt rfl, rfl, by rw [h82]; exact zt rfl⟩)) ?_
  refine xM_mono m _ _ _ _ _ (fun r2 h2 hh => ?_) hM
  obtain ⟨x, J, L2, e1, rfl, rfl, hJ⟩ := hh
  injection e1 with e1
  subst e1
  refine r_icmp_eq (fun _ => ?_) (fun c => absurd rfl c)
  refine E_go 31 rfl ?_
  refine r_iincN (y := io (k + 6)) (ls' := [_, _, _, _]) rfl (zt rfl) (n_add (a := k) (b := 6) rfl rfl) rfl ?_
  refine r_goto ?_
  exact nx J L2 hJ

set_option maxRecDepth 10000 in
theorem lc_breaks {xs : xSc} {m : Nat} {I : Nat → Nat → Int32} {L : Nat → Nat → Int64} {k : Nat} (hm : 90 ≤ m) (hR : Rel I) (hk : k + 6 ≤ xs.1) (hL : xs.1 ≤ 3072) (nx : ∀ J L2, Rel J → E xs m xi_L_law 82 lQ 18 [.ref 5000, .ref 0, .ref 61, .int (io (k + 6))] [] (Hp J L2)) : E xs m xi_L_law 82 lQ 582 [.ref 5000, .ref 0, .ref 61, .int (io k)] [] (Hp I L) := by
  refine E_go 18 rfl ?_
  refine r_aload_n rfl ?_
  refine r_aload_n rfl ?_
  refine r_iload_n rfl ?_
  refine r_iconst ?_
  refine r_iadd ?_
  refine r_ialoadX rfl (ixX (n_add (a := k) (b := 1) rfl rfl) (show k + 1 < xs.1 by omega) hL) ?_
  refine r_virtual (vs := []) (as := [_]) (by decide) (zl rfl) rfl rfl (zl rfl) (Nat.le_refl _) (Or.inr (Or.inr ⟨zt rfl, rfl, zt rfl⟩)) ?_
  refine xM_mono m _ _ _ _ _ (fun r h1 hh => ?_) (M_int (n := 82) rfl rfl (tz_breaks hm hR (Q := lZ) (fun x J L2 hJ => ⟨x, J, L2, rfl, rfl, rfl, hJ⟩)))
  obtain ⟨⟨x1, rfl⟩, h82, hM⟩ := hh
  refine r_aload_n rfl ?_
  refine r_aload_n rfl ?_
  refine r_iload_n rfl ?_
  refine r_iconst ?_
  refine r_iadd ?_
  refine r_ialoadX rfl (ixX (n_add (a := k) (b := 1) rfl rfl) (show k + 1 < xs.1 by omega) hL) ?_
  refine r_virtual (vs := []) (as := [_]) (by decide) (zl rfl) rfl rfl (zl rfl) (by rw [h82]; exact zl rfl) (Or.inr (Or.inr ⟨zt rfl, rfl, by rw [h82]; exact zt rfl⟩)) ?_
  refine xM_mono m _ _ _ _ _ (fun r2 h2 hh => ?_) hM
  obtain ⟨x, J, L2, e1, rfl, rfl, hJ⟩ := hh
  injection e1 with e1
  subst e1
  refine r_icmp_eq (fun _ => ?_) (fun c => absurd rfl c)
  refine E_go 31 rfl ?_
  refine r_iincN (y := io (k + 6)) (ls' := [_, _, _, _]) rfl (zt rfl) (n_add (a := k) (b := 6) rfl rfl) rfl ?_
  refine r_goto ?_
  exact nx J L2 hJ

set_option maxRecDepth 10000 in
theorem lc_tells {xs : xSc} {m : Nat} {I : Nat → Nat → Int32} {L : Nat → Nat → Int64} {k : Nat} (hm : 90 ≤ m) (hR : Rel I) (hk : k + 6 ≤ xs.1) (hL : xs.1 ≤ 3072) (nx : ∀ J L2, Rel J → E xs m xi_L_law 82 lQ 18 [.ref 5000, .ref 0, .ref 61, .int (io (k + 6))] [] (Hp J L2)) : E xs m xi_L_law 82 lQ 605 [.ref 5000, .ref 0, .ref 61, .int (io k)] [] (Hp I L) := by
  refine E_go 19 rfl ?_
  refine r_aload_n rfl ?_
  refine r_aload_n rfl ?_
  refine r_iload_n rfl ?_
  refine r_iconst ?_
  refine r_iadd ?_
  refine r_ialoadX rfl (ixX (n_add (a := k) (b := 1) rfl rfl) (show k + 1 < xs.1 by omega) hL) ?_
  refine r_aload_n rfl ?_
  refine r_iload_n rfl ?_
  refine r_iconst ?_
  refine r_iadd ?_
  refine r_ialoadX rfl (ixX (n_add (a := k) (b := 2) rfl rfl) (show k + 2 < xs.1 by omega) hL) ?_
  refine r_virtual (vs := []) (as := [_, _]) (by decide) (zl rfl) rfl rfl (zl rfl) (Nat.le_refl _) (Or.inr (Or.inr ⟨zt rfl, rfl, zt rfl⟩)) ?_
  refine xM_mono m _ _ _ _ _ (fun r h1 hh => ?_) (M_int (n := 82) rfl rfl (tz_tells hm hR (Q := lZ) (fun x J L2 hJ => ⟨x, J, L2, rfl, rfl, rfl, hJ⟩)))
  obtain ⟨⟨x1, rfl⟩, h82, hM⟩ := hh
  refine r_aload_n rfl ?_
  refine r_aload_n rfl ?_
  refine r_iload_n rfl ?_
  refine r_iconst ?_
  refine r_iadd ?_
  refine r_ialoadX rfl (ixX (n_add (a := k) (b := 1) rfl rfl) (show k + 1 < xs.1 by omega) hL) ?_
  refine r_aload_n rfl ?_
  refine r_iload_n rfl ?_
  refine r_iconst ?_
  refine r_iadd ?_
  refine r_ialoadX rfl (ixX (n_add (a := k) (b := 2) rfl rfl) (show k + 2 < xs.1 by omega) hL) ?_
  refine r_virtual (vs := []) (as := [_, _]) (by decide) (zl rfl) rfl rfl (zl rfl) (by rw [h82]; exact zl rfl) (Or.inr (Or.inr ⟨zt rfl, rfl, by rw [h82]; exact zt rfl⟩)) ?_
  refine xM_mono m _ _ _ _ _ (fun r2 h2 hh => ?_) hM
  obtain ⟨x, J, L2, e1, rfl, rfl, hJ⟩ := hh
  injection e1 with e1
  subst e1
  refine r_icmp_eq (fun _ => ?_) (fun c => absurd rfl c)
  refine E_go 31 rfl ?_
  refine r_iincN (y := io (k + 6)) (ls' := [_, _, _, _]) rfl (zt rfl) (n_add (a := k) (b := 6) rfl rfl) rfl ?_
  refine r_goto ?_
  exact nx J L2 hJ

set_option maxRecDepth 10000 in
theorem lc_film {xs : xSc} {m : Nat} {I : Nat → Nat → Int32} {L : Nat → Nat → Int64} {k : Nat} (hm : 90 ≤ m) (hR : Rel I) (hk : k + 6 ≤ xs.1) (hL : xs.1 ≤ 3072) (nx : ∀ J L2, Rel J → E xs m xi_L_law 82 lQ 18 [.ref 5000, .ref 0, .ref 61, .int (io (k + 6))] [] (Hp J L2)) : E xs m xi_L_law 82 lQ 638 [.ref 5000, .ref 0, .ref 61, .int (io k)] [] (Hp I L) := by
  refine E_go 20 rfl ?_
  refine r_aload_n rfl ?_
  refine r_aload_n rfl ?_
  refine r_iload_n rfl ?_
  refine r_iconst ?_
  refine r_iadd ?_
  refine r_ialoadX rfl (ixX (n_add (a := k) (b := 1) rfl rfl) (show k + 1 < xs.1 by omega) hL) ?_
  refine r_aload_n rfl ?_
  refine r_iload_n rfl ?_
  refine r_iconst ?_
  refine r_iadd ?_
  refine r_ialoadX rfl (ixX (n_add (a := k) (b := 2) rfl rfl) (show k + 2 < xs.1 by omega) hL) ?_
  refine r_virtual (vs := []) (as := [_, _]) (by decide) (zl rfl) rfl rfl (zl rfl) (Nat.le_refl _) (Or.inr (Or.inr ⟨zt rfl, rfl, zt rfl⟩)) ?_
  refine xM_mono m _ _ _ _ _ (fun r h1 hh => ?_) (M_int (n := 82) rfl rfl (tz_film hm hR (Q := lZ) (fun x J L2 hJ => ⟨x, J, L2, rfl, rfl, rfl, hJ⟩)))
  obtain ⟨⟨x1, rfl⟩, h82, hM⟩ := hh
  refine r_aload_n rfl ?_
  refine r_aload_n rfl ?_
  refine r_iload_n rfl ?_
  refine r_iconst ?_
  refine r_iadd ?_
  refine r_ialoadX rfl (ixX (n_add (a := k) (b := 1) rfl rfl) (show k + 1 < xs.1 by omega) hL) ?_
  refine r_aload_n rfl ?_
  refine r_iload_n rfl ?_
  refine r_iconst ?_
  refine r_iadd ?_
  refine r_ialoadX rfl (ixX (n_add (a := k) (b := 2) rfl rfl) (show k + 2 < xs.1 by omega) hL) ?_
  refine r_virtual (vs := []) (as := [_, _]) (by decide) (zl rfl) rfl rfl (zl rfl) (by rw [h82]; exact zl rfl) (Or.inr (Or.inr ⟨zt rfl, rfl, by rw [h82]; exact zt rfl⟩)) ?_
  refine xM_mono m _ _ _ _ _ (fun r2 h2 hh => ?_) hM
  obtain ⟨x, J, L2, e1, rfl, rfl, hJ⟩ := hh
  injection e1 with e1
  subst e1
  refine r_icmp_eq (fun _ => ?_) (fun c => absurd rfl c)
  refine E_go 31 rfl ?_
  refine r_iincN (y := io (k + 6)) (ls' := [_, _, _, _]) rfl (zt rfl) (n_add (a := k) (b := 6) rfl rfl) rfl ?_
  refine r_goto ?_
  exact nx J L2 hJ

set_option maxRecDepth 10000 in
theorem lc_drawn {xs : xSc} {m : Nat} {I : Nat → Nat → Int32} {L : Nat → Nat → Int64} {k : Nat} (hm : 90 ≤ m) (hR : Rel I) (hk : k + 6 ≤ xs.1) (hL : xs.1 ≤ 3072) (nx : ∀ J L2, Rel J → E xs m xi_L_law 82 lQ 18 [.ref 5000, .ref 0, .ref 61, .int (io (k + 6))] [] (Hp J L2)) : E xs m xi_L_law 82 lQ 671 [.ref 5000, .ref 0, .ref 61, .int (io k)] [] (Hp I L) := by
  refine E_go 21 rfl ?_
  refine r_aload_n rfl ?_
  refine r_aload_n rfl ?_
  refine r_iload_n rfl ?_
  refine r_iconst ?_
  refine r_iadd ?_
  refine r_ialoadX rfl (ixX (n_add (a := k) (b := 1) rfl rfl) (show k + 1 < xs.1 by omega) hL) ?_
  refine r_virtual (vs := []) (as := [_]) (by decide) (zl rfl) rfl rfl (zl rfl) (Nat.le_refl _) (Or.inr (Or.inr ⟨zt rfl, rfl, zt rfl⟩)) ?_
  refine xM_mono m _ _ _ _ _ (fun r h1 hh => ?_) (M_int (n := 82) rfl rfl (tz_drawn hm hR (Q := lZ) (fun x J L2 hJ => ⟨x, J, L2, rfl, rfl, rfl, hJ⟩)))
  obtain ⟨⟨x1, rfl⟩, h82, hM⟩ := hh
  refine r_aload_n rfl ?_
  refine r_aload_n rfl ?_
  refine r_iload_n rfl ?_
  refine r_iconst ?_
  refine r_iadd ?_
  refine r_ialoadX rfl (ixX (n_add (a := k) (b := 1) rfl rfl) (show k + 1 < xs.1 by omega) hL) ?_
  refine r_virtual (vs := []) (as := [_]) (by decide) (zl rfl) rfl rfl (zl rfl) (by rw [h82]; exact zl rfl) (Or.inr (Or.inr ⟨zt rfl, rfl, by rw [h82]; exact zt rfl⟩)) ?_
  refine xM_mono m _ _ _ _ _ (fun r2 h2 hh => ?_) hM
  obtain ⟨x, J, L2, e1, rfl, rfl, hJ⟩ := hh
  injection e1 with e1
  subst e1
  refine r_icmp_eq (fun _ => ?_) (fun c => absurd rfl c)
  refine E_go 31 rfl ?_
  refine r_iincN (y := io (k + 6)) (ls' := [_, _, _, _]) rfl (zt rfl) (n_add (a := k) (b := 6) rfl rfl) rfl ?_
  refine r_goto ?_
  exact nx J L2 hJ

set_option maxRecDepth 10000 in
theorem lc_chance {xs : xSc} {m : Nat} {I : Nat → Nat → Int32} {L : Nat → Nat → Int64} {k : Nat} (hm : 90 ≤ m) (hR : Rel I) (hk : k + 6 ≤ xs.1) (hL : xs.1 ≤ 3072) (nx : ∀ J L2, Rel J → E xs m xi_L_law 82 lQ 18 [.ref 5000, .ref 0, .ref 61, .int (io (k + 6))] [] (Hp J L2)) : E xs m xi_L_law 82 lQ 694 [.ref 5000, .ref 0, .ref 61, .int (io k)] [] (Hp I L) := by
  refine E_go 22 rfl ?_
  refine r_aload_n rfl ?_
  refine r_aload_n rfl ?_
  refine r_iload_n rfl ?_
  refine r_iconst ?_
  refine r_iadd ?_
  refine r_ialoadX rfl (ixX (n_add (a := k) (b := 1) rfl rfl) (show k + 1 < xs.1 by omega) hL) ?_
  refine r_aload_n rfl ?_
  refine r_iload_n rfl ?_
  refine r_iconst ?_
  refine r_iadd ?_
  refine r_ialoadX rfl (ixX (n_add (a := k) (b := 2) rfl rfl) (show k + 2 < xs.1 by omega) hL) ?_
  refine r_aload_n rfl ?_
  refine r_iload_n rfl ?_
  refine r_iconst ?_
  refine r_iadd ?_
  refine r_ialoadX rfl (ixX (n_add (a := k) (b := 3) rfl rfl) (show k + 3 < xs.1 by omega) hL) ?_
  refine r_virtual (vs := []) (as := [_, _, _]) (by decide) (zl rfl) rfl rfl (zl rfl) (Nat.le_refl _) (Or.inr (Or.inr ⟨zt rfl, rfl, zt rfl⟩)) ?_
  refine xM_mono m _ _ _ _ _ (fun r h1 hh => ?_) (M_long (n := 82) rfl rfl (tz_chance hm hR (Q := lZ2) (fun x J L2 hJ => ⟨x, J, L2, rfl, rfl, rfl, hJ⟩)))
  obtain ⟨⟨x1, rfl⟩, h82, hM⟩ := hh
  refine r_aload_n rfl ?_
  refine r_aload_n rfl ?_
  refine r_iload_n rfl ?_
  refine r_iconst ?_
  refine r_iadd ?_
  refine r_ialoadX rfl (ixX (n_add (a := k) (b := 1) rfl rfl) (show k + 1 < xs.1 by omega) hL) ?_
  refine r_aload_n rfl ?_
  refine r_iload_n rfl ?_
  refine r_iconst ?_
  refine r_iadd ?_
  refine r_ialoadX rfl (ixX (n_add (a := k) (b := 2) rfl rfl) (show k + 2 < xs.1 by omega) hL) ?_
  refine r_aload_n rfl ?_
  refine r_iload_n rfl ?_
  refine r_iconst ?_
  refine r_iadd ?_
  refine r_ialoadX rfl (ixX (n_add (a := k) (b := 3) rfl rfl) (show k + 3 < xs.1 by omega) hL) ?_
  refine r_virtual (vs := []) (as := [_, _, _]) (by decide) (zl rfl) rfl rfl (zl rfl) (by rw [h82]; exact zl rfl) (Or.inr (Or.inr ⟨zt rfl, rfl, by rw [h82]; exact zt rfl⟩)) ?_
  refine xM_mono m _ _ _ _ _ (fun r2 h2 hh => ?_) hM
  obtain ⟨x, J, L2, e1, rfl, rfl, hJ⟩ := hh
  injection e1 with e1
  subst e1
  refine r_lcmp ?_
  refine r_if_eq (fun _ => ?_) (fun c => absurd (lg_eq.mpr rfl) c)
  refine E_go 31 rfl ?_
  refine r_iincN (y := io (k + 6)) (ls' := [_, _, _, _]) rfl (zt rfl) (n_add (a := k) (b := 6) rfl rfl) rfl ?_
  refine r_goto ?_
  exact nx J L2 hJ

set_option maxRecDepth 10000 in
theorem lc_image {xs : xSc} {m : Nat} {I : Nat → Nat → Int32} {L : Nat → Nat → Int64} {k : Nat} (hm : 90 ≤ m) (hR : Rel I) (hk : k + 6 ≤ xs.1) (hL : xs.1 ≤ 3072) (nx : ∀ J L2, Rel J → E xs m xi_L_law 82 lQ 18 [.ref 5000, .ref 0, .ref 61, .int (io (k + 6))] [] (Hp J L2)) : E xs m xi_L_law 82 lQ 738 [.ref 5000, .ref 0, .ref 61, .int (io k)] [] (Hp I L) := by
  refine E_go 23 rfl ?_
  refine r_aload_n rfl ?_
  refine r_virtual (vs := []) (as := []) (by decide) (zl rfl) rfl rfl (zl rfl) (Nat.le_refl _) (Or.inr (Or.inr ⟨zt rfl, rfl, zt rfl⟩)) ?_
  refine xM_mono m _ _ _ _ _ (fun r h1 hh => ?_) (M_int (n := 82) rfl rfl (tz_image hm hR (Q := lZ) (fun x J L2 hJ => ⟨x, J, L2, rfl, rfl, rfl, hJ⟩)))
  obtain ⟨⟨x1, rfl⟩, h82, hM⟩ := hh
  refine r_aload_n rfl ?_
  refine r_virtual (vs := []) (as := []) (by decide) (zl rfl) rfl rfl (zl rfl) (by rw [h82]; exact zl rfl) (Or.inr (Or.inr ⟨zt rfl, rfl, by rw [h82]; exact zt rfl⟩)) ?_
  refine xM_mono m _ _ _ _ _ (fun r2 h2 hh => ?_) hM
  obtain ⟨x, J, L2, e1, rfl, rfl, hJ⟩ := hh
  injection e1 with e1
  subst e1
  refine r_icmp_eq (fun _ => ?_) (fun c => absurd rfl c)
  refine E_go 31 rfl ?_
  refine r_iincN (y := io (k + 6)) (ls' := [_, _, _, _]) rfl (zt rfl) (n_add (a := k) (b := 6) rfl rfl) rfl ?_
  refine r_goto ?_
  exact nx J L2 hJ

set_option maxRecDepth 10000 in
theorem lc_back {xs : xSc} {m : Nat} {I : Nat → Nat → Int32} {L : Nat → Nat → Int64} {k : Nat} (hm : 90 ≤ m) (hR : Rel I) (hk : k + 6 ≤ xs.1) (hL : xs.1 ≤ 3072) (nx : ∀ J L2, Rel J → E xs m xi_L_law 82 lQ 18 [.ref 5000, .ref 0, .ref 61, .int (io (k + 6))] [] (Hp J L2)) : E xs m xi_L_law 82 lQ 751 [.ref 5000, .ref 0, .ref 61, .int (io k)] [] (Hp I L) := by
  refine E_go 24 rfl ?_
  refine r_aload_n rfl ?_
  refine r_virtual (vs := []) (as := []) (by decide) (zl rfl) rfl rfl (zl rfl) (Nat.le_refl _) (Or.inr (Or.inr ⟨zt rfl, rfl, zt rfl⟩)) ?_
  refine xM_mono m _ _ _ _ _ (fun r h1 hh => ?_) (M_int (n := 82) rfl rfl (tz_back hm hR (Q := lZ) (fun x J L2 hJ => ⟨x, J, L2, rfl, rfl, rfl, hJ⟩)))
  obtain ⟨⟨x1, rfl⟩, h82, hM⟩ := hh
  refine r_aload_n rfl ?_
  refine r_virtual (vs := []) (as := []) (by decide) (zl rfl) rfl rfl (zl rfl) (by rw [h82]; exact zl rfl) (Or.inr (Or.inr ⟨zt rfl, rfl, by rw [h82]; exact zt rfl⟩)) ?_
  refine xM_mono m _ _ _ _ _ (fun r2 h2 hh => ?_) hM
  obtain ⟨x, J, L2, e1, rfl, rfl, hJ⟩ := hh
  injection e1 with e1
  subst e1
  refine r_icmp_eq (fun _ => ?_) (fun c => absurd rfl c)
  refine E_go 31 rfl ?_
  refine r_iincN (y := io (k + 6)) (ls' := [_, _, _, _]) rfl (zt rfl) (n_add (a := k) (b := 6) rfl rfl) rfl ?_
  refine r_goto ?_
  exact nx J L2 hJ

set_option maxRecDepth 10000 in
theorem lc_count {xs : xSc} {m : Nat} {I : Nat → Nat → Int32} {L : Nat → Nat → Int64} {k : Nat} (hm : 90 ≤ m) (hR : Rel I) (hk : k + 6 ≤ xs.1) (hL : xs.1 ≤ 3072) (nx : ∀ J L2, Rel J → E xs m xi_L_law 82 lQ 18 [.ref 5000, .ref 0, .ref 61, .int (io (k + 6))] [] (Hp J L2)) : E xs m xi_L_law 82 lQ 764 [.ref 5000, .ref 0, .ref 61, .int (io k)] [] (Hp I L) := by
  refine E_go 25 rfl ?_
  refine r_aload_n rfl ?_
  refine r_aload_n rfl ?_
  refine r_iload_n rfl ?_
  refine r_iconst ?_
  refine r_iadd ?_
  refine r_ialoadX rfl (ixX (n_add (a := k) (b := 1) rfl rfl) (show k + 1 < xs.1 by omega) hL) ?_
  refine r_virtual (vs := []) (as := [_]) (by decide) (zl rfl) rfl rfl (zl rfl) (Nat.le_refl _) (Or.inr (Or.inr ⟨zt rfl, rfl, zt rfl⟩)) ?_
  refine xM_mono m _ _ _ _ _ (fun r h1 hh => ?_) (M_int (n := 82) rfl rfl (tz_count hm hR (Q := lZ) (fun x J L2 hJ => ⟨x, J, L2, rfl, rfl, rfl, hJ⟩)))
  obtain ⟨⟨x1, rfl⟩, h82, hM⟩ := hh
  refine r_aload_n rfl ?_
  refine r_aload_n rfl ?_
  refine r_iload_n rfl ?_
  refine r_iconst ?_
  refine r_iadd ?_
  refine r_ialoadX rfl (ixX (n_add (a := k) (b := 1) rfl rfl) (show k + 1 < xs.1 by omega) hL) ?_
  refine r_virtual (vs := []) (as := [_]) (by decide) (zl rfl) rfl rfl (zl rfl) (by rw [h82]; exact zl rfl) (Or.inr (Or.inr ⟨zt rfl, rfl, by rw [h82]; exact zt rfl⟩)) ?_
  refine xM_mono m _ _ _ _ _ (fun r2 h2 hh => ?_) hM
  obtain ⟨x, J, L2, e1, rfl, rfl, hJ⟩ := hh
  injection e1 with e1
  subst e1
  refine r_icmp_eq (fun _ => ?_) (fun c => absurd rfl c)
  refine E_go 31 rfl ?_
  refine r_iincN (y := io (k + 6)) (ls' := [_, _, _, _]) rfl (zt rfl) (n_add (a := k) (b := 6) rfl rfl) rfl ?_
  refine r_goto ?_
  exact nx J L2 hJ

set_option maxRecDepth 10000 in
theorem lc_sheet {xs : xSc} {m : Nat} {I : Nat → Nat → Int32} {L : Nat → Nat → Int64} {k : Nat} (hm : 90 ≤ m) (hR : Rel I) (hk : k + 6 ≤ xs.1) (hL : xs.1 ≤ 3072) (nx : ∀ J L2, Rel J → E xs m xi_L_law 82 lQ 18 [.ref 5000, .ref 0, .ref 61, .int (io (k + 6))] [] (Hp J L2)) : E xs m xi_L_law 82 lQ 787 [.ref 5000, .ref 0, .ref 61, .int (io k)] [] (Hp I L) := by
  refine E_go 26 rfl ?_
  refine r_aload_n rfl ?_
  refine r_aload_n rfl ?_
  refine r_iload_n rfl ?_
  refine r_iconst ?_
  refine r_iadd ?_
  refine r_ialoadX rfl (ixX (n_add (a := k) (b := 1) rfl rfl) (show k + 1 < xs.1 by omega) hL) ?_
  refine r_aload_n rfl ?_
  refine r_iload_n rfl ?_
  refine r_iconst ?_
  refine r_iadd ?_
  refine r_ialoadX rfl (ixX (n_add (a := k) (b := 2) rfl rfl) (show k + 2 < xs.1 by omega) hL) ?_
  refine r_aload_n rfl ?_
  refine r_iload_n rfl ?_
  refine r_iconst ?_
  refine r_iadd ?_
  refine r_ialoadX rfl (ixX (n_add (a := k) (b := 3) rfl rfl) (show k + 3 < xs.1 by omega) hL) ?_
  refine r_virtual (vs := []) (as := [_, _, _]) (by decide) (zl rfl) rfl rfl (zl rfl) (Nat.le_refl _) (Or.inr (Or.inr ⟨zt rfl, rfl, zt rfl⟩)) ?_
  refine xM_mono m _ _ _ _ _ (fun r h1 hh => ?_) (M_int (n := 82) rfl rfl (tz_sheet hm hR (Q := lZ) (fun x J L2 hJ => ⟨x, J, L2, rfl, rfl, rfl, hJ⟩)))
  obtain ⟨⟨x1, rfl⟩, h82, hM⟩ := hh
  refine r_aload_n rfl ?_
  refine r_aload_n rfl ?_
  refine r_iload_n rfl ?_
  refine r_iconst ?_
  refine r_iadd ?_
  refine r_ialoadX rfl (ixX (n_add (a := k) (b := 1) rfl rfl) (show k + 1 < xs.1 by omega) hL) ?_
  refine r_aload_n rfl ?_
  refine r_iload_n rfl ?_
  refine r_iconst ?_
  refine r_iadd ?_
  refine r_ialoadX rfl (ixX (n_add (a := k) (b := 2) rfl rfl) (show k + 2 < xs.1 by omega) hL) ?_
  refine r_aload_n rfl ?_
  refine r_iload_n rfl ?_
  refine r_iconst ?_
  refine r_iadd ?_
  refine r_ialoadX rfl (ixX (n_add (a := k) (b := 3) rfl rfl) (show k + 3 < xs.1 by omega) hL) ?_
  refine r_virtual (vs := []) (as := [_, _, _]) (by decide) (zl rfl) rfl rfl (zl rfl) (by rw [h82]; exact zl rfl) (Or.inr (Or.inr ⟨zt rfl, rfl, by rw [h82]; exact zt rfl⟩)) ?_
  refine xM_mono m _ _ _ _ _ (fun r2 h2 hh => ?_) hM
  obtain ⟨x, J, L2, e1, rfl, rfl, hJ⟩ := hh
  injection e1 with e1
  subst e1
  refine r_icmp_eq (fun _ => ?_) (fun c => absurd rfl c)
  refine E_go 31 rfl ?_
  refine r_iincN (y := io (k + 6)) (ls' := [_, _, _, _]) rfl (zt rfl) (n_add (a := k) (b := 6) rfl rfl) rfl ?_
  refine r_goto ?_
  exact nx J L2 hJ

set_option maxRecDepth 10000 in
theorem lc_cell {xs : xSc} {m : Nat} {I : Nat → Nat → Int32} {L : Nat → Nat → Int64} {k : Nat} (hm : 90 ≤ m) (hR : Rel I) (hk : k + 6 ≤ xs.1) (hL : xs.1 ≤ 3072) (nx : ∀ J L2, Rel J → E xs m xi_L_law 82 lQ 18 [.ref 5000, .ref 0, .ref 61, .int (io (k + 6))] [] (Hp J L2)) : E xs m xi_L_law 82 lQ 830 [.ref 5000, .ref 0, .ref 61, .int (io k)] [] (Hp I L) := by
  refine E_go 27 rfl ?_
  refine r_aload_n rfl ?_
  refine r_aload_n rfl ?_
  refine r_iload_n rfl ?_
  refine r_iconst ?_
  refine r_iadd ?_
  refine r_ialoadX rfl (ixX (n_add (a := k) (b := 1) rfl rfl) (show k + 1 < xs.1 by omega) hL) ?_
  refine r_aload_n rfl ?_
  refine r_iload_n rfl ?_
  refine r_iconst ?_
  refine r_iadd ?_
  refine r_ialoadX rfl (ixX (n_add (a := k) (b := 2) rfl rfl) (show k + 2 < xs.1 by omega) hL) ?_
  refine r_aload_n rfl ?_
  refine r_iload_n rfl ?_
  refine r_iconst ?_
  refine r_iadd ?_
  refine r_ialoadX rfl (ixX (n_add (a := k) (b := 3) rfl rfl) (show k + 3 < xs.1 by omega) hL) ?_
  refine r_virtual (vs := []) (as := [_, _, _]) (by decide) (zl rfl) rfl rfl (zl rfl) (Nat.le_refl _) (Or.inr (Or.inr ⟨zt rfl, rfl, zt rfl⟩)) ?_
  refine xM_mono m _ _ _ _ _ (fun r h1 hh => ?_) (M_int (n := 82) rfl rfl (tz_cell hm hR (Q := lZ) (fun x J L2 hJ => ⟨x, J, L2, rfl, rfl, rfl, hJ⟩)))
  obtain ⟨⟨x1, rfl⟩, h82, hM⟩ := hh
  refine r_aload_n rfl ?_
  refine r_aload_n rfl ?_
  refine r_iload_n rfl ?_
  refine r_iconst ?_
  refine r_iadd ?_
  refine r_ialoadX rfl (ixX (n_add (a := k) (b := 1) rfl rfl) (show k + 1 < xs.1 by omega) hL) ?_
  refine r_aload_n rfl ?_
  refine r_iload_n rfl ?_
  refine r_iconst ?_
  refine r_iadd ?_
  refine r_ialoadX rfl (ixX (n_add (a := k) (b := 2) rfl rfl) (show k + 2 < xs.1 by omega) hL) ?_
  refine r_aload_n rfl ?_
  refine r_iload_n rfl ?_
  refine r_iconst ?_
  refine r_iadd ?_
  refine r_ialoadX rfl (ixX (n_add (a := k) (b := 3) rfl rfl) (show k + 3 < xs.1 by omega) hL) ?_
  refine r_virtual (vs := []) (as := [_, _, _]) (by decide) (zl rfl) rfl rfl (zl rfl) (by rw [h82]; exact zl rfl) (Or.inr (Or.inr ⟨zt rfl, rfl, by rw [h82]; exact zt rfl⟩)) ?_
  refine xM_mono m _ _ _ _ _ (fun r2 h2 hh => ?_) hM
  obtain ⟨x, J, L2, e1, rfl, rfl, hJ⟩ := hh
  injection e1 with e1
  subst e1
  refine r_icmp_eq (fun _ => ?_) (fun c => absurd rfl c)
  refine E_go 31 rfl ?_
  refine r_iincN (y := io (k + 6)) (ls' := [_, _, _, _]) rfl (zt rfl) (n_add (a := k) (b := 6) rfl rfl) rfl ?_
  refine r_goto ?_
  exact nx J L2 hJ

set_option maxRecDepth 10000 in
theorem lc_copy {xs : xSc} {m : Nat} {I : Nat → Nat → Int32} {L : Nat → Nat → Int64} {k : Nat} (hm : 90 ≤ m) (hR : Rel I) (hk : k + 6 ≤ xs.1) (hL : xs.1 ≤ 3072) (nx : ∀ J L2, Rel J → E xs m xi_L_law 82 lQ 18 [.ref 5000, .ref 0, .ref 61, .int (io (k + 6))] [] (Hp J L2)) : E xs m xi_L_law 82 lQ 873 [.ref 5000, .ref 0, .ref 61, .int (io k)] [] (Hp I L) := by
  refine E_go 28 rfl ?_
  refine r_aload_n rfl ?_
  refine r_aload_n rfl ?_
  refine r_iload_n rfl ?_
  refine r_iconst ?_
  refine r_iadd ?_
  refine r_ialoadX rfl (ixX (n_add (a := k) (b := 1) rfl rfl) (show k + 1 < xs.1 by omega) hL) ?_
  refine r_aload_n rfl ?_
  refine r_iload_n rfl ?_
  refine r_iconst ?_
  refine r_iadd ?_
  refine r_ialoadX rfl (ixX (n_add (a := k) (b := 2) rfl rfl) (show k + 2 < xs.1 by omega) hL) ?_
  refine r_aload_n rfl ?_
  refine r_iload_n rfl ?_
  refine r_iconst ?_
  refine r_iadd ?_
  refine r_ialoadX rfl (ixX (n_add (a := k) (b := 3) rfl rfl) (show k + 3 < xs.1 by omega) hL) ?_
  refine r_aload_n rfl ?_
  refine r_iload_n rfl ?_
  refine r_iconst ?_
  refine r_iadd ?_
  refine r_ialoadX rfl (ixX (n_add (a := k) (b := 4) rfl rfl) (show k + 4 < xs.1 by omega) hL) ?_
  refine r_aload_n rfl ?_
  refine r_iload_n rfl ?_
  refine r_iconst ?_
  refine r_iadd ?_
  refine r_ialoadX rfl (ixX (n_add (a := k) (b := 5) rfl rfl) (show k + 5 < xs.1 by omega) hL) ?_
  refine r_virtual (vs := []) (as := [_, _, _, _, _]) (by decide) (zl rfl) rfl rfl (zl rfl) (Nat.le_refl _) (Or.inr (Or.inr ⟨zt rfl, rfl, zt rfl⟩)) ?_
  refine xM_mono m _ _ _ _ _ (fun r h1 hh => ?_) (M_int (n := 82) rfl rfl (tz_copy hm hR (Q := lZ) (fun x J L2 hJ => ⟨x, J, L2, rfl, rfl, rfl, hJ⟩)))
  obtain ⟨⟨x1, rfl⟩, h82, hM⟩ := hh
  refine r_aload_n rfl ?_
  refine r_aload_n rfl ?_
  refine r_iload_n rfl ?_
  refine r_iconst ?_
  refine r_iadd ?_
  refine r_ialoadX rfl (ixX (n_add (a := k) (b := 1) rfl rfl) (show k + 1 < xs.1 by omega) hL) ?_
  refine r_aload_n rfl ?_
  refine r_iload_n rfl ?_
  refine r_iconst ?_
  refine r_iadd ?_
  refine r_ialoadX rfl (ixX (n_add (a := k) (b := 2) rfl rfl) (show k + 2 < xs.1 by omega) hL) ?_
  refine r_aload_n rfl ?_
  refine r_iload_n rfl ?_
  refine r_iconst ?_
  refine r_iadd ?_
  refine r_ialoadX rfl (ixX (n_add (a := k) (b := 3) rfl rfl) (show k + 3 < xs.1 by omega) hL) ?_
  refine r_aload_n rfl ?_
  refine r_iload_n rfl ?_
  refine r_iconst ?_
  refine r_iadd ?_
  refine r_ialoadX rfl (ixX (n_add (a := k) (b := 4) rfl rfl) (show k + 4 < xs.1 by omega) hL) ?_
  refine r_aload_n rfl ?_
  refine r_iload_n rfl ?_
  refine r_iconst ?_
  refine r_iadd ?_
  refine r_ialoadX rfl (ixX (n_add (a := k) (b := 5) rfl rfl) (show k + 5 < xs.1 by omega) hL) ?_
  refine r_virtual (vs := []) (as := [_, _, _, _, _]) (by decide) (zl rfl) rfl rfl (zl rfl) (by rw [h82]; exact zl rfl) (Or.inr (Or.inr ⟨zt rfl, rfl, by rw [h82]; exact zt rfl⟩)) ?_
  refine xM_mono m _ _ _ _ _ (fun r2 h2 hh => ?_) hM
  obtain ⟨x, J, L2, e1, rfl, rfl, hJ⟩ := hh
  injection e1 with e1
  subst e1
  refine r_icmp_eq (fun _ => ?_) (fun c => absurd rfl c)
  refine E_go 31 rfl ?_
  refine r_iincN (y := io (k + 6)) (ls' := [_, _, _, _]) rfl (zt rfl) (n_add (a := k) (b := 6) rfl rfl) rfl ?_
  refine r_goto ?_
  exact nx J L2 hJ

set_option maxRecDepth 10000 in
theorem lc_aunts {xs : xSc} {m : Nat} {I : Nat → Nat → Int32} {L : Nat → Nat → Int64} {k : Nat} (hm : 90 ≤ m) (hR : Rel I) (hk : k + 6 ≤ xs.1) (hL : xs.1 ≤ 3072) (nx : ∀ J L2, Rel J → E xs m xi_L_law 82 lQ 18 [.ref 5000, .ref 0, .ref 61, .int (io (k + 6))] [] (Hp J L2)) : E xs m xi_L_law 82 lQ 936 [.ref 5000, .ref 0, .ref 61, .int (io k)] [] (Hp I L) := by
  refine E_go 29 rfl ?_
  refine r_aload_n rfl ?_
  refine r_aload_n rfl ?_
  refine r_iload_n rfl ?_
  refine r_iconst ?_
  refine r_iadd ?_
  refine r_ialoadX rfl (ixX (n_add (a := k) (b := 1) rfl rfl) (show k + 1 < xs.1 by omega) hL) ?_
  refine r_aload_n rfl ?_
  refine r_iload_n rfl ?_
  refine r_iconst ?_
  refine r_iadd ?_
  refine r_ialoadX rfl (ixX (n_add (a := k) (b := 2) rfl rfl) (show k + 2 < xs.1 by omega) hL) ?_
  refine r_aload_n rfl ?_
  refine r_iload_n rfl ?_
  refine r_iconst ?_
  refine r_iadd ?_
  refine r_ialoadX rfl (ixX (n_add (a := k) (b := 3) rfl rfl) (show k + 3 < xs.1 by omega) hL) ?_
  refine r_aload_n rfl ?_
  refine r_iload_n rfl ?_
  refine r_iconst ?_
  refine r_iadd ?_
  refine r_ialoadX rfl (ixX (n_add (a := k) (b := 4) rfl rfl) (show k + 4 < xs.1 by omega) hL) ?_
  refine r_virtual (vs := []) (as := [_, _, _, _]) (by decide) (zl rfl) rfl rfl (zl rfl) (Nat.le_refl _) (Or.inr (Or.inr ⟨zt rfl, rfl, zt rfl⟩)) ?_
  refine xM_mono m _ _ _ _ _ (fun r h1 hh => ?_) (M_int (n := 82) rfl rfl (tz_aunts hm hR (Q := lZ) (fun x J L2 hJ => ⟨x, J, L2, rfl, rfl, rfl, hJ⟩)))
  obtain ⟨⟨x1, rfl⟩, h82, hM⟩ := hh
  refine r_aload_n rfl ?_
  refine r_aload_n rfl ?_
  refine r_iload_n rfl ?_
  refine r_iconst ?_
  refine r_iadd ?_
  refine r_ialoadX rfl (ixX (n_add (a := k) (b := 1) rfl rfl) (show k + 1 < xs.1 by omega) hL) ?_
  refine r_aload_n rfl ?_
  refine r_iload_n rfl ?_
  refine r_iconst ?_
  refine r_iadd ?_
  refine r_ialoadX rfl (ixX (n_add (a := k) (b := 2) rfl rfl) (show k + 2 < xs.1 by omega) hL) ?_
  refine r_aload_n rfl ?_
  refine r_iload_n rfl ?_
  refine r_iconst ?_
  refine r_iadd ?_
  refine r_ialoadX rfl (ixX (n_add (a := k) (b := 3) rfl rfl) (show k + 3 < xs.1 by omega) hL) ?_
  refine r_aload_n rfl ?_
  refine r_iload_n rfl ?_
  refine r_iconst ?_
  refine r_iadd ?_
  refine r_ialoadX rfl (ixX (n_add (a := k) (b := 4) rfl rfl) (show k + 4 < xs.1 by omega) hL) ?_
  refine r_virtual (vs := []) (as := [_, _, _, _]) (by decide) (zl rfl) rfl rfl (zl rfl) (by rw [h82]; exact zl rfl) (Or.inr (Or.inr ⟨zt rfl, rfl, by rw [h82]; exact zt rfl⟩)) ?_
  refine xM_mono m _ _ _ _ _ (fun r2 h2 hh => ?_) hM
  obtain ⟨x, J, L2, e1, rfl, rfl, hJ⟩ := hh
  injection e1 with e1
  subst e1
  refine r_icmp_eq (fun _ => ?_) (fun c => absurd rfl c)
  refine E_go 31 rfl ?_
  refine r_iincN (y := io (k + 6)) (ls' := [_, _, _, _]) rfl (zt rfl) (n_add (a := k) (b := 6) rfl rfl) rfl ?_
  refine r_goto ?_
  exact nx J L2 hJ

set_option maxRecDepth 10000 in
theorem lc_taken {xs : xSc} {m : Nat} {I : Nat → Nat → Int32} {L : Nat → Nat → Int64} {k : Nat} (hm : 90 ≤ m) (hR : Rel I) (hk : k + 6 ≤ xs.1) (hL : xs.1 ≤ 3072) (nx : ∀ J L2, Rel J → E xs m xi_L_law 82 lQ 18 [.ref 5000, .ref 0, .ref 61, .int (io (k + 6))] [] (Hp J L2)) : E xs m xi_L_law 82 lQ 989 [.ref 5000, .ref 0, .ref 61, .int (io k)] [] (Hp I L) := by
  refine E_go 30 rfl ?_
  refine r_aload_n rfl ?_
  refine r_aload_n rfl ?_
  refine r_iload_n rfl ?_
  refine r_iconst ?_
  refine r_iadd ?_
  refine r_ialoadX rfl (ixX (n_add (a := k) (b := 1) rfl rfl) (show k + 1 < xs.1 by omega) hL) ?_
  refine r_aload_n rfl ?_
  refine r_iload_n rfl ?_
  refine r_iconst ?_
  refine r_iadd ?_
  refine r_ialoadX rfl (ixX (n_add (a := k) (b := 2) rfl rfl) (show k + 2 < xs.1 by omega) hL) ?_
  refine r_virtual (vs := []) (as := [_, _]) (by decide) (zl rfl) rfl rfl (zl rfl) (Nat.le_refl _) (Or.inr (Or.inr ⟨zt rfl, rfl, zt rfl⟩)) ?_
  refine xM_mono m _ _ _ _ _ (fun r h1 hh => ?_) (M_int (n := 82) rfl rfl (tz_taken hm hR (Q := lZ) (fun x J L2 hJ => ⟨x, J, L2, rfl, rfl, rfl, hJ⟩)))
  obtain ⟨⟨x1, rfl⟩, h82, hM⟩ := hh
  refine r_aload_n rfl ?_
  refine r_aload_n rfl ?_
  refine r_iload_n rfl ?_
  refine r_iconst ?_
  refine r_iadd ?_
  refine r_ialoadX rfl (ixX (n_add (a := k) (b := 1) rfl rfl) (show k + 1 < xs.1 by omega) hL) ?_
  refine r_aload_n rfl ?_
  refine r_iload_n rfl ?_
  refine r_iconst ?_
  refine r_iadd ?_
  refine r_ialoadX rfl (ixX (n_add (a := k) (b := 2) rfl rfl) (show k + 2 < xs.1 by omega) hL) ?_
  refine r_virtual (vs := []) (as := [_, _]) (by decide) (zl rfl) rfl rfl (zl rfl) (by rw [h82]; exact zl rfl) (Or.inr (Or.inr ⟨zt rfl, rfl, by rw [h82]; exact zt rfl⟩)) ?_
  refine xM_mono m _ _ _ _ _ (fun r2 h2 hh => ?_) hM
  obtain ⟨x, J, L2, e1, rfl, rfl, hJ⟩ := hh
  injection e1 with e1
  subst e1
  refine r_icmp_eq (fun _ => ?_) (fun c => absurd rfl c)
  refine E_go 31 rfl ?_
  refine r_iincN (y := io (k + 6)) (ls' := [_, _, _, _]) rfl (zt rfl) (n_add (a := k) (b := 6) rfl rfl) rfl ?_
  refine r_goto ?_
  exact nx J L2 hJ
