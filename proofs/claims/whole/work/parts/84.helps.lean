/-! the class is made -/

section
variable {xs : xSc} {al rk : Nat → Nat} {C : xT} {lim : Nat} {K : Nat → List Value → List Value → xHp → Prop} {ep : Nat} {Q : Value → xHp → Prop} {l : List xEl} {ls st : List Value} {pc len a b n n2 : Nat} {v : Int32} {w : Int64} {ts : List (Int32 × Nat)} {I : Nat → Nat → Int32} {L : Nat → Nat → Int64} {F : Nat → Nat → Option Nat}
theorem r_newC {i : Nat} (hn : n + 1 = n2) (hk : xKd n = a) (hl : n2 ≤ lim) (k : xR xs al rk C lim K ep Q l ls (.ref n :: st) (n2, va_up I n (fun _ => 0), va_up L n (fun _ => 0), va_up F n (fun _ => none))) : xR xs al rk C lim K ep Q ((Instr.new i, (pc, len, a, b), v, w, ts) :: l) ls st (n, I, L, F) := by
  subst hn
  exact r_new hk hl k
theorem r_newarrayC {i : ArrayType} {z : Int32} (hn : n + 1 = n2) (hk : xKd n = a) (hl : n2 ≤ lim) (hz : ¬ z < 0) (hz2 : z.toNatClampNeg = xLn n) (hz3 : xLn n ≤ 1000) (k : xR xs al rk C lim K ep Q l ls (.ref n :: st) (n2, va_up I n (fun _ => 0), va_up L n (fun _ => 0), va_up F n (fun _ => none))) : xR xs al rk C lim K ep Q ((Instr.newarray i, (pc, len, a, b), v, w, ts) :: l) ls (.int z :: st) (n, I, L, F) := by
  subst hn
  exact r_newarray hk hl hz hz2 hz3 k
theorem r_anewarrayC {i : Nat} {z : Int32} (hn : n + 1 = n2) (hk : xKd n = a) (hl : n2 ≤ lim) (hz : ¬ z < 0) (hz2 : z.toNatClampNeg = xLn n) (hz3 : xLn n ≤ 1000) (k : xR xs al rk C lim K ep Q l ls (.ref n :: st) (n2, va_up I n (fun _ => 0), va_up L n (fun _ => 0), va_up F n (fun _ => none))) : xR xs al rk C lim K ep Q ((Instr.anewarray i, (pc, len, a, b), v, w, ts) :: l) ls (.int z :: st) (n, I, L, F) := by
  subst hn
  exact r_anewarray hk hl hz hz2 hz3 k
end
/-- references only ahead of a, in slots ahead of b -/
def sFr (a b : Nat) (F : Nat → Nat → Option Nat) : Prop := ∀ p k, a ≤ p ∨ b ≤ k → F p k = none
theorem sFr_0 {a b : Nat} : sFr a b (fun _ _ => none) := fun _ _ _ => rfl
theorem sFr_put {a b p k : Nat} {v : Option Nat} {F : Nat → Nat → Option Nat} (hp : p < a) (hk : k < b) (h : sFr a b F) : sFr a b (up2 F p k v) := by
  intro q j hj
  unfold up2
  by_cases c : q = p
  · rw [if_pos c, if_neg (by omega)]; exact h q j hj
  · rw [if_neg c]; exact h q j hj
theorem sFr_new {a b p : Nat} {F : Nat → Nat → Option Nat} (h : sFr a b F) : sFr a b (va_up F p (fun _ => none)) := by
  intro q j hj
  unfold va_up
  by_cases c : q = p
  · rw [if_pos c]
  · rw [if_neg c]; exact h q j hj
theorem sFr_eq {a b : Nat} {F G : Nat → Nat → Option Nat} (h1 : sFr a b F) (h2 : sFr a b G) (h : ∀ p, p < a → ∀ k, k < b → F p k = G p k) : F = G := by
  funext p k
  by_cases c : p < a ∧ k < b
  · exact h p c.1 k c.2
  · rw [h1 p k (by omega), h2 p k (by omega)]
theorem xF0L_len : xF0L.length = 82 ∧ ∀ p, p < 82 → (xF0L.getD p []).length ≤ 50 := by decide +kernel
theorem sFr_F0 : sFr 82 50 xF0 := by
  intro p k h
  have e : (xF0L.getD p []).getD k 0 = 0 := by
    rcases Nat.lt_or_ge p 82 with c | c
    · have := xF0L_len.2 p c
      rw [List.getD_eq_getElem?_getD (l := xF0L.getD p []), List.getElem?_eq_none (by omega)]
      rfl
    · rw [List.getD_eq_getElem?_getD (l := xF0L), List.getElem?_eq_none (by rw [xF0L_len.1]; exact c)]
      rfl
  unfold xF0
  rw [e]
theorem sFr_F1 : sFr 61 50 xF1 := by
  intro p k h
  unfold xF1
  by_cases c : p < 61
  · rw [if_pos c]; exact sFr_F0 p k (by omega)
  · rw [if_neg c]
theorem sFr_wide {a b a2 b2 : Nat} {F : Nat → Nat → Option Nat} (h : sFr a b F) (ha : a ≤ a2) (hb : b ≤ b2) : sFr a2 b2 F := fun p k hk => h p k (by omega)
theorem M_ini {xs : xSc} {m i n : Nat} {vs : List Value} {I : Nat → Nat → Int32} {L : Nat → Nat → Int64} {F F2 : Nat → Nat → Option Nat} {Q : Value → xHp → Prop} (P : (Nat → Nat → Int32) → Prop) (hF : F = F2) (hP : P I) (k : ∀ J L2, P J → M xs m i vs (n, J, L2, F2) Q) : M xs m i vs (n, I, L, F) Q := by
  subst hF
  exact k _ _ hP
theorem R_ini {xs : xSc} {m i n lim ep : Nat} {l : List xEl} {ls st : List Value} {I : Nat → Nat → Int32} {L : Nat → Nat → Int64} {F F2 : Nat → Nat → Option Nat} {Q : Value → xHp → Prop} (P : (Nat → Nat → Int32) → Prop) (hF : F = F2) (hP : P I) (k : ∀ J L2, P J → XR xs m i lim ep Q l ls st (n, J, L2, F2)) : XR xs m i lim ep Q l ls st (n, I, L, F) := by
  subst hF
  exact k _ _ hP
/-- the first text -/
def tb0 : Nat → Int32 := fun i => xCh 1000 i
def wTx : W3 := ([-13, 1, -60], [-10], [3])
theorem gT_tb : (gT tb0 37).1 = true ∧ (gT tb0 37).2.2 = wTx := by decide +kernel

set_option maxRecDepth 10000 in
theorem s_laysOut_6 {xs : xSc} {m : Nat} {I : Nat → Nat → Int32} {L : Nat → Nat → Int64} {Q : Value → xHp → Prop} (hm : 6 ≤ m) (h0 : I 29 0 = 0) (hQ : ∀ J, (∀ p, ¬ (p = 29 ∨ p = 32) → J p = I p) → (∀ k, ¬ k = 0 → J 29 k = I 29 k) → J 29 0 = io 37 → (∀ i, i < 37 → J 32 i = xCh 1000 i) → Q .null (Hq J L)) : M xs m xi_X2_laysOut [.ref 29, .ref 1000] (Hq I L) Q := by
  obtain ⟨m, rfl⟩ : ∃ k, m = k + 6 := ⟨m - 6, by omega⟩
  have key : ∀ d i, i + d = 37 → ∀ K : Mem, ((∀ p, ¬ (p = 29 ∨ p = 32) → K p = I p) ∧ (∀ k, ¬ k = 0 → K 29 k = I 29 k) ∧ K 29 0 = io i ∧ ∀ j, j < i → K 32 j = xCh 1000 j) → E xs (m + 5) xi_X2_laysOut 61 Q 2 [.ref 29, .ref 1000, .int (io i)] [] (61, K, L, xF1) := by
    intro d
    induction d using Nat.strongRecOn with
    | _ d ih =>
    intro i hd K hK
    refine E_go 1 rfl ?_
    refine r_iload_n rfl ?_
    refine r_aload_n rfl ?_
    refine r_virtual (vs := []) (as := []) (by decide) (zl rfl) rfl rfl (zl rfl) (Nat.le_refl _) (Or.inr (Or.inl ⟨rfl, (by decide), (by decide)⟩)) ?_
    refine s_length (p := 1000) (by decide) (by omega) ?_
    refine r_icmp_ge (fun c_7 => ?_) (fun c_7 => ?_)
    · have c_7 := (n_le (a := 37) (b := i) rfl rfl (by omega) (by omega)).mp c_7
      refine E_go 2 rfl ?_
      refine r_ret rfl ?_
      have ek : i = 37 := by omega
      subst ek
      exact hQ K hK.1 hK.2.1 hK.2.2.1 hK.2.2.2
    · have c_7 := (not_congr (n_le (a := 37) (b := i) rfl rfl (by omega) (by omega))).mp c_7
      refine r_aload_n rfl ?_
      refine r_aload_n rfl ?_
      refine r_iload_n rfl ?_
      refine r_virtual (vs := []) (as := [_]) (by decide) (zl rfl) rfl rfl (zl rfl) (Nat.le_refl _) (Or.inr (Or.inl ⟨rfl, (by decide), (by decide)⟩)) ?_
      refine s_charAt (p := 1000) (by decide) (by show i < 37; omega) (by omega) ?_
      refine r_virtual (vs := []) (as := [_]) (by decide) (zl rfl) rfl rfl (zl rfl) (Nat.le_refl _) (Or.inr (Or.inr ⟨zt rfl, rfl, zt rfl⟩)) ?_
      refine M_go (ls := [_, _]) (ml := 2) rfl rfl rfl (zl rfl) rfl ?_
      refine r_aload_n rfl ?_
      refine r_getI (by decide) rfl rfl (by decide) hK.2.2.1 ?_
      refine r_sipush ?_
      refine r_icmp_lt (fun c_16_7 => ?_) (fun c_16_7 => ?_)
      · have c_16_7 := (n_lt (a := i) (b := 160) rfl rfl (by omega) (by omega)).mp c_16_7
        refine E_go 1 rfl ?_
        refine r_aload_n rfl ?_
        refine r_getA (q := 32) (by decide) rfl rfl (by decide) ?_
        refine r_aload_n rfl ?_
        refine r_getI (by decide) rfl rfl (by decide) hK.2.2.1 ?_
        refine r_iload_n rfl ?_
        refine r_iastore rfl (by decide) (ixE rfl (show i < 160 by omega) (by decide)) ?_
        refine r_aload_n rfl ?_
        refine r_dup rfl ?_
        refine r_getI (by decide) rfl rfl (by decide) hK.2.2.1 ?_
        refine r_iconst ?_
        refine r_iadd ?_
        refine r_putI rfl rfl (by decide) ?_
        refine r_iconst ?_
        refine r_iret rfl (by first | exact Or.inl rfl | exact Or.inr rfl) ?_
        refine r_pop rfl ?_
        refine r_iincN (y := io (i + 1)) (ls' := [_, _, _]) rfl (zt rfl) (n_add (a := i) (b := 1) rfl rfl) rfl ?_
        refine r_goto ?_
        refine ih (d - 1) (by omega) (i + 1) (by omega) _ ⟨fun p hp => ?_, fun k hk => ?_, ?_, all_succ (fun j hj => ?_) ?_⟩
        · rw [up2_q (by omega), up2_q (by omega)]; exact hK.1 p hp
        · rw [up2_k hk, up2_q (by omega)]; exact hK.2.1 k hk
        · rw [up2_at]; exact n_add (a := i) (b := 1) rfl rfl
        · rw [up2_q (by omega), up2_k (by omega)]; exact hK.2.2.2 j hj
        · rw [up2_q (by omega), up2_at]
      · have c_16_7 := (not_congr (n_lt (a := i) (b := 160) rfl rfl (by omega) (by omega))).mp c_16_7
        omega
  refine M_go (ls := [_, _, _]) (ml := 3) rfl rfl rfl (zl rfl) rfl ?_
  refine r_iconst ?_
  refine r_istore_n (ls' := [_, _, _]) (zt rfl) rfl ?_
  refine r_nil ?_
  exact key 37 0 (by omega) I ⟨fun _ _ => rfl, fun _ _ => rfl, h0, fun j hj => absurd hj (by omega)⟩

set_option maxRecDepth 10000 in
theorem s_ctext {xs : xSc} {m : Nat} {I : Nat → Nat → Int32} {L : Nat → Nat → Int64} {Q : Value → xHp → Prop} (hm : 50 ≤ m) (h7 : I 0 7 = io 0) (hp : I 29 0 = io 37) (hb : ∀ i, i < 37 → I 32 i = xCh 1000 i) (hQ : ∀ J, (∀ p, ¬ (p = 0 ∨ (29 ≤ p ∧ p ≤ 31) ∨ p = 36 ∨ p = 37) → J p = I p) → (∀ k, ¬ k = 7 → J 0 k = I 0 k) → J 0 7 = 1 → J 29 0 = 0 → cTx 0 J wTx → Q (.int (io 0)) (Hq J L)) : M xs m xi_X6_text [.ref 0] (Hq I L) Q := by
  obtain ⟨m, rfl⟩ : ∃ k, m = k + 6 := ⟨m - 6, by omega⟩
  have ht : 0 < 6 := by omega
  have h160 : 37 ≤ 160 := by omega
  have eg : (gT (I 32) 37).1 = true ∧ (gT (I 32) 37).2.2 = wTx := by
    rw [gT_c (b2 := tb0) hb]
    exact gT_tb
  refine M_go (ls := [_, _]) (ml := 2) rfl rfl rfl (zl rfl) rfl ?_
  refine r_aload_n rfl ?_
  refine r_getI (by decide) rfl rfl (by decide) h7 ?_
  refine r_bipush ?_
  refine r_icmp_lt (fun c_6 => ?_) (fun c_6 => ?_)
  · have c_6 := (n_lt (a := 0) (b := 6) rfl rfl (by omega) (by omega)).mp c_6
    refine E_go 1 rfl ?_
    refine r_aload_n rfl ?_
    refine r_getA (q := 29) (by decide) rfl rfl (by decide) ?_
    refine r_virtual (vs := []) (as := []) (by decide) (zl rfl) rfl rfl (zl rfl) (Nat.le_refl _) (Or.inr (Or.inr ⟨zt rfl, rfl, zt rfl⟩)) ?_
    refine s_readsTape_6 (by omega) hp h160 (fun J f1 g e1 e2 => ?_) (fun J f1 g => absurd eg.1 g)
    refine r_istore_n (ls' := [_, _]) (zt rfl) rfl ?_
    refine r_aload_n rfl ?_
    refine r_getA (q := 29) (by decide) rfl rfl (by decide) ?_
    refine r_iconst ?_
    refine r_putI rfl rfl (by decide) ?_
    refine r_iload_n rfl ?_
    refine r_iconst ?_
    refine r_icmp_eq (fun c_30 => ?_) (fun c_30 => ?_)
    · refine E_go 2 rfl ?_
      refine r_aload_n rfl ?_
      refine r_getA (q := 33) (by decide) rfl rfl (by decide) ?_
      refine r_aload_n rfl ?_
      refine r_getI (by decide) rfl rfl (by decide) ((congrFun (f1.1 0 (by omega)) 7).trans h7) ?_
      refine r_aaload (by decide) (by decide) (ixE rfl (show 0 < 6 by omega) (by decide)) (txK_6 0 ht).2.2.1 ?_
      refine r_aload_n rfl ?_
      refine r_getA (q := 29) (by decide) rfl rfl (by decide) ?_
      refine r_getA (q := 30) (by decide) rfl rfl (by decide) ?_
      refine r_aload_n rfl ?_
      refine r_getA (q := 29) (by decide) rfl rfl (by decide) ?_
      refine r_getA (q := 31) (by decide) rfl rfl (by decide) ?_
      refine r_virtual (vs := []) (as := [_, _]) (by decide) (zl rfl) rfl rfl (zl rfl) (Nat.le_refl _) (Or.inr (Or.inr ⟨zt rfl, (txK_6 0 ht).1, (txK_6 0 ht).2.1⟩)) ?_
      refine s_txBecomes_6 (by omega) ht (fun J2 j1 j2 j3 => ?_)
      refine r_aload_n rfl ?_
      refine r_dup rfl ?_
      refine r_getI (by decide) rfl rfl (by decide) ((congrFun (j1 0 (by omega)) 7).trans ((congrFun (f1.1 0 (by omega)) 7).trans h7)) ?_
      refine r_dup_x1 rfl rfl ?_
      refine r_iconst ?_
      refine r_iadd ?_
      refine r_putI rfl rfl (by decide) ?_
      refine r_iret rfl trivial ?_
      refine hQ _ (fun p hp => ?_) (fun k hk => ?_) ?_ ?_ ⟨⟨?_, ?_, ?_, ?_⟩, fun j hj => ?_⟩
      · rw [up2_q (by omega), j1 p (by omega), up2_q (by omega), f1.1 p (by omega)]
      · rw [up2_k hk, j1 0 (by omega), up2_q (by omega), f1.1 0 (by omega)]
      · exact up2_at
      · rw [up2_q (by omega), j1 29 (by omega), up2_at]
      · decide
      · rw [show tq 0 + 2 = 37 + 3 * 0 from rfl, up2_q (by omega), j3 0 (by omega), up2_q (by omega), e1.2.1, eg.2]
      · rw [show tq 0 + 2 = 37 + 3 * 0 from rfl, up2_q (by omega), j3 1 (by omega), up2_q (by omega), e1.2.2.1, eg.2]
      · rw [show tq 0 + 2 = 37 + 3 * 0 from rfl, up2_q (by omega), j3 2 (by omega), up2_q (by omega), e1.2.2.2, eg.2]
      · have hj5 : j < 5 := hj
        rw [show tq 0 + 1 = 36 + 3 * 0 from rfl, up2_q (by omega), j2 j (by omega), up2_q (by omega), e2 j (by rw [eg.2]; exact hj), eg.2]
    · exact absurd rfl c_30
  · have c_6 := (not_congr (n_lt (a := 0) (b := 6) rfl rfl (by omega) (by omega))).mp c_6
    omega
