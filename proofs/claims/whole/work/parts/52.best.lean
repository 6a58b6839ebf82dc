/-! tables laid over, shares by a plan, the best plan -/

theorem cpy5 {f g : Nat → Int32} {a : Nat} (h : a < 5) : va_cpy f g (Int32.toNatClampNeg 0) (Int32.toNatClampNeg 0) (Int32.toNatClampNeg 5) a = f a := by
  show (if 0 ≤ a ∧ a < 0 + 5 then f (0 + (a - 0)) else g a) = f a
  rw [if_pos ⟨Nat.zero_le _, by omega⟩, Nat.zero_add, Nat.sub_zero]
/-- table q is laid over table p -/
def bec (p q : Nat) (I J : Nat → Nat → Int32) : Prop := oF p (p + 5) I J ∧ (J p 0 = I q 0 ∧ J p 1 = I q 1 ∧ J p 2 = I q 2 ∧ J p 3 = I q 3) ∧ ∀ a, a < 5 → (J (p + 1) a = I (q + 1) a ∧ J (p + 2) a = I (q + 2) a) ∧ J (p + 3) a = I (q + 3) a ∧ J (p + 4) a = I (q + 4) a ∧ J (p + 5) a = I (q + 5) a
theorem va_u {f : Nat → Nat → Int32} {k j : Nat} {v : Nat → Int32} (h : ¬ j = k) : va_up f k v j = f j := va_up_ne f v h

set_option maxRecDepth 10000 in
theorem s_becomes_13_1 {xs : xSc} {m : Nat} {I : Nat → Nat → Int32} {L : Nat → Nat → Int64} {Q : Value → xHp → Prop} (hm : 1 ≤ m) (hQ : ∀ J, bec 13 1 I J → Q .null (Hp J L)) : M xs m xi_X4_becomes [.ref 13, .ref 1] (Hp I L) Q := by
  obtain ⟨m, rfl⟩ : ∃ k, m = k + 1 := ⟨m - 1, by omega⟩
  refine M_go (ls := [_, _]) (ml := 2) rfl rfl rfl (zl rfl) rfl ?_
  refine r_aload_n rfl ?_
  refine r_aload_n rfl ?_
  refine r_getI (by decide) rfl rfl (by decide) rfl ?_
  refine r_putI rfl rfl (by decide) ?_
  refine r_aload_n rfl ?_
  refine r_aload_n rfl ?_
  refine r_getI (by decide) rfl rfl (by decide) rfl ?_
  refine r_putI rfl rfl (by decide) ?_
  refine r_aload_n rfl ?_
  refine r_aload_n rfl ?_
  refine r_getI (by decide) rfl rfl (by decide) rfl ?_
  refine r_putI rfl rfl (by decide) ?_
  refine r_aload_n rfl ?_
  refine r_aload_n rfl ?_
  refine r_getI (by decide) rfl rfl (by decide) rfl ?_
  refine r_putI rfl rfl (by decide) ?_
  refine r_aload_n rfl ?_
  refine r_getA (q := 2) (by decide) rfl rfl (by decide) ?_
  refine r_iconst ?_
  refine r_aload_n rfl ?_
  refine r_getA (q := 14) (by decide) rfl rfl (by decide) ?_
  refine r_iconst ?_
  refine r_iconst ?_
  refine r_copy rfl ⟨rfl, rfl, (by decide), (by decide)⟩ (by decide) (by decide) (by decide) (zl rfl) ?_
  refine r_aload_n rfl ?_
  refine r_getA (q := 3) (by decide) rfl rfl (by decide) ?_
  refine r_iconst ?_
  refine r_aload_n rfl ?_
  refine r_getA (q := 15) (by decide) rfl rfl (by decide) ?_
  refine r_iconst ?_
  refine r_iconst ?_
  refine r_copy rfl ⟨rfl, rfl, (by decide), (by decide)⟩ (by decide) (by decide) (by decide) (zl rfl) ?_
  refine r_aload_n rfl ?_
  refine r_getA (q := 4) (by decide) rfl rfl (by decide) ?_
  refine r_iconst ?_
  refine r_aload_n rfl ?_
  refine r_getA (q := 16) (by decide) rfl rfl (by decide) ?_
  refine r_iconst ?_
  refine r_iconst ?_
  refine r_copy rfl ⟨rfl, rfl, (by decide), (by decide)⟩ (by decide) (by decide) (by decide) (zl rfl) ?_
  refine r_aload_n rfl ?_
  refine r_getA (q := 5) (by decide) rfl rfl (by decide) ?_
  refine r_iconst ?_
  refine r_aload_n rfl ?_
  refine r_getA (q := 17) (by decide) rfl rfl (by decide) ?_
  refine r_iconst ?_
  refine r_iconst ?_
  refine r_copy rfl ⟨rfl, rfl, (by decide), (by decide)⟩ (by decide) (by decide) (by decide) (zl rfl) ?_
  refine r_aload_n rfl ?_
  refine r_getA (q := 6) (by decide) rfl rfl (by decide) ?_
  refine r_iconst ?_
  refine r_aload_n rfl ?_
  refine r_getA (q := 18) (by decide) rfl rfl (by decide) ?_
  refine r_iconst ?_
  refine r_iconst ?_
  refine r_copy rfl ⟨rfl, rfl, (by decide), (by decide)⟩ (by decide) (by decide) (by decide) (zl rfl) ?_
  refine r_ret rfl ?_
  refine hQ _ ⟨fun r hr => ?_, ⟨rfl, rfl, rfl, rfl⟩, fun a ha => ⟨⟨cpy5 ha, cpy5 ha⟩, cpy5 ha, cpy5 ha, cpy5 ha⟩⟩
  rw [va_u (by omega), va_u (by omega), va_u (by omega), va_u (by omega), va_u (by omega), up2_q (by omega), up2_q (by omega), up2_q (by omega), up2_q (by omega)]

set_option maxRecDepth 10000 in
theorem s_becomes_7_1 {xs : xSc} {m : Nat} {I : Nat → Nat → Int32} {L : Nat → Nat → Int64} {Q : Value → xHp → Prop} (hm : 1 ≤ m) (hQ : ∀ J, bec 7 1 I J → Q .null (Hp J L)) : M xs m xi_X4_becomes [.ref 7, .ref 1] (Hp I L) Q := by
  obtain ⟨m, rfl⟩ : ∃ k, m = k + 1 := ⟨m - 1, by omega⟩
  refine M_go (ls := [_, _]) (ml := 2) rfl rfl rfl (zl rfl) rfl ?_
  refine r_aload_n rfl ?_
  refine r_aload_n rfl ?_
  refine r_getI (by decide) rfl rfl (by decide) rfl ?_
  refine r_putI rfl rfl (by decide) ?_
  refine r_aload_n rfl ?_
  refine r_aload_n rfl ?_
  refine r_getI (by decide) rfl rfl (by decide) rfl ?_
  refine r_putI rfl rfl (by decide) ?_
  refine r_aload_n rfl ?_
  refine r_aload_n rfl ?_
  refine r_getI (by decide) rfl rfl (by decide) rfl ?_
  refine r_putI rfl rfl (by decide) ?_
  refine r_aload_n rfl ?_
  refine r_aload_n rfl ?_
  refine r_getI (by decide) rfl rfl (by decide) rfl ?_
  refine r_putI rfl rfl (by decide) ?_
  refine r_aload_n rfl ?_
  refine r_getA (q := 2) (by decide) rfl rfl (by decide) ?_
  refine r_iconst ?_
  refine r_aload_n rfl ?_
  refine r_getA (q := 8) (by decide) rfl rfl (by decide) ?_
  refine r_iconst ?_
  refine r_iconst ?_
  refine r_copy rfl ⟨rfl, rfl, (by decide), (by decide)⟩ (by decide) (by decide) (by decide) (zl rfl) ?_
  refine r_aload_n rfl ?_
  refine r_getA (q := 3) (by decide) rfl rfl (by decide) ?_
  refine r_iconst ?_
  refine r_aload_n rfl ?_
  refine r_getA (q := 9) (by decide) rfl rfl (by decide) ?_
  refine r_iconst ?_
  refine r_iconst ?_
  refine r_copy rfl ⟨rfl, rfl, (by decide), (by decide)⟩ (by decide) (by decide) (by decide) (zl rfl) ?_
  refine r_aload_n rfl ?_
  refine r_getA (q := 4) (by decide) rfl rfl (by decide) ?_
  refine r_iconst ?_
  refine r_aload_n rfl ?_
  refine r_getA (q := 10) (by decide) rfl rfl (by decide) ?_
  refine r_iconst ?_
  refine r_iconst ?_
  refine r_copy rfl ⟨rfl, rfl, (by decide), (by decide)⟩ (by decide) (by decide) (by decide) (zl rfl) ?_
  refine r_aload_n rfl ?_
  refine r_getA (q := 5) (by decide) rfl rfl (by decide) ?_
  refine r_iconst ?_
  refine r_aload_n rfl ?_
  refine r_getA (q := 11) (by decide) rfl rfl (by decide) ?_
  refine r_iconst ?_
  refine r_iconst ?_
  refine r_copy rfl ⟨rfl, rfl, (by decide), (by decide)⟩ (by decide) (by decide) (by decide) (zl rfl) ?_
  refine r_aload_n rfl ?_
  refine r_getA (q := 6) (by decide) rfl rfl (by decide) ?_
  refine r_iconst ?_
  refine r_aload_n rfl ?_
  refine r_getA (q := 12) (by decide) rfl rfl (by decide) ?_
  refine r_iconst ?_
  refine r_iconst ?_
  refine r_copy rfl ⟨rfl, rfl, (by decide), (by decide)⟩ (by decide) (by decide) (by decide) (zl rfl) ?_
  refine r_ret rfl ?_
  refine hQ _ ⟨fun r hr => ?_, ⟨rfl, rfl, rfl, rfl⟩, fun a ha => ⟨⟨cpy5 ha, cpy5 ha⟩, cpy5 ha, cpy5 ha, cpy5 ha⟩⟩
  rw [va_u (by omega), va_u (by omega), va_u (by omega), va_u (by omega), va_u (by omega), up2_q (by omega), up2_q (by omega), up2_q (by omega), up2_q (by omega)]

set_option maxRecDepth 10000 in
theorem s_becomes_1_7 {xs : xSc} {m : Nat} {I : Nat → Nat → Int32} {L : Nat → Nat → Int64} {Q : Value → xHp → Prop} (hm : 1 ≤ m) (hQ : ∀ J, bec 1 7 I J → Q .null (Hp J L)) : M xs m xi_X4_becomes [.ref 1, .ref 7] (Hp I L) Q := by
  obtain ⟨m, rfl⟩ : ∃ k, m = k + 1 := ⟨m - 1, by omega⟩
  refine M_go (ls := [_, _]) (ml := 2) rfl rfl rfl (zl rfl) rfl ?_
  refine r_aload_n rfl ?_
  refine r_aload_n rfl ?_
  refine r_getI (by decide) rfl rfl (by decide) rfl ?_
  refine r_putI rfl rfl (by decide) ?_
  refine r_aload_n rfl ?_
  refine r_aload_n rfl ?_
  refine r_getI (by decide) rfl rfl (by decide) rfl ?_
  refine r_putI rfl rfl (by decide) ?_
  refine r_aload_n rfl ?_
  refine r_aload_n rfl ?_
  refine r_getI (by decide) rfl rfl (by decide) rfl ?_
  refine r_putI rfl rfl (by decide) ?_
  refine r_aload_n rfl ?_
  refine r_aload_n rfl ?_
  refine r_getI (by decide) rfl rfl (by decide) rfl ?_
  refine r_putI rfl rfl (by decide) ?_
  refine r_aload_n rfl ?_
  refine r_getA (q := 8) (by decide) rfl rfl (by decide) ?_
  refine r_iconst ?_
  refine r_aload_n rfl ?_
  refine r_getA (q := 2) (by decide) rfl rfl (by decide) ?_
  refine r_iconst ?_
  refine r_iconst ?_
  refine r_copy rfl ⟨rfl, rfl, (by decide), (by decide)⟩ (by decide) (by decide) (by decide) (zl rfl) ?_
  refine r_aload_n rfl ?_
  refine r_getA (q := 9) (by decide) rfl rfl (by decide) ?_
  refine r_iconst ?_
  refine r_aload_n rfl ?_
  refine r_getA (q := 3) (by decide) rfl rfl (by decide) ?_
  refine r_iconst ?_
  refine r_iconst ?_
  refine r_copy rfl ⟨rfl, rfl, (by decide), (by decide)⟩ (by decide) (by decide) (by decide) (zl rfl) ?_
  refine r_aload_n rfl ?_
  refine r_getA (q := 10) (by decide) rfl rfl (by decide) ?_
  refine r_iconst ?_
  refine r_aload_n rfl ?_
  refine r_getA (q := 4) (by decide) rfl rfl (by decide) ?_
  refine r_iconst ?_
  refine r_iconst ?_
  refine r_copy rfl ⟨rfl, rfl, (by decide), (by decide)⟩ (by decide) (by decide) (by decide) (zl rfl) ?_
  refine r_aload_n rfl ?_
  refine r_getA (q := 11) (by decide) rfl rfl (by decide) ?_
  refine r_iconst ?_
  refine r_aload_n rfl ?_
  refine r_getA (q := 5) (by decide) rfl rfl (by decide) ?_
  refine r_iconst ?_
  refine r_iconst ?_
  refine r_copy rfl ⟨rfl, rfl, (by decide), (by decide)⟩ (by decide) (by decide) (by decide) (zl rfl) ?_
  refine r_aload_n rfl ?_
  refine r_getA (q := 12) (by decide) rfl rfl (by decide) ?_
  refine r_iconst ?_
  refine r_aload_n rfl ?_
  refine r_getA (q := 6) (by decide) rfl rfl (by decide) ?_
  refine r_iconst ?_
  refine r_iconst ?_
  refine r_copy rfl ⟨rfl, rfl, (by decide), (by decide)⟩ (by decide) (by decide) (by decide) (zl rfl) ?_
  refine r_ret rfl ?_
  refine hQ _ ⟨fun r hr => ?_, ⟨rfl, rfl, rfl, rfl⟩, fun a ha => ⟨⟨cpy5 ha, cpy5 ha⟩, cpy5 ha, cpy5 ha, cpy5 ha⟩⟩
  rw [va_u (by omega), va_u (by omega), va_u (by omega), va_u (by omega), va_u (by omega), up2_q (by omega), up2_q (by omega), up2_q (by omega), up2_q (by omega)]

theorem bec_P {n : Nat} {I J : Nat → Nat → Int32} (h : bec 13 1 I J) (h5 : n ≤ 5) : pEq (cP 13 n J) (pX n I) := ⟨h.2.1.1, rfl, fun a ha => by
  obtain ⟨⟨i1, i2⟩, i3, i4, i5⟩ := h.2.2 a (Nat.lt_of_lt_of_le ha h5)
  exact ⟨⟨i1, i2⟩, i3, i4⟩⟩

set_option maxRecDepth 10000 in
theorem s_shareBy {xs : xSc} {m : Nat} {I : Nat → Nat → Int32} {L : Nat → Nat → Int64} {Q : Value → xHp → Prop} (hm : 7 ≤ m) {n r a : Nat} {ru : Ru} {v : Int32} (ha : a < n) (h : CC n r ru I) (hQ : ∀ J, oF 13 28 I J → Q (.int (shr ru (wP (pX n I) a v) a)) (Hp J L)) : M xs m xi_X6_shareBy [.ref 0, .int (io a), .int v] (Hp I L) Q := by
  obtain ⟨m, rfl⟩ : ∃ k, m = k + 1 := ⟨m - 1, by omega⟩
  have ha5 := h.1.2.1
  refine M_go (ls := [_, _, _]) (ml := 3) rfl rfl rfl (zl rfl) rfl ?_
  refine r_aload_n rfl ?_
  refine r_getA (q := 13) (by decide) rfl rfl (by decide) ?_
  refine r_aload_n rfl ?_
  refine r_getA (q := 1) (by decide) rfl rfl (by decide) ?_
  refine r_virtual (vs := []) (as := [_]) (by decide) (zl rfl) rfl rfl (zl rfl) (Nat.le_refl _) (Or.inr (Or.inr ⟨zt rfl, rfl, zt rfl⟩)) ?_
  refine s_becomes_13_1 (by omega) (fun J1 b1 => ?_)
  refine r_aload_n rfl ?_
  refine r_getA (q := 13) (by decide) rfl rfl (by decide) ?_
  refine r_getA (q := 17) (by decide) rfl rfl (by decide) ?_
  refine r_iload_n rfl ?_
  refine r_iload_n rfl ?_
  refine r_iastore rfl (by decide) (ixE rfl (show a < 5 by omega) (by decide)) ?_
  refine r_aload_n rfl ?_
  refine r_aload_n rfl ?_
  refine r_getA (q := 13) (by decide) rfl rfl (by decide) ?_
  refine r_virtual (vs := []) (as := [_]) (by decide) (zl rfl) rfl rfl (zl rfl) (Nat.le_refl _) (Or.inr (Or.inr ⟨zt rfl, rfl, zt rfl⟩)) ?_
  refine w_thought (by omega) (n := n) (r := r) (ru := ru) (X := wP (pX n I) a v) (b1.2.1.2.2.2.trans h.1.1) h.1.2.1 (b1.2.1.2.2.1.trans h.1.2.2.1) h.1.2.2.2 ?_ ?_ (fun J2 k1 k2 => ?_)
  · obtain ⟨c, c1, c2⟩ := h.2
    have := tq_b h.1.2.2.2
    exact ⟨c, cTx_s (by rw [up2_q (by omega), b1.1 _ (by omega)]) (by rw [up2_q (by omega), b1.1 _ (by omega)]) c1, c2⟩
  · refine pEq.trans (Y := wP (cP 13 n J1) a v) ⟨rfl, rfl, fun b hb => ⟨⟨rfl, rfl⟩, rfl, ?_⟩⟩ (wP_c (bec_P b1 h.1.2.1) a v)
    show up2 J1 17 a v 17 b = u1 (J1 17) a v b
    rw [up2_p]
  refine r_aload_n rfl ?_
  refine r_getA (q := 19) (by decide) rfl rfl (by decide) ?_
  refine r_getA (q := 22) (by decide) rfl rfl (by decide) ?_
  refine r_iload_n rfl ?_
  refine r_iaload (by decide) rfl (by decide) (ixE rfl (show a < 5 by omega) (by decide)) (hD_j k2 ha) ?_
  refine r_iret rfl trivial ?_
  exact hQ _ (((b1.1.wide (by omega) (by omega)).up (by omega) (by omega)).trans (k1.wide (by omega) (by omega)))

/-- the best of 0 .. k, and how good -/
def bst (f : Nat → Int32) : Nat → Nat × Int32
  | 0 => (0, f 0)
  | k + 1 => if (bst f k).2 < f (k + 1) then (k + 1, f (k + 1)) else bst f k
theorem bst_2 (f : Nat → Int32) : ∀ k, (bst f k).2 = f (bst f k).1
  | 0 => rfl
  | k + 1 => by
    rw [bst]
    split
    · rfl
    · exact bst_2 f k
theorem bst_le (f : Nat → Int32) : ∀ k, (bst f k).1 ≤ k
  | 0 => Nat.le_refl _
  | k + 1 => by
    rw [bst]
    split
    · exact Nat.le_refl _
    · exact Nat.le_succ_of_le (bst_le f k)
/-- one's share by plan v -/
def shv (ru : Ru) (X : Pot) (a : Nat) : Nat → Int32 := fun v => shr ru (wP X a (io v)) a
theorem shv_c {ru : Ru} {X Y : Pot} (h : pEq X Y) (a : Nat) : shv ru X a = shv ru Y a := funext fun v => shr_c (wP_c h a _) a

set_option maxRecDepth 10000 in
theorem s_bestPlan {xs : xSc} {m : Nat} {I : Nat → Nat → Int32} {L : Nat → Nat → Int64} {Q : Value → xHp → Prop} (hm : 8 ≤ m) {n r a : Nat} {ru : Ru} (ha : a < n) (h : CC n r ru I) (hQ : ∀ J, fS I J → Q (.int (io (bst (shv ru (pX n I) a) 63).1)) (Hp J L)) : M xs m xi_X6_bestPlan [.ref 0, .int (io a)] (Hp I L) Q := by
  obtain ⟨m, rfl⟩ : ∃ k, m = k + 1 := ⟨m - 1, by omega⟩
  have key : ∀ d k, k + d = 63 → ∀ J x5, fS I J → E xs m xi_X6_bestPlan 82 Q 12 [.ref 0, .int (io a), .int (io (bst (shv ru (pX n I) a) k).1), .int (bst (shv ru (pX n I) a) k).2, .int (io (k + 1)), x5] [] (82, J, L, xF0) := by
    intro d
    induction d using Nat.strongRecOn with
    | _ d ih =>
    intro k hd J x5 hJ
    refine E_go 1 rfl ?_
    refine r_iload rfl ?_
    refine r_bipush ?_
    refine r_icmp_ge (fun c_16 => ?_) (fun c_16 => ?_)
    · have c_16 := (n_le (a := 64) (b := (k + 1)) rfl rfl (by omega) (by omega)).mp c_16
      refine E_go 3 rfl ?_
      refine r_iload_n rfl ?_
      refine r_iret rfl trivial ?_
      have e : k = 63 := by omega
      subst e
      exact hQ _ hJ
    · have c_16 := (not_congr (n_le (a := 64) (b := (k + 1)) rfl rfl (by omega) (by omega))).mp c_16
      refine r_aload_n rfl ?_
      refine r_iload_n rfl ?_
      refine r_iload rfl ?_
      refine r_virtual (vs := []) (as := [_, _]) (by decide) (zl rfl) rfl rfl (zl rfl) (Nat.le_refl _) (Or.inr (Or.inr ⟨zt rfl, rfl, zt rfl⟩)) ?_
      refine s_shareBy (v := io (k + 1)) (by omega) ha (h.f hJ) (fun J2 k2 => ?_)
      rw [hJ.pe]
      refine r_istore (ls' := [_, _, _, _, _, _]) (zt rfl) rfl ?_
      refine r_iload rfl ?_
      refine r_iload_n rfl ?_
      refine r_icmp_le (fun c_31 => ?_) (fun c_31 => ?_)
      · refine E_go 2 rfl ?_
        refine r_iincN (y := io ((k + 1) + 1)) (ls' := [_, _, _, _, _, _]) rfl (zt rfl) (n_add (a := (k + 1)) (b := 1) rfl rfl) rfl ?_
        refine r_goto ?_
        have e : bst (shv ru (pX n I) a) (k + 1) = bst (shv ru (pX n I) a) k := if_neg (Int32.not_lt.mpr c_31)
        have hx := ih (d - 1) (by omega) (k + 1) (by omega) J2 (.int ((shv ru (pX n I) a) (k + 1))) (hJ.trans (k2.fS (by omega) (by omega)))
        rw [e] at hx
        exact hx
      · refine r_iload rfl ?_
        refine r_istore_n (ls' := [_, _, _, _, _, _]) (zt rfl) rfl ?_
        refine r_iload rfl ?_
        refine r_istore_n (ls' := [_, _, _, _, _, _]) (zt rfl) rfl ?_
        refine r_nil ?_
        refine E_go 2 rfl ?_
        refine r_iincN (y := io ((k + 1) + 1)) (ls' := [_, _, _, _, _, _]) rfl (zt rfl) (n_add (a := (k + 1)) (b := 1) rfl rfl) rfl ?_
        refine r_goto ?_
        have e : bst (shv ru (pX n I) a) (k + 1) = (k + 1, (shv ru (pX n I) a) (k + 1)) := if_pos (Int32.not_le.mp c_31)
        have hx := ih (d - 1) (by omega) (k + 1) (by omega) J2 (.int ((shv ru (pX n I) a) (k + 1))) (hJ.trans (k2.fS (by omega) (by omega)))
        rw [e] at hx
        exact hx
  refine M_go (ls := [_, _, _, _, _, _]) (ml := 6) rfl rfl rfl (zl rfl) rfl ?_
  refine r_iconst ?_
  refine r_istore_n (ls' := [_, _, _, _, _, _]) (zt rfl) rfl ?_
  refine r_aload_n rfl ?_
  refine r_iload_n rfl ?_
  refine r_iconst ?_
  refine r_virtual (vs := []) (as := [_, _]) (by decide) (zl rfl) rfl rfl (zl rfl) (Nat.le_refl _) (Or.inr (Or.inr ⟨zt rfl, rfl, zt rfl⟩)) ?_
  refine s_shareBy (v := io 0) (by omega) ha h (fun J hJ => ?_)
  refine r_istore_n (ls' := [_, _, _, _, _, _]) (zt rfl) rfl ?_
  refine r_iconst ?_
  refine r_istore (ls' := [_, _, _, _, _, _]) (zt rfl) rfl ?_
  refine r_nil ?_
  exact key 63 0 rfl J _ (hJ.fS (by omega) (by omega))

set_option maxRecDepth 10000 in
theorem s_wouldRather {xs : xSc} {m : Nat} {I : Nat → Nat → Int32} {L : Nat → Nat → Int64} {Q : Value → xHp → Prop} (hm : 8 ≤ m) {n r a : Nat} {ru : Ru} {v : Int32} (ha : a < n) (h : CC n r ru I) (hQ : ∀ J, fS I J → Q (.int (if shr ru (pX n I) a < shr ru (wP (pX n I) a v) a then 1 else 0)) (Hp J L)) : M xs m xi_X6_wouldRather [.ref 0, .int (io a), .int v] (Hp I L) Q := by
  obtain ⟨m, rfl⟩ : ∃ k, m = k + 1 := ⟨m - 1, by omega⟩
  have ha5 := h.1.2.1
  refine M_go (ls := [_, _, _]) (ml := 3) rfl rfl rfl (zl rfl) rfl ?_
  refine r_aload_n rfl ?_
  refine r_iload_n rfl ?_
  refine r_iload_n rfl ?_
  refine r_virtual (vs := []) (as := [_, _]) (by decide) (zl rfl) rfl rfl (zl rfl) (Nat.le_refl _) (Or.inr (Or.inr ⟨zt rfl, rfl, zt rfl⟩)) ?_
  refine s_shareBy (by omega) ha h (fun J1 k1 => ?_)
  have f1 := k1.fS (by omega) (by omega)
  refine r_aload_n rfl ?_
  refine r_iload_n rfl ?_
  refine r_aload_n rfl ?_
  refine r_getA (q := 1) (by decide) rfl rfl (by decide) ?_
  refine r_getA (q := 5) (by decide) rfl rfl (by decide) ?_
  refine r_iload_n rfl ?_
  refine r_iaload (by decide) rfl (by decide) (ixE rfl (show a < 5 by omega) (by decide)) (congrFun (f1.1 5 (by omega)) a) ?_
  refine r_virtual (vs := []) (as := [_, _]) (by decide) (zl rfl) rfl rfl (zl rfl) (Nat.le_refl _) (Or.inr (Or.inr ⟨zt rfl, rfl, zt rfl⟩)) ?_
  refine s_shareBy (by omega) ha (h.f f1) (fun J2 k2 => ?_)
  rw [f1.pe, show shr ru (wP (pX n I) a (I 5 a)) a = shr ru (pX n I) a from shr_c wP_self a]
  refine r_icmp_le (fun c_20 => ?_) (fun c_20 => ?_)
  · refine E_go 1 rfl ?_
    refine r_iconst ?_
    refine r_nil ?_
    refine E_go 2 rfl ?_
    refine r_iret rfl (by first | exact Or.inl rfl | exact Or.inr rfl) ?_
    refine qb (hQ _ (f1.trans (k2.fS (by omega) (by omega)))) ?_
    first
    | exact Or.inl ⟨Int32.not_le.mp c_20, rfl⟩
    | exact Or.inr ⟨Int32.not_lt.mpr c_20, rfl⟩
  · refine r_iconst ?_
    refine r_goto ?_
    refine E_go 2 rfl ?_
    refine r_iret rfl (by first | exact Or.inl rfl | exact Or.inr rfl) ?_
    refine qb (hQ _ (f1.trans (k2.fS (by omega) (by omega)))) ?_
    first
    | exact Or.inl ⟨Int32.not_le.mp c_20, rfl⟩
    | exact Or.inr ⟨Int32.not_lt.mpr c_20, rfl⟩

theorem up2_up2 {I : Nat → Nat → Int32} {p k : Nat} {v w : Int32} : up2 (up2 I p k v) p k w = up2 I p k w := by
  funext a b
  unfold up2
  by_cases c : a = p
  · by_cases d : b = k
    · simp [c, d]
    · simp [c, d]
  · simp [c]
theorem up2_self {I : Nat → Nat → Int32} {p k : Nat} : up2 I p k (I p k) = I := by
  funext a b
  unfold up2
  by_cases c : a = p
  · by_cases d : b = k
    · simp [c, d]
    · simp [c, d]
  · simp [c]
theorem fS.row {k : Nat} {v : Int32} {I J : Nat → Nat → Int32} (h : fS I J) : fS (up2 I 66 k v) (up2 J 66 k v) := by
  refine ⟨fun q hq => ?_, ?_, fun j hj => ?_⟩
  · by_cases c : q = 66
    · subst c
      rw [up2_p, up2_p, h.1 66 (by omega)]
    · rw [up2_q c, up2_q c, h.1 q hq]
  · rw [up2_q (by omega), up2_q (by omega), h.2.1]
  · rw [up2_q (by omega), up2_q (by omega), h.2.2 j hj]
theorem mP_plan {n a : Nat} {h v : Int32} {I : Nat → Nat → Int32} : pEq (mP n h (up2 I 66 (3 * a + 2) v)) (wP (mP n h I) a v) := by
  refine ⟨rfl, rfl, fun b hb => ⟨⟨rfl, ?_⟩, ?_, ?_⟩⟩
  · show up2 I 66 (3 * a + 2) v 66 (3 * b) = I 66 (3 * b)
    rw [up2_k (by omega)]
  · show up2 I 66 (3 * a + 2) v 66 (3 * b + 1) = I 66 (3 * b + 1)
    rw [up2_k (by omega)]
  · show up2 I 66 (3 * a + 2) v 66 (3 * b + 2) = u1 (mPl I) a v b
    by_cases c : b = a
    · subst c; rw [up2_at, u1_eq]
    · rw [up2_k (by omega), u1_ne c]; rfl
theorem mP_f {n : Nat} {h : Int32} {I J : Nat → Nat → Int32} (f : fS I J) : mP n h J = mP n h I := by
  unfold mP
  rw [f.1 65 (by omega), mNu_g (f.1 66 (by omega)), mTh_g (f.1 66 (by omega)), mPl_g (f.1 66 (by omega))]

set_option maxRecDepth 10000 in
theorem s_seeks {xs : xSc} {m : Nat} {I : Nat → Nat → Int32} {L : Nat → Nat → Int64} {Q : Value → xHp → Prop} (hm : 66 ≤ m) {n r a : Nat} {ru : Ru} {X : Pot} (ha : a < n) (h : MC n r ru I) (hX : pEq (mP n (I 61 7) I) X) (ho : okX X) (hQ : ∀ J L2, fS I J → J 61 36 = io (bst (shv ru X a) 63).1 → J 61 37 = (bst (shv ru X a) 63).2 → Q .null (Hp J L2)) : M xs m xi_X7_seeks [.ref 61, .int (io a)] (Hp I L) Q := by
  obtain ⟨m, rfl⟩ : ∃ k, m = k + 1 := ⟨m - 1, by omega⟩
  have ha5 := h.1.2.1
  have key : ∀ d v, v + d = 64 → ∀ J L2 x4 x, fS (up2 I 66 (3 * a + 2) x) J → (∀ j, v = j + 1 → J 61 36 = io (bst (shv ru X a) j).1 ∧ J 61 37 = (bst (shv ru X a) j).2) → E xs m xi_X7_seeks 82 Q 13 [.ref 61, .int (io a), .int (I 66 (3 * a + 2)), .int (io v), x4] [] (82, J, L2, xF0) := by
    intro d
    induction d using Nat.strongRecOn with
    | _ d ih =>
    intro v hd J L2 x4 x hJ hb
    refine E_go 1 rfl ?_
    refine r_iload_n rfl ?_
    refine r_bipush ?_
    refine r_icmp_ge (fun c_16 => ?_) (fun c_16 => ?_)
    · have c_16 := (n_le (a := 64) (b := v) rfl rfl (by omega) (by omega)).mp c_16
      refine E_go 4 rfl ?_
      refine r_aload_n rfl ?_
      refine r_getA (q := 66) (by decide) rfl rfl (by decide) ?_
      refine r_iconst ?_
      refine r_iload_n rfl ?_
      refine r_imul ?_
      refine r_iconst ?_
      refine r_iadd ?_
      refine r_iload_n rfl ?_
      refine r_iastore rfl (by decide) (ixE (n_add (a := (3 * a)) (b := 2) (n_mul (a := 3) (b := a) rfl rfl) rfl) (show ((3 * a) + 2) < 15 by omega) (by decide)) ?_
      refine r_ret rfl ?_
      have ev : v = 64 := by omega
      subst ev
      have q := hb 63 rfl
      have fF : fS I (up2 J 66 (3 * a + 2) (I 66 (3 * a + 2))) := by
        have q := hJ.row (k := 3 * a + 2) (v := I 66 (3 * a + 2))
        rw [up2_up2, up2_self] at q
        exact q
      exact hQ _ _ fF q.1 q.2
    · have c_16 := (not_congr (n_le (a := 64) (b := v) rfl rfl (by omega) (by omega))).mp c_16
      refine r_aload_n rfl ?_
      refine r_getA (q := 66) (by decide) rfl rfl (by decide) ?_
      refine r_iconst ?_
      refine r_iload_n rfl ?_
      refine r_imul ?_
      refine r_iconst ?_
      refine r_iadd ?_
      refine r_iload_n rfl ?_
      refine r_iastore rfl (by decide) (ixE (n_add (a := (3 * a)) (b := 2) (n_mul (a := 3) (b := a) rfl rfl) rfl) (show ((3 * a) + 2) < 15 by omega) (by decide)) ?_
      refine r_aload_n rfl ?_
      refine r_iload_n rfl ?_
      refine r_virtual (vs := []) (as := [_]) (by decide) (zl rfl) rfl rfl (zl rfl) (Nat.le_refl _) (Or.inr (Or.inr ⟨zt rfl, rfl, zt rfl⟩)) ?_
      have fR : fS (up2 I 66 (3 * a + 2) (io v)) (up2 J 66 (3 * a + 2) (io v)) := by
        have q := hJ.row (k := 3 * a + 2) (v := io v)
        rw [up2_up2] at q
        exact q
      have e7 : up2 J 66 (3 * a + 2) (io v) 61 7 = I 61 7 := by
        rw [up2_q (by omega), hJ.2.2 7 (by omega), up2_q (by omega)]
      refine s_shareOf (X := wP X a (io v)) (by omega) ha ((h.u (by omega)).f fR) ?_ (wP_ok ho) (fun J2 L3 k1 k2 => ?_)
      · rw [e7, mP_f fR]
        exact mP_plan.trans (wP_c hX a _)
      have hf := fR.trans k1.fS
      have g7 := k1.2 37 (by omega)
      refine r_istore (ls' := [_, _, _, _, _]) (zt rfl) rfl ?_
      refine r_iload_n rfl ?_
      refine r_if_eq (fun c_38 => ?_) (fun c_38 => ?_)
      · have c_38 := (n_eq (a := v) (b := 0) rfl rfl (by omega) (by omega)).mp c_38
        refine E_go 2 rfl ?_
        refine r_aload_n rfl ?_
        refine r_iload_n rfl ?_
        refine r_putI rfl rfl (by decide) ?_
        refine r_aload_n rfl ?_
        refine r_iload rfl ?_
        refine r_putI rfl rfl (by decide) ?_
        refine r_nil ?_
        refine E_go 3 rfl ?_
        refine r_iincN (y := io (v + 1)) (ls' := [_, _, _, _, _]) rfl (zt rfl) (n_add (a := v) (b := 1) rfl rfl) rfl ?_
        refine r_goto ?_
        refine ih (d - 1) (by omega) (v + 1) (by omega) _ _ _ _ ((hf.s (by omega)).s (by omega)) ?_
        intro j hj
        have ej : j = v := by omega
        subst ej
        have e : bst (shv ru X a) j = (j, (shv ru X a) j) := by
          first
          | (have c_38 : j = 0 := c_38
             subst c_38
             rfl)
          | (obtain ⟨i, rfl⟩ : ∃ i, j = i + 1 := ⟨j - 1, by omega⟩
             have q := (hb i rfl).2
             refine if_pos ?_
             rw [← q]
             have c := Int32.not_le.mp c_47
             rw [show J2 61 37 = J 61 37 from g7] at c
             exact c)
        rw [e]
        exact ⟨by simp [up2], by simp [up2, shv]⟩
      · have c_38 := (not_congr (n_eq (a := v) (b := 0) rfl rfl (by omega) (by omega))).mp c_38
        refine r_iload rfl ?_
        refine r_aload_n rfl ?_
        refine r_getI (by decide) rfl rfl (by decide) rfl ?_
        refine r_icmp_le (fun c_47 => ?_) (fun c_47 => ?_)
        · refine E_go 3 rfl ?_
          refine r_iincN (y := io (v + 1)) (ls' := [_, _, _, _, _]) rfl (zt rfl) (n_add (a := v) (b := 1) rfl rfl) rfl ?_
          refine r_goto ?_
          refine ih (d - 1) (by omega) (v + 1) (by omega) _ _ _ _ hf ?_
          intro j hj
          have ej : j = v := by omega
          subst ej
          obtain ⟨i, rfl⟩ : ∃ i, j = i + 1 := ⟨j - 1, by omega⟩
          have q := hb i rfl
          have e : bst (shv ru X a) (i + 1) = bst (shv ru X a) i := by
            refine if_neg ?_
            rw [← q.2]
            have c := c_47
            rw [show J2 61 37 = J 61 37 from g7] at c
            exact Int32.not_lt.mpr c
          rw [e]
          exact ⟨(k1.2 36 (by omega)).trans q.1, g7.trans q.2⟩
        · refine r_nil ?_
          refine E_go 2 rfl ?_
          refine r_aload_n rfl ?_
          refine r_iload_n rfl ?_
          refine r_putI rfl rfl (by decide) ?_
          refine r_aload_n rfl ?_
          refine r_iload rfl ?_
          refine r_putI rfl rfl (by decide) ?_
          refine r_nil ?_
          refine E_go 3 rfl ?_
          refine r_iincN (y := io (v + 1)) (ls' := [_, _, _, _, _]) rfl (zt rfl) (n_add (a := v) (b := 1) rfl rfl) rfl ?_
          refine r_goto ?_
          refine ih (d - 1) (by omega) (v + 1) (by omega) _ _ _ _ ((hf.s (by omega)).s (by omega)) ?_
          intro j hj
          have ej : j = v := by omega
          subst ej
          have e : bst (shv ru X a) j = (j, (shv ru X a) j) := by
            first
            | (have c_38 : j = 0 := c_38
               subst c_38
               rfl)
            | (obtain ⟨i, rfl⟩ : ∃ i, j = i + 1 := ⟨j - 1, by omega⟩
               have q := (hb i rfl).2
               refine if_pos ?_
               rw [← q]
               have c := Int32.not_le.mp c_47
               rw [show J2 61 37 = J 61 37 from g7] at c
               exact c)
          rw [e]
          exact ⟨by simp [up2], by simp [up2, shv]⟩
  refine M_go (ls := [_, _, _, _, _]) (ml := 5) rfl rfl rfl (zl rfl) rfl ?_
  refine r_aload_n rfl ?_
  refine r_getA (q := 66) (by decide) rfl rfl (by decide) ?_
  refine r_iconst ?_
  refine r_iload_n rfl ?_
  refine r_imul ?_
  refine r_iconst ?_
  refine r_iadd ?_
  refine r_iaload (by decide) rfl (by decide) (ixE (n_add (a := (3 * a)) (b := 2) (n_mul (a := 3) (b := a) rfl rfl) rfl) (show ((3 * a) + 2) < 15 by omega) (by decide)) rfl ?_
  refine r_istore_n (ls' := [_, _, _, _, _]) (zt rfl) rfl ?_
  refine r_iconst ?_
  refine r_istore_n (ls' := [_, _, _, _, _]) (zt rfl) rfl ?_
  refine r_nil ?_
  refine key 64 0 rfl I L _ (I 66 (3 * a + 2)) ?_ (fun j hj => absurd hj (by omega))
  rw [up2_self]
  exact fS.refl
