/-! calls: together -/

theorem wPP {X : Pot} {a b : Nat} {v w x y : Int32} : pEq (wP (wP (wP (wP X a v) b w) a x) b y) (wP (wP X a x) b y) := by
  refine ⟨rfl, rfl, fun c _ => ⟨⟨rfl, rfl⟩, rfl, ?_⟩⟩
  show u1 (u1 (u1 (u1 _ a v) b w) a x) b y c = u1 (u1 _ a x) b y c
  by_cases h1 : c = b
  · subst h1; rw [u1_eq, u1_eq]
  · rw [u1_ne h1, u1_ne h1]
    by_cases h2 : c = a
    · subst h2; rw [u1_eq, u1_eq]
    · rw [u1_ne h2, u1_ne h2, u1_ne h1, u1_ne h2]
theorem TC_c {n r : Nat} {X Y : Pot} {I J : Nat → Nat → Int32} (h : TC n r X I J) (e : pEq X Y) : TC n r Y I J := ⟨h.1, h.2.1, h.2.2.1, h.2.2.2.trans e⟩
theorem TC.plan {n r a : Nat} {X : Pot} {v : Int32} {I J : Nat → Nat → Int32} (h : TC n r X I J) : TC n r (wP X a v) I (up2 J 17 a v) := by
  refine ⟨h.1.up (by omega) (by omega), h.2.1, h.2.2.1, h.2.2.2.1, h.2.2.2.2.1, fun c hc => ?_⟩
  obtain ⟨⟨q1, q2⟩, q3, q4⟩ := h.2.2.2.2.2 c hc
  refine ⟨⟨q1, q2⟩, q3, ?_⟩
  show up2 J 17 a v 17 c = u1 _ a v c
  by_cases e : c = a
  · subst e; rw [up2_at, u1_eq]
  · rw [up2_k e, u1_ne e]; exact q4
/-- two shares, by two plans -/
def tg (ru : Ru) (X : Pot) (a b : Nat) (k : Nat) : Int32 := shr ru (wP (wP X a (io (k / 16))) b (io (k % 16))) a + shr ru (wP (wP X a (io (k / 16))) b (io (k % 16))) b
/-- the best of the first k pairs, and what it gives -/
def tpb (f : Nat → Int32) : Nat → Nat × Int32
  | 0 => (0, 0)
  | k + 1 => if k = 0 ∨ (tpb f k).2 < f k then (100 * (k / 16) + k % 16, f k) else tpb f k
theorem tpb_y {f : Nat → Int32} {k : Nat} (h : k = 0 ∨ (tpb f k).2 < f k) : tpb f (k + 1) = (100 * (k / 16) + k % 16, f k) := if_pos h
theorem tpb_n {f : Nat → Int32} {k : Nat} (h : ¬ (k = 0 ∨ (tpb f k).2 < f k)) : tpb f (k + 1) = tpb f k := if_neg h
theorem tpb_lt {f : Nat → Int32} : ∀ k, k ≤ 256 → (tpb f k).1 < 2000
  | 0, _ => by show 0 < 2000; omega
  | k + 1, h => by
    have q := tpb_lt (f := f) k (by omega)
    rw [tpb]
    split
    · show 100 * (k / 16) + k % 16 < 2000; omega
    · exact q

set_option maxRecDepth 10000 in
theorem tz_together {xs : xSc} {m : Nat} {I : Nat → Nat → Int32} {L : Nat → Nat → Int64} {Q : Value → Value → xHp → Prop} (hm : 90 ≤ m) (hR : Rel I) {x y z : Int32} (hQ : ∀ (x : Int32) J L2, Rel J → Q (.int x) (.int x) (Hp J L2)) : M xs m xi_X6_together [.ref 0, .int x, .int y, .int z] (Hp I L) (fun r1 h1 => M xs m xi_X7_together [.ref 61, .int x, .int y, .int z] h1 (fun r2 h2 => Q r1 r2 h2)) := by
  obtain ⟨m, rfl⟩ : ∃ k, m = k + 6 := ⟨m - 6, by omega⟩
  obtain ⟨n, tc, r, tp, R⟩ := hR
  have h5 := R.n5
  have hr6 := R.r6
  have ht6 := R.t6
  have hrt := R.rt
  have hp160 := R.2.2.1.1.1
  obtain ⟨ru, hl⟩ := R.rl
  by_cases hx : inN n x
  · obtain ⟨a, ha, rfl⟩ := inN_ex hx (by omega)
    by_cases hy : inN n y
    · obtain ⟨b, hb, rfl⟩ := inN_ex hy (by omega)
      by_cases ne : a = b
      · subst ne
        refine M_go (ls := [_, _, _, _, _, _, _, _]) (ml := 8) rfl rfl rfl (zl rfl) rfl ?_
        refine r_aload_n rfl ?_
        refine r_iload_n rfl ?_
        refine r_virtual (vs := []) (as := [_]) (by decide) (zl rfl) rfl rfl (zl rfl) (Nat.le_refl _) (Or.inr (Or.inr ⟨zt rfl, rfl, zt rfl⟩)) ?_
        refine s_isAunt (by omega) R.cn h5 ?_
        rw [if_pos (inN_io ha (by omega))]
        refine r_if_eq (fun c_5 => ?_) (fun c_5 => ?_)
        · have c_5 := (n_eq (a := 1) (b := 0) rfl rfl (by omega) (by omega)).mp c_5
          omega
        · have c_5 := (not_congr (n_eq (a := 1) (b := 0) rfl rfl (by omega) (by omega))).mp c_5
          refine r_aload_n rfl ?_
          refine r_iload_n rfl ?_
          refine r_virtual (vs := []) (as := [_]) (by decide) (zl rfl) rfl rfl (zl rfl) (Nat.le_refl _) (Or.inr (Or.inr ⟨zt rfl, rfl, zt rfl⟩)) ?_
          refine s_isAunt (by omega) R.cn h5 ?_
          rw [if_pos (inN_io ha (by omega))]
          refine r_if_eq (fun c_13 => ?_) (fun c_13 => ?_)
          · have c_13 := (n_eq (a := 1) (b := 0) rfl rfl (by omega) (by omega)).mp c_13
            omega
          · have c_13 := (not_congr (n_eq (a := 1) (b := 0) rfl rfl (by omega) (by omega))).mp c_13
            refine r_iload_n rfl ?_
            refine r_iload_n rfl ?_
            refine r_icmp_eq (fun c_18 => ?_) (fun c_18 => ?_)
            · have c_18 := (n_eq (a := a) (b := a) rfl rfl (by omega) (by omega)).mp c_18
              refine E_go 1 rfl ?_
              refine r_ldc rfl ?_
              refine r_iret rfl trivial ?_
              refine M_go (ls := [_, _, _, _, _, _, _, _, _, _, _]) (ml := 11) rfl rfl rfl (zl rfl) rfl ?_
              refine r_aload_n rfl ?_
              refine r_iload_n rfl ?_
              refine r_virtual (vs := []) (as := [_]) (by decide) (zl rfl) rfl rfl (zl rfl) (Nat.le_refl _) (Or.inr (Or.inr ⟨zt rfl, rfl, zt rfl⟩)) ?_
              refine s_isOne (by omega) R.mn h5 ?_
              rw [if_pos (inN_io ha (by omega))]
              refine r_if_eq (fun c_5 => ?_) (fun c_5 => ?_)
              · have c_5 := (n_eq (a := 1) (b := 0) rfl rfl (by omega) (by omega)).mp c_5
                omega
              · have c_5 := (not_congr (n_eq (a := 1) (b := 0) rfl rfl (by omega) (by omega))).mp c_5
                refine r_aload_n rfl ?_
                refine r_iload_n rfl ?_
                refine r_virtual (vs := []) (as := [_]) (by decide) (zl rfl) rfl rfl (zl rfl) (Nat.le_refl _) (Or.inr (Or.inr ⟨zt rfl, rfl, zt rfl⟩)) ?_
                refine s_isOne (by omega) R.mn h5 ?_
                rw [if_pos (inN_io ha (by omega))]
                refine r_if_eq (fun c_13 => ?_) (fun c_13 => ?_)
                · have c_13 := (n_eq (a := 1) (b := 0) rfl rfl (by omega) (by omega)).mp c_13
                  omega
                · have c_13 := (not_congr (n_eq (a := 1) (b := 0) rfl rfl (by omega) (by omega))).mp c_13
                  refine r_iload_n rfl ?_
                  refine r_iload_n rfl ?_
                  refine r_icmp_eq (fun c_18 => ?_) (fun c_18 => ?_)
                  · have c_18 := (n_eq (a := a) (b := a) rfl rfl (by omega) (by omega)).mp c_18
                    refine E_go 1 rfl ?_
                    refine r_ldc rfl ?_
                    refine r_iret rfl trivial ?_
                    exact hQ _ _ _ R.rel
                  · have c_18 := (not_congr (n_eq (a := a) (b := a) rfl rfl (by omega) (by omega))).mp c_18
                    exact absurd rfl c_18
            · have c_18 := (not_congr (n_eq (a := a) (b := a) rfl rfl (by omega) (by omega))).mp c_18
              exact absurd rfl c_18
      · by_cases hz : inN 2 z
        · obtain ⟨w, hw, rfl⟩ := inN_ex hz (by omega)
          have ew : w = 0 ∨ w = 1 := by omega
          rcases ew with rfl | rfl
          · have fin : ∀ J : Mem, fS I J → M xs (m + 6) xi_X7_together [.ref 61, .int (io a), .int (io b), .int (io 0)] (Hp J L) (fun r2 h2 => Q (.int ((io (tpb (tg ru (pX n I) a b) 256).1))) r2 h2) := by
              intro J f1
              have R1 := R.f f1
              refine M_go (ls := [_, _, _, _, _, _, _, _, _, _, _]) (ml := 11) rfl rfl rfl (zl rfl) rfl ?_
              refine r_aload_n rfl ?_
              refine r_iload_n rfl ?_
              refine r_virtual (vs := []) (as := [_]) (by decide) (zl rfl) rfl rfl (zl rfl) (Nat.le_refl _) (Or.inr (Or.inr ⟨zt rfl, rfl, zt rfl⟩)) ?_
              refine s_isOne (by omega) R1.mn h5 ?_
              rw [if_pos (inN_io ha (by omega))]
              refine r_if_eq (fun c_5 => ?_) (fun c_5 => ?_)
              · have c_5 := (n_eq (a := 1) (b := 0) rfl rfl (by omega) (by omega)).mp c_5
                omega
              · have c_5 := (not_congr (n_eq (a := 1) (b := 0) rfl rfl (by omega) (by omega))).mp c_5
                refine r_aload_n rfl ?_
                refine r_iload_n rfl ?_
                refine r_virtual (vs := []) (as := [_]) (by decide) (zl rfl) rfl rfl (zl rfl) (Nat.le_refl _) (Or.inr (Or.inr ⟨zt rfl, rfl, zt rfl⟩)) ?_
                refine s_isOne (by omega) R1.mn h5 ?_
                rw [if_pos (inN_io hb (by omega))]
                refine r_if_eq (fun c_13 => ?_) (fun c_13 => ?_)
                · have c_13 := (n_eq (a := 1) (b := 0) rfl rfl (by omega) (by omega)).mp c_13
                  omega
                · have c_13 := (not_congr (n_eq (a := 1) (b := 0) rfl rfl (by omega) (by omega))).mp c_13
                  refine r_iload_n rfl ?_
                  refine r_iload_n rfl ?_
                  refine r_icmp_eq (fun c_18 => ?_) (fun c_18 => ?_)
                  · have c_18 := (n_eq (a := a) (b := b) rfl rfl (by omega) (by omega)).mp c_18
                    omega
                  · have c_18 := (not_congr (n_eq (a := a) (b := b) rfl rfl (by omega) (by omega))).mp c_18
                    refine r_iload_n rfl ?_
                    refine r_i2l ?_
                    refine r_lconst ?_
                    refine r_lconst ?_
                    refine r_static (vs := [_, _, _]) (by decide) (zl rfl) rfl rfl (zl rfl) (Nat.le_refl _) rfl ?_
                    refine s_in0 (by omega) (x := (io 0)) (k := 2) (Int32.toInt_toInt64 _) i64_0 rfl ?_
                    rw [if_pos (inN_io (by omega) (by omega))]
                    refine r_if_ne (fun c_28 => ?_) (fun c_28 => ?_)
                    · have c_28 := (not_congr (n_eq (a := 1) (b := 0) rfl rfl (by omega) (by omega))).mp c_28
                      refine E_go 2 rfl ?_
                      refine r_aload_n rfl ?_
                      refine r_getA (q := 66) (by decide) rfl rfl (by decide) ?_
                      refine r_iconst ?_
                      refine r_iload_n rfl ?_
                      refine r_imul ?_
                      refine r_iconst ?_
                      refine r_iadd ?_
                      refine r_iaload (by decide) rfl (by decide) (ixE (n_add (a := (3 * a)) (b := 2) (n_mul (a := 3) (b := a) rfl rfl) rfl) (show ((3 * a) + 2) < 15 by omega) (by decide)) rfl ?_
                      refine r_istore (ls' := [_, _, _, _, _, _, _, _, _, _, _]) (zt rfl) rfl ?_
                      refine r_aload_n rfl ?_
                      refine r_getA (q := 66) (by decide) rfl rfl (by decide) ?_
                      refine r_iconst ?_
                      refine r_iload_n rfl ?_
                      refine r_imul ?_
                      refine r_iconst ?_
                      refine r_iadd ?_
                      refine r_iaload (by decide) rfl (by decide) (ixE (n_add (a := (3 * b)) (b := 2) (n_mul (a := 3) (b := b) rfl rfl) rfl) (show ((3 * b) + 2) < 15 by omega) (by decide)) rfl ?_
                      refine r_istore (ls' := [_, _, _, _, _, _, _, _, _, _, _]) (zt rfl) rfl ?_
                      refine r_iconst ?_
                      refine r_istore (ls' := [_, _, _, _, _, _, _, _, _, _, _]) (zt rfl) rfl ?_
                      refine r_iconst ?_
                      refine r_istore (ls' := [_, _, _, _, _, _, _, _, _, _, _]) (zt rfl) rfl ?_
                      refine r_iconst ?_
                      refine r_istore (ls' := [_, _, _, _, _, _, _, _, _, _, _]) (zt rfl) rfl ?_
                      refine r_nil ?_
                      refine E_go 3 rfl ?_
                      refine r_iload rfl ?_
                      refine r_bipush ?_
                      refine r_icmp_ge (fun c_71 => ?_) (fun c_71 => ?_)
                      · have c_71 := (n_le (a := 16) (b := 0) rfl rfl (by omega) (by omega)).mp c_71
                        omega
                      · have c_71 := (not_congr (n_le (a := 16) (b := 0) rfl rfl (by omega) (by omega))).mp c_71
                        refine r_iconst ?_
                        refine r_istore (ls' := [_, _, _, _, _, _, _, _, _, _, _]) (zt rfl) rfl ?_
                        refine r_nil ?_
                        have key : ∀ d p q, p < 16 → q ≤ 16 → 17 * p + q + d = 272 → ∀ (K : Mem) L2, (f6 J K ∧ (∀ j, ¬ (j = 3 * a + 2 ∨ j = 3 * b + 2) → K 66 j = J 66 j) ∧ ∀ v w, pEq (wP (wP (mP n (K 61 7) K) a v) b w) (wP (wP (pX n I) a v) b w)) → ∀ v6 v7 x10, ((16 * p + q = 0 ∧ v6 = -1) ∨ (0 < 16 * p + q ∧ v6 = io (tpb (tg ru (pX n I) a b) (16 * p + q)).1)) → v7 = (tpb (tg ru (pX n I) a b) (16 * p + q)).2 → E xs (m + 5) xi_X7_together 82 (fun r2 h2 => Q (.int (io (tpb (tg ru (pX n I) a b) 256).1)) r2 h2) 77 [.ref 61, .int (io a), .int (io b), .int (io 0), .int (J 66 (3 * a + 2)), .int (J 66 (3 * b + 2)), .int v6, .int v7, .int (io p), .int (io q), x10] [] (82, K, L2, xF0) := by
                          intro d
                          induction d using Nat.strongRecOn with
                          | _ d ih =>
                          intro p q hp hq hd K L2 hK v6 v7 x10 h6 h7
                          refine E_go 4 rfl ?_
                          refine r_iload rfl ?_
                          refine r_bipush ?_
                          refine r_icmp_ge (fun c_81 => ?_) (fun c_81 => ?_)
                          · have c_81 := (n_le (a := 16) (b := q) rfl rfl (by omega) (by omega)).mp c_81
                            refine E_go 7 rfl ?_
                            refine r_iincN (y := io (p + 1)) (ls' := [_, _, _, _, _, _, _, _, _, _, _]) rfl (zt rfl) (n_add (a := p) (b := 1) rfl rfl) rfl ?_
                            refine r_goto ?_
                            refine E_go 3 rfl ?_
                            refine r_iload rfl ?_
                            refine r_bipush ?_
                            refine r_icmp_ge (fun c_71 => ?_) (fun c_71 => ?_)
                            · have c_71 := (n_le (a := 16) (b := (p + 1)) rfl rfl (by omega) (by omega)).mp c_71
                              refine E_go 8 rfl ?_
                              refine r_aload_n rfl ?_
                              refine r_getA (q := 66) (by decide) rfl rfl (by decide) ?_
                              refine r_iconst ?_
                              refine r_iload_n rfl ?_
                              refine r_imul ?_
                              refine r_iconst ?_
                              refine r_iadd ?_
                              refine r_iload rfl ?_
                              refine r_iastore rfl (by decide) (ixE (n_add (a := (3 * a)) (b := 2) (n_mul (a := 3) (b := a) rfl rfl) rfl) (show ((3 * a) + 2) < 15 by omega) (by decide)) ?_
                              refine r_aload_n rfl ?_
                              refine r_getA (q := 66) (by decide) rfl rfl (by decide) ?_
                              refine r_iconst ?_
                              refine r_iload_n rfl ?_
                              refine r_imul ?_
                              refine r_iconst ?_
                              refine r_iadd ?_
                              refine r_iload rfl ?_
                              refine r_iastore rfl (by decide) (ixE (n_add (a := (3 * b)) (b := 2) (n_mul (a := 3) (b := b) rfl rfl) rfl) (show ((3 * b) + 2) < 15 by omega) (by decide)) ?_
                              refine r_iload_n rfl ?_
                              refine r_if_ne (fun c_195 => ?_) (fun c_195 => ?_)
                              · have c_195 := (not_congr (n_eq (a := 0) (b := 0) rfl rfl (by omega) (by omega))).mp c_195
                                omega
                              · have c_195 := (n_eq (a := 0) (b := 0) rfl rfl (by omega) (by omega)).mp c_195
                                refine r_iload rfl ?_
                                refine r_goto ?_
                                refine E_go 10 rfl ?_
                                refine r_iret rfl trivial ?_
                                have eq : q = 16 := by omega
                                subst eq
                                have ep : p = 15 := by omega
                                subst ep
                                have h6 := (h6.resolve_left (fun z => absurd z.1 (by omega))).2
                                have e66 : up2 (up2 K 66 (3 * a + 2) (J 66 (3 * a + 2))) 66 (3 * b + 2) (J 66 (3 * b + 2)) 66 = J 66 := by
                                  funext j
                                  by_cases z1 : j = 3 * b + 2
                                  · subst z1; rw [up2_at]
                                  · rw [up2_k z1]
                                    by_cases z2 : j = 3 * a + 2
                                    · subst z2; rw [up2_at]
                                    · rw [up2_k z2]; exact hK.2.1 j (by omega)
                                have fF := f6_fS (f6_up (f6_up hK.1 (Or.inl rfl)) (Or.inl rfl)) e66
                                rw [h6]
                                exact hQ _ _ _ (R1.f fF).rel
                            · have c_71 := (not_congr (n_le (a := 16) (b := (p + 1)) rfl rfl (by omega) (by omega))).mp c_71
                              refine r_iconst ?_
                              refine r_istore (ls' := [_, _, _, _, _, _, _, _, _, _, _]) (zt rfl) rfl ?_
                              refine r_nil ?_
                              have eq : q = 16 := by omega
                              subst eq
                              exact ih (d - 1) (by omega) (p + 1) 0 (by omega) (by omega) (by omega) K _ hK _ _ _ (by rw [show 16 * (p + 1) + 0 = 16 * p + 16 by omega]; exact h6) (by rw [show 16 * (p + 1) + 0 = 16 * p + 16 by omega]; exact h7)
                          · have c_81 := (not_congr (n_le (a := 16) (b := q) rfl rfl (by omega) (by omega))).mp c_81
                            refine r_aload_n rfl ?_
                            refine r_getA (q := 66) (by decide) rfl rfl (by decide) ?_
                            refine r_iconst ?_
                            refine r_iload_n rfl ?_
                            refine r_imul ?_
                            refine r_iconst ?_
                            refine r_iadd ?_
                            refine r_iload rfl ?_
                            refine r_iastore rfl (by decide) (ixE (n_add (a := (3 * a)) (b := 2) (n_mul (a := 3) (b := a) rfl rfl) rfl) (show ((3 * a) + 2) < 15 by omega) (by decide)) ?_
                            refine r_aload_n rfl ?_
                            refine r_getA (q := 66) (by decide) rfl rfl (by decide) ?_
                            refine r_iconst ?_
                            refine r_iload_n rfl ?_
                            refine r_imul ?_
                            refine r_iconst ?_
                            refine r_iadd ?_
                            refine r_iload rfl ?_
                            refine r_iastore rfl (by decide) (ixE (n_add (a := (3 * b)) (b := 2) (n_mul (a := 3) (b := b) rfl rfl) rfl) (show ((3 * b) + 2) < 15 by omega) (by decide)) ?_
                            refine r_aload_n rfl ?_
                            refine r_aload_n rfl ?_
                            refine r_getI (by decide) rfl rfl (by decide) rfl ?_
                            refine r_virtual (vs := []) (as := [_]) (by decide) (zl rfl) rfl rfl (zl rfl) (Nat.le_refl _) (Or.inr (Or.inr ⟨zt rfl, rfl, zt rfl⟩)) ?_
                            have hY : pEq (mP n (up2 (up2 K 66 (3 * a + 2) (io p)) 66 (3 * b + 2) (io q) 61 7) (up2 (up2 K 66 (3 * a + 2) (io p)) 66 (3 * b + 2) (io q))) (wP (wP (pX n I) a (io p)) b (io q)) := (mP_plan.trans (wP_c mP_plan b (io q))).trans (hK.2.2 (io p) (io q))
                            have f2 : f6 J (up2 (up2 K 66 (3 * a + 2) (io p)) 66 (3 * b + 2) (io q)) := f6_up (f6_up hK.1 (Or.inl rfl)) (Or.inl rfl)
                            refine w_lives (X := wP (wP (pX n I) a (io p)) b (io q)) (by omega) ((R1.m (hl.f f1 hr6)).w6 f2) hY (wP_ok (wP_ok R.okX)) (fun K2 L3 g1 g2 => ?_)
                            have hK2 : f6 J K2 ∧ (∀ j, ¬ (j = 3 * a + 2 ∨ j = 3 * b + 2) → K2 66 j = J 66 j) ∧ ∀ v w, pEq (wP (wP (mP n (K2 61 7) K2) a v) b w) (wP (wP (pX n I) a v) b w) := ⟨f6_g f2 g1.fS, fun j hj => by rw [g1.1 66 (by omega), up2_k (by omega), up2_k (by omega)]; exact hK.2.1 j hj, fun v w => ((wP_c (wP_c (hY.mf g1.fS) a v) b w)).trans wPP⟩
                            have ev : shr ru (wP (wP (pX n I) a (io p)) b (io q)) a + shr ru (wP (wP (pX n I) a (io p)) b (io q)) b = (tg ru (pX n I) a b) (16 * p + q) := by unfold tg; rw [show (16 * p + q) / 16 = p by omega, show (16 * p + q) % 16 = q by omega]
                            refine r_aload_n rfl ?_
                            refine r_getA (q := 70) (by decide) rfl rfl (by decide) ?_
                            refine r_iload_n rfl ?_
                            refine r_iaload (by decide) rfl (by decide) (ixE rfl (show a < 5 by omega) (by decide)) (mD_j g2 (by omega)) ?_
                            refine r_aload_n rfl ?_
                            refine r_getA (q := 70) (by decide) rfl rfl (by decide) ?_
                            refine r_iload_n rfl ?_
                            refine r_iaload (by decide) rfl (by decide) (ixE rfl (show b < 5 by omega) (by decide)) (mD_j g2 (by omega)) ?_
                            refine r_iadd ?_
                            rw [ev]
                            refine r_istore (ls' := [_, _, _, _, _, _, _, _, _, _, _]) (zt rfl) rfl ?_
                            refine r_iload rfl ?_
                            refine r_iconst ?_
                            refine r_icmp_eq (fun c_134 => ?_) (fun c_134 => ?_)
                            · refine E_go 5 rfl ?_
                              refine r_bipush ?_
                              refine r_iload rfl ?_
                              refine r_imul ?_
                              refine r_iload rfl ?_
                              refine r_iadd ?_
                              refine r_istore (ls' := [_, _, _, _, _, _, _, _, _, _, _]) (zt rfl) rfl ?_
                              refine r_iload rfl ?_
                              refine r_istore (ls' := [_, _, _, _, _, _, _, _, _, _, _]) (zt rfl) rfl ?_
                              refine r_nil ?_
                              refine E_go 6 rfl ?_
                              refine r_iincN (y := io (q + 1)) (ls' := [_, _, _, _, _, _, _, _, _, _, _]) rfl (zt rfl) (n_add (a := q) (b := 1) rfl rfl) rfl ?_
                              refine r_goto ?_
                              have hs : 16 * p + q = 0 ∨ (tpb (tg ru (pX n I) a b) (16 * p + q)).2 < (tg ru (pX n I) a b) (16 * p + q) := by
                                rcases h6 with ⟨z, _⟩ | ⟨z, z2⟩
                                · exact Or.inl z
                                · first | exact absurd c_134 (by rw [z2]; exact io_m1 (by have := tpb_lt (f := (tg ru (pX n I) a b)) (16 * p + q) (by omega); omega)) | exact Or.inr (by rw [← h7]; exact Int32.not_le.mp c_141)
                              have eN : 16 * p + (q + 1) = (16 * p + q) + 1 := rfl
                              rw [show 100 * io p + io q = io (100 * p + q) from n_add (a := 100 * p) (b := q) (n_mul (a := 100) (b := p) rfl rfl) rfl]
                              exact ih (d - 1) (by omega) p (q + 1) hp (by omega) (by omega) K2 _ hK2 _ _ _ (Or.inr ⟨by omega, by rw [eN, tpb_y hs, show (16 * p + q) / 16 = p by omega, show (16 * p + q) % 16 = q by omega]⟩) (by rw [eN, tpb_y hs])
                            · refine r_iload rfl ?_
                              refine r_iload rfl ?_
                              refine r_icmp_le (fun c_141 => ?_) (fun c_141 => ?_)
                              · refine E_go 6 rfl ?_
                                refine r_iincN (y := io (q + 1)) (ls' := [_, _, _, _, _, _, _, _, _, _, _]) rfl (zt rfl) (n_add (a := q) (b := 1) rfl rfl) rfl ?_
                                refine r_goto ?_
                                have hs : ¬ (16 * p + q = 0 ∨ (tpb (tg ru (pX n I) a b) (16 * p + q)).2 < (tg ru (pX n I) a b) (16 * p + q)) := by
                                  rcases h6 with ⟨z, z2⟩ | ⟨z, z2⟩
                                  · exact absurd z2 c_134
                                  · exact fun y => y.elim (fun y => by omega) (fun y => absurd y (by rw [← h7]; exact Int32.not_lt.mpr c_141))
                                have eN : 16 * p + (q + 1) = (16 * p + q) + 1 := rfl
                                have h6 := h6.resolve_left (fun z => c_134 z.2)
                                exact ih (d - 1) (by omega) p (q + 1) hp (by omega) (by omega) K2 _ hK2 _ _ _ (Or.inr ⟨by omega, by rw [eN, tpb_n hs]; exact h6.2⟩) (by rw [eN, tpb_n hs]; exact h7)
                              · refine r_nil ?_
                                refine E_go 5 rfl ?_
                                refine r_bipush ?_
                                refine r_iload rfl ?_
                                refine r_imul ?_
                                refine r_iload rfl ?_
                                refine r_iadd ?_
                                refine r_istore (ls' := [_, _, _, _, _, _, _, _, _, _, _]) (zt rfl) rfl ?_
                                refine r_iload rfl ?_
                                refine r_istore (ls' := [_, _, _, _, _, _, _, _, _, _, _]) (zt rfl) rfl ?_
                                refine r_nil ?_
                                refine E_go 6 rfl ?_
                                refine r_iincN (y := io (q + 1)) (ls' := [_, _, _, _, _, _, _, _, _, _, _]) rfl (zt rfl) (n_add (a := q) (b := 1) rfl rfl) rfl ?_
                                refine r_goto ?_
                                have hs : 16 * p + q = 0 ∨ (tpb (tg ru (pX n I) a b) (16 * p + q)).2 < (tg ru (pX n I) a b) (16 * p + q) := by
                                  rcases h6 with ⟨z, _⟩ | ⟨z, z2⟩
                                  · exact Or.inl z
                                  · first | exact absurd c_134 (by rw [z2]; exact io_m1 (by have := tpb_lt (f := (tg ru (pX n I) a b)) (16 * p + q) (by omega); omega)) | exact Or.inr (by rw [← h7]; exact Int32.not_le.mp c_141)
                                have eN : 16 * p + (q + 1) = (16 * p + q) + 1 := rfl
                                rw [show 100 * io p + io q = io (100 * p + q) from n_add (a := 100 * p) (b := q) (n_mul (a := 100) (b := p) rfl rfl) rfl]
                                exact ih (d - 1) (by omega) p (q + 1) hp (by omega) (by omega) K2 _ hK2 _ _ _ (Or.inr ⟨by omega, by rw [eN, tpb_y hs, show (16 * p + q) / 16 = p by omega, show (16 * p + q) % 16 = q by omega]⟩) (by rw [eN, tpb_y hs])
                        exact key 272 0 0 (by omega) (by omega) (by omega) J L ⟨f6_refl, fun _ _ => rfl, fun v w => wP_c (wP_c (R1.eM f1) a v) b w⟩ _ _ _ (Or.inl ⟨rfl, rfl⟩) rfl
                    · have c_28 := (n_eq (a := 1) (b := 0) rfl rfl (by omega) (by omega)).mp c_28
                      omega
            refine M_go (ls := [_, _, _, _, _, _, _, _]) (ml := 8) rfl rfl rfl (zl rfl) rfl ?_
            refine r_aload_n rfl ?_
            refine r_iload_n rfl ?_
            refine r_virtual (vs := []) (as := [_]) (by decide) (zl rfl) rfl rfl (zl rfl) (Nat.le_refl _) (Or.inr (Or.inr ⟨zt rfl, rfl, zt rfl⟩)) ?_
            refine s_isAunt (by omega) R.cn h5 ?_
            rw [if_pos (inN_io ha (by omega))]
            refine r_if_eq (fun c_5 => ?_) (fun c_5 => ?_)
            · have c_5 := (n_eq (a := 1) (b := 0) rfl rfl (by omega) (by omega)).mp c_5
              omega
            · have c_5 := (not_congr (n_eq (a := 1) (b := 0) rfl rfl (by omega) (by omega))).mp c_5
              refine r_aload_n rfl ?_
              refine r_iload_n rfl ?_
              refine r_virtual (vs := []) (as := [_]) (by decide) (zl rfl) rfl rfl (zl rfl) (Nat.le_refl _) (Or.inr (Or.inr ⟨zt rfl, rfl, zt rfl⟩)) ?_
              refine s_isAunt (by omega) R.cn h5 ?_
              rw [if_pos (inN_io hb (by omega))]
              refine r_if_eq (fun c_13 => ?_) (fun c_13 => ?_)
              · have c_13 := (n_eq (a := 1) (b := 0) rfl rfl (by omega) (by omega)).mp c_13
                omega
              · have c_13 := (not_congr (n_eq (a := 1) (b := 0) rfl rfl (by omega) (by omega))).mp c_13
                refine r_iload_n rfl ?_
                refine r_iload_n rfl ?_
                refine r_icmp_eq (fun c_18 => ?_) (fun c_18 => ?_)
                · have c_18 := (n_eq (a := a) (b := b) rfl rfl (by omega) (by omega)).mp c_18
                  omega
                · have c_18 := (not_congr (n_eq (a := a) (b := b) rfl rfl (by omega) (by omega))).mp c_18
                  refine r_iload_n rfl ?_
                  refine r_static (vs := [_]) (by decide) (zl rfl) rfl rfl (zl rfl) (Nat.le_refl _) rfl ?_
                  refine s_isEither (by omega) ?_
                  rw [if_pos (inN_io (by omega) (by omega))]
                  refine r_if_ne (fun c_25 => ?_) (fun c_25 => ?_)
                  · have c_25 := (not_congr (n_eq (a := 1) (b := 0) rfl rfl (by omega) (by omega))).mp c_25
                    refine E_go 2 rfl ?_
                    refine r_iconst ?_
                    refine r_istore (ls' := [_, _, _, _, _, _, _, _]) (zt rfl) rfl ?_
                    refine r_iconst ?_
                    refine r_istore (ls' := [_, _, _, _, _, _, _, _]) (zt rfl) rfl ?_
                    refine r_aload_n rfl ?_
                    refine r_getA (q := 13) (by decide) rfl rfl (by decide) ?_
                    refine r_aload_n rfl ?_
                    refine r_getA (q := 1) (by decide) rfl rfl (by decide) ?_
                    refine r_virtual (vs := []) (as := [_]) (by decide) (zl rfl) rfl rfl (zl rfl) (Nat.le_refl _) (Or.inr (Or.inr ⟨zt rfl, rfl, zt rfl⟩)) ?_
                    refine s_becomes_13_1 (by omega) (fun J b1 => ?_)
                    have t0 := TC_bec (R.c hl) b1
                    refine r_iconst ?_
                    refine r_istore (ls' := [_, _, _, _, _, _, _, _]) (zt rfl) rfl ?_
                    refine r_nil ?_
                    have key0 : ∀ d k, k + d = 256 → ∀ (J : Mem) Z, TC n r Z I J → (∀ v w, pEq (wP (wP Z a v) b w) (wP (wP (pX n I) a v) b w)) → ∀ w4 v5 x7, w4 = (tpb (tg ru (pX n I) a b) k).1 → v5 = (tpb (tg ru (pX n I) a b) k).2 → E xs (m + 5) xi_X6_together 82 (fun r1 h1 => M xs (m + 6) xi_X7_together [.ref 61, .int (io a), .int (io b), .int (io 0)] h1 (fun r2 h2 => Q r1 r2 h2)) 51 [.ref 0, .int (io a), .int (io b), .int (io 0), .int (io w4), .int v5, .int (io k), x7] [] (82, J, L, xF0) := by
                      intro d
                      induction d using Nat.strongRecOn with
                      | _ d ih =>
                      intro k hd J Z hJ hZ w4 v5 x7 h4x h5x
                      have w4b : w4 < 2147483648 := by rw [h4x]; have := tpb_lt (f := (tg ru (pX n I) a b)) k (by omega); omega
                      refine E_go 3 rfl ?_
                      refine r_iload rfl ?_
                      refine r_sipush ?_
                      refine r_icmp_ge (fun c_56 => ?_) (fun c_56 => ?_)
                      · have c_56 := (n_le (a := 256) (b := k) rfl rfl (by omega) (by omega)).mp c_56
                        refine E_go 6 rfl ?_
                        refine r_iload_n rfl ?_
                        refine r_if_ne (fun c_163 => ?_) (fun c_163 => ?_)
                        · have c_163 := (not_congr (n_eq (a := 0) (b := 0) rfl rfl (by omega) (by omega))).mp c_163
                          omega
                        · have c_163 := (n_eq (a := 0) (b := 0) rfl rfl (by omega) (by omega)).mp c_163
                          refine r_iload rfl ?_
                          refine r_goto ?_
                          refine E_go 8 rfl ?_
                          refine r_iret rfl trivial ?_
                          have ek : k = 256 := by omega
                          subst ek
                          rw [h4x]
                          exact fin J (hJ.1.fS (by omega) (by omega))
                      · have c_56 := (not_congr (n_le (a := 256) (b := k) rfl rfl (by omega) (by omega))).mp c_56
                        refine r_aload_n rfl ?_
                        refine r_getA (q := 13) (by decide) rfl rfl (by decide) ?_
                        refine r_getA (q := 17) (by decide) rfl rfl (by decide) ?_
                        refine r_iload_n rfl ?_
                        refine r_iload rfl ?_
                        refine r_bipush ?_
                        refine r_idiv (by decide) ?_
                        rw [show io k / 16 = io (k / 16) from n_div (a := k) (b := 16) rfl rfl (by omega) (by omega)]
                        refine r_iastore rfl (by decide) (ixE rfl (show a < 5 by omega) (by decide)) ?_
                        refine r_aload_n rfl ?_
                        refine r_getA (q := 13) (by decide) rfl rfl (by decide) ?_
                        refine r_getA (q := 17) (by decide) rfl rfl (by decide) ?_
                        refine r_iload_n rfl ?_
                        refine r_iload rfl ?_
                        refine r_bipush ?_
                        refine r_irem (by decide) ?_
                        rw [show io k - io k / 16 * 16 = io (k % 16) from n_rem (a := k) (b := 16) rfl rfl (by omega) (by omega)]
                        refine r_iastore rfl (by decide) (ixE rfl (show b < 5 by omega) (by decide)) ?_
                        refine r_aload_n rfl ?_
                        refine r_aload_n rfl ?_
                        refine r_getA (q := 13) (by decide) rfl rfl (by decide) ?_
                        refine r_virtual (vs := []) (as := [_]) (by decide) (zl rfl) rfl rfl (zl rfl) (Nat.le_refl _) (Or.inr (Or.inr ⟨zt rfl, rfl, zt rfl⟩)) ?_
                        have tY : TC n r (wP (wP (pX n I) a (io (k / 16))) b (io (k % 16))) I (up2 (up2 J 17 a (io (k / 16))) 17 b (io (k % 16))) := TC_c (hJ.plan.plan) (hZ _ _)
                        refine w_thoughtC (by omega) (R.c hl) tY (fun K k1 k2 => ?_)
                        have kp2 : K 17 b = io (k % 16) := (k1.2.2.2.2.2 b hb).2.2.trans u1_eq
                        have kp1 : K 17 a = io (k / 16) := (k1.2.2.2.2.2 a ha).2.2.trans ((u1_ne ne).trans u1_eq)
                        refine r_aload_n rfl ?_
                        refine r_getA (q := 19) (by decide) rfl rfl (by decide) ?_
                        refine r_getA (q := 22) (by decide) rfl rfl (by decide) ?_
                        refine r_iload_n rfl ?_
                        refine r_iaload (by decide) rfl (by decide) (ixE rfl (show a < 5 by omega) (by decide)) (hD_j k2 (by omega)) ?_
                        refine r_aload_n rfl ?_
                        refine r_getA (q := 19) (by decide) rfl rfl (by decide) ?_
                        refine r_getA (q := 22) (by decide) rfl rfl (by decide) ?_
                        refine r_iload_n rfl ?_
                        refine r_iaload (by decide) rfl (by decide) (ixE rfl (show b < 5 by omega) (by decide)) (hD_j k2 (by omega)) ?_
                        refine r_iadd ?_
                        rw [show shr ru (wP (wP (pX n I) a (io (k / 16))) b (io (k % 16))) a + shr ru (wP (wP (pX n I) a (io (k / 16))) b (io (k % 16))) b = (tg ru (pX n I) a b) k from rfl]
                        refine r_istore (ls' := [_, _, _, _, _, _, _, _]) (zt rfl) rfl ?_
                        refine r_iload rfl ?_
                        refine r_if_eq (fun c_118 => ?_) (fun c_118 => ?_)
                        · have c_118 := (n_eq (a := k) (b := 0) rfl rfl (by omega) (by omega)).mp c_118
                          refine E_go 4 rfl ?_
                          refine r_iload rfl ?_
                          refine r_istore (ls' := [_, _, _, _, _, _, _, _]) (zt rfl) rfl ?_
                          refine r_bipush ?_
                          refine r_aload_n rfl ?_
                          refine r_getA (q := 13) (by decide) rfl rfl (by decide) ?_
                          refine r_getA (q := 17) (by decide) rfl rfl (by decide) ?_
                          refine r_iload_n rfl ?_
                          refine r_iaload (by decide) rfl (by decide) (ixE rfl (show a < 5 by omega) (by decide)) kp1 ?_
                          refine r_imul ?_
                          refine r_aload_n rfl ?_
                          refine r_getA (q := 13) (by decide) rfl rfl (by decide) ?_
                          refine r_getA (q := 17) (by decide) rfl rfl (by decide) ?_
                          refine r_iload_n rfl ?_
                          refine r_iaload (by decide) rfl (by decide) (ixE rfl (show b < 5 by omega) (by decide)) kp2 ?_
                          refine r_iadd ?_
                          refine r_istore (ls' := [_, _, _, _, _, _, _, _]) (zt rfl) rfl ?_
                          refine r_nil ?_
                          refine E_go 5 rfl ?_
                          refine r_iincN (y := io (k + 1)) (ls' := [_, _, _, _, _, _, _, _]) rfl (zt rfl) (n_add (a := k) (b := 1) rfl rfl) rfl ?_
                          refine r_goto ?_
                          have hs : k = 0 ∨ (tpb (tg ru (pX n I) a b) k).2 < (tg ru (pX n I) a b) k := by first | exact Or.inl (by omega) | exact Or.inr (by rw [← h5x]; exact Int32.not_le.mp c_125)
                          rw [show 100 * io (k / 16) + io (k % 16) = io (100 * (k / 16) + k % 16) from n_add (a := 100 * (k / 16)) (b := k % 16) (n_mul (a := 100) (b := k / 16) rfl rfl) rfl]
                          exact ih (d - 1) (by omega) (k + 1) (by omega) K _ k1 (fun v w => wPP) _ _ _ (by rw [tpb_y hs]) (by rw [tpb_y hs])
                        · have c_118 := (not_congr (n_eq (a := k) (b := 0) rfl rfl (by omega) (by omega))).mp c_118
                          refine r_iload rfl ?_
                          refine r_iload rfl ?_
                          refine r_icmp_le (fun c_125 => ?_) (fun c_125 => ?_)
                          · refine E_go 5 rfl ?_
                            refine r_iincN (y := io (k + 1)) (ls' := [_, _, _, _, _, _, _, _]) rfl (zt rfl) (n_add (a := k) (b := 1) rfl rfl) rfl ?_
                            refine r_goto ?_
                            have hs : ¬ (k = 0 ∨ (tpb (tg ru (pX n I) a b) k).2 < (tg ru (pX n I) a b) k) := fun y => y.elim (fun y => by omega) (fun y => absurd y (by rw [← h5x]; exact Int32.not_lt.mpr c_125))
                            exact ih (d - 1) (by omega) (k + 1) (by omega) K _ k1 (fun v w => wPP) _ _ _ (by rw [tpb_n hs]; exact h4x) (by rw [tpb_n hs]; exact h5x)
                          · refine r_nil ?_
                            refine E_go 4 rfl ?_
                            refine r_iload rfl ?_
                            refine r_istore (ls' := [_, _, _, _, _, _, _, _]) (zt rfl) rfl ?_
                            refine r_bipush ?_
                            refine r_aload_n rfl ?_
                            refine r_getA (q := 13) (by decide) rfl rfl (by decide) ?_
                            refine r_getA (q := 17) (by decide) rfl rfl (by decide) ?_
                            refine r_iload_n rfl ?_
                            refine r_iaload (by decide) rfl (by decide) (ixE rfl (show a < 5 by omega) (by decide)) kp1 ?_
                            refine r_imul ?_
                            refine r_aload_n rfl ?_
                            refine r_getA (q := 13) (by decide) rfl rfl (by decide) ?_
                            refine r_getA (q := 17) (by decide) rfl rfl (by decide) ?_
                            refine r_iload_n rfl ?_
                            refine r_iaload (by decide) rfl (by decide) (ixE rfl (show b < 5 by omega) (by decide)) kp2 ?_
                            refine r_iadd ?_
                            refine r_istore (ls' := [_, _, _, _, _, _, _, _]) (zt rfl) rfl ?_
                            refine r_nil ?_
                            refine E_go 5 rfl ?_
                            refine r_iincN (y := io (k + 1)) (ls' := [_, _, _, _, _, _, _, _]) rfl (zt rfl) (n_add (a := k) (b := 1) rfl rfl) rfl ?_
                            refine r_goto ?_
                            have hs : k = 0 ∨ (tpb (tg ru (pX n I) a b) k).2 < (tg ru (pX n I) a b) k := by first | exact Or.inl (by omega) | exact Or.inr (by rw [← h5x]; exact Int32.not_le.mp c_125)
                            rw [show 100 * io (k / 16) + io (k % 16) = io (100 * (k / 16) + k % 16) from n_add (a := 100 * (k / 16)) (b := k % 16) (n_mul (a := 100) (b := k / 16) rfl rfl) rfl]
                            exact ih (d - 1) (by omega) (k + 1) (by omega) K _ k1 (fun v w => wPP) _ _ _ (by rw [tpb_y hs]) (by rw [tpb_y hs])
                    exact key0 256 0 (by omega) J _ t0 (fun v w => pEq.refl) 0 0 _ rfl rfl
                  · have c_25 := (n_eq (a := 1) (b := 0) rfl rfl (by omega) (by omega)).mp c_25
                    omega
          · have fin : ∀ J : Mem, fS I J → M xs (m + 6) xi_X7_together [.ref 61, .int (io a), .int (io b), .int (io 1)] (Hp J L) (fun r2 h2 => Q (.int ((tpb (tg ru (pX n I) a b) 256).2)) r2 h2) := by
              intro J f1
              have R1 := R.f f1
              refine M_go (ls := [_, _, _, _, _, _, _, _, _, _, _]) (ml := 11) rfl rfl rfl (zl rfl) rfl ?_
              refine r_aload_n rfl ?_
              refine r_iload_n rfl ?_
              refine r_virtual (vs := []) (as := [_]) (by decide) (zl rfl) rfl rfl (zl rfl) (Nat.le_refl _) (Or.inr (Or.inr ⟨zt rfl, rfl, zt rfl⟩)) ?_
              refine s_isOne (by omega) R1.mn h5 ?_
              rw [if_pos (inN_io ha (by omega))]
              refine r_if_eq (fun c_5 => ?_) (fun c_5 => ?_)
              · have c_5 := (n_eq (a := 1) (b := 0) rfl rfl (by omega) (by omega)).mp c_5
                omega
              · have c_5 := (not_congr (n_eq (a := 1) (b := 0) rfl rfl (by omega) (by omega))).mp c_5
                refine r_aload_n rfl ?_
                refine r_iload_n rfl ?_
                refine r_virtual (vs := []) (as := [_]) (by decide) (zl rfl) rfl rfl (zl rfl) (Nat.le_refl _) (Or.inr (Or.inr ⟨zt rfl, rfl, zt rfl⟩)) ?_
                refine s_isOne (by omega) R1.mn h5 ?_
                rw [if_pos (inN_io hb (by omega))]
                refine r_if_eq (fun c_13 => ?_) (fun c_13 => ?_)
                · have c_13 := (n_eq (a := 1) (b := 0) rfl rfl (by omega) (by omega)).mp c_13
                  omega
                · have c_13 := (not_congr (n_eq (a := 1) (b := 0) rfl rfl (by omega) (by omega))).mp c_13
                  refine r_iload_n rfl ?_
                  refine r_iload_n rfl ?_
                  refine r_icmp_eq (fun c_18 => ?_) (fun c_18 => ?_)
                  · have c_18 := (n_eq (a := a) (b := b) rfl rfl (by omega) (by omega)).mp c_18
                    omega
                  · have c_18 := (not_congr (n_eq (a := a) (b := b) rfl rfl (by omega) (by omega))).mp c_18
                    refine r_iload_n rfl ?_
                    refine r_i2l ?_
                    refine r_lconst ?_
                    refine r_lconst ?_
                    refine r_static (vs := [_, _, _]) (by decide) (zl rfl) rfl rfl (zl rfl) (Nat.le_refl _) rfl ?_
                    refine s_in0 (by omega) (x := (io 1)) (k := 2) (Int32.toInt_toInt64 _) i64_0 rfl ?_
                    rw [if_pos (inN_io (by omega) (by omega))]
                    refine r_if_ne (fun c_28 => ?_) (fun c_28 => ?_)
                    · have c_28 := (not_congr (n_eq (a := 1) (b := 0) rfl rfl (by omega) (by omega))).mp c_28
                      refine E_go 2 rfl ?_
                      refine r_aload_n rfl ?_
                      refine r_getA (q := 66) (by decide) rfl rfl (by decide) ?_
                      refine r_iconst ?_
                      refine r_iload_n rfl ?_
                      refine r_imul ?_
                      refine r_iconst ?_
                      refine r_iadd ?_
                      refine r_iaload (by decide) rfl (by decide) (ixE (n_add (a := (3 * a)) (b := 2) (n_mul (a := 3) (b := a) rfl rfl) rfl) (show ((3 * a) + 2) < 15 by omega) (by decide)) rfl ?_
                      refine r_istore (ls' := [_, _, _, _, _, _, _, _, _, _, _]) (zt rfl) rfl ?_
                      refine r_aload_n rfl ?_
                      refine r_getA (q := 66) (by decide) rfl rfl (by decide) ?_
                      refine r_iconst ?_
                      refine r_iload_n rfl ?_
                      refine r_imul ?_
                      refine r_iconst ?_
                      refine r_iadd ?_
                      refine r_iaload (by decide) rfl (by decide) (ixE (n_add (a := (3 * b)) (b := 2) (n_mul (a := 3) (b := b) rfl rfl) rfl) (show ((3 * b) + 2) < 15 by omega) (by decide)) rfl ?_
                      refine r_istore (ls' := [_, _, _, _, _, _, _, _, _, _, _]) (zt rfl) rfl ?_
                      refine r_iconst ?_
                      refine r_istore (ls' := [_, _, _, _, _, _, _, _, _, _, _]) (zt rfl) rfl ?_
                      refine r_iconst ?_
                      refine r_istore (ls' := [_, _, _, _, _, _, _, _, _, _, _]) (zt rfl) rfl ?_
                      refine r_iconst ?_
                      refine r_istore (ls' := [_, _, _, _, _, _, _, _, _, _, _]) (zt rfl) rfl ?_
                      refine r_nil ?_
                      refine E_go 3 rfl ?_
                      refine r_iload rfl ?_
                      refine r_bipush ?_
                      refine r_icmp_ge (fun c_71 => ?_) (fun c_71 => ?_)
                      · have c_71 := (n_le (a := 16) (b := 0) rfl rfl (by omega) (by omega)).mp c_71
                        omega
                      · have c_71 := (not_congr (n_le (a := 16) (b := 0) rfl rfl (by omega) (by omega))).mp c_71
                        refine r_iconst ?_
                        refine r_istore (ls' := [_, _, _, _, _, _, _, _, _, _, _]) (zt rfl) rfl ?_
                        refine r_nil ?_
                        have key : ∀ d p q, p < 16 → q ≤ 16 → 17 * p + q + d = 272 → ∀ (K : Mem) L2, (f6 J K ∧ (∀ j, ¬ (j = 3 * a + 2 ∨ j = 3 * b + 2) → K 66 j = J 66 j) ∧ ∀ v w, pEq (wP (wP (mP n (K 61 7) K) a v) b w) (wP (wP (pX n I) a v) b w)) → ∀ v6 v7 x10, ((16 * p + q = 0 ∧ v6 = -1) ∨ (0 < 16 * p + q ∧ v6 = io (tpb (tg ru (pX n I) a b) (16 * p + q)).1)) → v7 = (tpb (tg ru (pX n I) a b) (16 * p + q)).2 → E xs (m + 5) xi_X7_together 82 (fun r2 h2 => Q (.int ((tpb (tg ru (pX n I) a b) 256).2)) r2 h2) 77 [.ref 61, .int (io a), .int (io b), .int (io 1), .int (J 66 (3 * a + 2)), .int (J 66 (3 * b + 2)), .int v6, .int v7, .int (io p), .int (io q), x10] [] (82, K, L2, xF0) := by
                          intro d
                          induction d using Nat.strongRecOn with
                          | _ d ih =>
                          intro p q hp hq hd K L2 hK v6 v7 x10 h6 h7
                          refine E_go 4 rfl ?_
                          refine r_iload rfl ?_
                          refine r_bipush ?_
                          refine r_icmp_ge (fun c_81 => ?_) (fun c_81 => ?_)
                          · have c_81 := (n_le (a := 16) (b := q) rfl rfl (by omega) (by omega)).mp c_81
                            refine E_go 7 rfl ?_
                            refine r_iincN (y := io (p + 1)) (ls' := [_, _, _, _, _, _, _, _, _, _, _]) rfl (zt rfl) (n_add (a := p) (b := 1) rfl rfl) rfl ?_
                            refine r_goto ?_
                            refine E_go 3 rfl ?_
                            refine r_iload rfl ?_
                            refine r_bipush ?_
                            refine r_icmp_ge (fun c_71 => ?_) (fun c_71 => ?_)
                            · have c_71 := (n_le (a := 16) (b := (p + 1)) rfl rfl (by omega) (by omega)).mp c_71
                              refine E_go 8 rfl ?_
                              refine r_aload_n rfl ?_
                              refine r_getA (q := 66) (by decide) rfl rfl (by decide) ?_
                              refine r_iconst ?_
                              refine r_iload_n rfl ?_
                              refine r_imul ?_
                              refine r_iconst ?_
                              refine r_iadd ?_
                              refine r_iload rfl ?_
                              refine r_iastore rfl (by decide) (ixE (n_add (a := (3 * a)) (b := 2) (n_mul (a := 3) (b := a) rfl rfl) rfl) (show ((3 * a) + 2) < 15 by omega) (by decide)) ?_
                              refine r_aload_n rfl ?_
                              refine r_getA (q := 66) (by decide) rfl rfl (by decide) ?_
                              refine r_iconst ?_
                              refine r_iload_n rfl ?_
                              refine r_imul ?_
                              refine r_iconst ?_
                              refine r_iadd ?_
                              refine r_iload rfl ?_
                              refine r_iastore rfl (by decide) (ixE (n_add (a := (3 * b)) (b := 2) (n_mul (a := 3) (b := b) rfl rfl) rfl) (show ((3 * b) + 2) < 15 by omega) (by decide)) ?_
                              refine r_iload_n rfl ?_
                              refine r_if_ne (fun c_195 => ?_) (fun c_195 => ?_)
                              · have c_195 := (not_congr (n_eq (a := 1) (b := 0) rfl rfl (by omega) (by omega))).mp c_195
                                refine E_go 9 rfl ?_
                                refine r_iload rfl ?_
                                refine r_nil ?_
                                refine E_go 10 rfl ?_
                                refine r_iret rfl trivial ?_
                                have eq : q = 16 := by omega
                                subst eq
                                have ep : p = 15 := by omega
                                subst ep
                                have h6 := (h6.resolve_left (fun z => absurd z.1 (by omega))).2
                                have e66 : up2 (up2 K 66 (3 * a + 2) (J 66 (3 * a + 2))) 66 (3 * b + 2) (J 66 (3 * b + 2)) 66 = J 66 := by
                                  funext j
                                  by_cases z1 : j = 3 * b + 2
                                  · subst z1; rw [up2_at]
                                  · rw [up2_k z1]
                                    by_cases z2 : j = 3 * a + 2
                                    · subst z2; rw [up2_at]
                                    · rw [up2_k z2]; exact hK.2.1 j (by omega)
                                have fF := f6_fS (f6_up (f6_up hK.1 (Or.inl rfl)) (Or.inl rfl)) e66
                                rw [h7]
                                exact hQ _ _ _ (R1.f fF).rel
                              · have c_195 := (n_eq (a := 1) (b := 0) rfl rfl (by omega) (by omega)).mp c_195
                                omega
                            · have c_71 := (not_congr (n_le (a := 16) (b := (p + 1)) rfl rfl (by omega) (by omega))).mp c_71
                              refine r_iconst ?_
                              refine r_istore (ls' := [_, _, _, _, _, _, _, _, _, _, _]) (zt rfl) rfl ?_
                              refine r_nil ?_
                              have eq : q = 16 := by omega
                              subst eq
                              exact ih (d - 1) (by omega) (p + 1) 0 (by omega) (by omega) (by omega) K _ hK _ _ _ (by rw [show 16 * (p + 1) + 0 = 16 * p + 16 by omega]; exact h6) (by rw [show 16 * (p + 1) + 0 = 16 * p + 16 by omega]; exact h7)
                          · have c_81 := (not_congr (n_le (a := 16) (b := q) rfl rfl (by omega) (by omega))).mp c_81
                            refine r_aload_n rfl ?_
                            refine r_getA (q := 66) (by decide) rfl rfl (by decide) ?_
                            refine r_iconst ?_
                            refine r_iload_n rfl ?_
                            refine r_imul ?_
                            refine r_iconst ?_
                            refine r_iadd ?_
                            refine r_iload rfl ?_
                            refine r_iastore rfl (by decide) (ixE (n_add (a := (3 * a)) (b := 2) (n_mul (a := 3) (b := a) rfl rfl) rfl) (show ((3 * a) + 2) < 15 by omega) (by decide)) ?_
                            refine r_aload_n rfl ?_
                            refine r_getA (q := 66) (by decide) rfl rfl (by decide) ?_
                            refine r_iconst ?_
                            refine r_iload_n rfl ?_
                            refine r_imul ?_
                            refine r_iconst ?_
                            refine r_iadd ?_
                            refine r_iload rfl ?_
                            refine r_iastore rfl (by decide) (ixE (n_add (a := (3 * b)) (b := 2) (n_mul (a := 3) (b := b) rfl rfl) rfl) (show ((3 * b) + 2) < 15 by omega) (by decide)) ?_
                            refine r_aload_n rfl ?_
                            refine r_aload_n rfl ?_
                            refine r_getI (by decide) rfl rfl (by decide) rfl ?_
                            refine r_virtual (vs := []) (as := [_]) (by decide) (zl rfl) rfl rfl (zl rfl) (Nat.le_refl _) (Or.inr (Or.inr ⟨zt rfl, rfl, zt rfl⟩)) ?_
                            have hY : pEq (mP n (up2 (up2 K 66 (3 * a + 2) (io p)) 66 (3 * b + 2) (io q) 61 7) (up2 (up2 K 66 (3 * a + 2) (io p)) 66 (3 * b + 2) (io q))) (wP (wP (pX n I) a (io p)) b (io q)) := (mP_plan.trans (wP_c mP_plan b (io q))).trans (hK.2.2 (io p) (io q))
                            have f2 : f6 J (up2 (up2 K 66 (3 * a + 2) (io p)) 66 (3 * b + 2) (io q)) := f6_up (f6_up hK.1 (Or.inl rfl)) (Or.inl rfl)
                            refine w_lives (X := wP (wP (pX n I) a (io p)) b (io q)) (by omega) ((R1.m (hl.f f1 hr6)).w6 f2) hY (wP_ok (wP_ok R.okX)) (fun K2 L3 g1 g2 => ?_)
                            have hK2 : f6 J K2 ∧ (∀ j, ¬ (j = 3 * a + 2 ∨ j = 3 * b + 2) → K2 66 j = J 66 j) ∧ ∀ v w, pEq (wP (wP (mP n (K2 61 7) K2) a v) b w) (wP (wP (pX n I) a v) b w) := ⟨f6_g f2 g1.fS, fun j hj => by rw [g1.1 66 (by omega), up2_k (by omega), up2_k (by omega)]; exact hK.2.1 j hj, fun v w => ((wP_c (wP_c (hY.mf g1.fS) a v) b w)).trans wPP⟩
                            have ev : shr ru (wP (wP (pX n I) a (io p)) b (io q)) a + shr ru (wP (wP (pX n I) a (io p)) b (io q)) b = (tg ru (pX n I) a b) (16 * p + q) := by unfold tg; rw [show (16 * p + q) / 16 = p by omega, show (16 * p + q) % 16 = q by omega]
                            refine r_aload_n rfl ?_
                            refine r_getA (q := 70) (by decide) rfl rfl (by decide) ?_
                            refine r_iload_n rfl ?_
                            refine r_iaload (by decide) rfl (by decide) (ixE rfl (show a < 5 by omega) (by decide)) (mD_j g2 (by omega)) ?_
                            refine r_aload_n rfl ?_
                            refine r_getA (q := 70) (by decide) rfl rfl (by decide) ?_
                            refine r_iload_n rfl ?_
                            refine r_iaload (by decide) rfl (by decide) (ixE rfl (show b < 5 by omega) (by decide)) (mD_j g2 (by omega)) ?_
                            refine r_iadd ?_
                            rw [ev]
                            refine r_istore (ls' := [_, _, _, _, _, _, _, _, _, _, _]) (zt rfl) rfl ?_
                            refine r_iload rfl ?_
                            refine r_iconst ?_
                            refine r_icmp_eq (fun c_134 => ?_) (fun c_134 => ?_)
                            · refine E_go 5 rfl ?_
                              refine r_bipush ?_
                              refine r_iload rfl ?_
                              refine r_imul ?_
                              refine r_iload rfl ?_
                              refine r_iadd ?_
                              refine r_istore (ls' := [_, _, _, _, _, _, _, _, _, _, _]) (zt rfl) rfl ?_
                              refine r_iload rfl ?_
                              refine r_istore (ls' := [_, _, _, _, _, _, _, _, _, _, _]) (zt rfl) rfl ?_
                              refine r_nil ?_
                              refine E_go 6 rfl ?_
                              refine r_iincN (y := io (q + 1)) (ls' := [_, _, _, _, _, _, _, _, _, _, _]) rfl (zt rfl) (n_add (a := q) (b := 1) rfl rfl) rfl ?_
                              refine r_goto ?_
                              have hs : 16 * p + q = 0 ∨ (tpb (tg ru (pX n I) a b) (16 * p + q)).2 < (tg ru (pX n I) a b) (16 * p + q) := by
                                rcases h6 with ⟨z, _⟩ | ⟨z, z2⟩
                                · exact Or.inl z
                                · first | exact absurd c_134 (by rw [z2]; exact io_m1 (by have := tpb_lt (f := (tg ru (pX n I) a b)) (16 * p + q) (by omega); omega)) | exact Or.inr (by rw [← h7]; exact Int32.not_le.mp c_141)
                              have eN : 16 * p + (q + 1) = (16 * p + q) + 1 := rfl
                              rw [show 100 * io p + io q = io (100 * p + q) from n_add (a := 100 * p) (b := q) (n_mul (a := 100) (b := p) rfl rfl) rfl]
                              exact ih (d - 1) (by omega) p (q + 1) hp (by omega) (by omega) K2 _ hK2 _ _ _ (Or.inr ⟨by omega, by rw [eN, tpb_y hs, show (16 * p + q) / 16 = p by omega, show (16 * p + q) % 16 = q by omega]⟩) (by rw [eN, tpb_y hs])
                            · refine r_iload rfl ?_
                              refine r_iload rfl ?_
                              refine r_icmp_le (fun c_141 => ?_) (fun c_141 => ?_)
                              · refine E_go 6 rfl ?_
                                refine r_iincN (y := io (q + 1)) (ls' := [_, _, _, _, _, _, _, _, _, _, _]) rfl (zt rfl) (n_add (a := q) (b := 1) rfl rfl) rfl ?_
                                refine r_goto ?_
                                have hs : ¬ (16 * p + q = 0 ∨ (tpb (tg ru (pX n I) a b) (16 * p + q)).2 < (tg ru (pX n I) a b) (16 * p + q)) := by
                                  rcases h6 with ⟨z, z2⟩ | ⟨z, z2⟩
                                  · exact absurd z2 c_134
                                  · exact fun y => y.elim (fun y => by omega) (fun y => absurd y (by rw [← h7]; exact Int32.not_lt.mpr c_141))
                                have eN : 16 * p + (q + 1) = (16 * p + q) + 1 := rfl
                                have h6 := h6.resolve_left (fun z => c_134 z.2)
                                exact ih (d - 1) (by omega) p (q + 1) hp (by omega) (by omega) K2 _ hK2 _ _ _ (Or.inr ⟨by omega, by rw [eN, tpb_n hs]; exact h6.2⟩) (by rw [eN, tpb_n hs]; exact h7)
                              · refine r_nil ?_
                                refine E_go 5 rfl ?_
                                refine r_bipush ?_
                                refine r_iload rfl ?_
                                refine r_imul ?_
                                refine r_iload rfl ?_
                                refine r_iadd ?_
                                refine r_istore (ls' := [_, _, _, _, _, _, _, _, _, _, _]) (zt rfl) rfl ?_
                                refine r_iload rfl ?_
                                refine r_istore (ls' := [_, _, _, _, _, _, _, _, _, _, _]) (zt rfl) rfl ?_
                                refine r_nil ?_
                                refine E_go 6 rfl ?_
                                refine r_iincN (y := io (q + 1)) (ls' := [_, _, _, _, _, _, _, _, _, _, _]) rfl (zt rfl) (n_add (a := q) (b := 1) rfl rfl) rfl ?_
                                refine r_goto ?_
                                have hs : 16 * p + q = 0 ∨ (tpb (tg ru (pX n I) a b) (16 * p + q)).2 < (tg ru (pX n I) a b) (16 * p + q) := by
                                  rcases h6 with ⟨z, _⟩ | ⟨z, z2⟩
                                  · exact Or.inl z
                                  · first | exact absurd c_134 (by rw [z2]; exact io_m1 (by have := tpb_lt (f := (tg ru (pX n I) a b)) (16 * p + q) (by omega); omega)) | exact Or.inr (by rw [← h7]; exact Int32.not_le.mp c_141)
                                have eN : 16 * p + (q + 1) = (16 * p + q) + 1 := rfl
                                rw [show 100 * io p + io q = io (100 * p + q) from n_add (a := 100 * p) (b := q) (n_mul (a := 100) (b := p) rfl rfl) rfl]
                                exact ih (d - 1) (by omega) p (q + 1) hp (by omega) (by omega) K2 _ hK2 _ _ _ (Or.inr ⟨by omega, by rw [eN, tpb_y hs, show (16 * p + q) / 16 = p by omega, show (16 * p + q) % 16 = q by omega]⟩) (by rw [eN, tpb_y hs])
                        exact key 272 0 0 (by omega) (by omega) (by omega) J L ⟨f6_refl, fun _ _ => rfl, fun v w => wP_c (wP_c (R1.eM f1) a v) b w⟩ _ _ _ (Or.inl ⟨rfl, rfl⟩) rfl
                    · have c_28 := (n_eq (a := 1) (b := 0) rfl rfl (by omega) (by omega)).mp c_28
                      omega
            refine M_go (ls := [_, _, _, _, _, _, _, _]) (ml := 8) rfl rfl rfl (zl rfl) rfl ?_
            refine r_aload_n rfl ?_
            refine r_iload_n rfl ?_
            refine r_virtual (vs := []) (as := [_]) (by decide) (zl rfl) rfl rfl (zl rfl) (Nat.le_refl _) (Or.inr (Or.inr ⟨zt rfl, rfl, zt rfl⟩)) ?_
            refine s_isAunt (by omega) R.cn h5 ?_
            rw [if_pos (inN_io ha (by omega))]
            refine r_if_eq (fun c_5 => ?_) (fun c_5 => ?_)
            · have c_5 := (n_eq (a := 1) (b := 0) rfl rfl (by omega) (by omega)).mp c_5
              omega
            · have c_5 := (not_congr (n_eq (a := 1) (b := 0) rfl rfl (by omega) (by omega))).mp c_5
              refine r_aload_n rfl ?_
              refine r_iload_n rfl ?_
              refine r_virtual (vs := []) (as := [_]) (by decide) (zl rfl) rfl rfl (zl rfl) (Nat.le_refl _) (Or.inr (Or.inr ⟨zt rfl, rfl, zt rfl⟩)) ?_
              refine s_isAunt (by omega) R.cn h5 ?_
              rw [if_pos (inN_io hb (by omega))]
              refine r_if_eq (fun c_13 => ?_) (fun c_13 => ?_)
              · have c_13 := (n_eq (a := 1) (b := 0) rfl rfl (by omega) (by omega)).mp c_13
                omega
              · have c_13 := (not_congr (n_eq (a := 1) (b := 0) rfl rfl (by omega) (by omega))).mp c_13
                refine r_iload_n rfl ?_
                refine r_iload_n rfl ?_
                refine r_icmp_eq (fun c_18 => ?_) (fun c_18 => ?_)
                · have c_18 := (n_eq (a := a) (b := b) rfl rfl (by omega) (by omega)).mp c_18
                  omega
                · have c_18 := (not_congr (n_eq (a := a) (b := b) rfl rfl (by omega) (by omega))).mp c_18
                  refine r_iload_n rfl ?_
                  refine r_static (vs := [_]) (by decide) (zl rfl) rfl rfl (zl rfl) (Nat.le_refl _) rfl ?_
                  refine s_isEither (by omega) ?_
                  rw [if_pos (inN_io (by omega) (by omega))]
                  refine r_if_ne (fun c_25 => ?_) (fun c_25 => ?_)
                  · have c_25 := (not_congr (n_eq (a := 1) (b := 0) rfl rfl (by omega) (by omega))).mp c_25
                    refine E_go 2 rfl ?_
                    refine r_iconst ?_
                    refine r_istore (ls' := [_, _, _, _, _, _, _, _]) (zt rfl) rfl ?_
                    refine r_iconst ?_
                    refine r_istore (ls' := [_, _, _, _, _, _, _, _]) (zt rfl) rfl ?_
                    refine r_aload_n rfl ?_
                    refine r_getA (q := 13) (by decide) rfl rfl (by decide) ?_
                    refine r_aload_n rfl ?_
                    refine r_getA (q := 1) (by decide) rfl rfl (by decide) ?_
                    refine r_virtual (vs := []) (as := [_]) (by decide) (zl rfl) rfl rfl (zl rfl) (Nat.le_refl _) (Or.inr (Or.inr ⟨zt rfl, rfl, zt rfl⟩)) ?_
                    refine s_becomes_13_1 (by omega) (fun J b1 => ?_)
                    have t0 := TC_bec (R.c hl) b1
                    refine r_iconst ?_
                    refine r_istore (ls' := [_, _, _, _, _, _, _, _]) (zt rfl) rfl ?_
                    refine r_nil ?_
                    have key0 : ∀ d k, k + d = 256 → ∀ (J : Mem) Z, TC n r Z I J → (∀ v w, pEq (wP (wP Z a v) b w) (wP (wP (pX n I) a v) b w)) → ∀ w4 v5 x7, w4 = (tpb (tg ru (pX n I) a b) k).1 → v5 = (tpb (tg ru (pX n I) a b) k).2 → E xs (m + 5) xi_X6_together 82 (fun r1 h1 => M xs (m + 6) xi_X7_together [.ref 61, .int (io a), .int (io b), .int (io 1)] h1 (fun r2 h2 => Q r1 r2 h2)) 51 [.ref 0, .int (io a), .int (io b), .int (io 1), .int (io w4), .int v5, .int (io k), x7] [] (82, J, L, xF0) := by
                      intro d
                      induction d using Nat.strongRecOn with
                      | _ d ih =>
                      intro k hd J Z hJ hZ w4 v5 x7 h4x h5x
                      have w4b : w4 < 2147483648 := by rw [h4x]; have := tpb_lt (f := (tg ru (pX n I) a b)) k (by omega); omega
                      refine E_go 3 rfl ?_
                      refine r_iload rfl ?_
                      refine r_sipush ?_
                      refine r_icmp_ge (fun c_56 => ?_) (fun c_56 => ?_)
                      · have c_56 := (n_le (a := 256) (b := k) rfl rfl (by omega) (by omega)).mp c_56
                        refine E_go 6 rfl ?_
                        refine r_iload_n rfl ?_
                        refine r_if_ne (fun c_163 => ?_) (fun c_163 => ?_)
                        · have c_163 := (not_congr (n_eq (a := 1) (b := 0) rfl rfl (by omega) (by omega))).mp c_163
                          refine E_go 7 rfl ?_
                          refine r_iload rfl ?_
                          refine r_nil ?_
                          refine E_go 8 rfl ?_
                          refine r_iret rfl trivial ?_
                          have ek : k = 256 := by omega
                          subst ek
                          rw [h5x]
                          exact fin J (hJ.1.fS (by omega) (by omega))
                        · have c_163 := (n_eq (a := 1) (b := 0) rfl rfl (by omega) (by omega)).mp c_163
                          omega
                      · have c_56 := (not_congr (n_le (a := 256) (b := k) rfl rfl (by omega) (by omega))).mp c_56
                        refine r_aload_n rfl ?_
                        refine r_getA (q := 13) (by decide) rfl rfl (by decide) ?_
                        refine r_getA (q := 17) (by decide) rfl rfl (by decide) ?_
                        refine r_iload_n rfl ?_
                        refine r_iload rfl ?_
                        refine r_bipush ?_
                        refine r_idiv (by decide) ?_
                        rw [show io k / 16 = io (k / 16) from n_div (a := k) (b := 16) rfl rfl (by omega) (by omega)]
                        refine r_iastore rfl (by decide) (ixE rfl (show a < 5 by omega) (by decide)) ?_
                        refine r_aload_n rfl ?_
                        refine r_getA (q := 13) (by decide) rfl rfl (by decide) ?_
                        refine r_getA (q := 17) (by decide) rfl rfl (by decide) ?_
                        refine r_iload_n rfl ?_
                        refine r_iload rfl ?_
                        refine r_bipush ?_
                        refine r_irem (by decide) ?_
                        rw [show io k - io k / 16 * 16 = io (k % 16) from n_rem (a := k) (b := 16) rfl rfl (by omega) (by omega)]
                        refine r_iastore rfl (by decide) (ixE rfl (show b < 5 by omega) (by decide)) ?_
                        refine r_aload_n rfl ?_
                        refine r_aload_n rfl ?_
                        refine r_getA (q := 13) (by decide) rfl rfl (by decide) ?_
                        refine r_virtual (vs := []) (as := [_]) (by decide) (zl rfl) rfl rfl (zl rfl) (Nat.le_refl _) (Or.inr (Or.inr ⟨zt rfl, rfl, zt rfl⟩)) ?_
                        have tY : TC n r (wP (wP (pX n I) a (io (k / 16))) b (io (k % 16))) I (up2 (up2 J 17 a (io (k / 16))) 17 b (io (k % 16))) := TC_c (hJ.plan.plan) (hZ _ _)
                        refine w_thoughtC (by omega) (R.c hl) tY (fun K k1 k2 => ?_)
                        have kp2 : K 17 b = io (k % 16) := (k1.2.2.2.2.2 b hb).2.2.trans u1_eq
                        have kp1 : K 17 a = io (k / 16) := (k1.2.2.2.2.2 a ha).2.2.trans ((u1_ne ne).trans u1_eq)
                        refine r_aload_n rfl ?_
                        refine r_getA (q := 19) (by decide) rfl rfl (by decide) ?_
                        refine r_getA (q := 22) (by decide) rfl rfl (by decide) ?_
                        refine r_iload_n rfl ?_
                        refine r_iaload (by decide) rfl (by decide) (ixE rfl (show a < 5 by omega) (by decide)) (hD_j k2 (by omega)) ?_
                        refine r_aload_n rfl ?_
                        refine r_getA (q := 19) (by decide) rfl rfl (by decide) ?_
                        refine r_getA (q := 22) (by decide) rfl rfl (by decide) ?_
                        refine r_iload_n rfl ?_
                        refine r_iaload (by decide) rfl (by decide) (ixE rfl (show b < 5 by omega) (by decide)) (hD_j k2 (by omega)) ?_
                        refine r_iadd ?_
                        rw [show shr ru (wP (wP (pX n I) a (io (k / 16))) b (io (k % 16))) a + shr ru (wP (wP (pX n I) a (io (k / 16))) b (io (k % 16))) b = (tg ru (pX n I) a b) k from rfl]
                        refine r_istore (ls' := [_, _, _, _, _, _, _, _]) (zt rfl) rfl ?_
                        refine r_iload rfl ?_
                        refine r_if_eq (fun c_118 => ?_) (fun c_118 => ?_)
                        · have c_118 := (n_eq (a := k) (b := 0) rfl rfl (by omega) (by omega)).mp c_118
                          refine E_go 4 rfl ?_
                          refine r_iload rfl ?_
                          refine r_istore (ls' := [_, _, _, _, _, _, _, _]) (zt rfl) rfl ?_
                          refine r_bipush ?_
                          refine r_aload_n rfl ?_
                          refine r_getA (q := 13) (by decide) rfl rfl (by decide) ?_
                          refine r_getA (q := 17) (by decide) rfl rfl (by decide) ?_
                          refine r_iload_n rfl ?_
                          refine r_iaload (by decide) rfl (by decide) (ixE rfl (show a < 5 by omega) (by decide)) kp1 ?_
                          refine r_imul ?_
                          refine r_aload_n rfl ?_
                          refine r_getA (q := 13) (by decide) rfl rfl (by decide) ?_
                          refine r_getA (q := 17) (by decide) rfl rfl (by decide) ?_
                          refine r_iload_n rfl ?_
                          refine r_iaload (by decide) rfl (by decide) (ixE rfl (show b < 5 by omega) (by decide)) kp2 ?_
                          refine r_iadd ?_
                          refine r_istore (ls' := [_, _, _, _, _, _, _, _]) (zt rfl) rfl ?_
                          refine r_nil ?_
                          refine E_go 5 rfl ?_
                          refine r_iincN (y := io (k + 1)) (ls' := [_, _, _, _, _, _, _, _]) rfl (zt rfl) (n_add (a := k) (b := 1) rfl rfl) rfl ?_
                          refine r_goto ?_
                          have hs : k = 0 ∨ (tpb (tg ru (pX n I) a b) k).2 < (tg ru (pX n I) a b) k := by first | exact Or.inl (by omega) | exact Or.inr (by rw [← h5x]; exact Int32.not_le.mp c_125)
                          rw [show 100 * io (k / 16) + io (k % 16) = io (100 * (k / 16) + k % 16) from n_add (a := 100 * (k / 16)) (b := k % 16) (n_mul (a := 100) (b := k / 16) rfl rfl) rfl]
                          exact ih (d - 1) (by omega) (k + 1) (by omega) K _ k1 (fun v w => wPP) _ _ _ (by rw [tpb_y hs]) (by rw [tpb_y hs])
                        · have c_118 := (not_congr (n_eq (a := k) (b := 0) rfl rfl (by omega) (by omega))).mp c_118
                          refine r_iload rfl ?_
                          refine r_iload rfl ?_
                          refine r_icmp_le (fun c_125 => ?_) (fun c_125 => ?_)
                          · refine E_go 5 rfl ?_
                            refine r_iincN (y := io (k + 1)) (ls' := [_, _, _, _, _, _, _, _]) rfl (zt rfl) (n_add (a := k) (b := 1) rfl rfl) rfl ?_
                            refine r_goto ?_
                            have hs : ¬ (k = 0 ∨ (tpb (tg ru (pX n I) a b) k).2 < (tg ru (pX n I) a b) k) := fun y => y.elim (fun y => by omega) (fun y => absurd y (by rw [← h5x]; exact Int32.not_lt.mpr c_125))
                            exact ih (d - 1) (by omega) (k + 1) (by omega) K _ k1 (fun v w => wPP) _ _ _ (by rw [tpb_n hs]; exact h4x) (by rw [tpb_n hs]; exact h5x)
                          · refine r_nil ?_
                            refine E_go 4 rfl ?_
                            refine r_iload rfl ?_
                            refine r_istore (ls' := [_, _, _, _, _, _, _, _]) (zt rfl) rfl ?_
                            refine r_bipush ?_
                            refine r_aload_n rfl ?_
                            refine r_getA (q := 13) (by decide) rfl rfl (by decide) ?_
                            refine r_getA (q := 17) (by decide) rfl rfl (by decide) ?_
                            refine r_iload_n rfl ?_
                            refine r_iaload (by decide) rfl (by decide) (ixE rfl (show a < 5 by omega) (by decide)) kp1 ?_
                            refine r_imul ?_
                            refine r_aload_n rfl ?_
                            refine r_getA (q := 13) (by decide) rfl rfl (by decide) ?_
                            refine r_getA (q := 17) (by decide) rfl rfl (by decide) ?_
                            refine r_iload_n rfl ?_
                            refine r_iaload (by decide) rfl (by decide) (ixE rfl (show b < 5 by omega) (by decide)) kp2 ?_
                            refine r_iadd ?_
                            refine r_istore (ls' := [_, _, _, _, _, _, _, _]) (zt rfl) rfl ?_
                            refine r_nil ?_
                            refine E_go 5 rfl ?_
                            refine r_iincN (y := io (k + 1)) (ls' := [_, _, _, _, _, _, _, _]) rfl (zt rfl) (n_add (a := k) (b := 1) rfl rfl) rfl ?_
                            refine r_goto ?_
                            have hs : k = 0 ∨ (tpb (tg ru (pX n I) a b) k).2 < (tg ru (pX n I) a b) k := by first | exact Or.inl (by omega) | exact Or.inr (by rw [← h5x]; exact Int32.not_le.mp c_125)
                            rw [show 100 * io (k / 16) + io (k % 16) = io (100 * (k / 16) + k % 16) from n_add (a := 100 * (k / 16)) (b := k % 16) (n_mul (a := 100) (b := k / 16) rfl rfl) rfl]
                            exact ih (d - 1) (by omega) (k + 1) (by omega) K _ k1 (fun v w => wPP) _ _ _ (by rw [tpb_y hs]) (by rw [tpb_y hs])
                    exact key0 256 0 (by omega) J _ t0 (fun v w => pEq.refl) 0 0 _ rfl rfl
                  · have c_25 := (n_eq (a := 1) (b := 0) rfl rfl (by omega) (by omega)).mp c_25
                    omega
        · refine M_go (ls := [_, _, _, _, _, _, _, _]) (ml := 8) rfl rfl rfl (zl rfl) rfl ?_
          refine r_aload_n rfl ?_
          refine r_iload_n rfl ?_
          refine r_virtual (vs := []) (as := [_]) (by decide) (zl rfl) rfl rfl (zl rfl) (Nat.le_refl _) (Or.inr (Or.inr ⟨zt rfl, rfl, zt rfl⟩)) ?_
          refine s_isAunt (by omega) R.cn h5 ?_
          rw [if_pos (inN_io ha (by omega))]
          refine r_if_eq (fun c_5 => ?_) (fun c_5 => ?_)
          · have c_5 := (n_eq (a := 1) (b := 0) rfl rfl (by omega) (by omega)).mp c_5
            omega
          · have c_5 := (not_congr (n_eq (a := 1) (b := 0) rfl rfl (by omega) (by omega))).mp c_5
            refine r_aload_n rfl ?_
            refine r_iload_n rfl ?_
            refine r_virtual (vs := []) (as := [_]) (by decide) (zl rfl) rfl rfl (zl rfl) (Nat.le_refl _) (Or.inr (Or.inr ⟨zt rfl, rfl, zt rfl⟩)) ?_
            refine s_isAunt (by omega) R.cn h5 ?_
            rw [if_pos (inN_io hb (by omega))]
            refine r_if_eq (fun c_13 => ?_) (fun c_13 => ?_)
            · have c_13 := (n_eq (a := 1) (b := 0) rfl rfl (by omega) (by omega)).mp c_13
              omega
            · have c_13 := (not_congr (n_eq (a := 1) (b := 0) rfl rfl (by omega) (by omega))).mp c_13
              refine r_iload_n rfl ?_
              refine r_iload_n rfl ?_
              refine r_icmp_eq (fun c_18 => ?_) (fun c_18 => ?_)
              · have c_18 := (n_eq (a := a) (b := b) rfl rfl (by omega) (by omega)).mp c_18
                omega
              · have c_18 := (not_congr (n_eq (a := a) (b := b) rfl rfl (by omega) (by omega))).mp c_18
                refine r_iload_n rfl ?_
                refine r_static (vs := [_]) (by decide) (zl rfl) rfl rfl (zl rfl) (Nat.le_refl _) rfl ?_
                refine s_isEither (by omega) ?_
                rw [if_neg hz]
                refine r_if_ne (fun c_25 => ?_) (fun c_25 => ?_)
                · have c_25 := (not_congr (n_eq (a := 0) (b := 0) rfl rfl (by omega) (by omega))).mp c_25
                  omega
                · have c_25 := (n_eq (a := 0) (b := 0) rfl rfl (by omega) (by omega)).mp c_25
                  refine r_nil ?_
                  refine E_go 1 rfl ?_
                  refine r_ldc rfl ?_
                  refine r_iret rfl trivial ?_
                  refine M_go (ls := [_, _, _, _, _, _, _, _, _, _, _]) (ml := 11) rfl rfl rfl (zl rfl) rfl ?_
                  refine r_aload_n rfl ?_
                  refine r_iload_n rfl ?_
                  refine r_virtual (vs := []) (as := [_]) (by decide) (zl rfl) rfl rfl (zl rfl) (Nat.le_refl _) (Or.inr (Or.inr ⟨zt rfl, rfl, zt rfl⟩)) ?_
                  refine s_isOne (by omega) R.mn h5 ?_
                  rw [if_pos (inN_io ha (by omega))]
                  refine r_if_eq (fun c_5 => ?_) (fun c_5 => ?_)
                  · have c_5 := (n_eq (a := 1) (b := 0) rfl rfl (by omega) (by omega)).mp c_5
                    omega
                  · have c_5 := (not_congr (n_eq (a := 1) (b := 0) rfl rfl (by omega) (by omega))).mp c_5
                    refine r_aload_n rfl ?_
                    refine r_iload_n rfl ?_
                    refine r_virtual (vs := []) (as := [_]) (by decide) (zl rfl) rfl rfl (zl rfl) (Nat.le_refl _) (Or.inr (Or.inr ⟨zt rfl, rfl, zt rfl⟩)) ?_
                    refine s_isOne (by omega) R.mn h5 ?_
                    rw [if_pos (inN_io hb (by omega))]
                    refine r_if_eq (fun c_13 => ?_) (fun c_13 => ?_)
                    · have c_13 := (n_eq (a := 1) (b := 0) rfl rfl (by omega) (by omega)).mp c_13
                      omega
                    · have c_13 := (not_congr (n_eq (a := 1) (b := 0) rfl rfl (by omega) (by omega))).mp c_13
                      refine r_iload_n rfl ?_
                      refine r_iload_n rfl ?_
                      refine r_icmp_eq (fun c_18 => ?_) (fun c_18 => ?_)
                      · have c_18 := (n_eq (a := a) (b := b) rfl rfl (by omega) (by omega)).mp c_18
                        omega
                      · have c_18 := (not_congr (n_eq (a := a) (b := b) rfl rfl (by omega) (by omega))).mp c_18
                        refine r_iload_n rfl ?_
                        refine r_i2l ?_
                        refine r_lconst ?_
                        refine r_lconst ?_
                        refine r_static (vs := [_, _, _]) (by decide) (zl rfl) rfl rfl (zl rfl) (Nat.le_refl _) rfl ?_
                        refine s_in0 (by omega) (x := z) (k := 2) (Int32.toInt_toInt64 _) i64_0 rfl ?_
                        rw [if_neg hz]
                        refine r_if_ne (fun c_28 => ?_) (fun c_28 => ?_)
                        · have c_28 := (not_congr (n_eq (a := 0) (b := 0) rfl rfl (by omega) (by omega))).mp c_28
                          omega
                        · have c_28 := (n_eq (a := 0) (b := 0) rfl rfl (by omega) (by omega)).mp c_28
                          refine r_nil ?_
                          refine E_go 1 rfl ?_
                          refine r_ldc rfl ?_
                          refine r_iret rfl trivial ?_
                          exact hQ _ _ _ R.rel
    · refine M_go (ls := [_, _, _, _, _, _, _, _]) (ml := 8) rfl rfl rfl (zl rfl) rfl ?_
      refine r_aload_n rfl ?_
      refine r_iload_n rfl ?_
      refine r_virtual (vs := []) (as := [_]) (by decide) (zl rfl) rfl rfl (zl rfl) (Nat.le_refl _) (Or.inr (Or.inr ⟨zt rfl, rfl, zt rfl⟩)) ?_
      refine s_isAunt (by omega) R.cn h5 ?_
      rw [if_pos (inN_io ha (by omega))]
      refine r_if_eq (fun c_5 => ?_) (fun c_5 => ?_)
      · have c_5 := (n_eq (a := 1) (b := 0) rfl rfl (by omega) (by omega)).mp c_5
        omega
      · have c_5 := (not_congr (n_eq (a := 1) (b := 0) rfl rfl (by omega) (by omega))).mp c_5
        refine r_aload_n rfl ?_
        refine r_iload_n rfl ?_
        refine r_virtual (vs := []) (as := [_]) (by decide) (zl rfl) rfl rfl (zl rfl) (Nat.le_refl _) (Or.inr (Or.inr ⟨zt rfl, rfl, zt rfl⟩)) ?_
        refine s_isAunt (by omega) R.cn h5 ?_
        rw [if_neg hy]
        refine r_if_eq (fun c_13 => ?_) (fun c_13 => ?_)
        · have c_13 := (n_eq (a := 0) (b := 0) rfl rfl (by omega) (by omega)).mp c_13
          refine E_go 1 rfl ?_
          refine r_ldc rfl ?_
          refine r_iret rfl trivial ?_
          refine M_go (ls := [_, _, _, _, _, _, _, _, _, _, _]) (ml := 11) rfl rfl rfl (zl rfl) rfl ?_
          refine r_aload_n rfl ?_
          refine r_iload_n rfl ?_
          refine r_virtual (vs := []) (as := [_]) (by decide) (zl rfl) rfl rfl (zl rfl) (Nat.le_refl _) (Or.inr (Or.inr ⟨zt rfl, rfl, zt rfl⟩)) ?_
          refine s_isOne (by omega) R.mn h5 ?_
          rw [if_pos (inN_io ha (by omega))]
          refine r_if_eq (fun c_5 => ?_) (fun c_5 => ?_)
          · have c_5 := (n_eq (a := 1) (b := 0) rfl rfl (by omega) (by omega)).mp c_5
            omega
          · have c_5 := (not_congr (n_eq (a := 1) (b := 0) rfl rfl (by omega) (by omega))).mp c_5
            refine r_aload_n rfl ?_
            refine r_iload_n rfl ?_
            refine r_virtual (vs := []) (as := [_]) (by decide) (zl rfl) rfl rfl (zl rfl) (Nat.le_refl _) (Or.inr (Or.inr ⟨zt rfl, rfl, zt rfl⟩)) ?_
            refine s_isOne (by omega) R.mn h5 ?_
            rw [if_neg hy]
            refine r_if_eq (fun c_13 => ?_) (fun c_13 => ?_)
            · have c_13 := (n_eq (a := 0) (b := 0) rfl rfl (by omega) (by omega)).mp c_13
              refine E_go 1 rfl ?_
              refine r_ldc rfl ?_
              refine r_iret rfl trivial ?_
              exact hQ _ _ _ R.rel
            · have c_13 := (not_congr (n_eq (a := 0) (b := 0) rfl rfl (by omega) (by omega))).mp c_13
              omega
        · have c_13 := (not_congr (n_eq (a := 0) (b := 0) rfl rfl (by omega) (by omega))).mp c_13
          omega
  · refine M_go (ls := [_, _, _, _, _, _, _, _]) (ml := 8) rfl rfl rfl (zl rfl) rfl ?_
    refine r_aload_n rfl ?_
    refine r_iload_n rfl ?_
    refine r_virtual (vs := []) (as := [_]) (by decide) (zl rfl) rfl rfl (zl rfl) (Nat.le_refl _) (Or.inr (Or.inr ⟨zt rfl, rfl, zt rfl⟩)) ?_
    refine s_isAunt (by omega) R.cn h5 ?_
    rw [if_neg hx]
    refine r_if_eq (fun c_5 => ?_) (fun c_5 => ?_)
    · have c_5 := (n_eq (a := 0) (b := 0) rfl rfl (by omega) (by omega)).mp c_5
      refine E_go 1 rfl ?_
      refine r_ldc rfl ?_
      refine r_iret rfl trivial ?_
      refine M_go (ls := [_, _, _, _, _, _, _, _, _, _, _]) (ml := 11) rfl rfl rfl (zl rfl) rfl ?_
      refine r_aload_n rfl ?_
      refine r_iload_n rfl ?_
      refine r_virtual (vs := []) (as := [_]) (by decide) (zl rfl) rfl rfl (zl rfl) (Nat.le_refl _) (Or.inr (Or.inr ⟨zt rfl, rfl, zt rfl⟩)) ?_
      refine s_isOne (by omega) R.mn h5 ?_
      rw [if_neg hx]
      refine r_if_eq (fun c_5 => ?_) (fun c_5 => ?_)
      · have c_5 := (n_eq (a := 0) (b := 0) rfl rfl (by omega) (by omega)).mp c_5
        refine E_go 1 rfl ?_
        refine r_ldc rfl ?_
        refine r_iret rfl trivial ?_
        exact hQ _ _ _ R.rel
      · have c_5 := (not_congr (n_eq (a := 0) (b := 0) rfl rfl (by omega) (by omega))).mp c_5
        omega
    · have c_5 := (not_congr (n_eq (a := 0) (b := 0) rfl rfl (by omega) (by omega))).mp c_5
      omega
