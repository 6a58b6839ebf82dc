/-! calls: tells, whole -/

theorem rem_y {k : Nat} (hk : k < 70) : io k - io k / 10 * 10 = io (k % 10) := n_rem (a := k) (b := 10) rfl rfl (by omega) (by omega)

set_option maxRecDepth 10000 in
theorem tz_tells {xs : xSc} {m : Nat} {I : Nat → Nat → Int32} {L : Nat → Nat → Int64} {Q : Value → Value → xHp → Prop} (hm : 90 ≤ m) (hR : Rel I) {x y : Int32} (hQ : ∀ (x : Int32) J L2, Rel J → Q (.int x) (.int x) (Hp J L2)) : M xs m xi_X6_tells [.ref 0, .int x, .int y] (Hp I L) (fun r1 h1 => M xs m xi_X7_tells [.ref 61, .int x, .int y] h1 (fun r2 h2 => Q r1 r2 h2)) := by
  obtain ⟨m, rfl⟩ : ∃ k, m = k + 6 := ⟨m - 6, by omega⟩
  obtain ⟨n, tc, r, tp, R⟩ := hR
  have h5 := R.n5
  have hr6 := R.r6
  have ht6 := R.t6
  have hrt := R.rt
  have hp160 := R.2.2.1.1.1
  by_cases hx : inN 4 x
  · by_cases hv : inN 2 y ∨ ((10 ≤ y.toInt ∧ y.toInt ≤ 69) ∧ inN n (y - y / 10 * 10))
    · obtain ⟨s, hs, rfl⟩ := inN_ex hx (by omega)
      obtain ⟨ru, hl⟩ := R.rl
      rcases hv with h01 | ⟨hb, hna⟩
      · obtain ⟨k, hk, rfl⟩ := inN_ex h01 (by omega)
        have ek : k = 0 ∨ k = 1 := by omega
        rcases ek with rfl | rfl
        · rcases R.2.2.2.2 s hs with ⟨p1, p2⟩ | ⟨so, zs, pb, p2, p3, p4⟩
          · refine M_go (ls := [_, _, _, _, _]) (ml := 5) rfl rfl rfl (zl rfl) rfl ?_
            refine r_iload_n rfl ?_
            refine r_static (vs := [_]) (by decide) (zl rfl) rfl rfl (zl rfl) (Nat.le_refl _) rfl ?_
            refine s_isSheet (by omega) ?_
            rw [if_pos (inN_io hs (by omega))]
            refine r_if_eq (fun c_4 => ?_) (fun c_4 => ?_)
            · have c_4 := (n_eq (a := 1) (b := 0) rfl rfl (by omega) (by omega)).mp c_4
              omega
            · have c_4 := (not_congr (n_eq (a := 1) (b := 0) rfl rfl (by omega) (by omega))).mp c_4
              refine r_aload_n rfl ?_
              refine r_iload_n rfl ?_
              refine r_virtual (vs := []) (as := [_]) (by decide) (zl rfl) rfl rfl (zl rfl) (Nat.le_refl _) (Or.inr (Or.inr ⟨zt rfl, rfl, zt rfl⟩)) ?_
              refine M_go (ls := [_, _]) (ml := 2) rfl rfl rfl (zl rfl) rfl ?_
              refine r_iload_n rfl ?_
              refine r_bipush ?_
              refine r_icmp_ge (fun c_9_3 => ?_) (fun c_9_3 => ?_)
              · have c_9_3 := (n_le (a := 10) (b := 0) rfl rfl (by omega) (by omega)).mp c_9_3
                omega
              · have c_9_3 := (not_congr (n_le (a := 10) (b := 0) rfl rfl (by omega) (by omega))).mp c_9_3
                refine r_iload_n rfl ?_
                refine r_static (vs := [_]) (by decide) (zl rfl) rfl rfl (zl rfl) (Nat.le_refl _) rfl ?_
                refine s_isEither (by omega) ?_
                rw [if_pos (inN_io (by omega) (by omega))]
                refine r_iret rfl (by first | exact Or.inl rfl | exact Or.inr rfl) ?_
                refine r_if_ne (fun c_12 => ?_) (fun c_12 => ?_)
                · have c_12 := (not_congr (n_eq (a := 1) (b := 0) rfl rfl (by omega) (by omega))).mp c_12
                  refine E_go 2 rfl ?_
                  refine r_aload_n rfl ?_
                  refine r_getA (q := 34) (by decide) rfl rfl (by decide) ?_
                  refine r_iload_n rfl ?_
                  refine r_aaload (by decide) (by decide) (ixE rfl (show s < 4 by omega) (by decide)) (shK s hs).2.2.1 ?_
                  refine r_astore_n (ls' := [_, _, _, _, _]) (zt rfl) rfl ?_
                  refine r_aload_n rfl ?_
                  refine r_getI (by decide) rfl (shK s hs).1 (shK s hs).2.1 p1 ?_
                  refine r_iconst ?_
                  refine r_icmp_ne (fun c_30 => ?_) (fun c_30 => ?_)
                  · exact absurd rfl c_30
                  · refine r_bipush ?_
                    refine r_iret rfl trivial ?_
                    refine M_go (ls := [_, _, _, _, _, _, _, _, _, _, _, _]) (ml := 12) rfl rfl rfl (zl rfl) rfl ?_
                    refine r_iload_n rfl ?_
                    refine r_i2l ?_
                    refine r_ldc2_w ?_
                    refine r_ldc2_w ?_
                    refine r_static (vs := [_, _, _]) (by decide) (zl rfl) rfl rfl (zl rfl) (Nat.le_refl _) rfl ?_
                    refine s_inr (by omega) (x := io 0) (lo := 10) (hi := 69) (Int32.toInt_toInt64 _) (by decide) (by decide) ?_
                    rw [if_neg (by decide)]
                    refine r_if_eq (fun c_11 => ?_) (fun c_11 => ?_)
                    · have c_11 := (n_eq (a := 0) (b := 0) rfl rfl (by omega) (by omega)).mp c_11
                      refine E_go 1 rfl ?_
                      refine r_iconst ?_
                      refine r_nil ?_
                      refine E_go 2 rfl ?_
                      refine r_istore_n (ls' := [_, _, _, _, _, _, _, _, _, _, _, _]) (zt rfl) rfl ?_
                      refine r_iload_n rfl ?_
                      refine r_static (vs := [_]) (by decide) (zl rfl) rfl rfl (zl rfl) (Nat.le_refl _) rfl ?_
                      refine s_misSheet (by omega) ?_
                      rw [if_pos (inN_io hs (by omega))]
                      refine r_if_eq (fun c_35 => ?_) (fun c_35 => ?_)
                      · have c_35 := (n_eq (a := 1) (b := 0) rfl rfl (by omega) (by omega)).mp c_35
                        omega
                      · have c_35 := (not_congr (n_eq (a := 1) (b := 0) rfl rfl (by omega) (by omega))).mp c_35
                        refine r_iload_n rfl ?_
                        refine r_i2l ?_
                        refine r_lconst ?_
                        refine r_lconst ?_
                        refine r_static (vs := [_, _, _]) (by decide) (zl rfl) rfl rfl (zl rfl) (Nat.le_refl _) rfl ?_
                        refine s_in0 (by omega) (x := io 0) (k := 2) (Int32.toInt_toInt64 _) i64_0 rfl ?_
                        rw [if_pos (inN_io (by omega) (by omega))]
                        refine r_if_ne (fun c_45 => ?_) (fun c_45 => ?_)
                        · have c_45 := (not_congr (n_eq (a := 1) (b := 0) rfl rfl (by omega) (by omega))).mp c_45
                          refine E_go 4 rfl ?_
                          refine r_aload_n rfl ?_
                          refine r_getA (q := 78) (by decide) rfl rfl (by decide) ?_
                          refine r_iload_n rfl ?_
                          refine r_baload (by decide) rfl (by decide) (ixE rfl (show s < 4 by omega) (by decide)) p2 ?_
                          refine r_if_ne (fun c_61 => ?_) (fun c_61 => ?_)
                          · have c_61 := (not_congr (n_eq (a := 0) (b := 0) rfl rfl (by omega) (by omega))).mp c_61
                            omega
                          · have c_61 := (n_eq (a := 0) (b := 0) rfl rfl (by omega) (by omega)).mp c_61
                            refine r_bipush ?_
                            refine r_iret rfl trivial ?_
                            exact hQ _ _ _ R.rel
                        · have c_45 := (n_eq (a := 1) (b := 0) rfl rfl (by omega) (by omega)).mp c_45
                          omega
                    · have c_11 := (not_congr (n_eq (a := 0) (b := 0) rfl rfl (by omega) (by omega))).mp c_11
                      omega
                · have c_12 := (n_eq (a := 1) (b := 0) rfl rfl (by omega) (by omega)).mp c_12
                  omega
          · have hso := pb.1
            have hzs := pb.2
            by_cases hz6 : zs ≤ 6
            · have hg : ∀ j, j < zs → I 81 (40 * s + j) = I (54 + 2 * s) j := p4
              refine M_go (ls := [_, _, _, _, _]) (ml := 5) rfl rfl rfl (zl rfl) rfl ?_
              refine r_iload_n rfl ?_
              refine r_static (vs := [_]) (by decide) (zl rfl) rfl rfl (zl rfl) (Nat.le_refl _) rfl ?_
              refine s_isSheet (by omega) ?_
              rw [if_pos (inN_io hs (by omega))]
              refine r_if_eq (fun c_4 => ?_) (fun c_4 => ?_)
              · have c_4 := (n_eq (a := 1) (b := 0) rfl rfl (by omega) (by omega)).mp c_4
                omega
              · have c_4 := (not_congr (n_eq (a := 1) (b := 0) rfl rfl (by omega) (by omega))).mp c_4
                refine r_aload_n rfl ?_
                refine r_iload_n rfl ?_
                refine r_virtual (vs := []) (as := [_]) (by decide) (zl rfl) rfl rfl (zl rfl) (Nat.le_refl _) (Or.inr (Or.inr ⟨zt rfl, rfl, zt rfl⟩)) ?_
                refine M_go (ls := [_, _]) (ml := 2) rfl rfl rfl (zl rfl) rfl ?_
                refine r_iload_n rfl ?_
                refine r_bipush ?_
                refine r_icmp_ge (fun c_9_3 => ?_) (fun c_9_3 => ?_)
                · have c_9_3 := (n_le (a := 10) (b := 0) rfl rfl (by omega) (by omega)).mp c_9_3
                  omega
                · have c_9_3 := (not_congr (n_le (a := 10) (b := 0) rfl rfl (by omega) (by omega))).mp c_9_3
                  refine r_iload_n rfl ?_
                  refine r_static (vs := [_]) (by decide) (zl rfl) rfl rfl (zl rfl) (Nat.le_refl _) rfl ?_
                  refine s_isEither (by omega) ?_
                  rw [if_pos (inN_io (by omega) (by omega))]
                  refine r_iret rfl (by first | exact Or.inl rfl | exact Or.inr rfl) ?_
                  refine r_if_ne (fun c_12 => ?_) (fun c_12 => ?_)
                  · have c_12 := (not_congr (n_eq (a := 1) (b := 0) rfl rfl (by omega) (by omega))).mp c_12
                    refine E_go 2 rfl ?_
                    refine r_aload_n rfl ?_
                    refine r_getA (q := 34) (by decide) rfl rfl (by decide) ?_
                    refine r_iload_n rfl ?_
                    refine r_aaload (by decide) (by decide) (ixE rfl (show s < 4 by omega) (by decide)) (shK s hs).2.2.1 ?_
                    refine r_astore_n (ls' := [_, _, _, _, _]) (zt rfl) rfl ?_
                    refine r_aload_n rfl ?_
                    refine r_getI (by decide) rfl (shK s hs).1 (shK s hs).2.1 p2.1 ?_
                    refine r_iconst ?_
                    refine r_icmp_ne (fun c_30 => ?_) (fun c_30 => ?_)
                    · refine E_go 3 rfl ?_
                      refine r_aload_n rfl ?_
                      refine r_getI (by decide) rfl (shK s hs).1 (shK s hs).2.1 p2.2 ?_
                      refine r_bipush ?_
                      refine r_icmp_le (fun c_42 => ?_) (fun c_42 => ?_)
                      · have c_42 := (n_le (a := zs) (b := 6) rfl rfl (by omega) (by omega)).mp c_42
                        refine E_go 4 rfl ?_
                        refine r_iload_n rfl ?_
                        refine r_bipush ?_
                        refine r_irem (by decide) ?_
                        refine r_istore (ls' := [_, _, _, _, _]) (zt rfl) rfl ?_
                        refine r_iload_n rfl ?_
                        refine r_bipush ?_
                        refine r_idiv (by decide) ?_
                        rw [show io 0 / 10 = 0 from by decide]
                        refine r_table ?_
                        refine r_sw1 (fun cs => ?_) (fun ds => ?_)
                        · refine E_go 5 rfl ?_
                          refine r_iload_n rfl ?_
                          refine r_if_ne (fun c_97 => ?_) (fun c_97 => ?_)
                          · have c_97 := (not_congr (n_eq (a := 0) (b := 0) rfl rfl (by omega) (by omega))).mp c_97
                            omega
                          · have c_97 := (n_eq (a := 0) (b := 0) rfl rfl (by omega) (by omega)).mp c_97
                            refine r_aload_n rfl ?_
                            refine r_aload_n rfl ?_
                            refine r_getA (q := 1) (by decide) rfl rfl (by decide) ?_
                            refine r_aload_n rfl ?_
                            refine r_virtual (vs := []) (as := [_, _]) (by decide) (zl rfl) rfl rfl (zl rfl) (Nat.le_refl _) (Or.inr (Or.inr ⟨zt rfl, rfl, zt rfl⟩)) ?_
                            refine w_cfo1 (by omega) (R.c hl) hs hz6 p2.2 (fun J0 k1 => ?_)
                            have f1 := k1.fS (by omega) (by omega)
                            refine r_goto ?_
                            refine E_go 7 rfl ?_
                            refine r_iret rfl trivial ?_
                            have R1 := R.f f1
                            refine M_go (ls := [_, _, _, _, _, _, _, _, _, _, _, _]) (ml := 12) rfl rfl rfl (zl rfl) rfl ?_
                            refine r_iload_n rfl ?_
                            refine r_i2l ?_
                            refine r_ldc2_w ?_
                            refine r_ldc2_w ?_
                            refine r_static (vs := [_, _, _]) (by decide) (zl rfl) rfl rfl (zl rfl) (Nat.le_refl _) rfl ?_
                            refine s_inr (by omega) (x := io 0) (lo := 10) (hi := 69) (Int32.toInt_toInt64 _) (by decide) (by decide) ?_
                            rw [if_neg (by decide)]
                            refine r_if_eq (fun c_11 => ?_) (fun c_11 => ?_)
                            · have c_11 := (n_eq (a := 0) (b := 0) rfl rfl (by omega) (by omega)).mp c_11
                              refine E_go 1 rfl ?_
                              refine r_iconst ?_
                              refine r_nil ?_
                              refine E_go 2 rfl ?_
                              refine r_istore_n (ls' := [_, _, _, _, _, _, _, _, _, _, _, _]) (zt rfl) rfl ?_
                              refine r_iload_n rfl ?_
                              refine r_static (vs := [_]) (by decide) (zl rfl) rfl rfl (zl rfl) (Nat.le_refl _) rfl ?_
                              refine s_misSheet (by omega) ?_
                              rw [if_pos (inN_io hs (by omega))]
                              refine r_if_eq (fun c_35 => ?_) (fun c_35 => ?_)
                              · have c_35 := (n_eq (a := 1) (b := 0) rfl rfl (by omega) (by omega)).mp c_35
                                omega
                              · have c_35 := (not_congr (n_eq (a := 1) (b := 0) rfl rfl (by omega) (by omega))).mp c_35
                                refine r_iload_n rfl ?_
                                refine r_i2l ?_
                                refine r_lconst ?_
                                refine r_lconst ?_
                                refine r_static (vs := [_, _, _]) (by decide) (zl rfl) rfl rfl (zl rfl) (Nat.le_refl _) rfl ?_
                                refine s_in0 (by omega) (x := io 0) (k := 2) (Int32.toInt_toInt64 _) i64_0 rfl ?_
                                rw [if_pos (inN_io (by omega) (by omega))]
                                refine r_if_ne (fun c_45 => ?_) (fun c_45 => ?_)
                                · have c_45 := (not_congr (n_eq (a := 1) (b := 0) rfl rfl (by omega) (by omega))).mp c_45
                                  refine E_go 4 rfl ?_
                                  refine r_aload_n rfl ?_
                                  refine r_getA (q := 78) (by decide) rfl rfl (by decide) ?_
                                  refine r_iload_n rfl ?_
                                  refine r_baload (by decide) rfl (by decide) (ixE rfl (show s < 4 by omega) (by decide)) ((congrFun (f1.1 78 (by omega)) s).trans p3.1) ?_
                                  refine r_if_ne (fun c_61 => ?_) (fun c_61 => ?_)
                                  · have c_61 := (not_congr (n_eq (a := 1) (b := 0) rfl rfl (by omega) (by omega))).mp c_61
                                    refine E_go 5 rfl ?_
                                    refine r_aload_n rfl ?_
                                    refine r_getA (q := 80) (by decide) rfl rfl (by decide) ?_
                                    refine r_iload_n rfl ?_
                                    refine r_iaload (by decide) rfl (by decide) (ixE rfl (show s < 4 by omega) (by decide)) ((congrFun (f1.1 80 (by omega)) s).trans p3.2.2) ?_
                                    refine r_bipush ?_
                                    refine r_icmp_le (fun c_75 => ?_) (fun c_75 => ?_)
                                    · have c_75 := (n_le (a := zs) (b := 6) rfl rfl (by omega) (by omega)).mp c_75
                                      refine E_go 6 rfl ?_
                                      refine r_iload_n rfl ?_
                                      refine r_if_ne (fun c_82 => ?_) (fun c_82 => ?_)
                                      · have c_82 := (not_congr (n_eq (a := 0) (b := 0) rfl rfl (by omega) (by omega))).mp c_82
                                        omega
                                      · have c_82 := (n_eq (a := 0) (b := 0) rfl rfl (by omega) (by omega)).mp c_82
                                        refine r_aload_n rfl ?_
                                        refine r_iload_n rfl ?_
                                        refine r_virtual (vs := []) (as := [_]) (by decide) (zl rfl) rfl rfl (zl rfl) (Nat.le_refl _) (Or.inr (Or.inr ⟨zt rfl, rfl, zt rfl⟩)) ?_
                                        refine s_mfo (X := pX n I) (by omega) (R1.m (hl.f f1 hr6)) (R1.eM f1) R.okX hs hz6 ((congrFun (f1.1 80 (by omega)) s).trans p3.2.2) (fun K L2 g => ?_)
                                        rw [show fo (ht ru (pX n I)) (fun j => J0 81 (40 * s + j)) zs 0 = fo (ht ru (pX n I)) (I (54 + 2 * s)) zs 0 from fo_c (fun j _ hj => (congrFun (f1.1 81 (by omega)) _).trans (hg j (by omega)))]
                                        refine r_iret rfl trivial ?_
                                        exact hQ _ _ _ (R1.f g.fS).rel
                                    · have c_75 := (not_congr (n_le (a := zs) (b := 6) rfl rfl (by omega) (by omega))).mp c_75
                                      omega
                                  · have c_61 := (n_eq (a := 1) (b := 0) rfl rfl (by omega) (by omega)).mp c_61
                                    omega
                                · have c_45 := (n_eq (a := 1) (b := 0) rfl rfl (by omega) (by omega)).mp c_45
                                  omega
                            · have c_11 := (not_congr (n_eq (a := 0) (b := 0) rfl rfl (by omega) (by omega))).mp c_11
                              omega
                        · exact absurd rfl ds
                      · have c_42 := (not_congr (n_le (a := zs) (b := 6) rfl rfl (by omega) (by omega))).mp c_42
                        omega
                    · exact absurd c_30 (io_m1 (by omega))
                  · have c_12 := (n_eq (a := 1) (b := 0) rfl rfl (by omega) (by omega)).mp c_12
                    omega
            · refine M_go (ls := [_, _, _, _, _]) (ml := 5) rfl rfl rfl (zl rfl) rfl ?_
              refine r_iload_n rfl ?_
              refine r_static (vs := [_]) (by decide) (zl rfl) rfl rfl (zl rfl) (Nat.le_refl _) rfl ?_
              refine s_isSheet (by omega) ?_
              rw [if_pos (inN_io hs (by omega))]
              refine r_if_eq (fun c_4 => ?_) (fun c_4 => ?_)
              · have c_4 := (n_eq (a := 1) (b := 0) rfl rfl (by omega) (by omega)).mp c_4
                omega
              · have c_4 := (not_congr (n_eq (a := 1) (b := 0) rfl rfl (by omega) (by omega))).mp c_4
                refine r_aload_n rfl ?_
                refine r_iload_n rfl ?_
                refine r_virtual (vs := []) (as := [_]) (by decide) (zl rfl) rfl rfl (zl rfl) (Nat.le_refl _) (Or.inr (Or.inr ⟨zt rfl, rfl, zt rfl⟩)) ?_
                refine M_go (ls := [_, _]) (ml := 2) rfl rfl rfl (zl rfl) rfl ?_
                refine r_iload_n rfl ?_
                refine r_bipush ?_
                refine r_icmp_ge (fun c_9_3 => ?_) (fun c_9_3 => ?_)
                · have c_9_3 := (n_le (a := 10) (b := 0) rfl rfl (by omega) (by omega)).mp c_9_3
                  omega
                · have c_9_3 := (not_congr (n_le (a := 10) (b := 0) rfl rfl (by omega) (by omega))).mp c_9_3
                  refine r_iload_n rfl ?_
                  refine r_static (vs := [_]) (by decide) (zl rfl) rfl rfl (zl rfl) (Nat.le_refl _) rfl ?_
                  refine s_isEither (by omega) ?_
                  rw [if_pos (inN_io (by omega) (by omega))]
                  refine r_iret rfl (by first | exact Or.inl rfl | exact Or.inr rfl) ?_
                  refine r_if_ne (fun c_12 => ?_) (fun c_12 => ?_)
                  · have c_12 := (not_congr (n_eq (a := 1) (b := 0) rfl rfl (by omega) (by omega))).mp c_12
                    refine E_go 2 rfl ?_
                    refine r_aload_n rfl ?_
                    refine r_getA (q := 34) (by decide) rfl rfl (by decide) ?_
                    refine r_iload_n rfl ?_
                    refine r_aaload (by decide) (by decide) (ixE rfl (show s < 4 by omega) (by decide)) (shK s hs).2.2.1 ?_
                    refine r_astore_n (ls' := [_, _, _, _, _]) (zt rfl) rfl ?_
                    refine r_aload_n rfl ?_
                    refine r_getI (by decide) rfl (shK s hs).1 (shK s hs).2.1 p2.1 ?_
                    refine r_iconst ?_
                    refine r_icmp_ne (fun c_30 => ?_) (fun c_30 => ?_)
                    · refine E_go 3 rfl ?_
                      refine r_aload_n rfl ?_
                      refine r_getI (by decide) rfl (shK s hs).1 (shK s hs).2.1 p2.2 ?_
                      refine r_bipush ?_
                      refine r_icmp_le (fun c_42 => ?_) (fun c_42 => ?_)
                      · have c_42 := (n_le (a := zs) (b := 6) rfl rfl (by omega) (by omega)).mp c_42
                        omega
                      · have c_42 := (not_congr (n_le (a := zs) (b := 6) rfl rfl (by omega) (by omega))).mp c_42
                        refine r_bipush ?_
                        refine r_iret rfl trivial ?_
                        refine M_go (ls := [_, _, _, _, _, _, _, _, _, _, _, _]) (ml := 12) rfl rfl rfl (zl rfl) rfl ?_
                        refine r_iload_n rfl ?_
                        refine r_i2l ?_
                        refine r_ldc2_w ?_
                        refine r_ldc2_w ?_
                        refine r_static (vs := [_, _, _]) (by decide) (zl rfl) rfl rfl (zl rfl) (Nat.le_refl _) rfl ?_
                        refine s_inr (by omega) (x := io 0) (lo := 10) (hi := 69) (Int32.toInt_toInt64 _) (by decide) (by decide) ?_
                        rw [if_neg (by decide)]
                        refine r_if_eq (fun c_11 => ?_) (fun c_11 => ?_)
                        · have c_11 := (n_eq (a := 0) (b := 0) rfl rfl (by omega) (by omega)).mp c_11
                          refine E_go 1 rfl ?_
                          refine r_iconst ?_
                          refine r_nil ?_
                          refine E_go 2 rfl ?_
                          refine r_istore_n (ls' := [_, _, _, _, _, _, _, _, _, _, _, _]) (zt rfl) rfl ?_
                          refine r_iload_n rfl ?_
                          refine r_static (vs := [_]) (by decide) (zl rfl) rfl rfl (zl rfl) (Nat.le_refl _) rfl ?_
                          refine s_misSheet (by omega) ?_
                          rw [if_pos (inN_io hs (by omega))]
                          refine r_if_eq (fun c_35 => ?_) (fun c_35 => ?_)
                          · have c_35 := (n_eq (a := 1) (b := 0) rfl rfl (by omega) (by omega)).mp c_35
                            omega
                          · have c_35 := (not_congr (n_eq (a := 1) (b := 0) rfl rfl (by omega) (by omega))).mp c_35
                            refine r_iload_n rfl ?_
                            refine r_i2l ?_
                            refine r_lconst ?_
                            refine r_lconst ?_
                            refine r_static (vs := [_, _, _]) (by decide) (zl rfl) rfl rfl (zl rfl) (Nat.le_refl _) rfl ?_
                            refine s_in0 (by omega) (x := io 0) (k := 2) (Int32.toInt_toInt64 _) i64_0 rfl ?_
                            rw [if_pos (inN_io (by omega) (by omega))]
                            refine r_if_ne (fun c_45 => ?_) (fun c_45 => ?_)
                            · have c_45 := (not_congr (n_eq (a := 1) (b := 0) rfl rfl (by omega) (by omega))).mp c_45
                              refine E_go 4 rfl ?_
                              refine r_aload_n rfl ?_
                              refine r_getA (q := 78) (by decide) rfl rfl (by decide) ?_
                              refine r_iload_n rfl ?_
                              refine r_baload (by decide) rfl (by decide) (ixE rfl (show s < 4 by omega) (by decide)) p3.1 ?_
                              refine r_if_ne (fun c_61 => ?_) (fun c_61 => ?_)
                              · have c_61 := (not_congr (n_eq (a := 1) (b := 0) rfl rfl (by omega) (by omega))).mp c_61
                                refine E_go 5 rfl ?_
                                refine r_aload_n rfl ?_
                                refine r_getA (q := 80) (by decide) rfl rfl (by decide) ?_
                                refine r_iload_n rfl ?_
                                refine r_iaload (by decide) rfl (by decide) (ixE rfl (show s < 4 by omega) (by decide)) p3.2.2 ?_
                                refine r_bipush ?_
                                refine r_icmp_le (fun c_75 => ?_) (fun c_75 => ?_)
                                · have c_75 := (n_le (a := zs) (b := 6) rfl rfl (by omega) (by omega)).mp c_75
                                  omega
                                · have c_75 := (not_congr (n_le (a := zs) (b := 6) rfl rfl (by omega) (by omega))).mp c_75
                                  refine r_bipush ?_
                                  refine r_iret rfl trivial ?_
                                  exact hQ _ _ _ R.rel
                              · have c_61 := (n_eq (a := 1) (b := 0) rfl rfl (by omega) (by omega)).mp c_61
                                omega
                            · have c_45 := (n_eq (a := 1) (b := 0) rfl rfl (by omega) (by omega)).mp c_45
                              omega
                        · have c_11 := (not_congr (n_eq (a := 0) (b := 0) rfl rfl (by omega) (by omega))).mp c_11
                          omega
                    · exact absurd c_30 (io_m1 (by omega))
                  · have c_12 := (n_eq (a := 1) (b := 0) rfl rfl (by omega) (by omega)).mp c_12
                    omega
        · rcases R.2.2.2.2 s hs with ⟨p1, p2⟩ | ⟨so, zs, pb, p2, p3, p4⟩
          · refine M_go (ls := [_, _, _, _, _]) (ml := 5) rfl rfl rfl (zl rfl) rfl ?_
            refine r_iload_n rfl ?_
            refine r_static (vs := [_]) (by decide) (zl rfl) rfl rfl (zl rfl) (Nat.le_refl _) rfl ?_
            refine s_isSheet (by omega) ?_
            rw [if_pos (inN_io hs (by omega))]
            refine r_if_eq (fun c_4 => ?_) (fun c_4 => ?_)
            · have c_4 := (n_eq (a := 1) (b := 0) rfl rfl (by omega) (by omega)).mp c_4
              omega
            · have c_4 := (not_congr (n_eq (a := 1) (b := 0) rfl rfl (by omega) (by omega))).mp c_4
              refine r_aload_n rfl ?_
              refine r_iload_n rfl ?_
              refine r_virtual (vs := []) (as := [_]) (by decide) (zl rfl) rfl rfl (zl rfl) (Nat.le_refl _) (Or.inr (Or.inr ⟨zt rfl, rfl, zt rfl⟩)) ?_
              refine M_go (ls := [_, _]) (ml := 2) rfl rfl rfl (zl rfl) rfl ?_
              refine r_iload_n rfl ?_
              refine r_bipush ?_
              refine r_icmp_ge (fun c_9_3 => ?_) (fun c_9_3 => ?_)
              · have c_9_3 := (n_le (a := 10) (b := 1) rfl rfl (by omega) (by omega)).mp c_9_3
                omega
              · have c_9_3 := (not_congr (n_le (a := 10) (b := 1) rfl rfl (by omega) (by omega))).mp c_9_3
                refine r_iload_n rfl ?_
                refine r_static (vs := [_]) (by decide) (zl rfl) rfl rfl (zl rfl) (Nat.le_refl _) rfl ?_
                refine s_isEither (by omega) ?_
                rw [if_pos (inN_io (by omega) (by omega))]
                refine r_iret rfl (by first | exact Or.inl rfl | exact Or.inr rfl) ?_
                refine r_if_ne (fun c_12 => ?_) (fun c_12 => ?_)
                · have c_12 := (not_congr (n_eq (a := 1) (b := 0) rfl rfl (by omega) (by omega))).mp c_12
                  refine E_go 2 rfl ?_
                  refine r_aload_n rfl ?_
                  refine r_getA (q := 34) (by decide) rfl rfl (by decide) ?_
                  refine r_iload_n rfl ?_
                  refine r_aaload (by decide) (by decide) (ixE rfl (show s < 4 by omega) (by decide)) (shK s hs).2.2.1 ?_
                  refine r_astore_n (ls' := [_, _, _, _, _]) (zt rfl) rfl ?_
                  refine r_aload_n rfl ?_
                  refine r_getI (by decide) rfl (shK s hs).1 (shK s hs).2.1 p1 ?_
                  refine r_iconst ?_
                  refine r_icmp_ne (fun c_30 => ?_) (fun c_30 => ?_)
                  · exact absurd rfl c_30
                  · refine r_bipush ?_
                    refine r_iret rfl trivial ?_
                    refine M_go (ls := [_, _, _, _, _, _, _, _, _, _, _, _]) (ml := 12) rfl rfl rfl (zl rfl) rfl ?_
                    refine r_iload_n rfl ?_
                    refine r_i2l ?_
                    refine r_ldc2_w ?_
                    refine r_ldc2_w ?_
                    refine r_static (vs := [_, _, _]) (by decide) (zl rfl) rfl rfl (zl rfl) (Nat.le_refl _) rfl ?_
                    refine s_inr (by omega) (x := io 1) (lo := 10) (hi := 69) (Int32.toInt_toInt64 _) (by decide) (by decide) ?_
                    rw [if_neg (by decide)]
                    refine r_if_eq (fun c_11 => ?_) (fun c_11 => ?_)
                    · have c_11 := (n_eq (a := 0) (b := 0) rfl rfl (by omega) (by omega)).mp c_11
                      refine E_go 1 rfl ?_
                      refine r_iconst ?_
                      refine r_nil ?_
                      refine E_go 2 rfl ?_
                      refine r_istore_n (ls' := [_, _, _, _, _, _, _, _, _, _, _, _]) (zt rfl) rfl ?_
                      refine r_iload_n rfl ?_
                      refine r_static (vs := [_]) (by decide) (zl rfl) rfl rfl (zl rfl) (Nat.le_refl _) rfl ?_
                      refine s_misSheet (by omega) ?_
                      rw [if_pos (inN_io hs (by omega))]
                      refine r_if_eq (fun c_35 => ?_) (fun c_35 => ?_)
                      · have c_35 := (n_eq (a := 1) (b := 0) rfl rfl (by omega) (by omega)).mp c_35
                        omega
                      · have c_35 := (not_congr (n_eq (a := 1) (b := 0) rfl rfl (by omega) (by omega))).mp c_35
                        refine r_iload_n rfl ?_
                        refine r_i2l ?_
                        refine r_lconst ?_
                        refine r_lconst ?_
                        refine r_static (vs := [_, _, _]) (by decide) (zl rfl) rfl rfl (zl rfl) (Nat.le_refl _) rfl ?_
                        refine s_in0 (by omega) (x := io 1) (k := 2) (Int32.toInt_toInt64 _) i64_0 rfl ?_
                        rw [if_pos (inN_io (by omega) (by omega))]
                        refine r_if_ne (fun c_45 => ?_) (fun c_45 => ?_)
                        · have c_45 := (not_congr (n_eq (a := 1) (b := 0) rfl rfl (by omega) (by omega))).mp c_45
                          refine E_go 4 rfl ?_
                          refine r_aload_n rfl ?_
                          refine r_getA (q := 78) (by decide) rfl rfl (by decide) ?_
                          refine r_iload_n rfl ?_
                          refine r_baload (by decide) rfl (by decide) (ixE rfl (show s < 4 by omega) (by decide)) p2 ?_
                          refine r_if_ne (fun c_61 => ?_) (fun c_61 => ?_)
                          · have c_61 := (not_congr (n_eq (a := 0) (b := 0) rfl rfl (by omega) (by omega))).mp c_61
                            omega
                          · have c_61 := (n_eq (a := 0) (b := 0) rfl rfl (by omega) (by omega)).mp c_61
                            refine r_bipush ?_
                            refine r_iret rfl trivial ?_
                            exact hQ _ _ _ R.rel
                        · have c_45 := (n_eq (a := 1) (b := 0) rfl rfl (by omega) (by omega)).mp c_45
                          omega
                    · have c_11 := (not_congr (n_eq (a := 0) (b := 0) rfl rfl (by omega) (by omega))).mp c_11
                      omega
                · have c_12 := (n_eq (a := 1) (b := 0) rfl rfl (by omega) (by omega)).mp c_12
                  omega
          · have hso := pb.1
            have hzs := pb.2
            by_cases hz6 : zs ≤ 6
            · have hg : ∀ j, j < zs → I 81 (40 * s + j) = I (54 + 2 * s) j := p4
              refine M_go (ls := [_, _, _, _, _]) (ml := 5) rfl rfl rfl (zl rfl) rfl ?_
              refine r_iload_n rfl ?_
              refine r_static (vs := [_]) (by decide) (zl rfl) rfl rfl (zl rfl) (Nat.le_refl _) rfl ?_
              refine s_isSheet (by omega) ?_
              rw [if_pos (inN_io hs (by omega))]
              refine r_if_eq (fun c_4 => ?_) (fun c_4 => ?_)
              · have c_4 := (n_eq (a := 1) (b := 0) rfl rfl (by omega) (by omega)).mp c_4
                omega
              · have c_4 := (not_congr (n_eq (a := 1) (b := 0) rfl rfl (by omega) (by omega))).mp c_4
                refine r_aload_n rfl ?_
                refine r_iload_n rfl ?_
                refine r_virtual (vs := []) (as := [_]) (by decide) (zl rfl) rfl rfl (zl rfl) (Nat.le_refl _) (Or.inr (Or.inr ⟨zt rfl, rfl, zt rfl⟩)) ?_
                refine M_go (ls := [_, _]) (ml := 2) rfl rfl rfl (zl rfl) rfl ?_
                refine r_iload_n rfl ?_
                refine r_bipush ?_
                refine r_icmp_ge (fun c_9_3 => ?_) (fun c_9_3 => ?_)
                · have c_9_3 := (n_le (a := 10) (b := 1) rfl rfl (by omega) (by omega)).mp c_9_3
                  omega
                · have c_9_3 := (not_congr (n_le (a := 10) (b := 1) rfl rfl (by omega) (by omega))).mp c_9_3
                  refine r_iload_n rfl ?_
                  refine r_static (vs := [_]) (by decide) (zl rfl) rfl rfl (zl rfl) (Nat.le_refl _) rfl ?_
                  refine s_isEither (by omega) ?_
                  rw [if_pos (inN_io (by omega) (by omega))]
                  refine r_iret rfl (by first | exact Or.inl rfl | exact Or.inr rfl) ?_
                  refine r_if_ne (fun c_12 => ?_) (fun c_12 => ?_)
                  · have c_12 := (not_congr (n_eq (a := 1) (b := 0) rfl rfl (by omega) (by omega))).mp c_12
                    refine E_go 2 rfl ?_
                    refine r_aload_n rfl ?_
                    refine r_getA (q := 34) (by decide) rfl rfl (by decide) ?_
                    refine r_iload_n rfl ?_
                    refine r_aaload (by decide) (by decide) (ixE rfl (show s < 4 by omega) (by decide)) (shK s hs).2.2.1 ?_
                    refine r_astore_n (ls' := [_, _, _, _, _]) (zt rfl) rfl ?_
                    refine r_aload_n rfl ?_
                    refine r_getI (by decide) rfl (shK s hs).1 (shK s hs).2.1 p2.1 ?_
                    refine r_iconst ?_
                    refine r_icmp_ne (fun c_30 => ?_) (fun c_30 => ?_)
                    · refine E_go 3 rfl ?_
                      refine r_aload_n rfl ?_
                      refine r_getI (by decide) rfl (shK s hs).1 (shK s hs).2.1 p2.2 ?_
                      refine r_bipush ?_
                      refine r_icmp_le (fun c_42 => ?_) (fun c_42 => ?_)
                      · have c_42 := (n_le (a := zs) (b := 6) rfl rfl (by omega) (by omega)).mp c_42
                        refine E_go 4 rfl ?_
                        refine r_iload_n rfl ?_
                        refine r_bipush ?_
                        refine r_irem (by decide) ?_
                        refine r_istore (ls' := [_, _, _, _, _]) (zt rfl) rfl ?_
                        refine r_iload_n rfl ?_
                        refine r_bipush ?_
                        refine r_idiv (by decide) ?_
                        rw [show io 1 / 10 = 0 from by decide]
                        refine r_table ?_
                        refine r_sw1 (fun cs => ?_) (fun ds => ?_)
                        · refine E_go 5 rfl ?_
                          refine r_iload_n rfl ?_
                          refine r_if_ne (fun c_97 => ?_) (fun c_97 => ?_)
                          · have c_97 := (not_congr (n_eq (a := 1) (b := 0) rfl rfl (by omega) (by omega))).mp c_97
                            refine E_go 6 rfl ?_
                            refine r_aload_n rfl ?_
                            refine r_aload_n rfl ?_
                            refine r_bipush ?_
                            refine r_iconst ?_
                            refine r_virtual (vs := []) (as := [_, _, _]) (by decide) (zl rfl) rfl rfl (zl rfl) (Nat.le_refl _) (Or.inr (Or.inr ⟨zt rfl, rfl, zt rfl⟩)) ?_
                            refine s_bitsTold (N := tc) (f := (tfR I (pX n I) zs (I (54 + 2 * s)))) (by omega) (cVa_rul (by omega) R) (cTo_rul (by omega) R hl hs hz6 p2.2) (fun J0 f1 => ?_)
                            refine r_nil ?_
                            refine E_go 7 rfl ?_
                            refine r_iret rfl trivial ?_
                            have R1 := R.f f1
                            refine M_go (ls := [_, _, _, _, _, _, _, _, _, _, _, _]) (ml := 12) rfl rfl rfl (zl rfl) rfl ?_
                            refine r_iload_n rfl ?_
                            refine r_i2l ?_
                            refine r_ldc2_w ?_
                            refine r_ldc2_w ?_
                            refine r_static (vs := [_, _, _]) (by decide) (zl rfl) rfl rfl (zl rfl) (Nat.le_refl _) rfl ?_
                            refine s_inr (by omega) (x := io 1) (lo := 10) (hi := 69) (Int32.toInt_toInt64 _) (by decide) (by decide) ?_
                            rw [if_neg (by decide)]
                            refine r_if_eq (fun c_11 => ?_) (fun c_11 => ?_)
                            · have c_11 := (n_eq (a := 0) (b := 0) rfl rfl (by omega) (by omega)).mp c_11
                              refine E_go 1 rfl ?_
                              refine r_iconst ?_
                              refine r_nil ?_
                              refine E_go 2 rfl ?_
                              refine r_istore_n (ls' := [_, _, _, _, _, _, _, _, _, _, _, _]) (zt rfl) rfl ?_
                              refine r_iload_n rfl ?_
                              refine r_static (vs := [_]) (by decide) (zl rfl) rfl rfl (zl rfl) (Nat.le_refl _) rfl ?_
                              refine s_misSheet (by omega) ?_
                              rw [if_pos (inN_io hs (by omega))]
                              refine r_if_eq (fun c_35 => ?_) (fun c_35 => ?_)
                              · have c_35 := (n_eq (a := 1) (b := 0) rfl rfl (by omega) (by omega)).mp c_35
                                omega
                              · have c_35 := (not_congr (n_eq (a := 1) (b := 0) rfl rfl (by omega) (by omega))).mp c_35
                                refine r_iload_n rfl ?_
                                refine r_i2l ?_
                                refine r_lconst ?_
                                refine r_lconst ?_
                                refine r_static (vs := [_, _, _]) (by decide) (zl rfl) rfl rfl (zl rfl) (Nat.le_refl _) rfl ?_
                                refine s_in0 (by omega) (x := io 1) (k := 2) (Int32.toInt_toInt64 _) i64_0 rfl ?_
                                rw [if_pos (inN_io (by omega) (by omega))]
                                refine r_if_ne (fun c_45 => ?_) (fun c_45 => ?_)
                                · have c_45 := (not_congr (n_eq (a := 1) (b := 0) rfl rfl (by omega) (by omega))).mp c_45
                                  refine E_go 4 rfl ?_
                                  refine r_aload_n rfl ?_
                                  refine r_getA (q := 78) (by decide) rfl rfl (by decide) ?_
                                  refine r_iload_n rfl ?_
                                  refine r_baload (by decide) rfl (by decide) (ixE rfl (show s < 4 by omega) (by decide)) ((congrFun (f1.1 78 (by omega)) s).trans p3.1) ?_
                                  refine r_if_ne (fun c_61 => ?_) (fun c_61 => ?_)
                                  · have c_61 := (not_congr (n_eq (a := 1) (b := 0) rfl rfl (by omega) (by omega))).mp c_61
                                    refine E_go 5 rfl ?_
                                    refine r_aload_n rfl ?_
                                    refine r_getA (q := 80) (by decide) rfl rfl (by decide) ?_
                                    refine r_iload_n rfl ?_
                                    refine r_iaload (by decide) rfl (by decide) (ixE rfl (show s < 4 by omega) (by decide)) ((congrFun (f1.1 80 (by omega)) s).trans p3.2.2) ?_
                                    refine r_bipush ?_
                                    refine r_icmp_le (fun c_75 => ?_) (fun c_75 => ?_)
                                    · have c_75 := (n_le (a := zs) (b := 6) rfl rfl (by omega) (by omega)).mp c_75
                                      refine E_go 6 rfl ?_
                                      refine r_iload_n rfl ?_
                                      refine r_if_ne (fun c_82 => ?_) (fun c_82 => ?_)
                                      · have c_82 := (not_congr (n_eq (a := 1) (b := 0) rfl rfl (by omega) (by omega))).mp c_82
                                        refine E_go 7 rfl ?_
                                        refine r_iload_n rfl ?_
                                        refine r_bipush ?_
                                        refine r_irem (by decide) ?_
                                        refine r_istore (ls' := [_, _, _, _, _, _, _, _, _, _, _, _]) (zt rfl) rfl ?_
                                        refine r_iload_n rfl ?_
                                        refine r_iconst ?_
                                        refine r_icmp_ne (fun c_99 => ?_) (fun c_99 => ?_)
                                        · have c_99 := (not_congr (n_eq (a := 1) (b := 1) rfl rfl (by omega) (by omega))).mp c_99
                                          omega
                                        · have c_99 := (n_eq (a := 1) (b := 1) rfl rfl (by omega) (by omega)).mp c_99
                                          refine r_bipush ?_
                                          refine r_goto ?_
                                          refine E_go 12 rfl ?_
                                          refine r_istore (ls' := [_, _, _, _, _, _, _, _, _, _, _, _]) (zt rfl) rfl ?_
                                          refine r_iload rfl ?_
                                          refine r_bipush ?_
                                          refine r_icmp_ne (fun c_144 => ?_) (fun c_144 => ?_)
                                          · have c_144 := (not_congr (n_eq (a := 6) (b := 6) rfl rfl (by omega) (by omega))).mp c_144
                                            omega
                                          · have c_144 := (n_eq (a := 6) (b := 6) rfl rfl (by omega) (by omega)).mp c_144
                                            refine r_aload_n rfl ?_
                                            refine r_getI (by decide) rfl rfl (by decide) R1.mr ?_
                                            refine r_goto ?_
                                            refine E_go 14 rfl ?_
                                            refine r_istore (ls' := [_, _, _, _, _, _, _, _, _, _, _, _]) (zt rfl) rfl ?_
                                            refine r_iload rfl ?_
                                            refine r_bipush ?_
                                            refine r_icmp_ne (fun c_168 => ?_) (fun c_168 => ?_)
                                            · have c_168 := (not_congr (n_eq (a := 6) (b := 6) rfl rfl (by omega) (by omega))).mp c_168
                                              omega
                                            · have c_168 := (n_eq (a := 6) (b := 6) rfl rfl (by omega) (by omega)).mp c_168
                                              refine r_aload_n rfl ?_
                                              refine r_getI (by decide) rfl rfl (by decide) R1.mt ?_
                                              refine r_iconst ?_
                                              refine r_isub ?_
                                              refine r_goto ?_
                                              refine E_go 17 rfl ?_
                                              refine r_istore (ls' := [_, _, _, _, _, _, _, _, _, _, _, _]) (zt rfl) rfl ?_
                                              refine r_iconst ?_
                                              refine r_istore (ls' := [_, _, _, _, _, _, _, _, _, _, _, _]) (zt rfl) rfl ?_
                                              refine r_iconst ?_
                                              refine r_istore (ls' := [_, _, _, _, _, _, _, _, _, _, _, _]) (zt rfl) rfl ?_
                                              refine r_iconst ?_
                                              refine r_istore (ls' := [_, _, _, _, _, _, _, _, _, _, _, _]) (zt rfl) rfl ?_
                                              refine r_iload rfl ?_
                                              refine r_istore (ls' := [_, _, _, _, _, _, _, _, _, _, _, _]) (zt rfl) rfl ?_
                                              refine r_nil ?_
                                              refine s_tl (N := tc) (f := (tfR I (pX n I) zs (I (54 + 2 * s)))) (P := fQ 61 4 J0) (P2 := fun v J => fQ 61 4 J0 J ∧ J 61 4 = io v) (PF := fS J0) (k := 1) (by omega) (by omega) (by omega) (fun v _ => mLy_6 (a := 1) (by omega) (by omega)) (mFo_6 (by omega) R f1 hs hz6 p3.2.2 hg) (fun J L Q hP hQ => mLy_6 (a := 1) (by omega) (by omega) J L Q hP (fun K k => hQ K (f4_fS k.1 (k.2.trans R1.mr.symm)))) rfl fQ.refl (fun K L2 f2 => ?_)
                                              unfold tRes
                                              rw [if_pos (by omega)]
                                              exact hQ _ _ _ (R1.f f2).rel
                                      · have c_82 := (n_eq (a := 1) (b := 0) rfl rfl (by omega) (by omega)).mp c_82
                                        omega
                                    · have c_75 := (not_congr (n_le (a := zs) (b := 6) rfl rfl (by omega) (by omega))).mp c_75
                                      omega
                                  · have c_61 := (n_eq (a := 1) (b := 0) rfl rfl (by omega) (by omega)).mp c_61
                                    omega
                                · have c_45 := (n_eq (a := 1) (b := 0) rfl rfl (by omega) (by omega)).mp c_45
                                  omega
                            · have c_11 := (not_congr (n_eq (a := 0) (b := 0) rfl rfl (by omega) (by omega))).mp c_11
                              omega
                          · have c_97 := (n_eq (a := 1) (b := 0) rfl rfl (by omega) (by omega)).mp c_97
                            omega
                        · exact absurd rfl ds
                      · have c_42 := (not_congr (n_le (a := zs) (b := 6) rfl rfl (by omega) (by omega))).mp c_42
                        omega
                    · exact absurd c_30 (io_m1 (by omega))
                  · have c_12 := (n_eq (a := 1) (b := 0) rfl rfl (by omega) (by omega)).mp c_12
                    omega
            · refine M_go (ls := [_, _, _, _, _]) (ml := 5) rfl rfl rfl (zl rfl) rfl ?_
              refine r_iload_n rfl ?_
              refine r_static (vs := [_]) (by decide) (zl rfl) rfl rfl (zl rfl) (Nat.le_refl _) rfl ?_
              refine s_isSheet (by omega) ?_
              rw [if_pos (inN_io hs (by omega))]
              refine r_if_eq (fun c_4 => ?_) (fun c_4 => ?_)
              · have c_4 := (n_eq (a := 1) (b := 0) rfl rfl (by omega) (by omega)).mp c_4
                omega
              · have c_4 := (not_congr (n_eq (a := 1) (b := 0) rfl rfl (by omega) (by omega))).mp c_4
                refine r_aload_n rfl ?_
                refine r_iload_n rfl ?_
                refine r_virtual (vs := []) (as := [_]) (by decide) (zl rfl) rfl rfl (zl rfl) (Nat.le_refl _) (Or.inr (Or.inr ⟨zt rfl, rfl, zt rfl⟩)) ?_
                refine M_go (ls := [_, _]) (ml := 2) rfl rfl rfl (zl rfl) rfl ?_
                refine r_iload_n rfl ?_
                refine r_bipush ?_
                refine r_icmp_ge (fun c_9_3 => ?_) (fun c_9_3 => ?_)
                · have c_9_3 := (n_le (a := 10) (b := 1) rfl rfl (by omega) (by omega)).mp c_9_3
                  omega
                · have c_9_3 := (not_congr (n_le (a := 10) (b := 1) rfl rfl (by omega) (by omega))).mp c_9_3
                  refine r_iload_n rfl ?_
                  refine r_static (vs := [_]) (by decide) (zl rfl) rfl rfl (zl rfl) (Nat.le_refl _) rfl ?_
                  refine s_isEither (by omega) ?_
                  rw [if_pos (inN_io (by omega) (by omega))]
                  refine r_iret rfl (by first | exact Or.inl rfl | exact Or.inr rfl) ?_
                  refine r_if_ne (fun c_12 => ?_) (fun c_12 => ?_)
                  · have c_12 := (not_congr (n_eq (a := 1) (b := 0) rfl rfl (by omega) (by omega))).mp c_12
                    refine E_go 2 rfl ?_
                    refine r_aload_n rfl ?_
                    refine r_getA (q := 34) (by decide) rfl rfl (by decide) ?_
                    refine r_iload_n rfl ?_
                    refine r_aaload (by decide) (by decide) (ixE rfl (show s < 4 by omega) (by decide)) (shK s hs).2.2.1 ?_
                    refine r_astore_n (ls' := [_, _, _, _, _]) (zt rfl) rfl ?_
                    refine r_aload_n rfl ?_
                    refine r_getI (by decide) rfl (shK s hs).1 (shK s hs).2.1 p2.1 ?_
                    refine r_iconst ?_
                    refine r_icmp_ne (fun c_30 => ?_) (fun c_30 => ?_)
                    · refine E_go 3 rfl ?_
                      refine r_aload_n rfl ?_
                      refine r_getI (by decide) rfl (shK s hs).1 (shK s hs).2.1 p2.2 ?_
                      refine r_bipush ?_
                      refine r_icmp_le (fun c_42 => ?_) (fun c_42 => ?_)
                      · have c_42 := (n_le (a := zs) (b := 6) rfl rfl (by omega) (by omega)).mp c_42
                        omega
                      · have c_42 := (not_congr (n_le (a := zs) (b := 6) rfl rfl (by omega) (by omega))).mp c_42
                        refine r_bipush ?_
                        refine r_iret rfl trivial ?_
                        refine M_go (ls := [_, _, _, _, _, _, _, _, _, _, _, _]) (ml := 12) rfl rfl rfl (zl rfl) rfl ?_
                        refine r_iload_n rfl ?_
                        refine r_i2l ?_
                        refine r_ldc2_w ?_
                        refine r_ldc2_w ?_
                        refine r_static (vs := [_, _, _]) (by decide) (zl rfl) rfl rfl (zl rfl) (Nat.le_refl _) rfl ?_
                        refine s_inr (by omega) (x := io 1) (lo := 10) (hi := 69) (Int32.toInt_toInt64 _) (by decide) (by decide) ?_
                        rw [if_neg (by decide)]
                        refine r_if_eq (fun c_11 => ?_) (fun c_11 => ?_)
                        · have c_11 := (n_eq (a := 0) (b := 0) rfl rfl (by omega) (by omega)).mp c_11
                          refine E_go 1 rfl ?_
                          refine r_iconst ?_
                          refine r_nil ?_
                          refine E_go 2 rfl ?_
                          refine r_istore_n (ls' := [_, _, _, _, _, _, _, _, _, _, _, _]) (zt rfl) rfl ?_
                          refine r_iload_n rfl ?_
                          refine r_static (vs := [_]) (by decide) (zl rfl) rfl rfl (zl rfl) (Nat.le_refl _) rfl ?_
                          refine s_misSheet (by omega) ?_
                          rw [if_pos (inN_io hs (by omega))]
                          refine r_if_eq (fun c_35 => ?_) (fun c_35 => ?_)
                          · have c_35 := (n_eq (a := 1) (b := 0) rfl rfl (by omega) (by omega)).mp c_35
                            omega
                          · have c_35 := (not_congr (n_eq (a := 1) (b := 0) rfl rfl (by omega) (by omega))).mp c_35
                            refine r_iload_n rfl ?_
                            refine r_i2l ?_
                            refine r_lconst ?_
                            refine r_lconst ?_
                            refine r_static (vs := [_, _, _]) (by decide) (zl rfl) rfl rfl (zl rfl) (Nat.le_refl _) rfl ?_
                            refine s_in0 (by omega) (x := io 1) (k := 2) (Int32.toInt_toInt64 _) i64_0 rfl ?_
                            rw [if_pos (inN_io (by omega) (by omega))]
                            refine r_if_ne (fun c_45 => ?_) (fun c_45 => ?_)
                            · have c_45 := (not_congr (n_eq (a := 1) (b := 0) rfl rfl (by omega) (by omega))).mp c_45
                              refine E_go 4 rfl ?_
                              refine r_aload_n rfl ?_
                              refine r_getA (q := 78) (by decide) rfl rfl (by decide) ?_
                              refine r_iload_n rfl ?_
                              refine r_baload (by decide) rfl (by decide) (ixE rfl (show s < 4 by omega) (by decide)) p3.1 ?_
                              refine r_if_ne (fun c_61 => ?_) (fun c_61 => ?_)
                              · have c_61 := (not_congr (n_eq (a := 1) (b := 0) rfl rfl (by omega) (by omega))).mp c_61
                                refine E_go 5 rfl ?_
                                refine r_aload_n rfl ?_
                                refine r_getA (q := 80) (by decide) rfl rfl (by decide) ?_
                                refine r_iload_n rfl ?_
                                refine r_iaload (by decide) rfl (by decide) (ixE rfl (show s < 4 by omega) (by decide)) p3.2.2 ?_
                                refine r_bipush ?_
                                refine r_icmp_le (fun c_75 => ?_) (fun c_75 => ?_)
                                · have c_75 := (n_le (a := zs) (b := 6) rfl rfl (by omega) (by omega)).mp c_75
                                  omega
                                · have c_75 := (not_congr (n_le (a := zs) (b := 6) rfl rfl (by omega) (by omega))).mp c_75
                                  refine r_bipush ?_
                                  refine r_iret rfl trivial ?_
                                  exact hQ _ _ _ R.rel
                              · have c_61 := (n_eq (a := 1) (b := 0) rfl rfl (by omega) (by omega)).mp c_61
                                omega
                            · have c_45 := (n_eq (a := 1) (b := 0) rfl rfl (by omega) (by omega)).mp c_45
                              omega
                        · have c_11 := (not_congr (n_eq (a := 0) (b := 0) rfl rfl (by omega) (by omega))).mp c_11
                          omega
                    · exact absurd c_30 (io_m1 (by omega))
                  · have c_12 := (n_eq (a := 1) (b := 0) rfl rfl (by omega) (by omega)).mp c_12
                    omega
      · obtain ⟨k, hk, rfl⟩ := inN_ex (n := 70) (x := y) ⟨by omega, by omega⟩ (by omega)
        rw [io_int (by omega)] at hb
        rw [rem_y hk] at hna
        have hka : k % 10 < n := by have q := hna.2; rw [io_int (by omega)] at q; omega
        have hk10 : 10 ≤ k := by omega
        rcases R.2.2.2.2 s hs with ⟨p1, p2⟩ | ⟨so, zs, pb, p2, p3, p4⟩
        · have ha : k % 10 < n := hka
          refine M_go (ls := [_, _, _, _, _]) (ml := 5) rfl rfl rfl (zl rfl) rfl ?_
          refine r_iload_n rfl ?_
          refine r_static (vs := [_]) (by decide) (zl rfl) rfl rfl (zl rfl) (Nat.le_refl _) rfl ?_
          refine s_isSheet (by omega) ?_
          rw [if_pos (inN_io hs (by omega))]
          refine r_if_eq (fun c_4 => ?_) (fun c_4 => ?_)
          · have c_4 := (n_eq (a := 1) (b := 0) rfl rfl (by omega) (by omega)).mp c_4
            omega
          · have c_4 := (not_congr (n_eq (a := 1) (b := 0) rfl rfl (by omega) (by omega))).mp c_4
            refine r_aload_n rfl ?_
            refine r_iload_n rfl ?_
            refine r_virtual (vs := []) (as := [_]) (by decide) (zl rfl) rfl rfl (zl rfl) (Nat.le_refl _) (Or.inr (Or.inr ⟨zt rfl, rfl, zt rfl⟩)) ?_
            refine M_go (ls := [_, _]) (ml := 2) rfl rfl rfl (zl rfl) rfl ?_
            refine r_iload_n rfl ?_
            refine r_bipush ?_
            refine r_icmp_ge (fun c_9_3 => ?_) (fun c_9_3 => ?_)
            · have c_9_3 := (n_le (a := 10) (b := k) rfl rfl (by omega) (by omega)).mp c_9_3
              refine E_go 1 rfl ?_
              refine r_iload_n rfl ?_
              refine r_bipush ?_
              refine r_icmp_ge (fun c_9_14 => ?_) (fun c_9_14 => ?_)
              · have c_9_14 := (n_le (a := 70) (b := k) rfl rfl (by omega) (by omega)).mp c_9_14
                omega
              · have c_9_14 := (not_congr (n_le (a := 70) (b := k) rfl rfl (by omega) (by omega))).mp c_9_14
                refine r_aload_n rfl ?_
                refine r_iload_n rfl ?_
                refine r_bipush ?_
                refine r_irem (by decide) ?_
                rw [show io k - io k / 10 * 10 = io (k % 10) from (n_rem (a := k) (b := 10) rfl rfl (by omega) (by omega)).trans (congrArg io (by omega))]
                refine r_virtual (vs := []) (as := [_]) (by decide) (zl rfl) rfl rfl (zl rfl) (Nat.le_refl _) (Or.inr (Or.inr ⟨zt rfl, rfl, zt rfl⟩)) ?_
                refine s_isAunt (by omega) R.cn h5 ?_
                rw [if_pos (inN_io ha (by omega))]
                refine r_if_eq (fun c_9_25 => ?_) (fun c_9_25 => ?_)
                · have c_9_25 := (n_eq (a := 1) (b := 0) rfl rfl (by omega) (by omega)).mp c_9_25
                  omega
                · have c_9_25 := (not_congr (n_eq (a := 1) (b := 0) rfl rfl (by omega) (by omega))).mp c_9_25
                  refine r_iconst ?_
                  refine r_goto ?_
                  refine E_go 3 rfl ?_
                  refine r_iret rfl (by first | exact Or.inl rfl | exact Or.inr rfl) ?_
                  refine r_if_ne (fun c_12 => ?_) (fun c_12 => ?_)
                  · have c_12 := (not_congr (n_eq (a := 1) (b := 0) rfl rfl (by omega) (by omega))).mp c_12
                    refine E_go 2 rfl ?_
                    refine r_aload_n rfl ?_
                    refine r_getA (q := 34) (by decide) rfl rfl (by decide) ?_
                    refine r_iload_n rfl ?_
                    refine r_aaload (by decide) (by decide) (ixE rfl (show s < 4 by omega) (by decide)) (shK s hs).2.2.1 ?_
                    refine r_astore_n (ls' := [_, _, _, _, _]) (zt rfl) rfl ?_
                    refine r_aload_n rfl ?_
                    refine r_getI (by decide) rfl (shK s hs).1 (shK s hs).2.1 p1 ?_
                    refine r_iconst ?_
                    refine r_icmp_ne (fun c_30 => ?_) (fun c_30 => ?_)
                    · exact absurd rfl c_30
                    · refine r_bipush ?_
                      refine r_iret rfl trivial ?_
                      refine M_go (ls := [_, _, _, _, _, _, _, _, _, _, _, _]) (ml := 12) rfl rfl rfl (zl rfl) rfl ?_
                      refine r_iload_n rfl ?_
                      refine r_i2l ?_
                      refine r_ldc2_w ?_
                      refine r_ldc2_w ?_
                      refine r_static (vs := [_, _, _]) (by decide) (zl rfl) rfl rfl (zl rfl) (Nat.le_refl _) rfl ?_
                      refine s_inr (by omega) (x := io k) (lo := 10) (hi := 69) (Int32.toInt_toInt64 _) (by decide) (by decide) ?_
                      rw [if_pos (by rw [io_int (by omega)]; omega)]
                      refine r_if_eq (fun c_11 => ?_) (fun c_11 => ?_)
                      · have c_11 := (n_eq (a := 1) (b := 0) rfl rfl (by omega) (by omega)).mp c_11
                        omega
                      · have c_11 := (not_congr (n_eq (a := 1) (b := 0) rfl rfl (by omega) (by omega))).mp c_11
                        refine r_aload_n rfl ?_
                        refine r_iload_n rfl ?_
                        refine r_bipush ?_
                        refine r_irem (by decide) ?_
                        rw [show io k - io k / 10 * 10 = io (k % 10) from (n_rem (a := k) (b := 10) rfl rfl (by omega) (by omega)).trans (congrArg io (by omega))]
                        refine r_virtual (vs := []) (as := [_]) (by decide) (zl rfl) rfl rfl (zl rfl) (Nat.le_refl _) (Or.inr (Or.inr ⟨zt rfl, rfl, zt rfl⟩)) ?_
                        refine s_isOne (by omega) R.mn h5 ?_
                        rw [if_pos (inN_io ha (by omega))]
                        refine r_if_eq (fun c_22 => ?_) (fun c_22 => ?_)
                        · have c_22 := (n_eq (a := 1) (b := 0) rfl rfl (by omega) (by omega)).mp c_22
                          omega
                        · have c_22 := (not_congr (n_eq (a := 1) (b := 0) rfl rfl (by omega) (by omega))).mp c_22
                          refine r_iconst ?_
                          refine r_goto ?_
                          refine E_go 2 rfl ?_
                          refine r_istore_n (ls' := [_, _, _, _, _, _, _, _, _, _, _, _]) (zt rfl) rfl ?_
                          refine r_iload_n rfl ?_
                          refine r_static (vs := [_]) (by decide) (zl rfl) rfl rfl (zl rfl) (Nat.le_refl _) rfl ?_
                          refine s_misSheet (by omega) ?_
                          rw [if_pos (inN_io hs (by omega))]
                          refine r_if_eq (fun c_35 => ?_) (fun c_35 => ?_)
                          · have c_35 := (n_eq (a := 1) (b := 0) rfl rfl (by omega) (by omega)).mp c_35
                            omega
                          · have c_35 := (not_congr (n_eq (a := 1) (b := 0) rfl rfl (by omega) (by omega))).mp c_35
                            refine r_iload_n rfl ?_
                            refine r_i2l ?_
                            refine r_lconst ?_
                            refine r_lconst ?_
                            refine r_static (vs := [_, _, _]) (by decide) (zl rfl) rfl rfl (zl rfl) (Nat.le_refl _) rfl ?_
                            refine s_in0 (by omega) (x := io k) (k := 2) (Int32.toInt_toInt64 _) i64_0 rfl ?_
                            rw [if_neg (fun q => by have q2 := q.2; rw [io_int (by omega)] at q2; omega)]
                            refine r_if_ne (fun c_45 => ?_) (fun c_45 => ?_)
                            · have c_45 := (not_congr (n_eq (a := 0) (b := 0) rfl rfl (by omega) (by omega))).mp c_45
                              omega
                            · have c_45 := (n_eq (a := 0) (b := 0) rfl rfl (by omega) (by omega)).mp c_45
                              refine r_iload_n rfl ?_
                              refine r_if_ne (fun c_49 => ?_) (fun c_49 => ?_)
                              · have c_49 := (not_congr (n_eq (a := 1) (b := 0) rfl rfl (by omega) (by omega))).mp c_49
                                refine E_go 4 rfl ?_
                                refine r_aload_n rfl ?_
                                refine r_getA (q := 78) (by decide) rfl rfl (by decide) ?_
                                refine r_iload_n rfl ?_
                                refine r_baload (by decide) rfl (by decide) (ixE rfl (show s < 4 by omega) (by decide)) p2 ?_
                                refine r_if_ne (fun c_61 => ?_) (fun c_61 => ?_)
                                · have c_61 := (not_congr (n_eq (a := 0) (b := 0) rfl rfl (by omega) (by omega))).mp c_61
                                  omega
                                · have c_61 := (n_eq (a := 0) (b := 0) rfl rfl (by omega) (by omega)).mp c_61
                                  refine r_bipush ?_
                                  refine r_iret rfl trivial ?_
                                  exact hQ _ _ _ R.rel
                              · have c_49 := (n_eq (a := 1) (b := 0) rfl rfl (by omega) (by omega)).mp c_49
                                omega
                  · have c_12 := (n_eq (a := 1) (b := 0) rfl rfl (by omega) (by omega)).mp c_12
                    omega
            · have c_9_3 := (not_congr (n_le (a := 10) (b := k) rfl rfl (by omega) (by omega))).mp c_9_3
              omega
        · have hso := pb.1
          have hzs := pb.2
          by_cases hz6 : zs ≤ 6
          · have hg : ∀ j, j < zs → I 81 (40 * s + j) = I (54 + 2 * s) j := p4
            have ek : k / 10 = 1 ∨ k / 10 = 2 ∨ k / 10 = 3 ∨ k / 10 = 4 ∨ k / 10 = 5 ∨ k / 10 = 6 := by omega
            obtain ⟨a, ea⟩ : ∃ a, a = k % 10 := ⟨_, rfl⟩
            have ha : a < n := by rw [ea]; exact hka
            have ha5 : a < 5 := by omega
            rcases ek with e | e | e | e | e | e
            · have ek : k = 10 * 1 + a := by omega
              subst ek
              refine M_go (ls := [_, _, _, _, _]) (ml := 5) rfl rfl rfl (zl rfl) rfl ?_
              refine r_iload_n rfl ?_
              refine r_static (vs := [_]) (by decide) (zl rfl) rfl rfl (zl rfl) (Nat.le_refl _) rfl ?_
              refine s_isSheet (by omega) ?_
              rw [if_pos (inN_io hs (by omega))]
              refine r_if_eq (fun c_4 => ?_) (fun c_4 => ?_)
              · have c_4 := (n_eq (a := 1) (b := 0) rfl rfl (by omega) (by omega)).mp c_4
                omega
              · have c_4 := (not_congr (n_eq (a := 1) (b := 0) rfl rfl (by omega) (by omega))).mp c_4
                refine r_aload_n rfl ?_
                refine r_iload_n rfl ?_
                refine r_virtual (vs := []) (as := [_]) (by decide) (zl rfl) rfl rfl (zl rfl) (Nat.le_refl _) (Or.inr (Or.inr ⟨zt rfl, rfl, zt rfl⟩)) ?_
                refine M_go (ls := [_, _]) (ml := 2) rfl rfl rfl (zl rfl) rfl ?_
                refine r_iload_n rfl ?_
                refine r_bipush ?_
                refine r_icmp_ge (fun c_9_3 => ?_) (fun c_9_3 => ?_)
                · have c_9_3 := (n_le (a := 10) (b := (10 * 1 + a)) rfl rfl (by omega) (by omega)).mp c_9_3
                  refine E_go 1 rfl ?_
                  refine r_iload_n rfl ?_
                  refine r_bipush ?_
                  refine r_icmp_ge (fun c_9_14 => ?_) (fun c_9_14 => ?_)
                  · have c_9_14 := (n_le (a := 70) (b := (10 * 1 + a)) rfl rfl (by omega) (by omega)).mp c_9_14
                    omega
                  · have c_9_14 := (not_congr (n_le (a := 70) (b := (10 * 1 + a)) rfl rfl (by omega) (by omega))).mp c_9_14
                    refine r_aload_n rfl ?_
                    refine r_iload_n rfl ?_
                    refine r_bipush ?_
                    refine r_irem (by decide) ?_
                    rw [show io (10 * 1 + a) - io (10 * 1 + a) / 10 * 10 = io a from (n_rem (a := (10 * 1 + a)) (b := 10) rfl rfl (by omega) (by omega)).trans (congrArg io (by omega))]
                    refine r_virtual (vs := []) (as := [_]) (by decide) (zl rfl) rfl rfl (zl rfl) (Nat.le_refl _) (Or.inr (Or.inr ⟨zt rfl, rfl, zt rfl⟩)) ?_
                    refine s_isAunt (by omega) R.cn h5 ?_
                    rw [if_pos (inN_io ha (by omega))]
                    refine r_if_eq (fun c_9_25 => ?_) (fun c_9_25 => ?_)
                    · have c_9_25 := (n_eq (a := 1) (b := 0) rfl rfl (by omega) (by omega)).mp c_9_25
                      omega
                    · have c_9_25 := (not_congr (n_eq (a := 1) (b := 0) rfl rfl (by omega) (by omega))).mp c_9_25
                      refine r_iconst ?_
                      refine r_goto ?_
                      refine E_go 3 rfl ?_
                      refine r_iret rfl (by first | exact Or.inl rfl | exact Or.inr rfl) ?_
                      refine r_if_ne (fun c_12 => ?_) (fun c_12 => ?_)
                      · have c_12 := (not_congr (n_eq (a := 1) (b := 0) rfl rfl (by omega) (by omega))).mp c_12
                        refine E_go 2 rfl ?_
                        refine r_aload_n rfl ?_
                        refine r_getA (q := 34) (by decide) rfl rfl (by decide) ?_
                        refine r_iload_n rfl ?_
                        refine r_aaload (by decide) (by decide) (ixE rfl (show s < 4 by omega) (by decide)) (shK s hs).2.2.1 ?_
                        refine r_astore_n (ls' := [_, _, _, _, _]) (zt rfl) rfl ?_
                        refine r_aload_n rfl ?_
                        refine r_getI (by decide) rfl (shK s hs).1 (shK s hs).2.1 p2.1 ?_
                        refine r_iconst ?_
                        refine r_icmp_ne (fun c_30 => ?_) (fun c_30 => ?_)
                        · refine E_go 3 rfl ?_
                          refine r_aload_n rfl ?_
                          refine r_getI (by decide) rfl (shK s hs).1 (shK s hs).2.1 p2.2 ?_
                          refine r_bipush ?_
                          refine r_icmp_le (fun c_42 => ?_) (fun c_42 => ?_)
                          · have c_42 := (n_le (a := zs) (b := 6) rfl rfl (by omega) (by omega)).mp c_42
                            refine E_go 4 rfl ?_
                            refine r_iload_n rfl ?_
                            refine r_bipush ?_
                            refine r_irem (by decide) ?_
                            rw [show io (10 * 1 + a) - io (10 * 1 + a) / 10 * 10 = io a from (n_rem (a := (10 * 1 + a)) (b := 10) rfl rfl (by omega) (by omega)).trans (congrArg io (by omega))]
                            refine r_istore (ls' := [_, _, _, _, _]) (zt rfl) rfl ?_
                            refine r_iload_n rfl ?_
                            refine r_bipush ?_
                            refine r_idiv (by decide) ?_
                            rw [show io (10 * 1 + a) / 10 = 1 from (n_div (a := (10 * 1 + a)) (b := 10) rfl rfl (by omega) (by omega)).trans (congrArg io (show (10 * 1 + a) / 10 = 1 by omega))]
                            refine r_table ?_
                            refine r_sw1 (fun cs => ?_) (fun ds => ?_)
                            · exact absurd ((n_eq (a := 1) (b := 0) rfl rfl (by omega) (by omega)).mp cs) (by omega)
                            refine r_sw1 (fun cs => ?_) (fun ds => ?_)
                            · refine E_go 8 rfl ?_
                              refine r_aload_n rfl ?_
                              refine r_aload_n rfl ?_
                              refine r_iconst ?_
                              refine r_iload rfl ?_
                              refine r_virtual (vs := []) (as := [_, _, _]) (by decide) (zl rfl) rfl rfl (zl rfl) (Nat.le_refl _) (Or.inr (Or.inr ⟨zt rfl, rfl, zt rfl⟩)) ?_
                              refine s_bitsTold (N := 6) (f := (tfW ru wK (pX n I) a zs (I (54 + 2 * s)))) (by omega) (cVa_knd (by omega)) (cTo_knd (by omega) R hl hs hz6 p2.2 ha) (fun J0 f1 => ?_)
                              refine r_iret rfl trivial ?_
                              have R1 := R.f f1
                              refine M_go (ls := [_, _, _, _, _, _, _, _, _, _, _, _]) (ml := 12) rfl rfl rfl (zl rfl) rfl ?_
                              refine r_iload_n rfl ?_
                              refine r_i2l ?_
                              refine r_ldc2_w ?_
                              refine r_ldc2_w ?_
                              refine r_static (vs := [_, _, _]) (by decide) (zl rfl) rfl rfl (zl rfl) (Nat.le_refl _) rfl ?_
                              refine s_inr (by omega) (x := io (10 * 1 + a)) (lo := 10) (hi := 69) (Int32.toInt_toInt64 _) (by decide) (by decide) ?_
                              rw [if_pos (by rw [io_int (by omega)]; omega)]
                              refine r_if_eq (fun c_11 => ?_) (fun c_11 => ?_)
                              · have c_11 := (n_eq (a := 1) (b := 0) rfl rfl (by omega) (by omega)).mp c_11
                                omega
                              · have c_11 := (not_congr (n_eq (a := 1) (b := 0) rfl rfl (by omega) (by omega))).mp c_11
                                refine r_aload_n rfl ?_
                                refine r_iload_n rfl ?_
                                refine r_bipush ?_
                                refine r_irem (by decide) ?_
                                rw [show io (10 * 1 + a) - io (10 * 1 + a) / 10 * 10 = io a from (n_rem (a := (10 * 1 + a)) (b := 10) rfl rfl (by omega) (by omega)).trans (congrArg io (by omega))]
                                refine r_virtual (vs := []) (as := [_]) (by decide) (zl rfl) rfl rfl (zl rfl) (Nat.le_refl _) (Or.inr (Or.inr ⟨zt rfl, rfl, zt rfl⟩)) ?_
                                refine s_isOne (by omega) R1.mn h5 ?_
                                rw [if_pos (inN_io ha (by omega))]
                                refine r_if_eq (fun c_22 => ?_) (fun c_22 => ?_)
                                · have c_22 := (n_eq (a := 1) (b := 0) rfl rfl (by omega) (by omega)).mp c_22
                                  omega
                                · have c_22 := (not_congr (n_eq (a := 1) (b := 0) rfl rfl (by omega) (by omega))).mp c_22
                                  refine r_iconst ?_
                                  refine r_goto ?_
                                  refine E_go 2 rfl ?_
                                  refine r_istore_n (ls' := [_, _, _, _, _, _, _, _, _, _, _, _]) (zt rfl) rfl ?_
                                  refine r_iload_n rfl ?_
                                  refine r_static (vs := [_]) (by decide) (zl rfl) rfl rfl (zl rfl) (Nat.le_refl _) rfl ?_
                                  refine s_misSheet (by omega) ?_
                                  rw [if_pos (inN_io hs (by omega))]
                                  refine r_if_eq (fun c_35 => ?_) (fun c_35 => ?_)
                                  · have c_35 := (n_eq (a := 1) (b := 0) rfl rfl (by omega) (by omega)).mp c_35
                                    omega
                                  · have c_35 := (not_congr (n_eq (a := 1) (b := 0) rfl rfl (by omega) (by omega))).mp c_35
                                    refine r_iload_n rfl ?_
                                    refine r_i2l ?_
                                    refine r_lconst ?_
                                    refine r_lconst ?_
                                    refine r_static (vs := [_, _, _]) (by decide) (zl rfl) rfl rfl (zl rfl) (Nat.le_refl _) rfl ?_
                                    refine s_in0 (by omega) (x := io (10 * 1 + a)) (k := 2) (Int32.toInt_toInt64 _) i64_0 rfl ?_
                                    rw [if_neg (fun q => by have q2 := q.2; rw [io_int (by omega)] at q2; omega)]
                                    refine r_if_ne (fun c_45 => ?_) (fun c_45 => ?_)
                                    · have c_45 := (not_congr (n_eq (a := 0) (b := 0) rfl rfl (by omega) (by omega))).mp c_45
                                      omega
                                    · have c_45 := (n_eq (a := 0) (b := 0) rfl rfl (by omega) (by omega)).mp c_45
                                      refine r_iload_n rfl ?_
                                      refine r_if_ne (fun c_49 => ?_) (fun c_49 => ?_)
                                      · have c_49 := (not_congr (n_eq (a := 1) (b := 0) rfl rfl (by omega) (by omega))).mp c_49
                                        refine E_go 4 rfl ?_
                                        refine r_aload_n rfl ?_
                                        refine r_getA (q := 78) (by decide) rfl rfl (by decide) ?_
                                        refine r_iload_n rfl ?_
                                        refine r_baload (by decide) rfl (by decide) (ixE rfl (show s < 4 by omega) (by decide)) ((congrFun (f1.1 78 (by omega)) s).trans p3.1) ?_
                                        refine r_if_ne (fun c_61 => ?_) (fun c_61 => ?_)
                                        · have c_61 := (not_congr (n_eq (a := 1) (b := 0) rfl rfl (by omega) (by omega))).mp c_61
                                          refine E_go 5 rfl ?_
                                          refine r_aload_n rfl ?_
                                          refine r_getA (q := 80) (by decide) rfl rfl (by decide) ?_
                                          refine r_iload_n rfl ?_
                                          refine r_iaload (by decide) rfl (by decide) (ixE rfl (show s < 4 by omega) (by decide)) ((congrFun (f1.1 80 (by omega)) s).trans p3.2.2) ?_
                                          refine r_bipush ?_
                                          refine r_icmp_le (fun c_75 => ?_) (fun c_75 => ?_)
                                          · have c_75 := (n_le (a := zs) (b := 6) rfl rfl (by omega) (by omega)).mp c_75
                                            refine E_go 6 rfl ?_
                                            refine r_iload_n rfl ?_
                                            refine r_if_ne (fun c_82 => ?_) (fun c_82 => ?_)
                                            · have c_82 := (not_congr (n_eq (a := (10 * 1 + a)) (b := 0) rfl rfl (by omega) (by omega))).mp c_82
                                              refine E_go 7 rfl ?_
                                              refine r_iload_n rfl ?_
                                              refine r_bipush ?_
                                              refine r_irem (by decide) ?_
                                              rw [show io (10 * 1 + a) - io (10 * 1 + a) / 10 * 10 = io a from (n_rem (a := (10 * 1 + a)) (b := 10) rfl rfl (by omega) (by omega)).trans (congrArg io (by omega))]
                                              refine r_istore (ls' := [_, _, _, _, _, _, _, _, _, _, _, _]) (zt rfl) rfl ?_
                                              refine r_iload_n rfl ?_
                                              refine r_iconst ?_
                                              refine r_icmp_ne (fun c_99 => ?_) (fun c_99 => ?_)
                                              · have c_99 := (not_congr (n_eq (a := (10 * 1 + a)) (b := 1) rfl rfl (by omega) (by omega))).mp c_99
                                                refine E_go 8 rfl ?_
                                                refine r_iload_n rfl ?_
                                                refine r_bipush ?_
                                                refine r_icmp_ge (fun c_110 => ?_) (fun c_110 => ?_)
                                                · have c_110 := (n_le (a := 20) (b := (10 * 1 + a)) rfl rfl (by omega) (by omega)).mp c_110
                                                  omega
                                                · have c_110 := (not_congr (n_le (a := 20) (b := (10 * 1 + a)) rfl rfl (by omega) (by omega))).mp c_110
                                                  refine r_iconst ?_
                                                  refine r_goto ?_
                                                  refine E_go 12 rfl ?_
                                                  refine r_istore (ls' := [_, _, _, _, _, _, _, _, _, _, _, _]) (zt rfl) rfl ?_
                                                  refine r_iload rfl ?_
                                                  refine r_bipush ?_
                                                  refine r_icmp_ne (fun c_144 => ?_) (fun c_144 => ?_)
                                                  · have c_144 := (not_congr (n_eq (a := 5) (b := 6) rfl rfl (by omega) (by omega))).mp c_144
                                                    refine E_go 13 rfl ?_
                                                    refine r_aload_n rfl ?_
                                                    refine r_iload rfl ?_
                                                    refine r_iload rfl ?_
                                                    refine r_virtual (vs := []) (as := [_, _]) (by decide) (zl rfl) rfl rfl (zl rfl) (Nat.le_refl _) (Or.inr (Or.inr ⟨zt rfl, rfl, zt rfl⟩)) ?_
                                                    refine M_go (ls := [_, _, _]) (ml := 3) rfl rfl rfl (zl rfl) rfl ?_
                                                    refine r_iload_n rfl ?_
                                                    refine r_i2l ?_
                                                    refine r_lconst ?_
                                                    refine r_ldc2_w ?_
                                                    refine r_static (vs := [_, _, _]) (by decide) (zl rfl) rfl rfl (zl rfl) (Nat.le_refl _) rfl ?_
                                                    refine s_in0 (by omega) (x := io 5) (k := 8) (Int32.toInt_toInt64 _) i64_0 rfl ?_
                                                    rw [if_pos (inN_io (by omega) (by omega))]
                                                    refine r_if_eq (fun c_159_9 => ?_) (fun c_159_9 => ?_)
                                                    · have c_159_9 := (n_eq (a := 1) (b := 0) rfl rfl (by omega) (by omega)).mp c_159_9
                                                      omega
                                                    · have c_159_9 := (not_congr (n_eq (a := 1) (b := 0) rfl rfl (by omega) (by omega))).mp c_159_9
                                                      refine r_iload_n rfl ?_
                                                      refine r_iconst ?_
                                                      refine r_icmp_le (fun c_159_14 => ?_) (fun c_159_14 => ?_)
                                                      · have c_159_14 := (n_le (a := 5) (b := 1) rfl rfl (by omega) (by omega)).mp c_159_14
                                                        omega
                                                      · have c_159_14 := (not_congr (n_le (a := 5) (b := 1) rfl rfl (by omega) (by omega))).mp c_159_14
                                                        refine r_aload_n rfl ?_
                                                        refine r_iload_n rfl ?_
                                                        refine r_virtual (vs := []) (as := [_]) (by decide) (zl rfl) rfl rfl (zl rfl) (Nat.le_refl _) (Or.inr (Or.inr ⟨zt rfl, rfl, zt rfl⟩)) ?_
                                                        refine s_isOne (by omega) R1.mn h5 ?_
                                                        rw [if_pos (inN_io ha (by omega))]
                                                        refine r_if_ne (fun c_159_22 => ?_) (fun c_159_22 => ?_)
                                                        · have c_159_22 := (not_congr (n_eq (a := 1) (b := 0) rfl rfl (by omega) (by omega))).mp c_159_22
                                                          refine E_go 2 rfl ?_
                                                          refine r_iload_n rfl ?_
                                                          refine r_iconst ?_
                                                          refine r_icmp_ge (fun c_159_30 => ?_) (fun c_159_30 => ?_)
                                                          · have c_159_30 := (n_le (a := 2) (b := 5) rfl rfl (by omega) (by omega)).mp c_159_30
                                                            refine E_go 5 rfl ?_
                                                            refine r_iload_n rfl ?_
                                                            refine r_iconst ?_
                                                            refine r_icmp_ge (fun c_159_51 => ?_) (fun c_159_51 => ?_)
                                                            · have c_159_51 := (n_le (a := 5) (b := 5) rfl rfl (by omega) (by omega)).mp c_159_51
                                                              refine E_go 6 rfl ?_
                                                              refine r_iload_n rfl ?_
                                                              refine r_iconst ?_
                                                              refine r_icmp_ne (fun c_159_71 => ?_) (fun c_159_71 => ?_)
                                                              · have c_159_71 := (not_congr (n_eq (a := 5) (b := 5) rfl rfl (by omega) (by omega))).mp c_159_71
                                                                omega
                                                              · have c_159_71 := (n_eq (a := 5) (b := 5) rfl rfl (by omega) (by omega)).mp c_159_71
                                                                refine r_aload_n rfl ?_
                                                                refine r_getA (q := 65) (by decide) rfl rfl (by decide) ?_
                                                                refine r_iload_n rfl ?_
                                                                refine r_iaload (by decide) rfl (by decide) (ixE rfl (show a < 5 by omega) (by decide)) rfl ?_
                                                                refine r_goto ?_
                                                                refine E_go 9 rfl ?_
                                                                refine r_iret rfl trivial ?_
                                                                refine r_nil ?_
                                                                refine E_go 14 rfl ?_
                                                                refine r_istore (ls' := [_, _, _, _, _, _, _, _, _, _, _, _]) (zt rfl) rfl ?_
                                                                refine r_iload rfl ?_
                                                                refine r_bipush ?_
                                                                refine r_icmp_ne (fun c_168 => ?_) (fun c_168 => ?_)
                                                                · have c_168 := (not_congr (n_eq (a := 5) (b := 6) rfl rfl (by omega) (by omega))).mp c_168
                                                                  refine E_go 15 rfl ?_
                                                                  refine r_iload rfl ?_
                                                                  refine r_iconst ?_
                                                                  refine r_icmp_ne (fun c_183 => ?_) (fun c_183 => ?_)
                                                                  · have c_183 := (not_congr (n_eq (a := 5) (b := 5) rfl rfl (by omega) (by omega))).mp c_183
                                                                    omega
                                                                  · have c_183 := (n_eq (a := 5) (b := 5) rfl rfl (by omega) (by omega)).mp c_183
                                                                    refine r_iconst ?_
                                                                    refine r_goto ?_
                                                                    refine E_go 17 rfl ?_
                                                                    refine r_istore (ls' := [_, _, _, _, _, _, _, _, _, _, _, _]) (zt rfl) rfl ?_
                                                                    refine r_iconst ?_
                                                                    refine r_istore (ls' := [_, _, _, _, _, _, _, _, _, _, _, _]) (zt rfl) rfl ?_
                                                                    refine r_iconst ?_
                                                                    refine r_istore (ls' := [_, _, _, _, _, _, _, _, _, _, _, _]) (zt rfl) rfl ?_
                                                                    refine r_iconst ?_
                                                                    refine r_istore (ls' := [_, _, _, _, _, _, _, _, _, _, _, _]) (zt rfl) rfl ?_
                                                                    refine r_iload rfl ?_
                                                                    refine r_istore (ls' := [_, _, _, _, _, _, _, _, _, _, _, _]) (zt rfl) rfl ?_
                                                                    refine r_nil ?_
                                                                    refine s_tl (N := 6) (f := (tfW ru wK (pX n I) a zs (I (54 + 2 * s)))) (P := PW 65 a J0) (P2 := fun v J => PW 65 a J0 J ∧ J 65 a = io v) (PF := fS J0) (by omega) (by omega) (by omega) (fun v _ => mLy_5 (by omega) ha5) (mFo_5 (by omega) R hl f1 hs hz6 p3.2.2 hg) (fun J L Q hP hQ => mLy_5 (by omega) ha5 J L Q hP (fun K k => hQ K (k.1.fS k.2))) (by decide) PW.refl (fun K L2 f2 => ?_)
                                                                    unfold tRes
                                                                    rw [if_pos (by omega)]
                                                                    exact hQ _ _ _ (R1.f f2).rel
                                                                · have c_168 := (n_eq (a := 5) (b := 6) rfl rfl (by omega) (by omega)).mp c_168
                                                                  omega
                                                            · have c_159_51 := (not_congr (n_le (a := 5) (b := 5) rfl rfl (by omega) (by omega))).mp c_159_51
                                                              omega
                                                          · have c_159_30 := (not_congr (n_le (a := 2) (b := 5) rfl rfl (by omega) (by omega))).mp c_159_30
                                                            omega
                                                        · have c_159_22 := (n_eq (a := 1) (b := 0) rfl rfl (by omega) (by omega)).mp c_159_22
                                                          omega
                                                  · have c_144 := (n_eq (a := 5) (b := 6) rfl rfl (by omega) (by omega)).mp c_144
                                                    omega
                                              · have c_99 := (n_eq (a := (10 * 1 + a)) (b := 1) rfl rfl (by omega) (by omega)).mp c_99
                                                omega
                                            · have c_82 := (n_eq (a := (10 * 1 + a)) (b := 0) rfl rfl (by omega) (by omega)).mp c_82
                                              omega
                                          · have c_75 := (not_congr (n_le (a := zs) (b := 6) rfl rfl (by omega) (by omega))).mp c_75
                                            omega
                                        · have c_61 := (n_eq (a := 1) (b := 0) rfl rfl (by omega) (by omega)).mp c_61
                                          omega
                                      · have c_49 := (n_eq (a := 1) (b := 0) rfl rfl (by omega) (by omega)).mp c_49
                                        omega
                            · exact absurd rfl ds
                          · have c_42 := (not_congr (n_le (a := zs) (b := 6) rfl rfl (by omega) (by omega))).mp c_42
                            omega
                        · exact absurd c_30 (io_m1 (by omega))
                      · have c_12 := (n_eq (a := 1) (b := 0) rfl rfl (by omega) (by omega)).mp c_12
                        omega
                · have c_9_3 := (not_congr (n_le (a := 10) (b := (10 * 1 + a)) rfl rfl (by omega) (by omega))).mp c_9_3
                  omega
            · have ek : k = 10 * 2 + a := by omega
              subst ek
              refine M_go (ls := [_, _, _, _, _]) (ml := 5) rfl rfl rfl (zl rfl) rfl ?_
              refine r_iload_n rfl ?_
              refine r_static (vs := [_]) (by decide) (zl rfl) rfl rfl (zl rfl) (Nat.le_refl _) rfl ?_
              refine s_isSheet (by omega) ?_
              rw [if_pos (inN_io hs (by omega))]
              refine r_if_eq (fun c_4 => ?_) (fun c_4 => ?_)
              · have c_4 := (n_eq (a := 1) (b := 0) rfl rfl (by omega) (by omega)).mp c_4
                omega
              · have c_4 := (not_congr (n_eq (a := 1) (b := 0) rfl rfl (by omega) (by omega))).mp c_4
                refine r_aload_n rfl ?_
                refine r_iload_n rfl ?_
                refine r_virtual (vs := []) (as := [_]) (by decide) (zl rfl) rfl rfl (zl rfl) (Nat.le_refl _) (Or.inr (Or.inr ⟨zt rfl, rfl, zt rfl⟩)) ?_
                refine M_go (ls := [_, _]) (ml := 2) rfl rfl rfl (zl rfl) rfl ?_
                refine r_iload_n rfl ?_
                refine r_bipush ?_
                refine r_icmp_ge (fun c_9_3 => ?_) (fun c_9_3 => ?_)
                · have c_9_3 := (n_le (a := 10) (b := (10 * 2 + a)) rfl rfl (by omega) (by omega)).mp c_9_3
                  refine E_go 1 rfl ?_
                  refine r_iload_n rfl ?_
                  refine r_bipush ?_
                  refine r_icmp_ge (fun c_9_14 => ?_) (fun c_9_14 => ?_)
                  · have c_9_14 := (n_le (a := 70) (b := (10 * 2 + a)) rfl rfl (by omega) (by omega)).mp c_9_14
                    omega
                  · have c_9_14 := (not_congr (n_le (a := 70) (b := (10 * 2 + a)) rfl rfl (by omega) (by omega))).mp c_9_14
                    refine r_aload_n rfl ?_
                    refine r_iload_n rfl ?_
                    refine r_bipush ?_
                    refine r_irem (by decide) ?_
                    rw [show io (10 * 2 + a) - io (10 * 2 + a) / 10 * 10 = io a from (n_rem (a := (10 * 2 + a)) (b := 10) rfl rfl (by omega) (by omega)).trans (congrArg io (by omega))]
                    refine r_virtual (vs := []) (as := [_]) (by decide) (zl rfl) rfl rfl (zl rfl) (Nat.le_refl _) (Or.inr (Or.inr ⟨zt rfl, rfl, zt rfl⟩)) ?_
                    refine s_isAunt (by omega) R.cn h5 ?_
                    rw [if_pos (inN_io ha (by omega))]
                    refine r_if_eq (fun c_9_25 => ?_) (fun c_9_25 => ?_)
                    · have c_9_25 := (n_eq (a := 1) (b := 0) rfl rfl (by omega) (by omega)).mp c_9_25
                      omega
                    · have c_9_25 := (not_congr (n_eq (a := 1) (b := 0) rfl rfl (by omega) (by omega))).mp c_9_25
                      refine r_iconst ?_
                      refine r_goto ?_
                      refine E_go 3 rfl ?_
                      refine r_iret rfl (by first | exact Or.inl rfl | exact Or.inr rfl) ?_
                      refine r_if_ne (fun c_12 => ?_) (fun c_12 => ?_)
                      · have c_12 := (not_congr (n_eq (a := 1) (b := 0) rfl rfl (by omega) (by omega))).mp c_12
                        refine E_go 2 rfl ?_
                        refine r_aload_n rfl ?_
                        refine r_getA (q := 34) (by decide) rfl rfl (by decide) ?_
                        refine r_iload_n rfl ?_
                        refine r_aaload (by decide) (by decide) (ixE rfl (show s < 4 by omega) (by decide)) (shK s hs).2.2.1 ?_
                        refine r_astore_n (ls' := [_, _, _, _, _]) (zt rfl) rfl ?_
                        refine r_aload_n rfl ?_
                        refine r_getI (by decide) rfl (shK s hs).1 (shK s hs).2.1 p2.1 ?_
                        refine r_iconst ?_
                        refine r_icmp_ne (fun c_30 => ?_) (fun c_30 => ?_)
                        · refine E_go 3 rfl ?_
                          refine r_aload_n rfl ?_
                          refine r_getI (by decide) rfl (shK s hs).1 (shK s hs).2.1 p2.2 ?_
                          refine r_bipush ?_
                          refine r_icmp_le (fun c_42 => ?_) (fun c_42 => ?_)
                          · have c_42 := (n_le (a := zs) (b := 6) rfl rfl (by omega) (by omega)).mp c_42
                            refine E_go 4 rfl ?_
                            refine r_iload_n rfl ?_
                            refine r_bipush ?_
                            refine r_irem (by decide) ?_
                            rw [show io (10 * 2 + a) - io (10 * 2 + a) / 10 * 10 = io a from (n_rem (a := (10 * 2 + a)) (b := 10) rfl rfl (by omega) (by omega)).trans (congrArg io (by omega))]
                            refine r_istore (ls' := [_, _, _, _, _]) (zt rfl) rfl ?_
                            refine r_iload_n rfl ?_
                            refine r_bipush ?_
                            refine r_idiv (by decide) ?_
                            rw [show io (10 * 2 + a) / 10 = 2 from (n_div (a := (10 * 2 + a)) (b := 10) rfl rfl (by omega) (by omega)).trans (congrArg io (show (10 * 2 + a) / 10 = 2 by omega))]
                            refine r_table ?_
                            refine r_sw1 (fun cs => ?_) (fun ds => ?_)
                            · exact absurd ((n_eq (a := 2) (b := 0) rfl rfl (by omega) (by omega)).mp cs) (by omega)
                            refine r_sw1 (fun cs => ?_) (fun ds => ?_)
                            · exact absurd ((n_eq (a := 2) (b := 1) rfl rfl (by omega) (by omega)).mp cs) (by omega)
                            refine r_sw1 (fun cs => ?_) (fun ds => ?_)
                            · refine E_go 9 rfl ?_
                              refine r_aload_n rfl ?_
                              refine r_aload_n rfl ?_
                              refine r_iconst ?_
                              refine r_iload rfl ?_
                              refine r_virtual (vs := []) (as := [_, _, _]) (by decide) (zl rfl) rfl rfl (zl rfl) (Nat.le_refl _) (Or.inr (Or.inr ⟨zt rfl, rfl, zt rfl⟩)) ?_
                              refine s_bitsTold (N := 10) (f := (tfW ru wN (pX n I) a zs (I (54 + 2 * s)))) (by omega) (cVa_num (by omega)) (cTo_num (by omega) R hl hs hz6 p2.2 ha) (fun J0 f1 => ?_)
                              refine r_iret rfl trivial ?_
                              have R1 := R.f f1
                              refine M_go (ls := [_, _, _, _, _, _, _, _, _, _, _, _]) (ml := 12) rfl rfl rfl (zl rfl) rfl ?_
                              refine r_iload_n rfl ?_
                              refine r_i2l ?_
                              refine r_ldc2_w ?_
                              refine r_ldc2_w ?_
                              refine r_static (vs := [_, _, _]) (by decide) (zl rfl) rfl rfl (zl rfl) (Nat.le_refl _) rfl ?_
                              refine s_inr (by omega) (x := io (10 * 2 + a)) (lo := 10) (hi := 69) (Int32.toInt_toInt64 _) (by decide) (by decide) ?_
                              rw [if_pos (by rw [io_int (by omega)]; omega)]
                              refine r_if_eq (fun c_11 => ?_) (fun c_11 => ?_)
                              · have c_11 := (n_eq (a := 1) (b := 0) rfl rfl (by omega) (by omega)).mp c_11
                                omega
                              · have c_11 := (not_congr (n_eq (a := 1) (b := 0) rfl rfl (by omega) (by omega))).mp c_11
                                refine r_aload_n rfl ?_
                                refine r_iload_n rfl ?_
                                refine r_bipush ?_
                                refine r_irem (by decide) ?_
                                rw [show io (10 * 2 + a) - io (10 * 2 + a) / 10 * 10 = io a from (n_rem (a := (10 * 2 + a)) (b := 10) rfl rfl (by omega) (by omega)).trans (congrArg io (by omega))]
                                refine r_virtual (vs := []) (as := [_]) (by decide) (zl rfl) rfl rfl (zl rfl) (Nat.le_refl _) (Or.inr (Or.inr ⟨zt rfl, rfl, zt rfl⟩)) ?_
                                refine s_isOne (by omega) R1.mn h5 ?_
                                rw [if_pos (inN_io ha (by omega))]
                                refine r_if_eq (fun c_22 => ?_) (fun c_22 => ?_)
                                · have c_22 := (n_eq (a := 1) (b := 0) rfl rfl (by omega) (by omega)).mp c_22
                                  omega
                                · have c_22 := (not_congr (n_eq (a := 1) (b := 0) rfl rfl (by omega) (by omega))).mp c_22
                                  refine r_iconst ?_
                                  refine r_goto ?_
                                  refine E_go 2 rfl ?_
                                  refine r_istore_n (ls' := [_, _, _, _, _, _, _, _, _, _, _, _]) (zt rfl) rfl ?_
                                  refine r_iload_n rfl ?_
                                  refine r_static (vs := [_]) (by decide) (zl rfl) rfl rfl (zl rfl) (Nat.le_refl _) rfl ?_
                                  refine s_misSheet (by omega) ?_
                                  rw [if_pos (inN_io hs (by omega))]
                                  refine r_if_eq (fun c_35 => ?_) (fun c_35 => ?_)
                                  · have c_35 := (n_eq (a := 1) (b := 0) rfl rfl (by omega) (by omega)).mp c_35
                                    omega
                                  · have c_35 := (not_congr (n_eq (a := 1) (b := 0) rfl rfl (by omega) (by omega))).mp c_35
                                    refine r_iload_n rfl ?_
                                    refine r_i2l ?_
                                    refine r_lconst ?_
                                    refine r_lconst ?_
                                    refine r_static (vs := [_, _, _]) (by decide) (zl rfl) rfl rfl (zl rfl) (Nat.le_refl _) rfl ?_
                                    refine s_in0 (by omega) (x := io (10 * 2 + a)) (k := 2) (Int32.toInt_toInt64 _) i64_0 rfl ?_
                                    rw [if_neg (fun q => by have q2 := q.2; rw [io_int (by omega)] at q2; omega)]
                                    refine r_if_ne (fun c_45 => ?_) (fun c_45 => ?_)
                                    · have c_45 := (not_congr (n_eq (a := 0) (b := 0) rfl rfl (by omega) (by omega))).mp c_45
                                      omega
                                    · have c_45 := (n_eq (a := 0) (b := 0) rfl rfl (by omega) (by omega)).mp c_45
                                      refine r_iload_n rfl ?_
                                      refine r_if_ne (fun c_49 => ?_) (fun c_49 => ?_)
                                      · have c_49 := (not_congr (n_eq (a := 1) (b := 0) rfl rfl (by omega) (by omega))).mp c_49
                                        refine E_go 4 rfl ?_
                                        refine r_aload_n rfl ?_
                                        refine r_getA (q := 78) (by decide) rfl rfl (by decide) ?_
                                        refine r_iload_n rfl ?_
                                        refine r_baload (by decide) rfl (by decide) (ixE rfl (show s < 4 by omega) (by decide)) ((congrFun (f1.1 78 (by omega)) s).trans p3.1) ?_
                                        refine r_if_ne (fun c_61 => ?_) (fun c_61 => ?_)
                                        · have c_61 := (not_congr (n_eq (a := 1) (b := 0) rfl rfl (by omega) (by omega))).mp c_61
                                          refine E_go 5 rfl ?_
                                          refine r_aload_n rfl ?_
                                          refine r_getA (q := 80) (by decide) rfl rfl (by decide) ?_
                                          refine r_iload_n rfl ?_
                                          refine r_iaload (by decide) rfl (by decide) (ixE rfl (show s < 4 by omega) (by decide)) ((congrFun (f1.1 80 (by omega)) s).trans p3.2.2) ?_
                                          refine r_bipush ?_
                                          refine r_icmp_le (fun c_75 => ?_) (fun c_75 => ?_)
                                          · have c_75 := (n_le (a := zs) (b := 6) rfl rfl (by omega) (by omega)).mp c_75
                                            refine E_go 6 rfl ?_
                                            refine r_iload_n rfl ?_
                                            refine r_if_ne (fun c_82 => ?_) (fun c_82 => ?_)
                                            · have c_82 := (not_congr (n_eq (a := (10 * 2 + a)) (b := 0) rfl rfl (by omega) (by omega))).mp c_82
                                              refine E_go 7 rfl ?_
                                              refine r_iload_n rfl ?_
                                              refine r_bipush ?_
                                              refine r_irem (by decide) ?_
                                              rw [show io (10 * 2 + a) - io (10 * 2 + a) / 10 * 10 = io a from (n_rem (a := (10 * 2 + a)) (b := 10) rfl rfl (by omega) (by omega)).trans (congrArg io (by omega))]
                                              refine r_istore (ls' := [_, _, _, _, _, _, _, _, _, _, _, _]) (zt rfl) rfl ?_
                                              refine r_iload_n rfl ?_
                                              refine r_iconst ?_
                                              refine r_icmp_ne (fun c_99 => ?_) (fun c_99 => ?_)
                                              · have c_99 := (not_congr (n_eq (a := (10 * 2 + a)) (b := 1) rfl rfl (by omega) (by omega))).mp c_99
                                                refine E_go 8 rfl ?_
                                                refine r_iload_n rfl ?_
                                                refine r_bipush ?_
                                                refine r_icmp_ge (fun c_110 => ?_) (fun c_110 => ?_)
                                                · have c_110 := (n_le (a := 20) (b := (10 * 2 + a)) rfl rfl (by omega) (by omega)).mp c_110
                                                  refine E_go 9 rfl ?_
                                                  refine r_iload_n rfl ?_
                                                  refine r_bipush ?_
                                                  refine r_icmp_ge (fun c_120 => ?_) (fun c_120 => ?_)
                                                  · have c_120 := (n_le (a := 30) (b := (10 * 2 + a)) rfl rfl (by omega) (by omega)).mp c_120
                                                    omega
                                                  · have c_120 := (not_congr (n_le (a := 30) (b := (10 * 2 + a)) rfl rfl (by omega) (by omega))).mp c_120
                                                    refine r_iconst ?_
                                                    refine r_goto ?_
                                                    refine E_go 12 rfl ?_
                                                    refine r_istore (ls' := [_, _, _, _, _, _, _, _, _, _, _, _]) (zt rfl) rfl ?_
                                                    refine r_iload rfl ?_
                                                    refine r_bipush ?_
                                                    refine r_icmp_ne (fun c_144 => ?_) (fun c_144 => ?_)
                                                    · have c_144 := (not_congr (n_eq (a := 2) (b := 6) rfl rfl (by omega) (by omega))).mp c_144
                                                      refine E_go 13 rfl ?_
                                                      refine r_aload_n rfl ?_
                                                      refine r_iload rfl ?_
                                                      refine r_iload rfl ?_
                                                      refine r_virtual (vs := []) (as := [_, _]) (by decide) (zl rfl) rfl rfl (zl rfl) (Nat.le_refl _) (Or.inr (Or.inr ⟨zt rfl, rfl, zt rfl⟩)) ?_
                                                      refine M_go (ls := [_, _, _]) (ml := 3) rfl rfl rfl (zl rfl) rfl ?_
                                                      refine r_iload_n rfl ?_
                                                      refine r_i2l ?_
                                                      refine r_lconst ?_
                                                      refine r_ldc2_w ?_
                                                      refine r_static (vs := [_, _, _]) (by decide) (zl rfl) rfl rfl (zl rfl) (Nat.le_refl _) rfl ?_
                                                      refine s_in0 (by omega) (x := io 2) (k := 8) (Int32.toInt_toInt64 _) i64_0 rfl ?_
                                                      rw [if_pos (inN_io (by omega) (by omega))]
                                                      refine r_if_eq (fun c_159_9 => ?_) (fun c_159_9 => ?_)
                                                      · have c_159_9 := (n_eq (a := 1) (b := 0) rfl rfl (by omega) (by omega)).mp c_159_9
                                                        omega
                                                      · have c_159_9 := (not_congr (n_eq (a := 1) (b := 0) rfl rfl (by omega) (by omega))).mp c_159_9
                                                        refine r_iload_n rfl ?_
                                                        refine r_iconst ?_
                                                        refine r_icmp_le (fun c_159_14 => ?_) (fun c_159_14 => ?_)
                                                        · have c_159_14 := (n_le (a := 2) (b := 1) rfl rfl (by omega) (by omega)).mp c_159_14
                                                          omega
                                                        · have c_159_14 := (not_congr (n_le (a := 2) (b := 1) rfl rfl (by omega) (by omega))).mp c_159_14
                                                          refine r_aload_n rfl ?_
                                                          refine r_iload_n rfl ?_
                                                          refine r_virtual (vs := []) (as := [_]) (by decide) (zl rfl) rfl rfl (zl rfl) (Nat.le_refl _) (Or.inr (Or.inr ⟨zt rfl, rfl, zt rfl⟩)) ?_
                                                          refine s_isOne (by omega) R1.mn h5 ?_
                                                          rw [if_pos (inN_io ha (by omega))]
                                                          refine r_if_ne (fun c_159_22 => ?_) (fun c_159_22 => ?_)
                                                          · have c_159_22 := (not_congr (n_eq (a := 1) (b := 0) rfl rfl (by omega) (by omega))).mp c_159_22
                                                            refine E_go 2 rfl ?_
                                                            refine r_iload_n rfl ?_
                                                            refine r_iconst ?_
                                                            refine r_icmp_ge (fun c_159_30 => ?_) (fun c_159_30 => ?_)
                                                            · have c_159_30 := (n_le (a := 2) (b := 2) rfl rfl (by omega) (by omega)).mp c_159_30
                                                              refine E_go 5 rfl ?_
                                                              refine r_iload_n rfl ?_
                                                              refine r_iconst ?_
                                                              refine r_icmp_ge (fun c_159_51 => ?_) (fun c_159_51 => ?_)
                                                              · have c_159_51 := (n_le (a := 5) (b := 2) rfl rfl (by omega) (by omega)).mp c_159_51
                                                                omega
                                                              · have c_159_51 := (not_congr (n_le (a := 5) (b := 2) rfl rfl (by omega) (by omega))).mp c_159_51
                                                                refine r_aload_n rfl ?_
                                                                refine r_getA (q := 66) (by decide) rfl rfl (by decide) ?_
                                                                refine r_iconst ?_
                                                                refine r_iload_n rfl ?_
                                                                refine r_imul ?_
                                                                refine r_iload_n rfl ?_
                                                                refine r_iadd ?_
                                                                refine r_iconst ?_
                                                                refine r_isub ?_
                                                                refine r_iaload (by decide) rfl (by decide) (ixE (n_sub (a := ((3 * a) + 2)) (b := 2) (n_add (a := (3 * a)) (b := 2) (n_mul (a := 3) (b := a) rfl rfl) rfl) rfl (by omega)) (show (((3 * a) + 2) - 2) < 15 by omega) (by decide)) rfl ?_
                                                                refine r_goto ?_
                                                                refine E_go 9 rfl ?_
                                                                refine r_iret rfl trivial ?_
                                                                refine r_nil ?_
                                                                refine E_go 14 rfl ?_
                                                                refine r_istore (ls' := [_, _, _, _, _, _, _, _, _, _, _, _]) (zt rfl) rfl ?_
                                                                refine r_iload rfl ?_
                                                                refine r_bipush ?_
                                                                refine r_icmp_ne (fun c_168 => ?_) (fun c_168 => ?_)
                                                                · have c_168 := (not_congr (n_eq (a := 2) (b := 6) rfl rfl (by omega) (by omega))).mp c_168
                                                                  refine E_go 15 rfl ?_
                                                                  refine r_iload rfl ?_
                                                                  refine r_iconst ?_
                                                                  refine r_icmp_ne (fun c_183 => ?_) (fun c_183 => ?_)
                                                                  · have c_183 := (not_congr (n_eq (a := 2) (b := 5) rfl rfl (by omega) (by omega))).mp c_183
                                                                    refine E_go 16 rfl ?_
                                                                    refine r_iload rfl ?_
                                                                    refine r_static (vs := [_]) (by decide) (zl rfl) rfl rfl (zl rfl) (Nat.le_refl _) rfl ?_
                                                                    refine M_go (ls := [_]) (ml := 1) rfl rfl rfl (zl rfl) rfl ?_
                                                                    refine r_iload_n rfl ?_
                                                                    refine r_iconst ?_
                                                                    refine r_icmp_ne (fun c_192_2 => ?_) (fun c_192_2 => ?_)
                                                                    · have c_192_2 := (not_congr (n_eq (a := 2) (b := 1) rfl rfl (by omega) (by omega))).mp c_192_2
                                                                      refine E_go 1 rfl ?_
                                                                      refine r_iload_n rfl ?_
                                                                      refine r_iconst ?_
                                                                      refine r_icmp_ne (fun c_192_13 => ?_) (fun c_192_13 => ?_)
                                                                      · have c_192_13 := (not_congr (n_eq (a := 2) (b := 2) rfl rfl (by omega) (by omega))).mp c_192_13
                                                                        omega
                                                                      · have c_192_13 := (n_eq (a := 2) (b := 2) rfl rfl (by omega) (by omega)).mp c_192_13
                                                                        refine r_bipush ?_
                                                                        refine r_goto ?_
                                                                        refine E_go 4 rfl ?_
                                                                        refine r_iret rfl trivial ?_
                                                                        refine r_nil ?_
                                                                        refine E_go 17 rfl ?_
                                                                        refine r_istore (ls' := [_, _, _, _, _, _, _, _, _, _, _, _]) (zt rfl) rfl ?_
                                                                        refine r_iconst ?_
                                                                        refine r_istore (ls' := [_, _, _, _, _, _, _, _, _, _, _, _]) (zt rfl) rfl ?_
                                                                        refine r_iconst ?_
                                                                        refine r_istore (ls' := [_, _, _, _, _, _, _, _, _, _, _, _]) (zt rfl) rfl ?_
                                                                        refine r_iconst ?_
                                                                        refine r_istore (ls' := [_, _, _, _, _, _, _, _, _, _, _, _]) (zt rfl) rfl ?_
                                                                        refine r_iload rfl ?_
                                                                        refine r_istore (ls' := [_, _, _, _, _, _, _, _, _, _, _, _]) (zt rfl) rfl ?_
                                                                        refine r_nil ?_
                                                                        refine s_tl (N := 10) (f := (tfW ru wN (pX n I) a zs (I (54 + 2 * s)))) (P := PW 66 (3 * a + 2 - 2) J0) (P2 := fun v J => PW 66 (3 * a + 2 - 2) J0 J ∧ J 66 (3 * a + 2 - 2) = io v) (PF := fS J0) (by omega) (by omega) (by omega) (fun v _ => mLy_2 (by omega) ha5) (mFo_2 (by omega) R hl f1 hs hz6 p3.2.2 hg) (fun J L Q hP hQ => mLy_2 (by omega) ha5 J L Q hP (fun K k => hQ K (k.1.fS k.2))) (by decide) PW.refl (fun K L2 f2 => ?_)
                                                                        unfold tRes
                                                                        rw [if_pos (by omega)]
                                                                        exact hQ _ _ _ (R1.f f2).rel
                                                                    · have c_192_2 := (n_eq (a := 2) (b := 1) rfl rfl (by omega) (by omega)).mp c_192_2
                                                                      omega
                                                                  · have c_183 := (n_eq (a := 2) (b := 5) rfl rfl (by omega) (by omega)).mp c_183
                                                                    omega
                                                                · have c_168 := (n_eq (a := 2) (b := 6) rfl rfl (by omega) (by omega)).mp c_168
                                                                  omega
                                                            · have c_159_30 := (not_congr (n_le (a := 2) (b := 2) rfl rfl (by omega) (by omega))).mp c_159_30
                                                              omega
                                                          · have c_159_22 := (n_eq (a := 1) (b := 0) rfl rfl (by omega) (by omega)).mp c_159_22
                                                            omega
                                                    · have c_144 := (n_eq (a := 2) (b := 6) rfl rfl (by omega) (by omega)).mp c_144
                                                      omega
                                                · have c_110 := (not_congr (n_le (a := 20) (b := (10 * 2 + a)) rfl rfl (by omega) (by omega))).mp c_110
                                                  omega
                                              · have c_99 := (n_eq (a := (10 * 2 + a)) (b := 1) rfl rfl (by omega) (by omega)).mp c_99
                                                omega
                                            · have c_82 := (n_eq (a := (10 * 2 + a)) (b := 0) rfl rfl (by omega) (by omega)).mp c_82
                                              omega
                                          · have c_75 := (not_congr (n_le (a := zs) (b := 6) rfl rfl (by omega) (by omega))).mp c_75
                                            omega
                                        · have c_61 := (n_eq (a := 1) (b := 0) rfl rfl (by omega) (by omega)).mp c_61
                                          omega
                                      · have c_49 := (n_eq (a := 1) (b := 0) rfl rfl (by omega) (by omega)).mp c_49
                                        omega
                            · exact absurd rfl ds
                          · have c_42 := (not_congr (n_le (a := zs) (b := 6) rfl rfl (by omega) (by omega))).mp c_42
                            omega
                        · exact absurd c_30 (io_m1 (by omega))
                      · have c_12 := (n_eq (a := 1) (b := 0) rfl rfl (by omega) (by omega)).mp c_12
                        omega
                · have c_9_3 := (not_congr (n_le (a := 10) (b := (10 * 2 + a)) rfl rfl (by omega) (by omega))).mp c_9_3
                  omega
            · have ek : k = 10 * 3 + a := by omega
              subst ek
              refine M_go (ls := [_, _, _, _, _]) (ml := 5) rfl rfl rfl (zl rfl) rfl ?_
              refine r_iload_n rfl ?_
              refine r_static (vs := [_]) (by decide) (zl rfl) rfl rfl (zl rfl) (Nat.le_refl _) rfl ?_
              refine s_isSheet (by omega) ?_
              rw [if_pos (inN_io hs (by omega))]
              refine r_if_eq (fun c_4 => ?_) (fun c_4 => ?_)
              · have c_4 := (n_eq (a := 1) (b := 0) rfl rfl (by omega) (by omega)).mp c_4
                omega
              · have c_4 := (not_congr (n_eq (a := 1) (b := 0) rfl rfl (by omega) (by omega))).mp c_4
                refine r_aload_n rfl ?_
                refine r_iload_n rfl ?_
                refine r_virtual (vs := []) (as := [_]) (by decide) (zl rfl) rfl rfl (zl rfl) (Nat.le_refl _) (Or.inr (Or.inr ⟨zt rfl, rfl, zt rfl⟩)) ?_
                refine M_go (ls := [_, _]) (ml := 2) rfl rfl rfl (zl rfl) rfl ?_
                refine r_iload_n rfl ?_
                refine r_bipush ?_
                refine r_icmp_ge (fun c_9_3 => ?_) (fun c_9_3 => ?_)
                · have c_9_3 := (n_le (a := 10) (b := (10 * 3 + a)) rfl rfl (by omega) (by omega)).mp c_9_3
                  refine E_go 1 rfl ?_
                  refine r_iload_n rfl ?_
                  refine r_bipush ?_
                  refine r_icmp_ge (fun c_9_14 => ?_) (fun c_9_14 => ?_)
                  · have c_9_14 := (n_le (a := 70) (b := (10 * 3 + a)) rfl rfl (by omega) (by omega)).mp c_9_14
                    omega
                  · have c_9_14 := (not_congr (n_le (a := 70) (b := (10 * 3 + a)) rfl rfl (by omega) (by omega))).mp c_9_14
                    refine r_aload_n rfl ?_
                    refine r_iload_n rfl ?_
                    refine r_bipush ?_
                    refine r_irem (by decide) ?_
                    rw [show io (10 * 3 + a) - io (10 * 3 + a) / 10 * 10 = io a from (n_rem (a := (10 * 3 + a)) (b := 10) rfl rfl (by omega) (by omega)).trans (congrArg io (by omega))]
                    refine r_virtual (vs := []) (as := [_]) (by decide) (zl rfl) rfl rfl (zl rfl) (Nat.le_refl _) (Or.inr (Or.inr ⟨zt rfl, rfl, zt rfl⟩)) ?_
                    refine s_isAunt (by omega) R.cn h5 ?_
                    rw [if_pos (inN_io ha (by omega))]
                    refine r_if_eq (fun c_9_25 => ?_) (fun c_9_25 => ?_)
                    · have c_9_25 := (n_eq (a := 1) (b := 0) rfl rfl (by omega) (by omega)).mp c_9_25
                      omega
                    · have c_9_25 := (not_congr (n_eq (a := 1) (b := 0) rfl rfl (by omega) (by omega))).mp c_9_25
                      refine r_iconst ?_
                      refine r_goto ?_
                      refine E_go 3 rfl ?_
                      refine r_iret rfl (by first | exact Or.inl rfl | exact Or.inr rfl) ?_
                      refine r_if_ne (fun c_12 => ?_) (fun c_12 => ?_)
                      · have c_12 := (not_congr (n_eq (a := 1) (b := 0) rfl rfl (by omega) (by omega))).mp c_12
                        refine E_go 2 rfl ?_
                        refine r_aload_n rfl ?_
                        refine r_getA (q := 34) (by decide) rfl rfl (by decide) ?_
                        refine r_iload_n rfl ?_
                        refine r_aaload (by decide) (by decide) (ixE rfl (show s < 4 by omega) (by decide)) (shK s hs).2.2.1 ?_
                        refine r_astore_n (ls' := [_, _, _, _, _]) (zt rfl) rfl ?_
                        refine r_aload_n rfl ?_
                        refine r_getI (by decide) rfl (shK s hs).1 (shK s hs).2.1 p2.1 ?_
                        refine r_iconst ?_
                        refine r_icmp_ne (fun c_30 => ?_) (fun c_30 => ?_)
                        · refine E_go 3 rfl ?_
                          refine r_aload_n rfl ?_
                          refine r_getI (by decide) rfl (shK s hs).1 (shK s hs).2.1 p2.2 ?_
                          refine r_bipush ?_
                          refine r_icmp_le (fun c_42 => ?_) (fun c_42 => ?_)
                          · have c_42 := (n_le (a := zs) (b := 6) rfl rfl (by omega) (by omega)).mp c_42
                            refine E_go 4 rfl ?_
                            refine r_iload_n rfl ?_
                            refine r_bipush ?_
                            refine r_irem (by decide) ?_
                            rw [show io (10 * 3 + a) - io (10 * 3 + a) / 10 * 10 = io a from (n_rem (a := (10 * 3 + a)) (b := 10) rfl rfl (by omega) (by omega)).trans (congrArg io (by omega))]
                            refine r_istore (ls' := [_, _, _, _, _]) (zt rfl) rfl ?_
                            refine r_iload_n rfl ?_
                            refine r_bipush ?_
                            refine r_idiv (by decide) ?_
                            rw [show io (10 * 3 + a) / 10 = 3 from (n_div (a := (10 * 3 + a)) (b := 10) rfl rfl (by omega) (by omega)).trans (congrArg io (show (10 * 3 + a) / 10 = 3 by omega))]
                            refine r_table ?_
                            refine r_sw1 (fun cs => ?_) (fun ds => ?_)
                            · exact absurd ((n_eq (a := 3) (b := 0) rfl rfl (by omega) (by omega)).mp cs) (by omega)
                            refine r_sw1 (fun cs => ?_) (fun ds => ?_)
                            · exact absurd ((n_eq (a := 3) (b := 1) rfl rfl (by omega) (by omega)).mp cs) (by omega)
                            refine r_sw1 (fun cs => ?_) (fun ds => ?_)
                            · exact absurd ((n_eq (a := 3) (b := 2) rfl rfl (by omega) (by omega)).mp cs) (by omega)
                            refine r_sw1 (fun cs => ?_) (fun ds => ?_)
                            · refine E_go 10 rfl ?_
                              refine r_aload_n rfl ?_
                              refine r_aload_n rfl ?_
                              refine r_iconst ?_
                              refine r_iload rfl ?_
                              refine r_virtual (vs := []) (as := [_, _, _]) (by decide) (zl rfl) rfl rfl (zl rfl) (Nat.le_refl _) (Or.inr (Or.inr ⟨zt rfl, rfl, zt rfl⟩)) ?_
                              refine s_howManyTold (N := 100) (f := (tfW ru wS (pX n I) a zs (I (54 + 2 * s)))) (by omega) (cVa_thi (by omega)) (cTo_thi (by omega) R hl hs hz6 p2.2 ha) (fun J0 f1 => ?_)
                              refine r_iret rfl trivial ?_
                              have R1 := R.f f1
                              refine M_go (ls := [_, _, _, _, _, _, _, _, _, _, _, _]) (ml := 12) rfl rfl rfl (zl rfl) rfl ?_
                              refine r_iload_n rfl ?_
                              refine r_i2l ?_
                              refine r_ldc2_w ?_
                              refine r_ldc2_w ?_
                              refine r_static (vs := [_, _, _]) (by decide) (zl rfl) rfl rfl (zl rfl) (Nat.le_refl _) rfl ?_
                              refine s_inr (by omega) (x := io (10 * 3 + a)) (lo := 10) (hi := 69) (Int32.toInt_toInt64 _) (by decide) (by decide) ?_
                              rw [if_pos (by rw [io_int (by omega)]; omega)]
                              refine r_if_eq (fun c_11 => ?_) (fun c_11 => ?_)
                              · have c_11 := (n_eq (a := 1) (b := 0) rfl rfl (by omega) (by omega)).mp c_11
                                omega
                              · have c_11 := (not_congr (n_eq (a := 1) (b := 0) rfl rfl (by omega) (by omega))).mp c_11
                                refine r_aload_n rfl ?_
                                refine r_iload_n rfl ?_
                                refine r_bipush ?_
                                refine r_irem (by decide) ?_
                                rw [show io (10 * 3 + a) - io (10 * 3 + a) / 10 * 10 = io a from (n_rem (a := (10 * 3 + a)) (b := 10) rfl rfl (by omega) (by omega)).trans (congrArg io (by omega))]
                                refine r_virtual (vs := []) (as := [_]) (by decide) (zl rfl) rfl rfl (zl rfl) (Nat.le_refl _) (Or.inr (Or.inr ⟨zt rfl, rfl, zt rfl⟩)) ?_
                                refine s_isOne (by omega) R1.mn h5 ?_
                                rw [if_pos (inN_io ha (by omega))]
                                refine r_if_eq (fun c_22 => ?_) (fun c_22 => ?_)
                                · have c_22 := (n_eq (a := 1) (b := 0) rfl rfl (by omega) (by omega)).mp c_22
                                  omega
                                · have c_22 := (not_congr (n_eq (a := 1) (b := 0) rfl rfl (by omega) (by omega))).mp c_22
                                  refine r_iconst ?_
                                  refine r_goto ?_
                                  refine E_go 2 rfl ?_
                                  refine r_istore_n (ls' := [_, _, _, _, _, _, _, _, _, _, _, _]) (zt rfl) rfl ?_
                                  refine r_iload_n rfl ?_
                                  refine r_static (vs := [_]) (by decide) (zl rfl) rfl rfl (zl rfl) (Nat.le_refl _) rfl ?_
                                  refine s_misSheet (by omega) ?_
                                  rw [if_pos (inN_io hs (by omega))]
                                  refine r_if_eq (fun c_35 => ?_) (fun c_35 => ?_)
                                  · have c_35 := (n_eq (a := 1) (b := 0) rfl rfl (by omega) (by omega)).mp c_35
                                    omega
                                  · have c_35 := (not_congr (n_eq (a := 1) (b := 0) rfl rfl (by omega) (by omega))).mp c_35
                                    refine r_iload_n rfl ?_
                                    refine r_i2l ?_
                                    refine r_lconst ?_
                                    refine r_lconst ?_
                                    refine r_static (vs := [_, _, _]) (by decide) (zl rfl) rfl rfl (zl rfl) (Nat.le_refl _) rfl ?_
                                    refine s_in0 (by omega) (x := io (10 * 3 + a)) (k := 2) (Int32.toInt_toInt64 _) i64_0 rfl ?_
                                    rw [if_neg (fun q => by have q2 := q.2; rw [io_int (by omega)] at q2; omega)]
                                    refine r_if_ne (fun c_45 => ?_) (fun c_45 => ?_)
                                    · have c_45 := (not_congr (n_eq (a := 0) (b := 0) rfl rfl (by omega) (by omega))).mp c_45
                                      omega
                                    · have c_45 := (n_eq (a := 0) (b := 0) rfl rfl (by omega) (by omega)).mp c_45
                                      refine r_iload_n rfl ?_
                                      refine r_if_ne (fun c_49 => ?_) (fun c_49 => ?_)
                                      · have c_49 := (not_congr (n_eq (a := 1) (b := 0) rfl rfl (by omega) (by omega))).mp c_49
                                        refine E_go 4 rfl ?_
                                        refine r_aload_n rfl ?_
                                        refine r_getA (q := 78) (by decide) rfl rfl (by decide) ?_
                                        refine r_iload_n rfl ?_
                                        refine r_baload (by decide) rfl (by decide) (ixE rfl (show s < 4 by omega) (by decide)) ((congrFun (f1.1 78 (by omega)) s).trans p3.1) ?_
                                        refine r_if_ne (fun c_61 => ?_) (fun c_61 => ?_)
                                        · have c_61 := (not_congr (n_eq (a := 1) (b := 0) rfl rfl (by omega) (by omega))).mp c_61
                                          refine E_go 5 rfl ?_
                                          refine r_aload_n rfl ?_
                                          refine r_getA (q := 80) (by decide) rfl rfl (by decide) ?_
                                          refine r_iload_n rfl ?_
                                          refine r_iaload (by decide) rfl (by decide) (ixE rfl (show s < 4 by omega) (by decide)) ((congrFun (f1.1 80 (by omega)) s).trans p3.2.2) ?_
                                          refine r_bipush ?_
                                          refine r_icmp_le (fun c_75 => ?_) (fun c_75 => ?_)
                                          · have c_75 := (n_le (a := zs) (b := 6) rfl rfl (by omega) (by omega)).mp c_75
                                            refine E_go 6 rfl ?_
                                            refine r_iload_n rfl ?_
                                            refine r_if_ne (fun c_82 => ?_) (fun c_82 => ?_)
                                            · have c_82 := (not_congr (n_eq (a := (10 * 3 + a)) (b := 0) rfl rfl (by omega) (by omega))).mp c_82
                                              refine E_go 7 rfl ?_
                                              refine r_iload_n rfl ?_
                                              refine r_bipush ?_
                                              refine r_irem (by decide) ?_
                                              rw [show io (10 * 3 + a) - io (10 * 3 + a) / 10 * 10 = io a from (n_rem (a := (10 * 3 + a)) (b := 10) rfl rfl (by omega) (by omega)).trans (congrArg io (by omega))]
                                              refine r_istore (ls' := [_, _, _, _, _, _, _, _, _, _, _, _]) (zt rfl) rfl ?_
                                              refine r_iload_n rfl ?_
                                              refine r_iconst ?_
                                              refine r_icmp_ne (fun c_99 => ?_) (fun c_99 => ?_)
                                              · have c_99 := (not_congr (n_eq (a := (10 * 3 + a)) (b := 1) rfl rfl (by omega) (by omega))).mp c_99
                                                refine E_go 8 rfl ?_
                                                refine r_iload_n rfl ?_
                                                refine r_bipush ?_
                                                refine r_icmp_ge (fun c_110 => ?_) (fun c_110 => ?_)
                                                · have c_110 := (n_le (a := 20) (b := (10 * 3 + a)) rfl rfl (by omega) (by omega)).mp c_110
                                                  refine E_go 9 rfl ?_
                                                  refine r_iload_n rfl ?_
                                                  refine r_bipush ?_
                                                  refine r_icmp_ge (fun c_120 => ?_) (fun c_120 => ?_)
                                                  · have c_120 := (n_le (a := 30) (b := (10 * 3 + a)) rfl rfl (by omega) (by omega)).mp c_120
                                                    refine E_go 10 rfl ?_
                                                    refine r_iload_n rfl ?_
                                                    refine r_bipush ?_
                                                    refine r_icmp_ge (fun c_130 => ?_) (fun c_130 => ?_)
                                                    · have c_130 := (n_le (a := 50) (b := (10 * 3 + a)) rfl rfl (by omega) (by omega)).mp c_130
                                                      omega
                                                    · have c_130 := (not_congr (n_le (a := 50) (b := (10 * 3 + a)) rfl rfl (by omega) (by omega))).mp c_130
                                                      refine r_iconst ?_
                                                      refine r_goto ?_
                                                      refine E_go 12 rfl ?_
                                                      refine r_istore (ls' := [_, _, _, _, _, _, _, _, _, _, _, _]) (zt rfl) rfl ?_
                                                      refine r_iload rfl ?_
                                                      refine r_bipush ?_
                                                      refine r_icmp_ne (fun c_144 => ?_) (fun c_144 => ?_)
                                                      · have c_144 := (not_congr (n_eq (a := 3) (b := 6) rfl rfl (by omega) (by omega))).mp c_144
                                                        refine E_go 13 rfl ?_
                                                        refine r_aload_n rfl ?_
                                                        refine r_iload rfl ?_
                                                        refine r_iload rfl ?_
                                                        refine r_virtual (vs := []) (as := [_, _]) (by decide) (zl rfl) rfl rfl (zl rfl) (Nat.le_refl _) (Or.inr (Or.inr ⟨zt rfl, rfl, zt rfl⟩)) ?_
                                                        refine M_go (ls := [_, _, _]) (ml := 3) rfl rfl rfl (zl rfl) rfl ?_
                                                        refine r_iload_n rfl ?_
                                                        refine r_i2l ?_
                                                        refine r_lconst ?_
                                                        refine r_ldc2_w ?_
                                                        refine r_static (vs := [_, _, _]) (by decide) (zl rfl) rfl rfl (zl rfl) (Nat.le_refl _) rfl ?_
                                                        refine s_in0 (by omega) (x := io 3) (k := 8) (Int32.toInt_toInt64 _) i64_0 rfl ?_
                                                        rw [if_pos (inN_io (by omega) (by omega))]
                                                        refine r_if_eq (fun c_159_9 => ?_) (fun c_159_9 => ?_)
                                                        · have c_159_9 := (n_eq (a := 1) (b := 0) rfl rfl (by omega) (by omega)).mp c_159_9
                                                          omega
                                                        · have c_159_9 := (not_congr (n_eq (a := 1) (b := 0) rfl rfl (by omega) (by omega))).mp c_159_9
                                                          refine r_iload_n rfl ?_
                                                          refine r_iconst ?_
                                                          refine r_icmp_le (fun c_159_14 => ?_) (fun c_159_14 => ?_)
                                                          · have c_159_14 := (n_le (a := 3) (b := 1) rfl rfl (by omega) (by omega)).mp c_159_14
                                                            omega
                                                          · have c_159_14 := (not_congr (n_le (a := 3) (b := 1) rfl rfl (by omega) (by omega))).mp c_159_14
                                                            refine r_aload_n rfl ?_
                                                            refine r_iload_n rfl ?_
                                                            refine r_virtual (vs := []) (as := [_]) (by decide) (zl rfl) rfl rfl (zl rfl) (Nat.le_refl _) (Or.inr (Or.inr ⟨zt rfl, rfl, zt rfl⟩)) ?_
                                                            refine s_isOne (by omega) R1.mn h5 ?_
                                                            rw [if_pos (inN_io ha (by omega))]
                                                            refine r_if_ne (fun c_159_22 => ?_) (fun c_159_22 => ?_)
                                                            · have c_159_22 := (not_congr (n_eq (a := 1) (b := 0) rfl rfl (by omega) (by omega))).mp c_159_22
                                                              refine E_go 2 rfl ?_
                                                              refine r_iload_n rfl ?_
                                                              refine r_iconst ?_
                                                              refine r_icmp_ge (fun c_159_30 => ?_) (fun c_159_30 => ?_)
                                                              · have c_159_30 := (n_le (a := 2) (b := 3) rfl rfl (by omega) (by omega)).mp c_159_30
                                                                refine E_go 5 rfl ?_
                                                                refine r_iload_n rfl ?_
                                                                refine r_iconst ?_
                                                                refine r_icmp_ge (fun c_159_51 => ?_) (fun c_159_51 => ?_)
                                                                · have c_159_51 := (n_le (a := 5) (b := 3) rfl rfl (by omega) (by omega)).mp c_159_51
                                                                  omega
                                                                · have c_159_51 := (not_congr (n_le (a := 5) (b := 3) rfl rfl (by omega) (by omega))).mp c_159_51
                                                                  refine r_aload_n rfl ?_
                                                                  refine r_getA (q := 66) (by decide) rfl rfl (by decide) ?_
                                                                  refine r_iconst ?_
                                                                  refine r_iload_n rfl ?_
                                                                  refine r_imul ?_
                                                                  refine r_iload_n rfl ?_
                                                                  refine r_iadd ?_
                                                                  refine r_iconst ?_
                                                                  refine r_isub ?_
                                                                  refine r_iaload (by decide) rfl (by decide) (ixE (n_sub (a := ((3 * a) + 3)) (b := 2) (n_add (a := (3 * a)) (b := 3) (n_mul (a := 3) (b := a) rfl rfl) rfl) rfl (by omega)) (show (((3 * a) + 3) - 2) < 15 by omega) (by decide)) rfl ?_
                                                                  refine r_goto ?_
                                                                  refine E_go 9 rfl ?_
                                                                  refine r_iret rfl trivial ?_
                                                                  refine r_nil ?_
                                                                  refine E_go 14 rfl ?_
                                                                  refine r_istore (ls' := [_, _, _, _, _, _, _, _, _, _, _, _]) (zt rfl) rfl ?_
                                                                  refine r_iload rfl ?_
                                                                  refine r_bipush ?_
                                                                  refine r_icmp_ne (fun c_168 => ?_) (fun c_168 => ?_)
                                                                  · have c_168 := (not_congr (n_eq (a := 3) (b := 6) rfl rfl (by omega) (by omega))).mp c_168
                                                                    refine E_go 15 rfl ?_
                                                                    refine r_iload rfl ?_
                                                                    refine r_iconst ?_
                                                                    refine r_icmp_ne (fun c_183 => ?_) (fun c_183 => ?_)
                                                                    · have c_183 := (not_congr (n_eq (a := 3) (b := 5) rfl rfl (by omega) (by omega))).mp c_183
                                                                      refine E_go 16 rfl ?_
                                                                      refine r_iload rfl ?_
                                                                      refine r_static (vs := [_]) (by decide) (zl rfl) rfl rfl (zl rfl) (Nat.le_refl _) rfl ?_
                                                                      refine M_go (ls := [_]) (ml := 1) rfl rfl rfl (zl rfl) rfl ?_
                                                                      refine r_iload_n rfl ?_
                                                                      refine r_iconst ?_
                                                                      refine r_icmp_ne (fun c_192_2 => ?_) (fun c_192_2 => ?_)
                                                                      · have c_192_2 := (not_congr (n_eq (a := 3) (b := 1) rfl rfl (by omega) (by omega))).mp c_192_2
                                                                        refine E_go 1 rfl ?_
                                                                        refine r_iload_n rfl ?_
                                                                        refine r_iconst ?_
                                                                        refine r_icmp_ne (fun c_192_13 => ?_) (fun c_192_13 => ?_)
                                                                        · have c_192_13 := (not_congr (n_eq (a := 3) (b := 2) rfl rfl (by omega) (by omega))).mp c_192_13
                                                                          refine E_go 2 rfl ?_
                                                                          refine r_iload_n rfl ?_
                                                                          refine r_iconst ?_
                                                                          refine r_icmp_ne (fun c_192_23 => ?_) (fun c_192_23 => ?_)
                                                                          · have c_192_23 := (not_congr (n_eq (a := 3) (b := 4) rfl rfl (by omega) (by omega))).mp c_192_23
                                                                            refine E_go 3 rfl ?_
                                                                            refine r_bipush ?_
                                                                            refine r_nil ?_
                                                                            refine E_go 4 rfl ?_
                                                                            refine r_iret rfl trivial ?_
                                                                            refine r_nil ?_
                                                                            refine E_go 17 rfl ?_
                                                                            refine r_istore (ls' := [_, _, _, _, _, _, _, _, _, _, _, _]) (zt rfl) rfl ?_
                                                                            refine r_iconst ?_
                                                                            refine r_istore (ls' := [_, _, _, _, _, _, _, _, _, _, _, _]) (zt rfl) rfl ?_
                                                                            refine r_iconst ?_
                                                                            refine r_istore (ls' := [_, _, _, _, _, _, _, _, _, _, _, _]) (zt rfl) rfl ?_
                                                                            refine r_iconst ?_
                                                                            refine r_istore (ls' := [_, _, _, _, _, _, _, _, _, _, _, _]) (zt rfl) rfl ?_
                                                                            refine r_iload rfl ?_
                                                                            refine r_istore (ls' := [_, _, _, _, _, _, _, _, _, _, _, _]) (zt rfl) rfl ?_
                                                                            refine r_nil ?_
                                                                            refine s_tl (N := 100) (f := (tfW ru wS (pX n I) a zs (I (54 + 2 * s)))) (P := PW 66 (3 * a + 3 - 2) J0) (P2 := fun v J => PW 66 (3 * a + 3 - 2) J0 J ∧ J 66 (3 * a + 3 - 2) = io v) (PF := fS J0) (by omega) (by omega) (by omega) (fun v _ => mLy_3 (by omega) ha5) (mFo_3 (by omega) R hl f1 hs hz6 p3.2.2 hg) (fun J L Q hP hQ => mLy_3 (by omega) ha5 J L Q hP (fun K k => hQ K (k.1.fS k.2))) (by decide) PW.refl (fun K L2 f2 => ?_)
                                                                            unfold tRes
                                                                            rw [if_neg (by omega), if_pos (by omega)]
                                                                            exact hQ _ _ _ (R1.f f2).rel
                                                                          · have c_192_23 := (n_eq (a := 3) (b := 4) rfl rfl (by omega) (by omega)).mp c_192_23
                                                                            omega
                                                                        · have c_192_13 := (n_eq (a := 3) (b := 2) rfl rfl (by omega) (by omega)).mp c_192_13
                                                                          omega
                                                                      · have c_192_2 := (n_eq (a := 3) (b := 1) rfl rfl (by omega) (by omega)).mp c_192_2
                                                                        omega
                                                                    · have c_183 := (n_eq (a := 3) (b := 5) rfl rfl (by omega) (by omega)).mp c_183
                                                                      omega
                                                                  · have c_168 := (n_eq (a := 3) (b := 6) rfl rfl (by omega) (by omega)).mp c_168
                                                                    omega
                                                              · have c_159_30 := (not_congr (n_le (a := 2) (b := 3) rfl rfl (by omega) (by omega))).mp c_159_30
                                                                omega
                                                            · have c_159_22 := (n_eq (a := 1) (b := 0) rfl rfl (by omega) (by omega)).mp c_159_22
                                                              omega
                                                      · have c_144 := (n_eq (a := 3) (b := 6) rfl rfl (by omega) (by omega)).mp c_144
                                                        omega
                                                  · have c_120 := (not_congr (n_le (a := 30) (b := (10 * 3 + a)) rfl rfl (by omega) (by omega))).mp c_120
                                                    omega
                                                · have c_110 := (not_congr (n_le (a := 20) (b := (10 * 3 + a)) rfl rfl (by omega) (by omega))).mp c_110
                                                  omega
                                              · have c_99 := (n_eq (a := (10 * 3 + a)) (b := 1) rfl rfl (by omega) (by omega)).mp c_99
                                                omega
                                            · have c_82 := (n_eq (a := (10 * 3 + a)) (b := 0) rfl rfl (by omega) (by omega)).mp c_82
                                              omega
                                          · have c_75 := (not_congr (n_le (a := zs) (b := 6) rfl rfl (by omega) (by omega))).mp c_75
                                            omega
                                        · have c_61 := (n_eq (a := 1) (b := 0) rfl rfl (by omega) (by omega)).mp c_61
                                          omega
                                      · have c_49 := (n_eq (a := 1) (b := 0) rfl rfl (by omega) (by omega)).mp c_49
                                        omega
                            · exact absurd rfl ds
                          · have c_42 := (not_congr (n_le (a := zs) (b := 6) rfl rfl (by omega) (by omega))).mp c_42
                            omega
                        · exact absurd c_30 (io_m1 (by omega))
                      · have c_12 := (n_eq (a := 1) (b := 0) rfl rfl (by omega) (by omega)).mp c_12
                        omega
                · have c_9_3 := (not_congr (n_le (a := 10) (b := (10 * 3 + a)) rfl rfl (by omega) (by omega))).mp c_9_3
                  omega
            · have ek : k = 10 * 4 + a := by omega
              subst ek
              refine M_go (ls := [_, _, _, _, _]) (ml := 5) rfl rfl rfl (zl rfl) rfl ?_
              refine r_iload_n rfl ?_
              refine r_static (vs := [_]) (by decide) (zl rfl) rfl rfl (zl rfl) (Nat.le_refl _) rfl ?_
              refine s_isSheet (by omega) ?_
              rw [if_pos (inN_io hs (by omega))]
              refine r_if_eq (fun c_4 => ?_) (fun c_4 => ?_)
              · have c_4 := (n_eq (a := 1) (b := 0) rfl rfl (by omega) (by omega)).mp c_4
                omega
              · have c_4 := (not_congr (n_eq (a := 1) (b := 0) rfl rfl (by omega) (by omega))).mp c_4
                refine r_aload_n rfl ?_
                refine r_iload_n rfl ?_
                refine r_virtual (vs := []) (as := [_]) (by decide) (zl rfl) rfl rfl (zl rfl) (Nat.le_refl _) (Or.inr (Or.inr ⟨zt rfl, rfl, zt rfl⟩)) ?_
                refine M_go (ls := [_, _]) (ml := 2) rfl rfl rfl (zl rfl) rfl ?_
                refine r_iload_n rfl ?_
                refine r_bipush ?_
                refine r_icmp_ge (fun c_9_3 => ?_) (fun c_9_3 => ?_)
                · have c_9_3 := (n_le (a := 10) (b := (10 * 4 + a)) rfl rfl (by omega) (by omega)).mp c_9_3
                  refine E_go 1 rfl ?_
                  refine r_iload_n rfl ?_
                  refine r_bipush ?_
                  refine r_icmp_ge (fun c_9_14 => ?_) (fun c_9_14 => ?_)
                  · have c_9_14 := (n_le (a := 70) (b := (10 * 4 + a)) rfl rfl (by omega) (by omega)).mp c_9_14
                    omega
                  · have c_9_14 := (not_congr (n_le (a := 70) (b := (10 * 4 + a)) rfl rfl (by omega) (by omega))).mp c_9_14
                    refine r_aload_n rfl ?_
                    refine r_iload_n rfl ?_
                    refine r_bipush ?_
                    refine r_irem (by decide) ?_
                    rw [show io (10 * 4 + a) - io (10 * 4 + a) / 10 * 10 = io a from (n_rem (a := (10 * 4 + a)) (b := 10) rfl rfl (by omega) (by omega)).trans (congrArg io (by omega))]
                    refine r_virtual (vs := []) (as := [_]) (by decide) (zl rfl) rfl rfl (zl rfl) (Nat.le_refl _) (Or.inr (Or.inr ⟨zt rfl, rfl, zt rfl⟩)) ?_
                    refine s_isAunt (by omega) R.cn h5 ?_
                    rw [if_pos (inN_io ha (by omega))]
                    refine r_if_eq (fun c_9_25 => ?_) (fun c_9_25 => ?_)
                    · have c_9_25 := (n_eq (a := 1) (b := 0) rfl rfl (by omega) (by omega)).mp c_9_25
                      omega
                    · have c_9_25 := (not_congr (n_eq (a := 1) (b := 0) rfl rfl (by omega) (by omega))).mp c_9_25
                      refine r_iconst ?_
                      refine r_goto ?_
                      refine E_go 3 rfl ?_
                      refine r_iret rfl (by first | exact Or.inl rfl | exact Or.inr rfl) ?_
                      refine r_if_ne (fun c_12 => ?_) (fun c_12 => ?_)
                      · have c_12 := (not_congr (n_eq (a := 1) (b := 0) rfl rfl (by omega) (by omega))).mp c_12
                        refine E_go 2 rfl ?_
                        refine r_aload_n rfl ?_
                        refine r_getA (q := 34) (by decide) rfl rfl (by decide) ?_
                        refine r_iload_n rfl ?_
                        refine r_aaload (by decide) (by decide) (ixE rfl (show s < 4 by omega) (by decide)) (shK s hs).2.2.1 ?_
                        refine r_astore_n (ls' := [_, _, _, _, _]) (zt rfl) rfl ?_
                        refine r_aload_n rfl ?_
                        refine r_getI (by decide) rfl (shK s hs).1 (shK s hs).2.1 p2.1 ?_
                        refine r_iconst ?_
                        refine r_icmp_ne (fun c_30 => ?_) (fun c_30 => ?_)
                        · refine E_go 3 rfl ?_
                          refine r_aload_n rfl ?_
                          refine r_getI (by decide) rfl (shK s hs).1 (shK s hs).2.1 p2.2 ?_
                          refine r_bipush ?_
                          refine r_icmp_le (fun c_42 => ?_) (fun c_42 => ?_)
                          · have c_42 := (n_le (a := zs) (b := 6) rfl rfl (by omega) (by omega)).mp c_42
                            refine E_go 4 rfl ?_
                            refine r_iload_n rfl ?_
                            refine r_bipush ?_
                            refine r_irem (by decide) ?_
                            rw [show io (10 * 4 + a) - io (10 * 4 + a) / 10 * 10 = io a from (n_rem (a := (10 * 4 + a)) (b := 10) rfl rfl (by omega) (by omega)).trans (congrArg io (by omega))]
                            refine r_istore (ls' := [_, _, _, _, _]) (zt rfl) rfl ?_
                            refine r_iload_n rfl ?_
                            refine r_bipush ?_
                            refine r_idiv (by decide) ?_
                            rw [show io (10 * 4 + a) / 10 = 4 from (n_div (a := (10 * 4 + a)) (b := 10) rfl rfl (by omega) (by omega)).trans (congrArg io (show (10 * 4 + a) / 10 = 4 by omega))]
                            refine r_table ?_
                            refine r_sw1 (fun cs => ?_) (fun ds => ?_)
                            · exact absurd ((n_eq (a := 4) (b := 0) rfl rfl (by omega) (by omega)).mp cs) (by omega)
                            refine r_sw1 (fun cs => ?_) (fun ds => ?_)
                            · exact absurd ((n_eq (a := 4) (b := 1) rfl rfl (by omega) (by omega)).mp cs) (by omega)
                            refine r_sw1 (fun cs => ?_) (fun ds => ?_)
                            · exact absurd ((n_eq (a := 4) (b := 2) rfl rfl (by omega) (by omega)).mp cs) (by omega)
                            refine r_sw1 (fun cs => ?_) (fun ds => ?_)
                            · exact absurd ((n_eq (a := 4) (b := 3) rfl rfl (by omega) (by omega)).mp cs) (by omega)
                            refine r_sw1 (fun cs => ?_) (fun ds => ?_)
                            · refine E_go 11 rfl ?_
                              refine r_aload_n rfl ?_
                              refine r_aload_n rfl ?_
                              refine r_iconst ?_
                              refine r_iload rfl ?_
                              refine r_virtual (vs := []) (as := [_, _, _]) (by decide) (zl rfl) rfl rfl (zl rfl) (Nat.le_refl _) (Or.inr (Or.inr ⟨zt rfl, rfl, zt rfl⟩)) ?_
                              refine s_leastTold (N := 100) (f := (tfW ru wS (pX n I) a zs (I (54 + 2 * s)))) (by omega) (cVa_thi (by omega)) (cTo_thi (by omega) R hl hs hz6 p2.2 ha) (fun J0 f1 => ?_)
                              refine r_iret rfl trivial ?_
                              have R1 := R.f f1
                              refine M_go (ls := [_, _, _, _, _, _, _, _, _, _, _, _]) (ml := 12) rfl rfl rfl (zl rfl) rfl ?_
                              refine r_iload_n rfl ?_
                              refine r_i2l ?_
                              refine r_ldc2_w ?_
                              refine r_ldc2_w ?_
                              refine r_static (vs := [_, _, _]) (by decide) (zl rfl) rfl rfl (zl rfl) (Nat.le_refl _) rfl ?_
                              refine s_inr (by omega) (x := io (10 * 4 + a)) (lo := 10) (hi := 69) (Int32.toInt_toInt64 _) (by decide) (by decide) ?_
                              rw [if_pos (by rw [io_int (by omega)]; omega)]
                              refine r_if_eq (fun c_11 => ?_) (fun c_11 => ?_)
                              · have c_11 := (n_eq (a := 1) (b := 0) rfl rfl (by omega) (by omega)).mp c_11
                                omega
                              · have c_11 := (not_congr (n_eq (a := 1) (b := 0) rfl rfl (by omega) (by omega))).mp c_11
                                refine r_aload_n rfl ?_
                                refine r_iload_n rfl ?_
                                refine r_bipush ?_
                                refine r_irem (by decide) ?_
                                rw [show io (10 * 4 + a) - io (10 * 4 + a) / 10 * 10 = io a from (n_rem (a := (10 * 4 + a)) (b := 10) rfl rfl (by omega) (by omega)).trans (congrArg io (by omega))]
                                refine r_virtual (vs := []) (as := [_]) (by decide) (zl rfl) rfl rfl (zl rfl) (Nat.le_refl _) (Or.inr (Or.inr ⟨zt rfl, rfl, zt rfl⟩)) ?_
                                refine s_isOne (by omega) R1.mn h5 ?_
                                rw [if_pos (inN_io ha (by omega))]
                                refine r_if_eq (fun c_22 => ?_) (fun c_22 => ?_)
                                · have c_22 := (n_eq (a := 1) (b := 0) rfl rfl (by omega) (by omega)).mp c_22
                                  omega
                                · have c_22 := (not_congr (n_eq (a := 1) (b := 0) rfl rfl (by omega) (by omega))).mp c_22
                                  refine r_iconst ?_
                                  refine r_goto ?_
                                  refine E_go 2 rfl ?_
                                  refine r_istore_n (ls' := [_, _, _, _, _, _, _, _, _, _, _, _]) (zt rfl) rfl ?_
                                  refine r_iload_n rfl ?_
                                  refine r_static (vs := [_]) (by decide) (zl rfl) rfl rfl (zl rfl) (Nat.le_refl _) rfl ?_
                                  refine s_misSheet (by omega) ?_
                                  rw [if_pos (inN_io hs (by omega))]
                                  refine r_if_eq (fun c_35 => ?_) (fun c_35 => ?_)
                                  · have c_35 := (n_eq (a := 1) (b := 0) rfl rfl (by omega) (by omega)).mp c_35
                                    omega
                                  · have c_35 := (not_congr (n_eq (a := 1) (b := 0) rfl rfl (by omega) (by omega))).mp c_35
                                    refine r_iload_n rfl ?_
                                    refine r_i2l ?_
                                    refine r_lconst ?_
                                    refine r_lconst ?_
                                    refine r_static (vs := [_, _, _]) (by decide) (zl rfl) rfl rfl (zl rfl) (Nat.le_refl _) rfl ?_
                                    refine s_in0 (by omega) (x := io (10 * 4 + a)) (k := 2) (Int32.toInt_toInt64 _) i64_0 rfl ?_
                                    rw [if_neg (fun q => by have q2 := q.2; rw [io_int (by omega)] at q2; omega)]
                                    refine r_if_ne (fun c_45 => ?_) (fun c_45 => ?_)
                                    · have c_45 := (not_congr (n_eq (a := 0) (b := 0) rfl rfl (by omega) (by omega))).mp c_45
                                      omega
                                    · have c_45 := (n_eq (a := 0) (b := 0) rfl rfl (by omega) (by omega)).mp c_45
                                      refine r_iload_n rfl ?_
                                      refine r_if_ne (fun c_49 => ?_) (fun c_49 => ?_)
                                      · have c_49 := (not_congr (n_eq (a := 1) (b := 0) rfl rfl (by omega) (by omega))).mp c_49
                                        refine E_go 4 rfl ?_
                                        refine r_aload_n rfl ?_
                                        refine r_getA (q := 78) (by decide) rfl rfl (by decide) ?_
                                        refine r_iload_n rfl ?_
                                        refine r_baload (by decide) rfl (by decide) (ixE rfl (show s < 4 by omega) (by decide)) ((congrFun (f1.1 78 (by omega)) s).trans p3.1) ?_
                                        refine r_if_ne (fun c_61 => ?_) (fun c_61 => ?_)
                                        · have c_61 := (not_congr (n_eq (a := 1) (b := 0) rfl rfl (by omega) (by omega))).mp c_61
                                          refine E_go 5 rfl ?_
                                          refine r_aload_n rfl ?_
                                          refine r_getA (q := 80) (by decide) rfl rfl (by decide) ?_
                                          refine r_iload_n rfl ?_
                                          refine r_iaload (by decide) rfl (by decide) (ixE rfl (show s < 4 by omega) (by decide)) ((congrFun (f1.1 80 (by omega)) s).trans p3.2.2) ?_
                                          refine r_bipush ?_
                                          refine r_icmp_le (fun c_75 => ?_) (fun c_75 => ?_)
                                          · have c_75 := (n_le (a := zs) (b := 6) rfl rfl (by omega) (by omega)).mp c_75
                                            refine E_go 6 rfl ?_
                                            refine r_iload_n rfl ?_
                                            refine r_if_ne (fun c_82 => ?_) (fun c_82 => ?_)
                                            · have c_82 := (not_congr (n_eq (a := (10 * 4 + a)) (b := 0) rfl rfl (by omega) (by omega))).mp c_82
                                              refine E_go 7 rfl ?_
                                              refine r_iload_n rfl ?_
                                              refine r_bipush ?_
                                              refine r_irem (by decide) ?_
                                              rw [show io (10 * 4 + a) - io (10 * 4 + a) / 10 * 10 = io a from (n_rem (a := (10 * 4 + a)) (b := 10) rfl rfl (by omega) (by omega)).trans (congrArg io (by omega))]
                                              refine r_istore (ls' := [_, _, _, _, _, _, _, _, _, _, _, _]) (zt rfl) rfl ?_
                                              refine r_iload_n rfl ?_
                                              refine r_iconst ?_
                                              refine r_icmp_ne (fun c_99 => ?_) (fun c_99 => ?_)
                                              · have c_99 := (not_congr (n_eq (a := (10 * 4 + a)) (b := 1) rfl rfl (by omega) (by omega))).mp c_99
                                                refine E_go 8 rfl ?_
                                                refine r_iload_n rfl ?_
                                                refine r_bipush ?_
                                                refine r_icmp_ge (fun c_110 => ?_) (fun c_110 => ?_)
                                                · have c_110 := (n_le (a := 20) (b := (10 * 4 + a)) rfl rfl (by omega) (by omega)).mp c_110
                                                  refine E_go 9 rfl ?_
                                                  refine r_iload_n rfl ?_
                                                  refine r_bipush ?_
                                                  refine r_icmp_ge (fun c_120 => ?_) (fun c_120 => ?_)
                                                  · have c_120 := (n_le (a := 30) (b := (10 * 4 + a)) rfl rfl (by omega) (by omega)).mp c_120
                                                    refine E_go 10 rfl ?_
                                                    refine r_iload_n rfl ?_
                                                    refine r_bipush ?_
                                                    refine r_icmp_ge (fun c_130 => ?_) (fun c_130 => ?_)
                                                    · have c_130 := (n_le (a := 50) (b := (10 * 4 + a)) rfl rfl (by omega) (by omega)).mp c_130
                                                      omega
                                                    · have c_130 := (not_congr (n_le (a := 50) (b := (10 * 4 + a)) rfl rfl (by omega) (by omega))).mp c_130
                                                      refine r_iconst ?_
                                                      refine r_goto ?_
                                                      refine E_go 12 rfl ?_
                                                      refine r_istore (ls' := [_, _, _, _, _, _, _, _, _, _, _, _]) (zt rfl) rfl ?_
                                                      refine r_iload rfl ?_
                                                      refine r_bipush ?_
                                                      refine r_icmp_ne (fun c_144 => ?_) (fun c_144 => ?_)
                                                      · have c_144 := (not_congr (n_eq (a := 3) (b := 6) rfl rfl (by omega) (by omega))).mp c_144
                                                        refine E_go 13 rfl ?_
                                                        refine r_aload_n rfl ?_
                                                        refine r_iload rfl ?_
                                                        refine r_iload rfl ?_
                                                        refine r_virtual (vs := []) (as := [_, _]) (by decide) (zl rfl) rfl rfl (zl rfl) (Nat.le_refl _) (Or.inr (Or.inr ⟨zt rfl, rfl, zt rfl⟩)) ?_
                                                        refine M_go (ls := [_, _, _]) (ml := 3) rfl rfl rfl (zl rfl) rfl ?_
                                                        refine r_iload_n rfl ?_
                                                        refine r_i2l ?_
                                                        refine r_lconst ?_
                                                        refine r_ldc2_w ?_
                                                        refine r_static (vs := [_, _, _]) (by decide) (zl rfl) rfl rfl (zl rfl) (Nat.le_refl _) rfl ?_
                                                        refine s_in0 (by omega) (x := io 3) (k := 8) (Int32.toInt_toInt64 _) i64_0 rfl ?_
                                                        rw [if_pos (inN_io (by omega) (by omega))]
                                                        refine r_if_eq (fun c_159_9 => ?_) (fun c_159_9 => ?_)
                                                        · have c_159_9 := (n_eq (a := 1) (b := 0) rfl rfl (by omega) (by omega)).mp c_159_9
                                                          omega
                                                        · have c_159_9 := (not_congr (n_eq (a := 1) (b := 0) rfl rfl (by omega) (by omega))).mp c_159_9
                                                          refine r_iload_n rfl ?_
                                                          refine r_iconst ?_
                                                          refine r_icmp_le (fun c_159_14 => ?_) (fun c_159_14 => ?_)
                                                          · have c_159_14 := (n_le (a := 3) (b := 1) rfl rfl (by omega) (by omega)).mp c_159_14
                                                            omega
                                                          · have c_159_14 := (not_congr (n_le (a := 3) (b := 1) rfl rfl (by omega) (by omega))).mp c_159_14
                                                            refine r_aload_n rfl ?_
                                                            refine r_iload_n rfl ?_
                                                            refine r_virtual (vs := []) (as := [_]) (by decide) (zl rfl) rfl rfl (zl rfl) (Nat.le_refl _) (Or.inr (Or.inr ⟨zt rfl, rfl, zt rfl⟩)) ?_
                                                            refine s_isOne (by omega) R1.mn h5 ?_
                                                            rw [if_pos (inN_io ha (by omega))]
                                                            refine r_if_ne (fun c_159_22 => ?_) (fun c_159_22 => ?_)
                                                            · have c_159_22 := (not_congr (n_eq (a := 1) (b := 0) rfl rfl (by omega) (by omega))).mp c_159_22
                                                              refine E_go 2 rfl ?_
                                                              refine r_iload_n rfl ?_
                                                              refine r_iconst ?_
                                                              refine r_icmp_ge (fun c_159_30 => ?_) (fun c_159_30 => ?_)
                                                              · have c_159_30 := (n_le (a := 2) (b := 3) rfl rfl (by omega) (by omega)).mp c_159_30
                                                                refine E_go 5 rfl ?_
                                                                refine r_iload_n rfl ?_
                                                                refine r_iconst ?_
                                                                refine r_icmp_ge (fun c_159_51 => ?_) (fun c_159_51 => ?_)
                                                                · have c_159_51 := (n_le (a := 5) (b := 3) rfl rfl (by omega) (by omega)).mp c_159_51
                                                                  omega
                                                                · have c_159_51 := (not_congr (n_le (a := 5) (b := 3) rfl rfl (by omega) (by omega))).mp c_159_51
                                                                  refine r_aload_n rfl ?_
                                                                  refine r_getA (q := 66) (by decide) rfl rfl (by decide) ?_
                                                                  refine r_iconst ?_
                                                                  refine r_iload_n rfl ?_
                                                                  refine r_imul ?_
                                                                  refine r_iload_n rfl ?_
                                                                  refine r_iadd ?_
                                                                  refine r_iconst ?_
                                                                  refine r_isub ?_
                                                                  refine r_iaload (by decide) rfl (by decide) (ixE (n_sub (a := ((3 * a) + 3)) (b := 2) (n_add (a := (3 * a)) (b := 3) (n_mul (a := 3) (b := a) rfl rfl) rfl) rfl (by omega)) (show (((3 * a) + 3) - 2) < 15 by omega) (by decide)) rfl ?_
                                                                  refine r_goto ?_
                                                                  refine E_go 9 rfl ?_
                                                                  refine r_iret rfl trivial ?_
                                                                  refine r_nil ?_
                                                                  refine E_go 14 rfl ?_
                                                                  refine r_istore (ls' := [_, _, _, _, _, _, _, _, _, _, _, _]) (zt rfl) rfl ?_
                                                                  refine r_iload rfl ?_
                                                                  refine r_bipush ?_
                                                                  refine r_icmp_ne (fun c_168 => ?_) (fun c_168 => ?_)
                                                                  · have c_168 := (not_congr (n_eq (a := 3) (b := 6) rfl rfl (by omega) (by omega))).mp c_168
                                                                    refine E_go 15 rfl ?_
                                                                    refine r_iload rfl ?_
                                                                    refine r_iconst ?_
                                                                    refine r_icmp_ne (fun c_183 => ?_) (fun c_183 => ?_)
                                                                    · have c_183 := (not_congr (n_eq (a := 3) (b := 5) rfl rfl (by omega) (by omega))).mp c_183
                                                                      refine E_go 16 rfl ?_
                                                                      refine r_iload rfl ?_
                                                                      refine r_static (vs := [_]) (by decide) (zl rfl) rfl rfl (zl rfl) (Nat.le_refl _) rfl ?_
                                                                      refine M_go (ls := [_]) (ml := 1) rfl rfl rfl (zl rfl) rfl ?_
                                                                      refine r_iload_n rfl ?_
                                                                      refine r_iconst ?_
                                                                      refine r_icmp_ne (fun c_192_2 => ?_) (fun c_192_2 => ?_)
                                                                      · have c_192_2 := (not_congr (n_eq (a := 3) (b := 1) rfl rfl (by omega) (by omega))).mp c_192_2
                                                                        refine E_go 1 rfl ?_
                                                                        refine r_iload_n rfl ?_
                                                                        refine r_iconst ?_
                                                                        refine r_icmp_ne (fun c_192_13 => ?_) (fun c_192_13 => ?_)
                                                                        · have c_192_13 := (not_congr (n_eq (a := 3) (b := 2) rfl rfl (by omega) (by omega))).mp c_192_13
                                                                          refine E_go 2 rfl ?_
                                                                          refine r_iload_n rfl ?_
                                                                          refine r_iconst ?_
                                                                          refine r_icmp_ne (fun c_192_23 => ?_) (fun c_192_23 => ?_)
                                                                          · have c_192_23 := (not_congr (n_eq (a := 3) (b := 4) rfl rfl (by omega) (by omega))).mp c_192_23
                                                                            refine E_go 3 rfl ?_
                                                                            refine r_bipush ?_
                                                                            refine r_nil ?_
                                                                            refine E_go 4 rfl ?_
                                                                            refine r_iret rfl trivial ?_
                                                                            refine r_nil ?_
                                                                            refine E_go 17 rfl ?_
                                                                            refine r_istore (ls' := [_, _, _, _, _, _, _, _, _, _, _, _]) (zt rfl) rfl ?_
                                                                            refine r_iconst ?_
                                                                            refine r_istore (ls' := [_, _, _, _, _, _, _, _, _, _, _, _]) (zt rfl) rfl ?_
                                                                            refine r_iconst ?_
                                                                            refine r_istore (ls' := [_, _, _, _, _, _, _, _, _, _, _, _]) (zt rfl) rfl ?_
                                                                            refine r_iconst ?_
                                                                            refine r_istore (ls' := [_, _, _, _, _, _, _, _, _, _, _, _]) (zt rfl) rfl ?_
                                                                            refine r_iload rfl ?_
                                                                            refine r_istore (ls' := [_, _, _, _, _, _, _, _, _, _, _, _]) (zt rfl) rfl ?_
                                                                            refine r_nil ?_
                                                                            refine s_tl (N := 100) (f := (tfW ru wS (pX n I) a zs (I (54 + 2 * s)))) (P := PW 66 (3 * a + 3 - 2) J0) (P2 := fun v J => PW 66 (3 * a + 3 - 2) J0 J ∧ J 66 (3 * a + 3 - 2) = io v) (PF := fS J0) (by omega) (by omega) (by omega) (fun v _ => mLy_3 (by omega) ha5) (mFo_3 (by omega) R hl f1 hs hz6 p3.2.2 hg) (fun J L Q hP hQ => mLy_3 (by omega) ha5 J L Q hP (fun K k => hQ K (k.1.fS k.2))) (by decide) PW.refl (fun K L2 f2 => ?_)
                                                                            unfold tRes
                                                                            rw [if_neg (by omega), if_neg (by omega)]
                                                                            exact hQ _ _ _ (R1.f f2).rel
                                                                          · have c_192_23 := (n_eq (a := 3) (b := 4) rfl rfl (by omega) (by omega)).mp c_192_23
                                                                            omega
                                                                        · have c_192_13 := (n_eq (a := 3) (b := 2) rfl rfl (by omega) (by omega)).mp c_192_13
                                                                          omega
                                                                      · have c_192_2 := (n_eq (a := 3) (b := 1) rfl rfl (by omega) (by omega)).mp c_192_2
                                                                        omega
                                                                    · have c_183 := (n_eq (a := 3) (b := 5) rfl rfl (by omega) (by omega)).mp c_183
                                                                      omega
                                                                  · have c_168 := (n_eq (a := 3) (b := 6) rfl rfl (by omega) (by omega)).mp c_168
                                                                    omega
                                                              · have c_159_30 := (not_congr (n_le (a := 2) (b := 3) rfl rfl (by omega) (by omega))).mp c_159_30
                                                                omega
                                                            · have c_159_22 := (n_eq (a := 1) (b := 0) rfl rfl (by omega) (by omega)).mp c_159_22
                                                              omega
                                                      · have c_144 := (n_eq (a := 3) (b := 6) rfl rfl (by omega) (by omega)).mp c_144
                                                        omega
                                                  · have c_120 := (not_congr (n_le (a := 30) (b := (10 * 4 + a)) rfl rfl (by omega) (by omega))).mp c_120
                                                    omega
                                                · have c_110 := (not_congr (n_le (a := 20) (b := (10 * 4 + a)) rfl rfl (by omega) (by omega))).mp c_110
                                                  omega
                                              · have c_99 := (n_eq (a := (10 * 4 + a)) (b := 1) rfl rfl (by omega) (by omega)).mp c_99
                                                omega
                                            · have c_82 := (n_eq (a := (10 * 4 + a)) (b := 0) rfl rfl (by omega) (by omega)).mp c_82
                                              omega
                                          · have c_75 := (not_congr (n_le (a := zs) (b := 6) rfl rfl (by omega) (by omega))).mp c_75
                                            omega
                                        · have c_61 := (n_eq (a := 1) (b := 0) rfl rfl (by omega) (by omega)).mp c_61
                                          omega
                                      · have c_49 := (n_eq (a := 1) (b := 0) rfl rfl (by omega) (by omega)).mp c_49
                                        omega
                            · exact absurd rfl ds
                          · have c_42 := (not_congr (n_le (a := zs) (b := 6) rfl rfl (by omega) (by omega))).mp c_42
                            omega
                        · exact absurd c_30 (io_m1 (by omega))
                      · have c_12 := (n_eq (a := 1) (b := 0) rfl rfl (by omega) (by omega)).mp c_12
                        omega
                · have c_9_3 := (not_congr (n_le (a := 10) (b := (10 * 4 + a)) rfl rfl (by omega) (by omega))).mp c_9_3
                  omega
            · have ek : k = 10 * 5 + a := by omega
              subst ek
              refine M_go (ls := [_, _, _, _, _]) (ml := 5) rfl rfl rfl (zl rfl) rfl ?_
              refine r_iload_n rfl ?_
              refine r_static (vs := [_]) (by decide) (zl rfl) rfl rfl (zl rfl) (Nat.le_refl _) rfl ?_
              refine s_isSheet (by omega) ?_
              rw [if_pos (inN_io hs (by omega))]
              refine r_if_eq (fun c_4 => ?_) (fun c_4 => ?_)
              · have c_4 := (n_eq (a := 1) (b := 0) rfl rfl (by omega) (by omega)).mp c_4
                omega
              · have c_4 := (not_congr (n_eq (a := 1) (b := 0) rfl rfl (by omega) (by omega))).mp c_4
                refine r_aload_n rfl ?_
                refine r_iload_n rfl ?_
                refine r_virtual (vs := []) (as := [_]) (by decide) (zl rfl) rfl rfl (zl rfl) (Nat.le_refl _) (Or.inr (Or.inr ⟨zt rfl, rfl, zt rfl⟩)) ?_
                refine M_go (ls := [_, _]) (ml := 2) rfl rfl rfl (zl rfl) rfl ?_
                refine r_iload_n rfl ?_
                refine r_bipush ?_
                refine r_icmp_ge (fun c_9_3 => ?_) (fun c_9_3 => ?_)
                · have c_9_3 := (n_le (a := 10) (b := (10 * 5 + a)) rfl rfl (by omega) (by omega)).mp c_9_3
                  refine E_go 1 rfl ?_
                  refine r_iload_n rfl ?_
                  refine r_bipush ?_
                  refine r_icmp_ge (fun c_9_14 => ?_) (fun c_9_14 => ?_)
                  · have c_9_14 := (n_le (a := 70) (b := (10 * 5 + a)) rfl rfl (by omega) (by omega)).mp c_9_14
                    omega
                  · have c_9_14 := (not_congr (n_le (a := 70) (b := (10 * 5 + a)) rfl rfl (by omega) (by omega))).mp c_9_14
                    refine r_aload_n rfl ?_
                    refine r_iload_n rfl ?_
                    refine r_bipush ?_
                    refine r_irem (by decide) ?_
                    rw [show io (10 * 5 + a) - io (10 * 5 + a) / 10 * 10 = io a from (n_rem (a := (10 * 5 + a)) (b := 10) rfl rfl (by omega) (by omega)).trans (congrArg io (by omega))]
                    refine r_virtual (vs := []) (as := [_]) (by decide) (zl rfl) rfl rfl (zl rfl) (Nat.le_refl _) (Or.inr (Or.inr ⟨zt rfl, rfl, zt rfl⟩)) ?_
                    refine s_isAunt (by omega) R.cn h5 ?_
                    rw [if_pos (inN_io ha (by omega))]
                    refine r_if_eq (fun c_9_25 => ?_) (fun c_9_25 => ?_)
                    · have c_9_25 := (n_eq (a := 1) (b := 0) rfl rfl (by omega) (by omega)).mp c_9_25
                      omega
                    · have c_9_25 := (not_congr (n_eq (a := 1) (b := 0) rfl rfl (by omega) (by omega))).mp c_9_25
                      refine r_iconst ?_
                      refine r_goto ?_
                      refine E_go 3 rfl ?_
                      refine r_iret rfl (by first | exact Or.inl rfl | exact Or.inr rfl) ?_
                      refine r_if_ne (fun c_12 => ?_) (fun c_12 => ?_)
                      · have c_12 := (not_congr (n_eq (a := 1) (b := 0) rfl rfl (by omega) (by omega))).mp c_12
                        refine E_go 2 rfl ?_
                        refine r_aload_n rfl ?_
                        refine r_getA (q := 34) (by decide) rfl rfl (by decide) ?_
                        refine r_iload_n rfl ?_
                        refine r_aaload (by decide) (by decide) (ixE rfl (show s < 4 by omega) (by decide)) (shK s hs).2.2.1 ?_
                        refine r_astore_n (ls' := [_, _, _, _, _]) (zt rfl) rfl ?_
                        refine r_aload_n rfl ?_
                        refine r_getI (by decide) rfl (shK s hs).1 (shK s hs).2.1 p2.1 ?_
                        refine r_iconst ?_
                        refine r_icmp_ne (fun c_30 => ?_) (fun c_30 => ?_)
                        · refine E_go 3 rfl ?_
                          refine r_aload_n rfl ?_
                          refine r_getI (by decide) rfl (shK s hs).1 (shK s hs).2.1 p2.2 ?_
                          refine r_bipush ?_
                          refine r_icmp_le (fun c_42 => ?_) (fun c_42 => ?_)
                          · have c_42 := (n_le (a := zs) (b := 6) rfl rfl (by omega) (by omega)).mp c_42
                            refine E_go 4 rfl ?_
                            refine r_iload_n rfl ?_
                            refine r_bipush ?_
                            refine r_irem (by decide) ?_
                            rw [show io (10 * 5 + a) - io (10 * 5 + a) / 10 * 10 = io a from (n_rem (a := (10 * 5 + a)) (b := 10) rfl rfl (by omega) (by omega)).trans (congrArg io (by omega))]
                            refine r_istore (ls' := [_, _, _, _, _]) (zt rfl) rfl ?_
                            refine r_iload_n rfl ?_
                            refine r_bipush ?_
                            refine r_idiv (by decide) ?_
                            rw [show io (10 * 5 + a) / 10 = 5 from (n_div (a := (10 * 5 + a)) (b := 10) rfl rfl (by omega) (by omega)).trans (congrArg io (show (10 * 5 + a) / 10 = 5 by omega))]
                            refine r_table ?_
                            refine r_sw1 (fun cs => ?_) (fun ds => ?_)
                            · exact absurd ((n_eq (a := 5) (b := 0) rfl rfl (by omega) (by omega)).mp cs) (by omega)
                            refine r_sw1 (fun cs => ?_) (fun ds => ?_)
                            · exact absurd ((n_eq (a := 5) (b := 1) rfl rfl (by omega) (by omega)).mp cs) (by omega)
                            refine r_sw1 (fun cs => ?_) (fun ds => ?_)
                            · exact absurd ((n_eq (a := 5) (b := 2) rfl rfl (by omega) (by omega)).mp cs) (by omega)
                            refine r_sw1 (fun cs => ?_) (fun ds => ?_)
                            · exact absurd ((n_eq (a := 5) (b := 3) rfl rfl (by omega) (by omega)).mp cs) (by omega)
                            refine r_sw1 (fun cs => ?_) (fun ds => ?_)
                            · exact absurd ((n_eq (a := 5) (b := 4) rfl rfl (by omega) (by omega)).mp cs) (by omega)
                            refine r_sw1 (fun cs => ?_) (fun ds => ?_)
                            · refine E_go 12 rfl ?_
                              refine r_aload_n rfl ?_
                              refine r_aload_n rfl ?_
                              refine r_iconst ?_
                              refine r_iload rfl ?_
                              refine r_virtual (vs := []) (as := [_, _, _]) (by decide) (zl rfl) rfl rfl (zl rfl) (Nat.le_refl _) (Or.inr (Or.inr ⟨zt rfl, rfl, zt rfl⟩)) ?_
                              refine s_howManyTold (N := 64) (f := (tfW ru wP (pX n I) a zs (I (54 + 2 * s)))) (by omega) (cVa_plan (by omega)) (cTo_plan (by omega) R hl hs hz6 p2.2 ha) (fun J0 f1 => ?_)
                              refine r_iret rfl trivial ?_
                              have R1 := R.f f1
                              refine M_go (ls := [_, _, _, _, _, _, _, _, _, _, _, _]) (ml := 12) rfl rfl rfl (zl rfl) rfl ?_
                              refine r_iload_n rfl ?_
                              refine r_i2l ?_
                              refine r_ldc2_w ?_
                              refine r_ldc2_w ?_
                              refine r_static (vs := [_, _, _]) (by decide) (zl rfl) rfl rfl (zl rfl) (Nat.le_refl _) rfl ?_
                              refine s_inr (by omega) (x := io (10 * 5 + a)) (lo := 10) (hi := 69) (Int32.toInt_toInt64 _) (by decide) (by decide) ?_
                              rw [if_pos (by rw [io_int (by omega)]; omega)]
                              refine r_if_eq (fun c_11 => ?_) (fun c_11 => ?_)
                              · have c_11 := (n_eq (a := 1) (b := 0) rfl rfl (by omega) (by omega)).mp c_11
                                omega
                              · have c_11 := (not_congr (n_eq (a := 1) (b := 0) rfl rfl (by omega) (by omega))).mp c_11
                                refine r_aload_n rfl ?_
                                refine r_iload_n rfl ?_
                                refine r_bipush ?_
                                refine r_irem (by decide) ?_
                                rw [show io (10 * 5 + a) - io (10 * 5 + a) / 10 * 10 = io a from (n_rem (a := (10 * 5 + a)) (b := 10) rfl rfl (by omega) (by omega)).trans (congrArg io (by omega))]
                                refine r_virtual (vs := []) (as := [_]) (by decide) (zl rfl) rfl rfl (zl rfl) (Nat.le_refl _) (Or.inr (Or.inr ⟨zt rfl, rfl, zt rfl⟩)) ?_
                                refine s_isOne (by omega) R1.mn h5 ?_
                                rw [if_pos (inN_io ha (by omega))]
                                refine r_if_eq (fun c_22 => ?_) (fun c_22 => ?_)
                                · have c_22 := (n_eq (a := 1) (b := 0) rfl rfl (by omega) (by omega)).mp c_22
                                  omega
                                · have c_22 := (not_congr (n_eq (a := 1) (b := 0) rfl rfl (by omega) (by omega))).mp c_22
                                  refine r_iconst ?_
                                  refine r_goto ?_
                                  refine E_go 2 rfl ?_
                                  refine r_istore_n (ls' := [_, _, _, _, _, _, _, _, _, _, _, _]) (zt rfl) rfl ?_
                                  refine r_iload_n rfl ?_
                                  refine r_static (vs := [_]) (by decide) (zl rfl) rfl rfl (zl rfl) (Nat.le_refl _) rfl ?_
                                  refine s_misSheet (by omega) ?_
                                  rw [if_pos (inN_io hs (by omega))]
                                  refine r_if_eq (fun c_35 => ?_) (fun c_35 => ?_)
                                  · have c_35 := (n_eq (a := 1) (b := 0) rfl rfl (by omega) (by omega)).mp c_35
                                    omega
                                  · have c_35 := (not_congr (n_eq (a := 1) (b := 0) rfl rfl (by omega) (by omega))).mp c_35
                                    refine r_iload_n rfl ?_
                                    refine r_i2l ?_
                                    refine r_lconst ?_
                                    refine r_lconst ?_
                                    refine r_static (vs := [_, _, _]) (by decide) (zl rfl) rfl rfl (zl rfl) (Nat.le_refl _) rfl ?_
                                    refine s_in0 (by omega) (x := io (10 * 5 + a)) (k := 2) (Int32.toInt_toInt64 _) i64_0 rfl ?_
                                    rw [if_neg (fun q => by have q2 := q.2; rw [io_int (by omega)] at q2; omega)]
                                    refine r_if_ne (fun c_45 => ?_) (fun c_45 => ?_)
                                    · have c_45 := (not_congr (n_eq (a := 0) (b := 0) rfl rfl (by omega) (by omega))).mp c_45
                                      omega
                                    · have c_45 := (n_eq (a := 0) (b := 0) rfl rfl (by omega) (by omega)).mp c_45
                                      refine r_iload_n rfl ?_
                                      refine r_if_ne (fun c_49 => ?_) (fun c_49 => ?_)
                                      · have c_49 := (not_congr (n_eq (a := 1) (b := 0) rfl rfl (by omega) (by omega))).mp c_49
                                        refine E_go 4 rfl ?_
                                        refine r_aload_n rfl ?_
                                        refine r_getA (q := 78) (by decide) rfl rfl (by decide) ?_
                                        refine r_iload_n rfl ?_
                                        refine r_baload (by decide) rfl (by decide) (ixE rfl (show s < 4 by omega) (by decide)) ((congrFun (f1.1 78 (by omega)) s).trans p3.1) ?_
                                        refine r_if_ne (fun c_61 => ?_) (fun c_61 => ?_)
                                        · have c_61 := (not_congr (n_eq (a := 1) (b := 0) rfl rfl (by omega) (by omega))).mp c_61
                                          refine E_go 5 rfl ?_
                                          refine r_aload_n rfl ?_
                                          refine r_getA (q := 80) (by decide) rfl rfl (by decide) ?_
                                          refine r_iload_n rfl ?_
                                          refine r_iaload (by decide) rfl (by decide) (ixE rfl (show s < 4 by omega) (by decide)) ((congrFun (f1.1 80 (by omega)) s).trans p3.2.2) ?_
                                          refine r_bipush ?_
                                          refine r_icmp_le (fun c_75 => ?_) (fun c_75 => ?_)
                                          · have c_75 := (n_le (a := zs) (b := 6) rfl rfl (by omega) (by omega)).mp c_75
                                            refine E_go 6 rfl ?_
                                            refine r_iload_n rfl ?_
                                            refine r_if_ne (fun c_82 => ?_) (fun c_82 => ?_)
                                            · have c_82 := (not_congr (n_eq (a := (10 * 5 + a)) (b := 0) rfl rfl (by omega) (by omega))).mp c_82
                                              refine E_go 7 rfl ?_
                                              refine r_iload_n rfl ?_
                                              refine r_bipush ?_
                                              refine r_irem (by decide) ?_
                                              rw [show io (10 * 5 + a) - io (10 * 5 + a) / 10 * 10 = io a from (n_rem (a := (10 * 5 + a)) (b := 10) rfl rfl (by omega) (by omega)).trans (congrArg io (by omega))]
                                              refine r_istore (ls' := [_, _, _, _, _, _, _, _, _, _, _, _]) (zt rfl) rfl ?_
                                              refine r_iload_n rfl ?_
                                              refine r_iconst ?_
                                              refine r_icmp_ne (fun c_99 => ?_) (fun c_99 => ?_)
                                              · have c_99 := (not_congr (n_eq (a := (10 * 5 + a)) (b := 1) rfl rfl (by omega) (by omega))).mp c_99
                                                refine E_go 8 rfl ?_
                                                refine r_iload_n rfl ?_
                                                refine r_bipush ?_
                                                refine r_icmp_ge (fun c_110 => ?_) (fun c_110 => ?_)
                                                · have c_110 := (n_le (a := 20) (b := (10 * 5 + a)) rfl rfl (by omega) (by omega)).mp c_110
                                                  refine E_go 9 rfl ?_
                                                  refine r_iload_n rfl ?_
                                                  refine r_bipush ?_
                                                  refine r_icmp_ge (fun c_120 => ?_) (fun c_120 => ?_)
                                                  · have c_120 := (n_le (a := 30) (b := (10 * 5 + a)) rfl rfl (by omega) (by omega)).mp c_120
                                                    refine E_go 10 rfl ?_
                                                    refine r_iload_n rfl ?_
                                                    refine r_bipush ?_
                                                    refine r_icmp_ge (fun c_130 => ?_) (fun c_130 => ?_)
                                                    · have c_130 := (n_le (a := 50) (b := (10 * 5 + a)) rfl rfl (by omega) (by omega)).mp c_130
                                                      refine E_go 11 rfl ?_
                                                      refine r_iconst ?_
                                                      refine r_nil ?_
                                                      refine E_go 12 rfl ?_
                                                      refine r_istore (ls' := [_, _, _, _, _, _, _, _, _, _, _, _]) (zt rfl) rfl ?_
                                                      refine r_iload rfl ?_
                                                      refine r_bipush ?_
                                                      refine r_icmp_ne (fun c_144 => ?_) (fun c_144 => ?_)
                                                      · have c_144 := (not_congr (n_eq (a := 4) (b := 6) rfl rfl (by omega) (by omega))).mp c_144
                                                        refine E_go 13 rfl ?_
                                                        refine r_aload_n rfl ?_
                                                        refine r_iload rfl ?_
                                                        refine r_iload rfl ?_
                                                        refine r_virtual (vs := []) (as := [_, _]) (by decide) (zl rfl) rfl rfl (zl rfl) (Nat.le_refl _) (Or.inr (Or.inr ⟨zt rfl, rfl, zt rfl⟩)) ?_
                                                        refine M_go (ls := [_, _, _]) (ml := 3) rfl rfl rfl (zl rfl) rfl ?_
                                                        refine r_iload_n rfl ?_
                                                        refine r_i2l ?_
                                                        refine r_lconst ?_
                                                        refine r_ldc2_w ?_
                                                        refine r_static (vs := [_, _, _]) (by decide) (zl rfl) rfl rfl (zl rfl) (Nat.le_refl _) rfl ?_
                                                        refine s_in0 (by omega) (x := io 4) (k := 8) (Int32.toInt_toInt64 _) i64_0 rfl ?_
                                                        rw [if_pos (inN_io (by omega) (by omega))]
                                                        refine r_if_eq (fun c_159_9 => ?_) (fun c_159_9 => ?_)
                                                        · have c_159_9 := (n_eq (a := 1) (b := 0) rfl rfl (by omega) (by omega)).mp c_159_9
                                                          omega
                                                        · have c_159_9 := (not_congr (n_eq (a := 1) (b := 0) rfl rfl (by omega) (by omega))).mp c_159_9
                                                          refine r_iload_n rfl ?_
                                                          refine r_iconst ?_
                                                          refine r_icmp_le (fun c_159_14 => ?_) (fun c_159_14 => ?_)
                                                          · have c_159_14 := (n_le (a := 4) (b := 1) rfl rfl (by omega) (by omega)).mp c_159_14
                                                            omega
                                                          · have c_159_14 := (not_congr (n_le (a := 4) (b := 1) rfl rfl (by omega) (by omega))).mp c_159_14
                                                            refine r_aload_n rfl ?_
                                                            refine r_iload_n rfl ?_
                                                            refine r_virtual (vs := []) (as := [_]) (by decide) (zl rfl) rfl rfl (zl rfl) (Nat.le_refl _) (Or.inr (Or.inr ⟨zt rfl, rfl, zt rfl⟩)) ?_
                                                            refine s_isOne (by omega) R1.mn h5 ?_
                                                            rw [if_pos (inN_io ha (by omega))]
                                                            refine r_if_ne (fun c_159_22 => ?_) (fun c_159_22 => ?_)
                                                            · have c_159_22 := (not_congr (n_eq (a := 1) (b := 0) rfl rfl (by omega) (by omega))).mp c_159_22
                                                              refine E_go 2 rfl ?_
                                                              refine r_iload_n rfl ?_
                                                              refine r_iconst ?_
                                                              refine r_icmp_ge (fun c_159_30 => ?_) (fun c_159_30 => ?_)
                                                              · have c_159_30 := (n_le (a := 2) (b := 4) rfl rfl (by omega) (by omega)).mp c_159_30
                                                                refine E_go 5 rfl ?_
                                                                refine r_iload_n rfl ?_
                                                                refine r_iconst ?_
                                                                refine r_icmp_ge (fun c_159_51 => ?_) (fun c_159_51 => ?_)
                                                                · have c_159_51 := (n_le (a := 5) (b := 4) rfl rfl (by omega) (by omega)).mp c_159_51
                                                                  omega
                                                                · have c_159_51 := (not_congr (n_le (a := 5) (b := 4) rfl rfl (by omega) (by omega))).mp c_159_51
                                                                  refine r_aload_n rfl ?_
                                                                  refine r_getA (q := 66) (by decide) rfl rfl (by decide) ?_
                                                                  refine r_iconst ?_
                                                                  refine r_iload_n rfl ?_
                                                                  refine r_imul ?_
                                                                  refine r_iload_n rfl ?_
                                                                  refine r_iadd ?_
                                                                  refine r_iconst ?_
                                                                  refine r_isub ?_
                                                                  refine r_iaload (by decide) rfl (by decide) (ixE (n_sub (a := ((3 * a) + 4)) (b := 2) (n_add (a := (3 * a)) (b := 4) (n_mul (a := 3) (b := a) rfl rfl) rfl) rfl (by omega)) (show (((3 * a) + 4) - 2) < 15 by omega) (by decide)) rfl ?_
                                                                  refine r_goto ?_
                                                                  refine E_go 9 rfl ?_
                                                                  refine r_iret rfl trivial ?_
                                                                  refine r_nil ?_
                                                                  refine E_go 14 rfl ?_
                                                                  refine r_istore (ls' := [_, _, _, _, _, _, _, _, _, _, _, _]) (zt rfl) rfl ?_
                                                                  refine r_iload rfl ?_
                                                                  refine r_bipush ?_
                                                                  refine r_icmp_ne (fun c_168 => ?_) (fun c_168 => ?_)
                                                                  · have c_168 := (not_congr (n_eq (a := 4) (b := 6) rfl rfl (by omega) (by omega))).mp c_168
                                                                    refine E_go 15 rfl ?_
                                                                    refine r_iload rfl ?_
                                                                    refine r_iconst ?_
                                                                    refine r_icmp_ne (fun c_183 => ?_) (fun c_183 => ?_)
                                                                    · have c_183 := (not_congr (n_eq (a := 4) (b := 5) rfl rfl (by omega) (by omega))).mp c_183
                                                                      refine E_go 16 rfl ?_
                                                                      refine r_iload rfl ?_
                                                                      refine r_static (vs := [_]) (by decide) (zl rfl) rfl rfl (zl rfl) (Nat.le_refl _) rfl ?_
                                                                      refine M_go (ls := [_]) (ml := 1) rfl rfl rfl (zl rfl) rfl ?_
                                                                      refine r_iload_n rfl ?_
                                                                      refine r_iconst ?_
                                                                      refine r_icmp_ne (fun c_192_2 => ?_) (fun c_192_2 => ?_)
                                                                      · have c_192_2 := (not_congr (n_eq (a := 4) (b := 1) rfl rfl (by omega) (by omega))).mp c_192_2
                                                                        refine E_go 1 rfl ?_
                                                                        refine r_iload_n rfl ?_
                                                                        refine r_iconst ?_
                                                                        refine r_icmp_ne (fun c_192_13 => ?_) (fun c_192_13 => ?_)
                                                                        · have c_192_13 := (not_congr (n_eq (a := 4) (b := 2) rfl rfl (by omega) (by omega))).mp c_192_13
                                                                          refine E_go 2 rfl ?_
                                                                          refine r_iload_n rfl ?_
                                                                          refine r_iconst ?_
                                                                          refine r_icmp_ne (fun c_192_23 => ?_) (fun c_192_23 => ?_)
                                                                          · have c_192_23 := (not_congr (n_eq (a := 4) (b := 4) rfl rfl (by omega) (by omega))).mp c_192_23
                                                                            omega
                                                                          · have c_192_23 := (n_eq (a := 4) (b := 4) rfl rfl (by omega) (by omega)).mp c_192_23
                                                                            refine r_bipush ?_
                                                                            refine r_goto ?_
                                                                            refine E_go 4 rfl ?_
                                                                            refine r_iret rfl trivial ?_
                                                                            refine r_nil ?_
                                                                            refine E_go 17 rfl ?_
                                                                            refine r_istore (ls' := [_, _, _, _, _, _, _, _, _, _, _, _]) (zt rfl) rfl ?_
                                                                            refine r_iconst ?_
                                                                            refine r_istore (ls' := [_, _, _, _, _, _, _, _, _, _, _, _]) (zt rfl) rfl ?_
                                                                            refine r_iconst ?_
                                                                            refine r_istore (ls' := [_, _, _, _, _, _, _, _, _, _, _, _]) (zt rfl) rfl ?_
                                                                            refine r_iconst ?_
                                                                            refine r_istore (ls' := [_, _, _, _, _, _, _, _, _, _, _, _]) (zt rfl) rfl ?_
                                                                            refine r_iload rfl ?_
                                                                            refine r_istore (ls' := [_, _, _, _, _, _, _, _, _, _, _, _]) (zt rfl) rfl ?_
                                                                            refine r_nil ?_
                                                                            refine s_tl (N := 64) (f := (tfW ru wP (pX n I) a zs (I (54 + 2 * s)))) (P := PW 66 (3 * a + 4 - 2) J0) (P2 := fun v J => PW 66 (3 * a + 4 - 2) J0 J ∧ J 66 (3 * a + 4 - 2) = io v) (PF := fS J0) (by omega) (by omega) (by omega) (fun v _ => mLy_4 (by omega) ha5) (mFo_4 (by omega) R hl f1 hs hz6 p3.2.2 hg) (fun J L Q hP hQ => mLy_4 (by omega) ha5 J L Q hP (fun K k => hQ K (k.1.fS k.2))) (by decide) PW.refl (fun K L2 f2 => ?_)
                                                                            unfold tRes
                                                                            rw [if_neg (by omega), if_pos (by omega)]
                                                                            exact hQ _ _ _ (R1.f f2).rel
                                                                        · have c_192_13 := (n_eq (a := 4) (b := 2) rfl rfl (by omega) (by omega)).mp c_192_13
                                                                          omega
                                                                      · have c_192_2 := (n_eq (a := 4) (b := 1) rfl rfl (by omega) (by omega)).mp c_192_2
                                                                        omega
                                                                    · have c_183 := (n_eq (a := 4) (b := 5) rfl rfl (by omega) (by omega)).mp c_183
                                                                      omega
                                                                  · have c_168 := (n_eq (a := 4) (b := 6) rfl rfl (by omega) (by omega)).mp c_168
                                                                    omega
                                                              · have c_159_30 := (not_congr (n_le (a := 2) (b := 4) rfl rfl (by omega) (by omega))).mp c_159_30
                                                                omega
                                                            · have c_159_22 := (n_eq (a := 1) (b := 0) rfl rfl (by omega) (by omega)).mp c_159_22
                                                              omega
                                                      · have c_144 := (n_eq (a := 4) (b := 6) rfl rfl (by omega) (by omega)).mp c_144
                                                        omega
                                                    · have c_130 := (not_congr (n_le (a := 50) (b := (10 * 5 + a)) rfl rfl (by omega) (by omega))).mp c_130
                                                      omega
                                                  · have c_120 := (not_congr (n_le (a := 30) (b := (10 * 5 + a)) rfl rfl (by omega) (by omega))).mp c_120
                                                    omega
                                                · have c_110 := (not_congr (n_le (a := 20) (b := (10 * 5 + a)) rfl rfl (by omega) (by omega))).mp c_110
                                                  omega
                                              · have c_99 := (n_eq (a := (10 * 5 + a)) (b := 1) rfl rfl (by omega) (by omega)).mp c_99
                                                omega
                                            · have c_82 := (n_eq (a := (10 * 5 + a)) (b := 0) rfl rfl (by omega) (by omega)).mp c_82
                                              omega
                                          · have c_75 := (not_congr (n_le (a := zs) (b := 6) rfl rfl (by omega) (by omega))).mp c_75
                                            omega
                                        · have c_61 := (n_eq (a := 1) (b := 0) rfl rfl (by omega) (by omega)).mp c_61
                                          omega
                                      · have c_49 := (n_eq (a := 1) (b := 0) rfl rfl (by omega) (by omega)).mp c_49
                                        omega
                            · exact absurd rfl ds
                          · have c_42 := (not_congr (n_le (a := zs) (b := 6) rfl rfl (by omega) (by omega))).mp c_42
                            omega
                        · exact absurd c_30 (io_m1 (by omega))
                      · have c_12 := (n_eq (a := 1) (b := 0) rfl rfl (by omega) (by omega)).mp c_12
                        omega
                · have c_9_3 := (not_congr (n_le (a := 10) (b := (10 * 5 + a)) rfl rfl (by omega) (by omega))).mp c_9_3
                  omega
            · have ek : k = 10 * 6 + a := by omega
              subst ek
              refine M_go (ls := [_, _, _, _, _]) (ml := 5) rfl rfl rfl (zl rfl) rfl ?_
              refine r_iload_n rfl ?_
              refine r_static (vs := [_]) (by decide) (zl rfl) rfl rfl (zl rfl) (Nat.le_refl _) rfl ?_
              refine s_isSheet (by omega) ?_
              rw [if_pos (inN_io hs (by omega))]
              refine r_if_eq (fun c_4 => ?_) (fun c_4 => ?_)
              · have c_4 := (n_eq (a := 1) (b := 0) rfl rfl (by omega) (by omega)).mp c_4
                omega
              · have c_4 := (not_congr (n_eq (a := 1) (b := 0) rfl rfl (by omega) (by omega))).mp c_4
                refine r_aload_n rfl ?_
                refine r_iload_n rfl ?_
                refine r_virtual (vs := []) (as := [_]) (by decide) (zl rfl) rfl rfl (zl rfl) (Nat.le_refl _) (Or.inr (Or.inr ⟨zt rfl, rfl, zt rfl⟩)) ?_
                refine M_go (ls := [_, _]) (ml := 2) rfl rfl rfl (zl rfl) rfl ?_
                refine r_iload_n rfl ?_
                refine r_bipush ?_
                refine r_icmp_ge (fun c_9_3 => ?_) (fun c_9_3 => ?_)
                · have c_9_3 := (n_le (a := 10) (b := (10 * 6 + a)) rfl rfl (by omega) (by omega)).mp c_9_3
                  refine E_go 1 rfl ?_
                  refine r_iload_n rfl ?_
                  refine r_bipush ?_
                  refine r_icmp_ge (fun c_9_14 => ?_) (fun c_9_14 => ?_)
                  · have c_9_14 := (n_le (a := 70) (b := (10 * 6 + a)) rfl rfl (by omega) (by omega)).mp c_9_14
                    omega
                  · have c_9_14 := (not_congr (n_le (a := 70) (b := (10 * 6 + a)) rfl rfl (by omega) (by omega))).mp c_9_14
                    refine r_aload_n rfl ?_
                    refine r_iload_n rfl ?_
                    refine r_bipush ?_
                    refine r_irem (by decide) ?_
                    rw [show io (10 * 6 + a) - io (10 * 6 + a) / 10 * 10 = io a from (n_rem (a := (10 * 6 + a)) (b := 10) rfl rfl (by omega) (by omega)).trans (congrArg io (by omega))]
                    refine r_virtual (vs := []) (as := [_]) (by decide) (zl rfl) rfl rfl (zl rfl) (Nat.le_refl _) (Or.inr (Or.inr ⟨zt rfl, rfl, zt rfl⟩)) ?_
                    refine s_isAunt (by omega) R.cn h5 ?_
                    rw [if_pos (inN_io ha (by omega))]
                    refine r_if_eq (fun c_9_25 => ?_) (fun c_9_25 => ?_)
                    · have c_9_25 := (n_eq (a := 1) (b := 0) rfl rfl (by omega) (by omega)).mp c_9_25
                      omega
                    · have c_9_25 := (not_congr (n_eq (a := 1) (b := 0) rfl rfl (by omega) (by omega))).mp c_9_25
                      refine r_iconst ?_
                      refine r_goto ?_
                      refine E_go 3 rfl ?_
                      refine r_iret rfl (by first | exact Or.inl rfl | exact Or.inr rfl) ?_
                      refine r_if_ne (fun c_12 => ?_) (fun c_12 => ?_)
                      · have c_12 := (not_congr (n_eq (a := 1) (b := 0) rfl rfl (by omega) (by omega))).mp c_12
                        refine E_go 2 rfl ?_
                        refine r_aload_n rfl ?_
                        refine r_getA (q := 34) (by decide) rfl rfl (by decide) ?_
                        refine r_iload_n rfl ?_
                        refine r_aaload (by decide) (by decide) (ixE rfl (show s < 4 by omega) (by decide)) (shK s hs).2.2.1 ?_
                        refine r_astore_n (ls' := [_, _, _, _, _]) (zt rfl) rfl ?_
                        refine r_aload_n rfl ?_
                        refine r_getI (by decide) rfl (shK s hs).1 (shK s hs).2.1 p2.1 ?_
                        refine r_iconst ?_
                        refine r_icmp_ne (fun c_30 => ?_) (fun c_30 => ?_)
                        · refine E_go 3 rfl ?_
                          refine r_aload_n rfl ?_
                          refine r_getI (by decide) rfl (shK s hs).1 (shK s hs).2.1 p2.2 ?_
                          refine r_bipush ?_
                          refine r_icmp_le (fun c_42 => ?_) (fun c_42 => ?_)
                          · have c_42 := (n_le (a := zs) (b := 6) rfl rfl (by omega) (by omega)).mp c_42
                            refine E_go 4 rfl ?_
                            refine r_iload_n rfl ?_
                            refine r_bipush ?_
                            refine r_irem (by decide) ?_
                            rw [show io (10 * 6 + a) - io (10 * 6 + a) / 10 * 10 = io a from (n_rem (a := (10 * 6 + a)) (b := 10) rfl rfl (by omega) (by omega)).trans (congrArg io (by omega))]
                            refine r_istore (ls' := [_, _, _, _, _]) (zt rfl) rfl ?_
                            refine r_iload_n rfl ?_
                            refine r_bipush ?_
                            refine r_idiv (by decide) ?_
                            rw [show io (10 * 6 + a) / 10 = 6 from (n_div (a := (10 * 6 + a)) (b := 10) rfl rfl (by omega) (by omega)).trans (congrArg io (show (10 * 6 + a) / 10 = 6 by omega))]
                            refine r_table ?_
                            refine r_sw1 (fun cs => ?_) (fun ds => ?_)
                            · exact absurd ((n_eq (a := 6) (b := 0) rfl rfl (by omega) (by omega)).mp cs) (by omega)
                            refine r_sw1 (fun cs => ?_) (fun ds => ?_)
                            · exact absurd ((n_eq (a := 6) (b := 1) rfl rfl (by omega) (by omega)).mp cs) (by omega)
                            refine r_sw1 (fun cs => ?_) (fun ds => ?_)
                            · exact absurd ((n_eq (a := 6) (b := 2) rfl rfl (by omega) (by omega)).mp cs) (by omega)
                            refine r_sw1 (fun cs => ?_) (fun ds => ?_)
                            · exact absurd ((n_eq (a := 6) (b := 3) rfl rfl (by omega) (by omega)).mp cs) (by omega)
                            refine r_sw1 (fun cs => ?_) (fun ds => ?_)
                            · exact absurd ((n_eq (a := 6) (b := 4) rfl rfl (by omega) (by omega)).mp cs) (by omega)
                            refine r_sw1 (fun cs => ?_) (fun ds => ?_)
                            · exact absurd ((n_eq (a := 6) (b := 5) rfl rfl (by omega) (by omega)).mp cs) (by omega)
                            refine r_sw0 ?_
                            refine E_go 13 rfl ?_
                            refine r_aload_n rfl ?_
                            refine r_aload_n rfl ?_
                            refine r_iconst ?_
                            refine r_iload rfl ?_
                            refine r_virtual (vs := []) (as := [_, _, _]) (by decide) (zl rfl) rfl rfl (zl rfl) (Nat.le_refl _) (Or.inr (Or.inr ⟨zt rfl, rfl, zt rfl⟩)) ?_
                            refine s_leastTold (N := 64) (f := (tfW ru wP (pX n I) a zs (I (54 + 2 * s)))) (by omega) (cVa_plan (by omega)) (cTo_plan (by omega) R hl hs hz6 p2.2 ha) (fun J0 f1 => ?_)
                            refine r_iret rfl trivial ?_
                            have R1 := R.f f1
                            refine M_go (ls := [_, _, _, _, _, _, _, _, _, _, _, _]) (ml := 12) rfl rfl rfl (zl rfl) rfl ?_
                            refine r_iload_n rfl ?_
                            refine r_i2l ?_
                            refine r_ldc2_w ?_
                            refine r_ldc2_w ?_
                            refine r_static (vs := [_, _, _]) (by decide) (zl rfl) rfl rfl (zl rfl) (Nat.le_refl _) rfl ?_
                            refine s_inr (by omega) (x := io (10 * 6 + a)) (lo := 10) (hi := 69) (Int32.toInt_toInt64 _) (by decide) (by decide) ?_
                            rw [if_pos (by rw [io_int (by omega)]; omega)]
                            refine r_if_eq (fun c_11 => ?_) (fun c_11 => ?_)
                            · have c_11 := (n_eq (a := 1) (b := 0) rfl rfl (by omega) (by omega)).mp c_11
                              omega
                            · have c_11 := (not_congr (n_eq (a := 1) (b := 0) rfl rfl (by omega) (by omega))).mp c_11
                              refine r_aload_n rfl ?_
                              refine r_iload_n rfl ?_
                              refine r_bipush ?_
                              refine r_irem (by decide) ?_
                              rw [show io (10 * 6 + a) - io (10 * 6 + a) / 10 * 10 = io a from (n_rem (a := (10 * 6 + a)) (b := 10) rfl rfl (by omega) (by omega)).trans (congrArg io (by omega))]
                              refine r_virtual (vs := []) (as := [_]) (by decide) (zl rfl) rfl rfl (zl rfl) (Nat.le_refl _) (Or.inr (Or.inr ⟨zt rfl, rfl, zt rfl⟩)) ?_
                              refine s_isOne (by omega) R1.mn h5 ?_
                              rw [if_pos (inN_io ha (by omega))]
                              refine r_if_eq (fun c_22 => ?_) (fun c_22 => ?_)
                              · have c_22 := (n_eq (a := 1) (b := 0) rfl rfl (by omega) (by omega)).mp c_22
                                omega
                              · have c_22 := (not_congr (n_eq (a := 1) (b := 0) rfl rfl (by omega) (by omega))).mp c_22
                                refine r_iconst ?_
                                refine r_goto ?_
                                refine E_go 2 rfl ?_
                                refine r_istore_n (ls' := [_, _, _, _, _, _, _, _, _, _, _, _]) (zt rfl) rfl ?_
                                refine r_iload_n rfl ?_
                                refine r_static (vs := [_]) (by decide) (zl rfl) rfl rfl (zl rfl) (Nat.le_refl _) rfl ?_
                                refine s_misSheet (by omega) ?_
                                rw [if_pos (inN_io hs (by omega))]
                                refine r_if_eq (fun c_35 => ?_) (fun c_35 => ?_)
                                · have c_35 := (n_eq (a := 1) (b := 0) rfl rfl (by omega) (by omega)).mp c_35
                                  omega
                                · have c_35 := (not_congr (n_eq (a := 1) (b := 0) rfl rfl (by omega) (by omega))).mp c_35
                                  refine r_iload_n rfl ?_
                                  refine r_i2l ?_
                                  refine r_lconst ?_
                                  refine r_lconst ?_
                                  refine r_static (vs := [_, _, _]) (by decide) (zl rfl) rfl rfl (zl rfl) (Nat.le_refl _) rfl ?_
                                  refine s_in0 (by omega) (x := io (10 * 6 + a)) (k := 2) (Int32.toInt_toInt64 _) i64_0 rfl ?_
                                  rw [if_neg (fun q => by have q2 := q.2; rw [io_int (by omega)] at q2; omega)]
                                  refine r_if_ne (fun c_45 => ?_) (fun c_45 => ?_)
                                  · have c_45 := (not_congr (n_eq (a := 0) (b := 0) rfl rfl (by omega) (by omega))).mp c_45
                                    omega
                                  · have c_45 := (n_eq (a := 0) (b := 0) rfl rfl (by omega) (by omega)).mp c_45
                                    refine r_iload_n rfl ?_
                                    refine r_if_ne (fun c_49 => ?_) (fun c_49 => ?_)
                                    · have c_49 := (not_congr (n_eq (a := 1) (b := 0) rfl rfl (by omega) (by omega))).mp c_49
                                      refine E_go 4 rfl ?_
                                      refine r_aload_n rfl ?_
                                      refine r_getA (q := 78) (by decide) rfl rfl (by decide) ?_
                                      refine r_iload_n rfl ?_
                                      refine r_baload (by decide) rfl (by decide) (ixE rfl (show s < 4 by omega) (by decide)) ((congrFun (f1.1 78 (by omega)) s).trans p3.1) ?_
                                      refine r_if_ne (fun c_61 => ?_) (fun c_61 => ?_)
                                      · have c_61 := (not_congr (n_eq (a := 1) (b := 0) rfl rfl (by omega) (by omega))).mp c_61
                                        refine E_go 5 rfl ?_
                                        refine r_aload_n rfl ?_
                                        refine r_getA (q := 80) (by decide) rfl rfl (by decide) ?_
                                        refine r_iload_n rfl ?_
                                        refine r_iaload (by decide) rfl (by decide) (ixE rfl (show s < 4 by omega) (by decide)) ((congrFun (f1.1 80 (by omega)) s).trans p3.2.2) ?_
                                        refine r_bipush ?_
                                        refine r_icmp_le (fun c_75 => ?_) (fun c_75 => ?_)
                                        · have c_75 := (n_le (a := zs) (b := 6) rfl rfl (by omega) (by omega)).mp c_75
                                          refine E_go 6 rfl ?_
                                          refine r_iload_n rfl ?_
                                          refine r_if_ne (fun c_82 => ?_) (fun c_82 => ?_)
                                          · have c_82 := (not_congr (n_eq (a := (10 * 6 + a)) (b := 0) rfl rfl (by omega) (by omega))).mp c_82
                                            refine E_go 7 rfl ?_
                                            refine r_iload_n rfl ?_
                                            refine r_bipush ?_
                                            refine r_irem (by decide) ?_
                                            rw [show io (10 * 6 + a) - io (10 * 6 + a) / 10 * 10 = io a from (n_rem (a := (10 * 6 + a)) (b := 10) rfl rfl (by omega) (by omega)).trans (congrArg io (by omega))]
                                            refine r_istore (ls' := [_, _, _, _, _, _, _, _, _, _, _, _]) (zt rfl) rfl ?_
                                            refine r_iload_n rfl ?_
                                            refine r_iconst ?_
                                            refine r_icmp_ne (fun c_99 => ?_) (fun c_99 => ?_)
                                            · have c_99 := (not_congr (n_eq (a := (10 * 6 + a)) (b := 1) rfl rfl (by omega) (by omega))).mp c_99
                                              refine E_go 8 rfl ?_
                                              refine r_iload_n rfl ?_
                                              refine r_bipush ?_
                                              refine r_icmp_ge (fun c_110 => ?_) (fun c_110 => ?_)
                                              · have c_110 := (n_le (a := 20) (b := (10 * 6 + a)) rfl rfl (by omega) (by omega)).mp c_110
                                                refine E_go 9 rfl ?_
                                                refine r_iload_n rfl ?_
                                                refine r_bipush ?_
                                                refine r_icmp_ge (fun c_120 => ?_) (fun c_120 => ?_)
                                                · have c_120 := (n_le (a := 30) (b := (10 * 6 + a)) rfl rfl (by omega) (by omega)).mp c_120
                                                  refine E_go 10 rfl ?_
                                                  refine r_iload_n rfl ?_
                                                  refine r_bipush ?_
                                                  refine r_icmp_ge (fun c_130 => ?_) (fun c_130 => ?_)
                                                  · have c_130 := (n_le (a := 50) (b := (10 * 6 + a)) rfl rfl (by omega) (by omega)).mp c_130
                                                    refine E_go 11 rfl ?_
                                                    refine r_iconst ?_
                                                    refine r_nil ?_
                                                    refine E_go 12 rfl ?_
                                                    refine r_istore (ls' := [_, _, _, _, _, _, _, _, _, _, _, _]) (zt rfl) rfl ?_
                                                    refine r_iload rfl ?_
                                                    refine r_bipush ?_
                                                    refine r_icmp_ne (fun c_144 => ?_) (fun c_144 => ?_)
                                                    · have c_144 := (not_congr (n_eq (a := 4) (b := 6) rfl rfl (by omega) (by omega))).mp c_144
                                                      refine E_go 13 rfl ?_
                                                      refine r_aload_n rfl ?_
                                                      refine r_iload rfl ?_
                                                      refine r_iload rfl ?_
                                                      refine r_virtual (vs := []) (as := [_, _]) (by decide) (zl rfl) rfl rfl (zl rfl) (Nat.le_refl _) (Or.inr (Or.inr ⟨zt rfl, rfl, zt rfl⟩)) ?_
                                                      refine M_go (ls := [_, _, _]) (ml := 3) rfl rfl rfl (zl rfl) rfl ?_
                                                      refine r_iload_n rfl ?_
                                                      refine r_i2l ?_
                                                      refine r_lconst ?_
                                                      refine r_ldc2_w ?_
                                                      refine r_static (vs := [_, _, _]) (by decide) (zl rfl) rfl rfl (zl rfl) (Nat.le_refl _) rfl ?_
                                                      refine s_in0 (by omega) (x := io 4) (k := 8) (Int32.toInt_toInt64 _) i64_0 rfl ?_
                                                      rw [if_pos (inN_io (by omega) (by omega))]
                                                      refine r_if_eq (fun c_159_9 => ?_) (fun c_159_9 => ?_)
                                                      · have c_159_9 := (n_eq (a := 1) (b := 0) rfl rfl (by omega) (by omega)).mp c_159_9
                                                        omega
                                                      · have c_159_9 := (not_congr (n_eq (a := 1) (b := 0) rfl rfl (by omega) (by omega))).mp c_159_9
                                                        refine r_iload_n rfl ?_
                                                        refine r_iconst ?_
                                                        refine r_icmp_le (fun c_159_14 => ?_) (fun c_159_14 => ?_)
                                                        · have c_159_14 := (n_le (a := 4) (b := 1) rfl rfl (by omega) (by omega)).mp c_159_14
                                                          omega
                                                        · have c_159_14 := (not_congr (n_le (a := 4) (b := 1) rfl rfl (by omega) (by omega))).mp c_159_14
                                                          refine r_aload_n rfl ?_
                                                          refine r_iload_n rfl ?_
                                                          refine r_virtual (vs := []) (as := [_]) (by decide) (zl rfl) rfl rfl (zl rfl) (Nat.le_refl _) (Or.inr (Or.inr ⟨zt rfl, rfl, zt rfl⟩)) ?_
                                                          refine s_isOne (by omega) R1.mn h5 ?_
                                                          rw [if_pos (inN_io ha (by omega))]
                                                          refine r_if_ne (fun c_159_22 => ?_) (fun c_159_22 => ?_)
                                                          · have c_159_22 := (not_congr (n_eq (a := 1) (b := 0) rfl rfl (by omega) (by omega))).mp c_159_22
                                                            refine E_go 2 rfl ?_
                                                            refine r_iload_n rfl ?_
                                                            refine r_iconst ?_
                                                            refine r_icmp_ge (fun c_159_30 => ?_) (fun c_159_30 => ?_)
                                                            · have c_159_30 := (n_le (a := 2) (b := 4) rfl rfl (by omega) (by omega)).mp c_159_30
                                                              refine E_go 5 rfl ?_
                                                              refine r_iload_n rfl ?_
                                                              refine r_iconst ?_
                                                              refine r_icmp_ge (fun c_159_51 => ?_) (fun c_159_51 => ?_)
                                                              · have c_159_51 := (n_le (a := 5) (b := 4) rfl rfl (by omega) (by omega)).mp c_159_51
                                                                omega
                                                              · have c_159_51 := (not_congr (n_le (a := 5) (b := 4) rfl rfl (by omega) (by omega))).mp c_159_51
                                                                refine r_aload_n rfl ?_
                                                                refine r_getA (q := 66) (by decide) rfl rfl (by decide) ?_
                                                                refine r_iconst ?_
                                                                refine r_iload_n rfl ?_
                                                                refine r_imul ?_
                                                                refine r_iload_n rfl ?_
                                                                refine r_iadd ?_
                                                                refine r_iconst ?_
                                                                refine r_isub ?_
                                                                refine r_iaload (by decide) rfl (by decide) (ixE (n_sub (a := ((3 * a) + 4)) (b := 2) (n_add (a := (3 * a)) (b := 4) (n_mul (a := 3) (b := a) rfl rfl) rfl) rfl (by omega)) (show (((3 * a) + 4) - 2) < 15 by omega) (by decide)) rfl ?_
                                                                refine r_goto ?_
                                                                refine E_go 9 rfl ?_
                                                                refine r_iret rfl trivial ?_
                                                                refine r_nil ?_
                                                                refine E_go 14 rfl ?_
                                                                refine r_istore (ls' := [_, _, _, _, _, _, _, _, _, _, _, _]) (zt rfl) rfl ?_
                                                                refine r_iload rfl ?_
                                                                refine r_bipush ?_
                                                                refine r_icmp_ne (fun c_168 => ?_) (fun c_168 => ?_)
                                                                · have c_168 := (not_congr (n_eq (a := 4) (b := 6) rfl rfl (by omega) (by omega))).mp c_168
                                                                  refine E_go 15 rfl ?_
                                                                  refine r_iload rfl ?_
                                                                  refine r_iconst ?_
                                                                  refine r_icmp_ne (fun c_183 => ?_) (fun c_183 => ?_)
                                                                  · have c_183 := (not_congr (n_eq (a := 4) (b := 5) rfl rfl (by omega) (by omega))).mp c_183
                                                                    refine E_go 16 rfl ?_
                                                                    refine r_iload rfl ?_
                                                                    refine r_static (vs := [_]) (by decide) (zl rfl) rfl rfl (zl rfl) (Nat.le_refl _) rfl ?_
                                                                    refine M_go (ls := [_]) (ml := 1) rfl rfl rfl (zl rfl) rfl ?_
                                                                    refine r_iload_n rfl ?_
                                                                    refine r_iconst ?_
                                                                    refine r_icmp_ne (fun c_192_2 => ?_) (fun c_192_2 => ?_)
                                                                    · have c_192_2 := (not_congr (n_eq (a := 4) (b := 1) rfl rfl (by omega) (by omega))).mp c_192_2
                                                                      refine E_go 1 rfl ?_
                                                                      refine r_iload_n rfl ?_
                                                                      refine r_iconst ?_
                                                                      refine r_icmp_ne (fun c_192_13 => ?_) (fun c_192_13 => ?_)
                                                                      · have c_192_13 := (not_congr (n_eq (a := 4) (b := 2) rfl rfl (by omega) (by omega))).mp c_192_13
                                                                        refine E_go 2 rfl ?_
                                                                        refine r_iload_n rfl ?_
                                                                        refine r_iconst ?_
                                                                        refine r_icmp_ne (fun c_192_23 => ?_) (fun c_192_23 => ?_)
                                                                        · have c_192_23 := (not_congr (n_eq (a := 4) (b := 4) rfl rfl (by omega) (by omega))).mp c_192_23
                                                                          omega
                                                                        · have c_192_23 := (n_eq (a := 4) (b := 4) rfl rfl (by omega) (by omega)).mp c_192_23
                                                                          refine r_bipush ?_
                                                                          refine r_goto ?_
                                                                          refine E_go 4 rfl ?_
                                                                          refine r_iret rfl trivial ?_
                                                                          refine r_nil ?_
                                                                          refine E_go 17 rfl ?_
                                                                          refine r_istore (ls' := [_, _, _, _, _, _, _, _, _, _, _, _]) (zt rfl) rfl ?_
                                                                          refine r_iconst ?_
                                                                          refine r_istore (ls' := [_, _, _, _, _, _, _, _, _, _, _, _]) (zt rfl) rfl ?_
                                                                          refine r_iconst ?_
                                                                          refine r_istore (ls' := [_, _, _, _, _, _, _, _, _, _, _, _]) (zt rfl) rfl ?_
                                                                          refine r_iconst ?_
                                                                          refine r_istore (ls' := [_, _, _, _, _, _, _, _, _, _, _, _]) (zt rfl) rfl ?_
                                                                          refine r_iload rfl ?_
                                                                          refine r_istore (ls' := [_, _, _, _, _, _, _, _, _, _, _, _]) (zt rfl) rfl ?_
                                                                          refine r_nil ?_
                                                                          refine s_tl (N := 64) (f := (tfW ru wP (pX n I) a zs (I (54 + 2 * s)))) (P := PW 66 (3 * a + 4 - 2) J0) (P2 := fun v J => PW 66 (3 * a + 4 - 2) J0 J ∧ J 66 (3 * a + 4 - 2) = io v) (PF := fS J0) (by omega) (by omega) (by omega) (fun v _ => mLy_4 (by omega) ha5) (mFo_4 (by omega) R hl f1 hs hz6 p3.2.2 hg) (fun J L Q hP hQ => mLy_4 (by omega) ha5 J L Q hP (fun K k => hQ K (k.1.fS k.2))) (by decide) PW.refl (fun K L2 f2 => ?_)
                                                                          unfold tRes
                                                                          rw [if_neg (by omega), if_neg (by omega)]
                                                                          exact hQ _ _ _ (R1.f f2).rel
                                                                      · have c_192_13 := (n_eq (a := 4) (b := 2) rfl rfl (by omega) (by omega)).mp c_192_13
                                                                        omega
                                                                    · have c_192_2 := (n_eq (a := 4) (b := 1) rfl rfl (by omega) (by omega)).mp c_192_2
                                                                      omega
                                                                  · have c_183 := (n_eq (a := 4) (b := 5) rfl rfl (by omega) (by omega)).mp c_183
                                                                    omega
                                                                · have c_168 := (n_eq (a := 4) (b := 6) rfl rfl (by omega) (by omega)).mp c_168
                                                                  omega
                                                            · have c_159_30 := (not_congr (n_le (a := 2) (b := 4) rfl rfl (by omega) (by omega))).mp c_159_30
                                                              omega
                                                          · have c_159_22 := (n_eq (a := 1) (b := 0) rfl rfl (by omega) (by omega)).mp c_159_22
                                                            omega
                                                    · have c_144 := (n_eq (a := 4) (b := 6) rfl rfl (by omega) (by omega)).mp c_144
                                                      omega
                                                  · have c_130 := (not_congr (n_le (a := 50) (b := (10 * 6 + a)) rfl rfl (by omega) (by omega))).mp c_130
                                                    omega
                                                · have c_120 := (not_congr (n_le (a := 30) (b := (10 * 6 + a)) rfl rfl (by omega) (by omega))).mp c_120
                                                  omega
                                              · have c_110 := (not_congr (n_le (a := 20) (b := (10 * 6 + a)) rfl rfl (by omega) (by omega))).mp c_110
                                                omega
                                            · have c_99 := (n_eq (a := (10 * 6 + a)) (b := 1) rfl rfl (by omega) (by omega)).mp c_99
                                              omega
                                          · have c_82 := (n_eq (a := (10 * 6 + a)) (b := 0) rfl rfl (by omega) (by omega)).mp c_82
                                            omega
                                        · have c_75 := (not_congr (n_le (a := zs) (b := 6) rfl rfl (by omega) (by omega))).mp c_75
                                          omega
                                      · have c_61 := (n_eq (a := 1) (b := 0) rfl rfl (by omega) (by omega)).mp c_61
                                        omega
                                    · have c_49 := (n_eq (a := 1) (b := 0) rfl rfl (by omega) (by omega)).mp c_49
                                      omega
                          · have c_42 := (not_congr (n_le (a := zs) (b := 6) rfl rfl (by omega) (by omega))).mp c_42
                            omega
                        · exact absurd c_30 (io_m1 (by omega))
                      · have c_12 := (n_eq (a := 1) (b := 0) rfl rfl (by omega) (by omega)).mp c_12
                        omega
                · have c_9_3 := (not_congr (n_le (a := 10) (b := (10 * 6 + a)) rfl rfl (by omega) (by omega))).mp c_9_3
                  omega
          · have ha : k % 10 < n := hka
            refine M_go (ls := [_, _, _, _, _]) (ml := 5) rfl rfl rfl (zl rfl) rfl ?_
            refine r_iload_n rfl ?_
            refine r_static (vs := [_]) (by decide) (zl rfl) rfl rfl (zl rfl) (Nat.le_refl _) rfl ?_
            refine s_isSheet (by omega) ?_
            rw [if_pos (inN_io hs (by omega))]
            refine r_if_eq (fun c_4 => ?_) (fun c_4 => ?_)
            · have c_4 := (n_eq (a := 1) (b := 0) rfl rfl (by omega) (by omega)).mp c_4
              omega
            · have c_4 := (not_congr (n_eq (a := 1) (b := 0) rfl rfl (by omega) (by omega))).mp c_4
              refine r_aload_n rfl ?_
              refine r_iload_n rfl ?_
              refine r_virtual (vs := []) (as := [_]) (by decide) (zl rfl) rfl rfl (zl rfl) (Nat.le_refl _) (Or.inr (Or.inr ⟨zt rfl, rfl, zt rfl⟩)) ?_
              refine M_go (ls := [_, _]) (ml := 2) rfl rfl rfl (zl rfl) rfl ?_
              refine r_iload_n rfl ?_
              refine r_bipush ?_
              refine r_icmp_ge (fun c_9_3 => ?_) (fun c_9_3 => ?_)
              · have c_9_3 := (n_le (a := 10) (b := k) rfl rfl (by omega) (by omega)).mp c_9_3
                refine E_go 1 rfl ?_
                refine r_iload_n rfl ?_
                refine r_bipush ?_
                refine r_icmp_ge (fun c_9_14 => ?_) (fun c_9_14 => ?_)
                · have c_9_14 := (n_le (a := 70) (b := k) rfl rfl (by omega) (by omega)).mp c_9_14
                  omega
                · have c_9_14 := (not_congr (n_le (a := 70) (b := k) rfl rfl (by omega) (by omega))).mp c_9_14
                  refine r_aload_n rfl ?_
                  refine r_iload_n rfl ?_
                  refine r_bipush ?_
                  refine r_irem (by decide) ?_
                  rw [show io k - io k / 10 * 10 = io (k % 10) from (n_rem (a := k) (b := 10) rfl rfl (by omega) (by omega)).trans (congrArg io (by omega))]
                  refine r_virtual (vs := []) (as := [_]) (by decide) (zl rfl) rfl rfl (zl rfl) (Nat.le_refl _) (Or.inr (Or.inr ⟨zt rfl, rfl, zt rfl⟩)) ?_
                  refine s_isAunt (by omega) R.cn h5 ?_
                  rw [if_pos (inN_io ha (by omega))]
                  refine r_if_eq (fun c_9_25 => ?_) (fun c_9_25 => ?_)
                  · have c_9_25 := (n_eq (a := 1) (b := 0) rfl rfl (by omega) (by omega)).mp c_9_25
                    omega
                  · have c_9_25 := (not_congr (n_eq (a := 1) (b := 0) rfl rfl (by omega) (by omega))).mp c_9_25
                    refine r_iconst ?_
                    refine r_goto ?_
                    refine E_go 3 rfl ?_
                    refine r_iret rfl (by first | exact Or.inl rfl | exact Or.inr rfl) ?_
                    refine r_if_ne (fun c_12 => ?_) (fun c_12 => ?_)
                    · have c_12 := (not_congr (n_eq (a := 1) (b := 0) rfl rfl (by omega) (by omega))).mp c_12
                      refine E_go 2 rfl ?_
                      refine r_aload_n rfl ?_
                      refine r_getA (q := 34) (by decide) rfl rfl (by decide) ?_
                      refine r_iload_n rfl ?_
                      refine r_aaload (by decide) (by decide) (ixE rfl (show s < 4 by omega) (by decide)) (shK s hs).2.2.1 ?_
                      refine r_astore_n (ls' := [_, _, _, _, _]) (zt rfl) rfl ?_
                      refine r_aload_n rfl ?_
                      refine r_getI (by decide) rfl (shK s hs).1 (shK s hs).2.1 p2.1 ?_
                      refine r_iconst ?_
                      refine r_icmp_ne (fun c_30 => ?_) (fun c_30 => ?_)
                      · refine E_go 3 rfl ?_
                        refine r_aload_n rfl ?_
                        refine r_getI (by decide) rfl (shK s hs).1 (shK s hs).2.1 p2.2 ?_
                        refine r_bipush ?_
                        refine r_icmp_le (fun c_42 => ?_) (fun c_42 => ?_)
                        · have c_42 := (n_le (a := zs) (b := 6) rfl rfl (by omega) (by omega)).mp c_42
                          omega
                        · have c_42 := (not_congr (n_le (a := zs) (b := 6) rfl rfl (by omega) (by omega))).mp c_42
                          refine r_bipush ?_
                          refine r_iret rfl trivial ?_
                          refine M_go (ls := [_, _, _, _, _, _, _, _, _, _, _, _]) (ml := 12) rfl rfl rfl (zl rfl) rfl ?_
                          refine r_iload_n rfl ?_
                          refine r_i2l ?_
                          refine r_ldc2_w ?_
                          refine r_ldc2_w ?_
                          refine r_static (vs := [_, _, _]) (by decide) (zl rfl) rfl rfl (zl rfl) (Nat.le_refl _) rfl ?_
                          refine s_inr (by omega) (x := io k) (lo := 10) (hi := 69) (Int32.toInt_toInt64 _) (by decide) (by decide) ?_
                          rw [if_pos (by rw [io_int (by omega)]; omega)]
                          refine r_if_eq (fun c_11 => ?_) (fun c_11 => ?_)
                          · have c_11 := (n_eq (a := 1) (b := 0) rfl rfl (by omega) (by omega)).mp c_11
                            omega
                          · have c_11 := (not_congr (n_eq (a := 1) (b := 0) rfl rfl (by omega) (by omega))).mp c_11
                            refine r_aload_n rfl ?_
                            refine r_iload_n rfl ?_
                            refine r_bipush ?_
                            refine r_irem (by decide) ?_
                            rw [show io k - io k / 10 * 10 = io (k % 10) from (n_rem (a := k) (b := 10) rfl rfl (by omega) (by omega)).trans (congrArg io (by omega))]
                            refine r_virtual (vs := []) (as := [_]) (by decide) (zl rfl) rfl rfl (zl rfl) (Nat.le_refl _) (Or.inr (Or.inr ⟨zt rfl, rfl, zt rfl⟩)) ?_
                            refine s_isOne (by omega) R.mn h5 ?_
                            rw [if_pos (inN_io ha (by omega))]
                            refine r_if_eq (fun c_22 => ?_) (fun c_22 => ?_)
                            · have c_22 := (n_eq (a := 1) (b := 0) rfl rfl (by omega) (by omega)).mp c_22
                              omega
                            · have c_22 := (not_congr (n_eq (a := 1) (b := 0) rfl rfl (by omega) (by omega))).mp c_22
                              refine r_iconst ?_
                              refine r_goto ?_
                              refine E_go 2 rfl ?_
                              refine r_istore_n (ls' := [_, _, _, _, _, _, _, _, _, _, _, _]) (zt rfl) rfl ?_
                              refine r_iload_n rfl ?_
                              refine r_static (vs := [_]) (by decide) (zl rfl) rfl rfl (zl rfl) (Nat.le_refl _) rfl ?_
                              refine s_misSheet (by omega) ?_
                              rw [if_pos (inN_io hs (by omega))]
                              refine r_if_eq (fun c_35 => ?_) (fun c_35 => ?_)
                              · have c_35 := (n_eq (a := 1) (b := 0) rfl rfl (by omega) (by omega)).mp c_35
                                omega
                              · have c_35 := (not_congr (n_eq (a := 1) (b := 0) rfl rfl (by omega) (by omega))).mp c_35
                                refine r_iload_n rfl ?_
                                refine r_i2l ?_
                                refine r_lconst ?_
                                refine r_lconst ?_
                                refine r_static (vs := [_, _, _]) (by decide) (zl rfl) rfl rfl (zl rfl) (Nat.le_refl _) rfl ?_
                                refine s_in0 (by omega) (x := io k) (k := 2) (Int32.toInt_toInt64 _) i64_0 rfl ?_
                                rw [if_neg (fun q => by have q2 := q.2; rw [io_int (by omega)] at q2; omega)]
                                refine r_if_ne (fun c_45 => ?_) (fun c_45 => ?_)
                                · have c_45 := (not_congr (n_eq (a := 0) (b := 0) rfl rfl (by omega) (by omega))).mp c_45
                                  omega
                                · have c_45 := (n_eq (a := 0) (b := 0) rfl rfl (by omega) (by omega)).mp c_45
                                  refine r_iload_n rfl ?_
                                  refine r_if_ne (fun c_49 => ?_) (fun c_49 => ?_)
                                  · have c_49 := (not_congr (n_eq (a := 1) (b := 0) rfl rfl (by omega) (by omega))).mp c_49
                                    refine E_go 4 rfl ?_
                                    refine r_aload_n rfl ?_
                                    refine r_getA (q := 78) (by decide) rfl rfl (by decide) ?_
                                    refine r_iload_n rfl ?_
                                    refine r_baload (by decide) rfl (by decide) (ixE rfl (show s < 4 by omega) (by decide)) p3.1 ?_
                                    refine r_if_ne (fun c_61 => ?_) (fun c_61 => ?_)
                                    · have c_61 := (not_congr (n_eq (a := 1) (b := 0) rfl rfl (by omega) (by omega))).mp c_61
                                      refine E_go 5 rfl ?_
                                      refine r_aload_n rfl ?_
                                      refine r_getA (q := 80) (by decide) rfl rfl (by decide) ?_
                                      refine r_iload_n rfl ?_
                                      refine r_iaload (by decide) rfl (by decide) (ixE rfl (show s < 4 by omega) (by decide)) p3.2.2 ?_
                                      refine r_bipush ?_
                                      refine r_icmp_le (fun c_75 => ?_) (fun c_75 => ?_)
                                      · have c_75 := (n_le (a := zs) (b := 6) rfl rfl (by omega) (by omega)).mp c_75
                                        omega
                                      · have c_75 := (not_congr (n_le (a := zs) (b := 6) rfl rfl (by omega) (by omega))).mp c_75
                                        refine r_bipush ?_
                                        refine r_iret rfl trivial ?_
                                        exact hQ _ _ _ R.rel
                                    · have c_61 := (n_eq (a := 1) (b := 0) rfl rfl (by omega) (by omega)).mp c_61
                                      omega
                                  · have c_49 := (n_eq (a := 1) (b := 0) rfl rfl (by omega) (by omega)).mp c_49
                                    omega
                      · exact absurd c_30 (io_m1 (by omega))
                    · have c_12 := (n_eq (a := 1) (b := 0) rfl rfl (by omega) (by omega)).mp c_12
                      omega
              · have c_9_3 := (not_congr (n_le (a := 10) (b := k) rfl rfl (by omega) (by omega))).mp c_9_3
                omega
    · have h01 : ¬ inN 2 y := fun q => hv (Or.inl q)
      by_cases hb : 10 ≤ y.toInt ∧ y.toInt ≤ 69
      · have hna : ¬ inN n (y - y / 10 * 10) := fun q => hv (Or.inr ⟨hb, q⟩)
        refine M_go (ls := [_, _, _, _, _]) (ml := 5) rfl rfl rfl (zl rfl) rfl ?_
        refine r_iload_n rfl ?_
        refine r_static (vs := [_]) (by decide) (zl rfl) rfl rfl (zl rfl) (Nat.le_refl _) rfl ?_
        refine s_isSheet (by omega) ?_
        rw [if_pos hx]
        refine r_if_eq (fun c_4 => ?_) (fun c_4 => ?_)
        · have c_4 := (n_eq (a := 1) (b := 0) rfl rfl (by omega) (by omega)).mp c_4
          omega
        · have c_4 := (not_congr (n_eq (a := 1) (b := 0) rfl rfl (by omega) (by omega))).mp c_4
          refine r_aload_n rfl ?_
          refine r_iload_n rfl ?_
          refine r_virtual (vs := []) (as := [_]) (by decide) (zl rfl) rfl rfl (zl rfl) (Nat.le_refl _) (Or.inr (Or.inr ⟨zt rfl, rfl, zt rfl⟩)) ?_
          refine M_go (ls := [_, _]) (ml := 2) rfl rfl rfl (zl rfl) rfl ?_
          refine r_iload_n rfl ?_
          refine r_bipush ?_
          refine r_icmp_ge (fun c_9_3 => ?_) (fun c_9_3 => ?_)
          · have c_9_3 := (kle (b := 10) rfl (by omega)).mp c_9_3
            refine E_go 1 rfl ?_
            refine r_iload_n rfl ?_
            refine r_bipush ?_
            refine r_icmp_ge (fun c_9_14 => ?_) (fun c_9_14 => ?_)
            · have c_9_14 := (kle (b := 70) rfl (by omega)).mp c_9_14
              omega
            · have c_9_14 := (not_congr (kle (b := 70) rfl (by omega))).mp c_9_14
              refine r_aload_n rfl ?_
              refine r_iload_n rfl ?_
              refine r_bipush ?_
              refine r_irem (by decide) ?_
              refine r_virtual (vs := []) (as := [_]) (by decide) (zl rfl) rfl rfl (zl rfl) (Nat.le_refl _) (Or.inr (Or.inr ⟨zt rfl, rfl, zt rfl⟩)) ?_
              refine s_isAunt (by omega) R.cn h5 ?_
              rw [if_neg hna]
              refine r_if_eq (fun c_9_25 => ?_) (fun c_9_25 => ?_)
              · have c_9_25 := (n_eq (a := 0) (b := 0) rfl rfl (by omega) (by omega)).mp c_9_25
                refine E_go 2 rfl ?_
                refine r_iconst ?_
                refine r_nil ?_
                refine E_go 3 rfl ?_
                refine r_iret rfl (by first | exact Or.inl rfl | exact Or.inr rfl) ?_
                refine r_if_ne (fun c_12 => ?_) (fun c_12 => ?_)
                · have c_12 := (not_congr (n_eq (a := 0) (b := 0) rfl rfl (by omega) (by omega))).mp c_12
                  omega
                · have c_12 := (n_eq (a := 0) (b := 0) rfl rfl (by omega) (by omega)).mp c_12
                  refine r_nil ?_
                  refine E_go 1 rfl ?_
                  refine r_bipush ?_
                  refine r_iret rfl trivial ?_
                  refine M_go (ls := [_, _, _, _, _, _, _, _, _, _, _, _]) (ml := 12) rfl rfl rfl (zl rfl) rfl ?_
                  refine r_iload_n rfl ?_
                  refine r_i2l ?_
                  refine r_ldc2_w ?_
                  refine r_ldc2_w ?_
                  refine r_static (vs := [_, _, _]) (by decide) (zl rfl) rfl rfl (zl rfl) (Nat.le_refl _) rfl ?_
                  refine s_inr (by omega) (x := y) (lo := 10) (hi := 69) (Int32.toInt_toInt64 _) (by decide) (by decide) ?_
                  rw [if_pos hb]
                  refine r_if_eq (fun c_11 => ?_) (fun c_11 => ?_)
                  · have c_11 := (n_eq (a := 1) (b := 0) rfl rfl (by omega) (by omega)).mp c_11
                    omega
                  · have c_11 := (not_congr (n_eq (a := 1) (b := 0) rfl rfl (by omega) (by omega))).mp c_11
                    refine r_aload_n rfl ?_
                    refine r_iload_n rfl ?_
                    refine r_bipush ?_
                    refine r_irem (by decide) ?_
                    refine r_virtual (vs := []) (as := [_]) (by decide) (zl rfl) rfl rfl (zl rfl) (Nat.le_refl _) (Or.inr (Or.inr ⟨zt rfl, rfl, zt rfl⟩)) ?_
                    refine s_isOne (by omega) R.mn h5 ?_
                    rw [if_neg hna]
                    refine r_if_eq (fun c_22 => ?_) (fun c_22 => ?_)
                    · have c_22 := (n_eq (a := 0) (b := 0) rfl rfl (by omega) (by omega)).mp c_22
                      refine E_go 1 rfl ?_
                      refine r_iconst ?_
                      refine r_nil ?_
                      refine E_go 2 rfl ?_
                      refine r_istore_n (ls' := [_, _, _, _, _, _, _, _, _, _, _, _]) (zt rfl) rfl ?_
                      refine r_iload_n rfl ?_
                      refine r_static (vs := [_]) (by decide) (zl rfl) rfl rfl (zl rfl) (Nat.le_refl _) rfl ?_
                      refine s_misSheet (by omega) ?_
                      rw [if_pos hx]
                      refine r_if_eq (fun c_35 => ?_) (fun c_35 => ?_)
                      · have c_35 := (n_eq (a := 1) (b := 0) rfl rfl (by omega) (by omega)).mp c_35
                        omega
                      · have c_35 := (not_congr (n_eq (a := 1) (b := 0) rfl rfl (by omega) (by omega))).mp c_35
                        refine r_iload_n rfl ?_
                        refine r_i2l ?_
                        refine r_lconst ?_
                        refine r_lconst ?_
                        refine r_static (vs := [_, _, _]) (by decide) (zl rfl) rfl rfl (zl rfl) (Nat.le_refl _) rfl ?_
                        refine s_in0 (by omega) (x := y) (k := 2) (Int32.toInt_toInt64 _) i64_0 rfl ?_
                        rw [if_neg h01]
                        refine r_if_ne (fun c_45 => ?_) (fun c_45 => ?_)
                        · have c_45 := (not_congr (n_eq (a := 0) (b := 0) rfl rfl (by omega) (by omega))).mp c_45
                          omega
                        · have c_45 := (n_eq (a := 0) (b := 0) rfl rfl (by omega) (by omega)).mp c_45
                          refine r_iload_n rfl ?_
                          refine r_if_ne (fun c_49 => ?_) (fun c_49 => ?_)
                          · have c_49 := (not_congr (n_eq (a := 0) (b := 0) rfl rfl (by omega) (by omega))).mp c_49
                            omega
                          · have c_49 := (n_eq (a := 0) (b := 0) rfl rfl (by omega) (by omega)).mp c_49
                            refine r_nil ?_
                            refine E_go 3 rfl ?_
                            refine r_bipush ?_
                            refine r_iret rfl trivial ?_
                            exact hQ _ _ _ R.rel
                    · have c_22 := (not_congr (n_eq (a := 0) (b := 0) rfl rfl (by omega) (by omega))).mp c_22
                      omega
              · have c_9_25 := (not_congr (n_eq (a := 0) (b := 0) rfl rfl (by omega) (by omega))).mp c_9_25
                omega
          · have c_9_3 := (not_congr (kle (b := 10) rfl (by omega))).mp c_9_3
            omega
      · refine M_go (ls := [_, _, _, _, _]) (ml := 5) rfl rfl rfl (zl rfl) rfl ?_
        refine r_iload_n rfl ?_
        refine r_static (vs := [_]) (by decide) (zl rfl) rfl rfl (zl rfl) (Nat.le_refl _) rfl ?_
        refine s_isSheet (by omega) ?_
        rw [if_pos hx]
        refine r_if_eq (fun c_4 => ?_) (fun c_4 => ?_)
        · have c_4 := (n_eq (a := 1) (b := 0) rfl rfl (by omega) (by omega)).mp c_4
          omega
        · have c_4 := (not_congr (n_eq (a := 1) (b := 0) rfl rfl (by omega) (by omega))).mp c_4
          refine r_aload_n rfl ?_
          refine r_iload_n rfl ?_
          refine r_virtual (vs := []) (as := [_]) (by decide) (zl rfl) rfl rfl (zl rfl) (Nat.le_refl _) (Or.inr (Or.inr ⟨zt rfl, rfl, zt rfl⟩)) ?_
          refine M_go (ls := [_, _]) (ml := 2) rfl rfl rfl (zl rfl) rfl ?_
          refine r_iload_n rfl ?_
          refine r_bipush ?_
          refine r_icmp_ge (fun c_9_3 => ?_) (fun c_9_3 => ?_)
          · have c_9_3 := (kle (b := 10) rfl (by omega)).mp c_9_3
            refine E_go 1 rfl ?_
            refine r_iload_n rfl ?_
            refine r_bipush ?_
            refine r_icmp_ge (fun c_9_14 => ?_) (fun c_9_14 => ?_)
            · have c_9_14 := (kle (b := 70) rfl (by omega)).mp c_9_14
              refine E_go 2 rfl ?_
              refine r_iconst ?_
              refine r_nil ?_
              refine E_go 3 rfl ?_
              refine r_iret rfl (by first | exact Or.inl rfl | exact Or.inr rfl) ?_
              refine r_if_ne (fun c_12 => ?_) (fun c_12 => ?_)
              · have c_12 := (not_congr (n_eq (a := 0) (b := 0) rfl rfl (by omega) (by omega))).mp c_12
                omega
              · have c_12 := (n_eq (a := 0) (b := 0) rfl rfl (by omega) (by omega)).mp c_12
                refine r_nil ?_
                refine E_go 1 rfl ?_
                refine r_bipush ?_
                refine r_iret rfl trivial ?_
                refine M_go (ls := [_, _, _, _, _, _, _, _, _, _, _, _]) (ml := 12) rfl rfl rfl (zl rfl) rfl ?_
                refine r_iload_n rfl ?_
                refine r_i2l ?_
                refine r_ldc2_w ?_
                refine r_ldc2_w ?_
                refine r_static (vs := [_, _, _]) (by decide) (zl rfl) rfl rfl (zl rfl) (Nat.le_refl _) rfl ?_
                refine s_inr (by omega) (x := y) (lo := 10) (hi := 69) (Int32.toInt_toInt64 _) (by decide) (by decide) ?_
                rw [if_neg hb]
                refine r_if_eq (fun c_11 => ?_) (fun c_11 => ?_)
                · have c_11 := (n_eq (a := 0) (b := 0) rfl rfl (by omega) (by omega)).mp c_11
                  refine E_go 1 rfl ?_
                  refine r_iconst ?_
                  refine r_nil ?_
                  refine E_go 2 rfl ?_
                  refine r_istore_n (ls' := [_, _, _, _, _, _, _, _, _, _, _, _]) (zt rfl) rfl ?_
                  refine r_iload_n rfl ?_
                  refine r_static (vs := [_]) (by decide) (zl rfl) rfl rfl (zl rfl) (Nat.le_refl _) rfl ?_
                  refine s_misSheet (by omega) ?_
                  rw [if_pos hx]
                  refine r_if_eq (fun c_35 => ?_) (fun c_35 => ?_)
                  · have c_35 := (n_eq (a := 1) (b := 0) rfl rfl (by omega) (by omega)).mp c_35
                    omega
                  · have c_35 := (not_congr (n_eq (a := 1) (b := 0) rfl rfl (by omega) (by omega))).mp c_35
                    refine r_iload_n rfl ?_
                    refine r_i2l ?_
                    refine r_lconst ?_
                    refine r_lconst ?_
                    refine r_static (vs := [_, _, _]) (by decide) (zl rfl) rfl rfl (zl rfl) (Nat.le_refl _) rfl ?_
                    refine s_in0 (by omega) (x := y) (k := 2) (Int32.toInt_toInt64 _) i64_0 rfl ?_
                    rw [if_neg h01]
                    refine r_if_ne (fun c_45 => ?_) (fun c_45 => ?_)
                    · have c_45 := (not_congr (n_eq (a := 0) (b := 0) rfl rfl (by omega) (by omega))).mp c_45
                      omega
                    · have c_45 := (n_eq (a := 0) (b := 0) rfl rfl (by omega) (by omega)).mp c_45
                      refine r_iload_n rfl ?_
                      refine r_if_ne (fun c_49 => ?_) (fun c_49 => ?_)
                      · have c_49 := (not_congr (n_eq (a := 0) (b := 0) rfl rfl (by omega) (by omega))).mp c_49
                        omega
                      · have c_49 := (n_eq (a := 0) (b := 0) rfl rfl (by omega) (by omega)).mp c_49
                        refine r_nil ?_
                        refine E_go 3 rfl ?_
                        refine r_bipush ?_
                        refine r_iret rfl trivial ?_
                        exact hQ _ _ _ R.rel
                · have c_11 := (not_congr (n_eq (a := 0) (b := 0) rfl rfl (by omega) (by omega))).mp c_11
                  omega
            · have c_9_14 := (not_congr (kle (b := 70) rfl (by omega))).mp c_9_14
              exact absurd ⟨by omega, by omega⟩ hb
          · have c_9_3 := (not_congr (kle (b := 10) rfl (by omega))).mp c_9_3
            refine r_iload_n rfl ?_
            refine r_static (vs := [_]) (by decide) (zl rfl) rfl rfl (zl rfl) (Nat.le_refl _) rfl ?_
            refine s_isEither (by omega) ?_
            rw [if_neg h01]
            refine r_iret rfl (by first | exact Or.inl rfl | exact Or.inr rfl) ?_
            refine r_if_ne (fun c_12 => ?_) (fun c_12 => ?_)
            · have c_12 := (not_congr (n_eq (a := 0) (b := 0) rfl rfl (by omega) (by omega))).mp c_12
              omega
            · have c_12 := (n_eq (a := 0) (b := 0) rfl rfl (by omega) (by omega)).mp c_12
              refine r_nil ?_
              refine E_go 1 rfl ?_
              refine r_bipush ?_
              refine r_iret rfl trivial ?_
              refine M_go (ls := [_, _, _, _, _, _, _, _, _, _, _, _]) (ml := 12) rfl rfl rfl (zl rfl) rfl ?_
              refine r_iload_n rfl ?_
              refine r_i2l ?_
              refine r_ldc2_w ?_
              refine r_ldc2_w ?_
              refine r_static (vs := [_, _, _]) (by decide) (zl rfl) rfl rfl (zl rfl) (Nat.le_refl _) rfl ?_
              refine s_inr (by omega) (x := y) (lo := 10) (hi := 69) (Int32.toInt_toInt64 _) (by decide) (by decide) ?_
              rw [if_neg hb]
              refine r_if_eq (fun c_11 => ?_) (fun c_11 => ?_)
              · have c_11 := (n_eq (a := 0) (b := 0) rfl rfl (by omega) (by omega)).mp c_11
                refine E_go 1 rfl ?_
                refine r_iconst ?_
                refine r_nil ?_
                refine E_go 2 rfl ?_
                refine r_istore_n (ls' := [_, _, _, _, _, _, _, _, _, _, _, _]) (zt rfl) rfl ?_
                refine r_iload_n rfl ?_
                refine r_static (vs := [_]) (by decide) (zl rfl) rfl rfl (zl rfl) (Nat.le_refl _) rfl ?_
                refine s_misSheet (by omega) ?_
                rw [if_pos hx]
                refine r_if_eq (fun c_35 => ?_) (fun c_35 => ?_)
                · have c_35 := (n_eq (a := 1) (b := 0) rfl rfl (by omega) (by omega)).mp c_35
                  omega
                · have c_35 := (not_congr (n_eq (a := 1) (b := 0) rfl rfl (by omega) (by omega))).mp c_35
                  refine r_iload_n rfl ?_
                  refine r_i2l ?_
                  refine r_lconst ?_
                  refine r_lconst ?_
                  refine r_static (vs := [_, _, _]) (by decide) (zl rfl) rfl rfl (zl rfl) (Nat.le_refl _) rfl ?_
                  refine s_in0 (by omega) (x := y) (k := 2) (Int32.toInt_toInt64 _) i64_0 rfl ?_
                  rw [if_neg h01]
                  refine r_if_ne (fun c_45 => ?_) (fun c_45 => ?_)
                  · have c_45 := (not_congr (n_eq (a := 0) (b := 0) rfl rfl (by omega) (by omega))).mp c_45
                    omega
                  · have c_45 := (n_eq (a := 0) (b := 0) rfl rfl (by omega) (by omega)).mp c_45
                    refine r_iload_n rfl ?_
                    refine r_if_ne (fun c_49 => ?_) (fun c_49 => ?_)
                    · have c_49 := (not_congr (n_eq (a := 0) (b := 0) rfl rfl (by omega) (by omega))).mp c_49
                      omega
                    · have c_49 := (n_eq (a := 0) (b := 0) rfl rfl (by omega) (by omega)).mp c_49
                      refine r_nil ?_
                      refine E_go 3 rfl ?_
                      refine r_bipush ?_
                      refine r_iret rfl trivial ?_
                      exact hQ _ _ _ R.rel
              · have c_11 := (not_congr (n_eq (a := 0) (b := 0) rfl rfl (by omega) (by omega))).mp c_11
                omega
  · refine M_go (ls := [_, _, _, _, _]) (ml := 5) rfl rfl rfl (zl rfl) rfl ?_
    refine r_iload_n rfl ?_
    refine r_static (vs := [_]) (by decide) (zl rfl) rfl rfl (zl rfl) (Nat.le_refl _) rfl ?_
    refine s_isSheet (by omega) ?_
    rw [if_neg hx]
    refine r_if_eq (fun c_4 => ?_) (fun c_4 => ?_)
    · have c_4 := (n_eq (a := 0) (b := 0) rfl rfl (by omega) (by omega)).mp c_4
      refine E_go 1 rfl ?_
      refine r_bipush ?_
      refine r_iret rfl trivial ?_
      refine M_go (ls := [_, _, _, _, _, _, _, _, _, _, _, _]) (ml := 12) rfl rfl rfl (zl rfl) rfl ?_
      refine r_iload_n rfl ?_
      refine r_i2l ?_
      refine r_ldc2_w ?_
      refine r_ldc2_w ?_
      refine r_static (vs := [_, _, _]) (by decide) (zl rfl) rfl rfl (zl rfl) (Nat.le_refl _) rfl ?_
      refine s_inr (by omega) (x := y) (lo := 10) (hi := 69) (Int32.toInt_toInt64 _) (by decide) (by decide) ?_
      refine r_if_eq (fun c_11 => ?_) (fun c_11 => ?_)
      · have c_11 := (jeq (b := 0) rfl (by omega)).mp c_11
        refine E_go 1 rfl ?_
        refine r_iconst ?_
        refine r_nil ?_
        refine E_go 2 rfl ?_
        refine r_istore_n (ls' := [_, _, _, _, _, _, _, _, _, _, _, _]) (zt rfl) rfl ?_
        refine r_iload_n rfl ?_
        refine r_static (vs := [_]) (by decide) (zl rfl) rfl rfl (zl rfl) (Nat.le_refl _) rfl ?_
        refine s_misSheet (by omega) ?_
        rw [if_neg hx]
        refine r_if_eq (fun c_35 => ?_) (fun c_35 => ?_)
        · have c_35 := (n_eq (a := 0) (b := 0) rfl rfl (by omega) (by omega)).mp c_35
          refine E_go 3 rfl ?_
          refine r_bipush ?_
          refine r_iret rfl trivial ?_
          exact hQ _ _ _ R.rel
        · have c_35 := (not_congr (n_eq (a := 0) (b := 0) rfl rfl (by omega) (by omega))).mp c_35
          omega
      · have c_11 := (not_congr (jeq (b := 0) rfl (by omega))).mp c_11
        refine r_aload_n rfl ?_
        refine r_iload_n rfl ?_
        refine r_bipush ?_
        refine r_irem (by decide) ?_
        refine r_virtual (vs := []) (as := [_]) (by decide) (zl rfl) rfl rfl (zl rfl) (Nat.le_refl _) (Or.inr (Or.inr ⟨zt rfl, rfl, zt rfl⟩)) ?_
        refine s_isOne (by omega) R.mn h5 ?_
        refine r_if_eq (fun c_22 => ?_) (fun c_22 => ?_)
        · have c_22 := (jeq (b := 0) rfl (by omega)).mp c_22
          refine E_go 1 rfl ?_
          refine r_iconst ?_
          refine r_nil ?_
          refine E_go 2 rfl ?_
          refine r_istore_n (ls' := [_, _, _, _, _, _, _, _, _, _, _, _]) (zt rfl) rfl ?_
          refine r_iload_n rfl ?_
          refine r_static (vs := [_]) (by decide) (zl rfl) rfl rfl (zl rfl) (Nat.le_refl _) rfl ?_
          refine s_misSheet (by omega) ?_
          rw [if_neg hx]
          refine r_if_eq (fun c_35 => ?_) (fun c_35 => ?_)
          · have c_35 := (n_eq (a := 0) (b := 0) rfl rfl (by omega) (by omega)).mp c_35
            refine E_go 3 rfl ?_
            refine r_bipush ?_
            refine r_iret rfl trivial ?_
            exact hQ _ _ _ R.rel
          · have c_35 := (not_congr (n_eq (a := 0) (b := 0) rfl rfl (by omega) (by omega))).mp c_35
            omega
        · have c_22 := (not_congr (jeq (b := 0) rfl (by omega))).mp c_22
          refine r_iconst ?_
          refine r_goto ?_
          refine E_go 2 rfl ?_
          refine r_istore_n (ls' := [_, _, _, _, _, _, _, _, _, _, _, _]) (zt rfl) rfl ?_
          refine r_iload_n rfl ?_
          refine r_static (vs := [_]) (by decide) (zl rfl) rfl rfl (zl rfl) (Nat.le_refl _) rfl ?_
          refine s_misSheet (by omega) ?_
          rw [if_neg hx]
          refine r_if_eq (fun c_35 => ?_) (fun c_35 => ?_)
          · have c_35 := (n_eq (a := 0) (b := 0) rfl rfl (by omega) (by omega)).mp c_35
            refine E_go 3 rfl ?_
            refine r_bipush ?_
            refine r_iret rfl trivial ?_
            exact hQ _ _ _ R.rel
          · have c_35 := (not_congr (n_eq (a := 0) (b := 0) rfl rfl (by omega) (by omega))).mp c_35
            omega
    · have c_4 := (not_congr (n_eq (a := 0) (b := 0) rfl rfl (by omega) (by omega))).mp c_4
      omega
