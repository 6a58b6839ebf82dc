/-! calls: told, set, force, feed -/

set_option maxRecDepth 10000 in
theorem tz_told {xs : xSc} {m : Nat} {I : Nat → Nat → Int32} {L : Nat → Nat → Int64} {Q : Value → Value → xHp → Prop} (hm : 90 ≤ m) (hR : Rel I) {x y : Int32} (hQ : ∀ (x : Int32) J L2, Rel J → Q (.int x) (.int x) (Hp J L2)) : M xs m xi_X6_told [.ref 0, .int x, .int y] (Hp I L) (fun r1 h1 => M xs m xi_X7_told [.ref 61, .int x, .int y] h1 (fun r2 h2 => Q r1 r2 h2)) := by
  obtain ⟨m, rfl⟩ : ∃ k, m = k + 6 := ⟨m - 6, by omega⟩
  obtain ⟨n, tc, r, tp, R⟩ := hR
  have h5 := R.n5
  have hr6 := R.r6
  have ht6 := R.t6
  have hrt := R.rt
  have hp160 := R.2.2.1.1.1
  by_cases hw : inN 8 y
  · obtain ⟨k, hk, rfl⟩ := inN_ex (n := 8) hw (by omega)
    have ek : k = 0 ∨ k = 1 ∨ k = 2 ∨ k = 3 ∨ k = 4 ∨ k = 5 ∨ k = 6 ∨ k = 7 := by omega
    rcases ek with rfl | rfl | rfl | rfl | rfl | rfl | rfl | rfl
    · refine M_go (ls := [_, _, _]) (ml := 3) rfl rfl rfl (zl rfl) rfl ?_
      refine r_iload_n rfl ?_
      refine r_if_lt (fun c_1 => ?_) (fun c_1 => ?_)
      · have c_1 := (n_lt (a := 0) (b := 0) rfl rfl (by omega) (by omega)).mp c_1
        omega
      · have c_1 := (not_congr (n_lt (a := 0) (b := 0) rfl rfl (by omega) (by omega))).mp c_1
        refine r_iload_n rfl ?_
        refine r_bipush ?_
        refine r_icmp_gt (fun c_7 => ?_) (fun c_7 => ?_)
        · have c_7 := (n_lt (a := 7) (b := 0) rfl rfl (by omega) (by omega)).mp c_7
          omega
        · have c_7 := (not_congr (n_lt (a := 7) (b := 0) rfl rfl (by omega) (by omega))).mp c_7
          refine r_aload_n rfl ?_
          refine r_iload_n rfl ?_
          refine r_iload_n rfl ?_
          refine r_virtual (vs := []) (as := [_, _]) (by decide) (zl rfl) rfl rfl (zl rfl) (Nat.le_refl _) (Or.inr (Or.inr ⟨zt rfl, rfl, zt rfl⟩)) ?_
          refine M_go (ls := [_, _, _]) (ml := 3) rfl rfl rfl (zl rfl) rfl ?_
          refine r_iload_n rfl ?_
          refine r_if_eq (fun c_13_1 => ?_) (fun c_13_1 => ?_)
          · have c_13_1 := (n_eq (a := 0) (b := 0) rfl rfl (by omega) (by omega)).mp c_13_1
            refine E_go 1 rfl ?_
            refine r_iconst ?_
            refine r_goto ?_
            refine E_go 3 rfl ?_
            refine r_iret rfl (by first | exact Or.inl rfl | exact Or.inr rfl) ?_
            refine r_if_ne (fun c_16 => ?_) (fun c_16 => ?_)
            · have c_16 := (not_congr (n_eq (a := 1) (b := 0) rfl rfl (by omega) (by omega))).mp c_16
              refine E_go 2 rfl ?_
              refine r_aload_n rfl ?_
              refine r_getA (q := 1) (by decide) rfl rfl (by decide) ?_
              refine r_iload_n rfl ?_
              refine r_iload_n rfl ?_
              refine r_virtual (vs := []) (as := [_, _]) (by decide) (zl rfl) rfl rfl (zl rfl) (Nat.le_refl _) (Or.inr (Or.inr ⟨zt rfl, rfl, zt rfl⟩)) ?_
              refine M_go (ls := [_, _, _]) (ml := 3) rfl rfl rfl (zl rfl) rfl ?_
              refine r_iload_n rfl ?_
              refine r_table ?_
              refine r_sw1 (fun cs => ?_) (fun ds => ?_)
              · refine E_go 1 rfl ?_
                refine r_aload_n rfl ?_
                refine r_getI (by decide) rfl rfl (by decide) rfl ?_
                refine r_iret rfl trivial ?_
                refine r_iret rfl trivial ?_
                refine M_go (ls := [_, _, _]) (ml := 3) rfl rfl rfl (zl rfl) rfl ?_
                refine r_iload_n rfl ?_
                refine r_i2l ?_
                refine r_lconst ?_
                refine r_ldc2_w ?_
                refine r_static (vs := [_, _, _]) (by decide) (zl rfl) rfl rfl (zl rfl) (Nat.le_refl _) rfl ?_
                refine s_in0 (by omega) (x := (io 0)) (k := 8) (Int32.toInt_toInt64 _) i64_0 rfl ?_
                rw [if_pos (inN_io (by omega) (by omega))]
                refine r_if_eq (fun c_9 => ?_) (fun c_9 => ?_)
                · have c_9 := (n_eq (a := 1) (b := 0) rfl rfl (by omega) (by omega)).mp c_9
                  omega
                · have c_9 := (not_congr (n_eq (a := 1) (b := 0) rfl rfl (by omega) (by omega))).mp c_9
                  refine r_iload_n rfl ?_
                  refine r_iconst ?_
                  refine r_icmp_le (fun c_14 => ?_) (fun c_14 => ?_)
                  · have c_14 := (n_le (a := 0) (b := 1) rfl rfl (by omega) (by omega)).mp c_14
                    refine E_go 2 rfl ?_
                    refine r_iload_n rfl ?_
                    refine r_iconst ?_
                    refine r_icmp_ge (fun c_30 => ?_) (fun c_30 => ?_)
                    · have c_30 := (n_le (a := 2) (b := 0) rfl rfl (by omega) (by omega)).mp c_30
                      omega
                    · have c_30 := (not_congr (n_le (a := 2) (b := 0) rfl rfl (by omega) (by omega))).mp c_30
                      refine r_iload_n rfl ?_
                      refine r_if_ne (fun c_34 => ?_) (fun c_34 => ?_)
                      · have c_34 := (not_congr (n_eq (a := 0) (b := 0) rfl rfl (by omega) (by omega))).mp c_34
                        omega
                      · have c_34 := (n_eq (a := 0) (b := 0) rfl rfl (by omega) (by omega)).mp c_34
                        refine r_aload_n rfl ?_
                        refine r_getI (by decide) rfl rfl (by decide) R.mh ?_
                        refine r_goto ?_
                        refine E_go 4 rfl ?_
                        refine r_iret rfl trivial ?_
                        exact hQ _ _ _ R.rel
                  · have c_14 := (not_congr (n_le (a := 0) (b := 1) rfl rfl (by omega) (by omega))).mp c_14
                    omega
              · exact absurd rfl ds
            · have c_16 := (n_eq (a := 1) (b := 0) rfl rfl (by omega) (by omega)).mp c_16
              omega
          · have c_13_1 := (not_congr (n_eq (a := 0) (b := 0) rfl rfl (by omega) (by omega))).mp c_13_1
            omega
    · refine M_go (ls := [_, _, _]) (ml := 3) rfl rfl rfl (zl rfl) rfl ?_
      refine r_iload_n rfl ?_
      refine r_if_lt (fun c_1 => ?_) (fun c_1 => ?_)
      · have c_1 := (n_lt (a := 1) (b := 0) rfl rfl (by omega) (by omega)).mp c_1
        omega
      · have c_1 := (not_congr (n_lt (a := 1) (b := 0) rfl rfl (by omega) (by omega))).mp c_1
        refine r_iload_n rfl ?_
        refine r_bipush ?_
        refine r_icmp_gt (fun c_7 => ?_) (fun c_7 => ?_)
        · have c_7 := (n_lt (a := 7) (b := 1) rfl rfl (by omega) (by omega)).mp c_7
          omega
        · have c_7 := (not_congr (n_lt (a := 7) (b := 1) rfl rfl (by omega) (by omega))).mp c_7
          refine r_aload_n rfl ?_
          refine r_iload_n rfl ?_
          refine r_iload_n rfl ?_
          refine r_virtual (vs := []) (as := [_, _]) (by decide) (zl rfl) rfl rfl (zl rfl) (Nat.le_refl _) (Or.inr (Or.inr ⟨zt rfl, rfl, zt rfl⟩)) ?_
          refine M_go (ls := [_, _, _]) (ml := 3) rfl rfl rfl (zl rfl) rfl ?_
          refine r_iload_n rfl ?_
          refine r_if_eq (fun c_13_1 => ?_) (fun c_13_1 => ?_)
          · have c_13_1 := (n_eq (a := 1) (b := 0) rfl rfl (by omega) (by omega)).mp c_13_1
            omega
          · have c_13_1 := (not_congr (n_eq (a := 1) (b := 0) rfl rfl (by omega) (by omega))).mp c_13_1
            refine r_iload_n rfl ?_
            refine r_iconst ?_
            refine r_icmp_eq (fun c_13_6 => ?_) (fun c_13_6 => ?_)
            · have c_13_6 := (n_eq (a := 1) (b := 1) rfl rfl (by omega) (by omega)).mp c_13_6
              refine E_go 1 rfl ?_
              refine r_iconst ?_
              refine r_goto ?_
              refine E_go 3 rfl ?_
              refine r_iret rfl (by first | exact Or.inl rfl | exact Or.inr rfl) ?_
              refine r_if_ne (fun c_16 => ?_) (fun c_16 => ?_)
              · have c_16 := (not_congr (n_eq (a := 1) (b := 0) rfl rfl (by omega) (by omega))).mp c_16
                refine E_go 2 rfl ?_
                refine r_aload_n rfl ?_
                refine r_getA (q := 1) (by decide) rfl rfl (by decide) ?_
                refine r_iload_n rfl ?_
                refine r_iload_n rfl ?_
                refine r_virtual (vs := []) (as := [_, _]) (by decide) (zl rfl) rfl rfl (zl rfl) (Nat.le_refl _) (Or.inr (Or.inr ⟨zt rfl, rfl, zt rfl⟩)) ?_
                refine M_go (ls := [_, _, _]) (ml := 3) rfl rfl rfl (zl rfl) rfl ?_
                refine r_iload_n rfl ?_
                refine r_table ?_
                refine r_sw1 (fun cs => ?_) (fun ds => ?_)
                · exact absurd ((n_eq (a := 1) (b := 0) rfl rfl (by omega) (by omega)).mp cs) (by omega)
                refine r_sw1 (fun cs => ?_) (fun ds => ?_)
                · refine E_go 2 rfl ?_
                  refine r_aload_n rfl ?_
                  refine r_getI (by decide) rfl rfl (by decide) rfl ?_
                  refine r_iret rfl trivial ?_
                  refine r_iret rfl trivial ?_
                  refine M_go (ls := [_, _, _]) (ml := 3) rfl rfl rfl (zl rfl) rfl ?_
                  refine r_iload_n rfl ?_
                  refine r_i2l ?_
                  refine r_lconst ?_
                  refine r_ldc2_w ?_
                  refine r_static (vs := [_, _, _]) (by decide) (zl rfl) rfl rfl (zl rfl) (Nat.le_refl _) rfl ?_
                  refine s_in0 (by omega) (x := (io 1)) (k := 8) (Int32.toInt_toInt64 _) i64_0 rfl ?_
                  rw [if_pos (inN_io (by omega) (by omega))]
                  refine r_if_eq (fun c_9 => ?_) (fun c_9 => ?_)
                  · have c_9 := (n_eq (a := 1) (b := 0) rfl rfl (by omega) (by omega)).mp c_9
                    omega
                  · have c_9 := (not_congr (n_eq (a := 1) (b := 0) rfl rfl (by omega) (by omega))).mp c_9
                    refine r_iload_n rfl ?_
                    refine r_iconst ?_
                    refine r_icmp_le (fun c_14 => ?_) (fun c_14 => ?_)
                    · have c_14 := (n_le (a := 1) (b := 1) rfl rfl (by omega) (by omega)).mp c_14
                      refine E_go 2 rfl ?_
                      refine r_iload_n rfl ?_
                      refine r_iconst ?_
                      refine r_icmp_ge (fun c_30 => ?_) (fun c_30 => ?_)
                      · have c_30 := (n_le (a := 2) (b := 1) rfl rfl (by omega) (by omega)).mp c_30
                        omega
                      · have c_30 := (not_congr (n_le (a := 2) (b := 1) rfl rfl (by omega) (by omega))).mp c_30
                        refine r_iload_n rfl ?_
                        refine r_if_ne (fun c_34 => ?_) (fun c_34 => ?_)
                        · have c_34 := (not_congr (n_eq (a := 1) (b := 0) rfl rfl (by omega) (by omega))).mp c_34
                          refine E_go 3 rfl ?_
                          refine r_aload_n rfl ?_
                          refine r_getI (by decide) rfl rfl (by decide) R.mo ?_
                          refine r_nil ?_
                          refine E_go 4 rfl ?_
                          refine r_iret rfl trivial ?_
                          exact hQ _ _ _ R.rel
                        · have c_34 := (n_eq (a := 1) (b := 0) rfl rfl (by omega) (by omega)).mp c_34
                          omega
                    · have c_14 := (not_congr (n_le (a := 1) (b := 1) rfl rfl (by omega) (by omega))).mp c_14
                      omega
                · exact absurd rfl ds
              · have c_16 := (n_eq (a := 1) (b := 0) rfl rfl (by omega) (by omega)).mp c_16
                omega
            · have c_13_6 := (not_congr (n_eq (a := 1) (b := 1) rfl rfl (by omega) (by omega))).mp c_13_6
              omega
    · by_cases hx : inN n x
      · obtain ⟨a, ha, rfl⟩ := inN_ex hx (by omega)
        refine M_go (ls := [_, _, _]) (ml := 3) rfl rfl rfl (zl rfl) rfl ?_
        refine r_iload_n rfl ?_
        refine r_if_lt (fun c_1 => ?_) (fun c_1 => ?_)
        · have c_1 := (n_lt (a := 2) (b := 0) rfl rfl (by omega) (by omega)).mp c_1
          omega
        · have c_1 := (not_congr (n_lt (a := 2) (b := 0) rfl rfl (by omega) (by omega))).mp c_1
          refine r_iload_n rfl ?_
          refine r_bipush ?_
          refine r_icmp_gt (fun c_7 => ?_) (fun c_7 => ?_)
          · have c_7 := (n_lt (a := 7) (b := 2) rfl rfl (by omega) (by omega)).mp c_7
            omega
          · have c_7 := (not_congr (n_lt (a := 7) (b := 2) rfl rfl (by omega) (by omega))).mp c_7
            refine r_aload_n rfl ?_
            refine r_iload_n rfl ?_
            refine r_iload_n rfl ?_
            refine r_virtual (vs := []) (as := [_, _]) (by decide) (zl rfl) rfl rfl (zl rfl) (Nat.le_refl _) (Or.inr (Or.inr ⟨zt rfl, rfl, zt rfl⟩)) ?_
            refine M_go (ls := [_, _, _]) (ml := 3) rfl rfl rfl (zl rfl) rfl ?_
            refine r_iload_n rfl ?_
            refine r_if_eq (fun c_13_1 => ?_) (fun c_13_1 => ?_)
            · have c_13_1 := (n_eq (a := 2) (b := 0) rfl rfl (by omega) (by omega)).mp c_13_1
              omega
            · have c_13_1 := (not_congr (n_eq (a := 2) (b := 0) rfl rfl (by omega) (by omega))).mp c_13_1
              refine r_iload_n rfl ?_
              refine r_iconst ?_
              refine r_icmp_eq (fun c_13_6 => ?_) (fun c_13_6 => ?_)
              · have c_13_6 := (n_eq (a := 2) (b := 1) rfl rfl (by omega) (by omega)).mp c_13_6
                omega
              · have c_13_6 := (not_congr (n_eq (a := 2) (b := 1) rfl rfl (by omega) (by omega))).mp c_13_6
                refine r_aload_n rfl ?_
                refine r_iload_n rfl ?_
                refine r_virtual (vs := []) (as := [_]) (by decide) (zl rfl) rfl rfl (zl rfl) (Nat.le_refl _) (Or.inr (Or.inr ⟨zt rfl, rfl, zt rfl⟩)) ?_
                refine s_isAunt (by omega) R.cn h5 ?_
                rw [if_pos (inN_io ha (by omega))]
                refine r_if_eq (fun c_13_14 => ?_) (fun c_13_14 => ?_)
                · have c_13_14 := (n_eq (a := 1) (b := 0) rfl rfl (by omega) (by omega)).mp c_13_14
                  omega
                · have c_13_14 := (not_congr (n_eq (a := 1) (b := 0) rfl rfl (by omega) (by omega))).mp c_13_14
                  refine r_nil ?_
                  refine E_go 1 rfl ?_
                  refine r_iconst ?_
                  refine r_goto ?_
                  refine E_go 3 rfl ?_
                  refine r_iret rfl (by first | exact Or.inl rfl | exact Or.inr rfl) ?_
                  refine r_if_ne (fun c_16 => ?_) (fun c_16 => ?_)
                  · have c_16 := (not_congr (n_eq (a := 1) (b := 0) rfl rfl (by omega) (by omega))).mp c_16
                    refine E_go 2 rfl ?_
                    refine r_aload_n rfl ?_
                    refine r_getA (q := 1) (by decide) rfl rfl (by decide) ?_
                    refine r_iload_n rfl ?_
                    refine r_iload_n rfl ?_
                    refine r_virtual (vs := []) (as := [_, _]) (by decide) (zl rfl) rfl rfl (zl rfl) (Nat.le_refl _) (Or.inr (Or.inr ⟨zt rfl, rfl, zt rfl⟩)) ?_
                    refine M_go (ls := [_, _, _]) (ml := 3) rfl rfl rfl (zl rfl) rfl ?_
                    refine r_iload_n rfl ?_
                    refine r_table ?_
                    refine r_sw1 (fun cs => ?_) (fun ds => ?_)
                    · exact absurd ((n_eq (a := 2) (b := 0) rfl rfl (by omega) (by omega)).mp cs) (by omega)
                    refine r_sw1 (fun cs => ?_) (fun ds => ?_)
                    · exact absurd ((n_eq (a := 2) (b := 1) rfl rfl (by omega) (by omega)).mp cs) (by omega)
                    refine r_sw1 (fun cs => ?_) (fun ds => ?_)
                    · refine E_go 3 rfl ?_
                      refine r_aload_n rfl ?_
                      refine r_getA (q := 3) (by decide) rfl rfl (by decide) ?_
                      refine r_iload_n rfl ?_
                      refine r_iaload (by decide) rfl (by decide) (ixE rfl (show a < 5 by omega) (by decide)) rfl ?_
                      refine r_iret rfl trivial ?_
                      refine r_iret rfl trivial ?_
                      refine M_go (ls := [_, _, _]) (ml := 3) rfl rfl rfl (zl rfl) rfl ?_
                      refine r_iload_n rfl ?_
                      refine r_i2l ?_
                      refine r_lconst ?_
                      refine r_ldc2_w ?_
                      refine r_static (vs := [_, _, _]) (by decide) (zl rfl) rfl rfl (zl rfl) (Nat.le_refl _) rfl ?_
                      refine s_in0 (by omega) (x := (io 2)) (k := 8) (Int32.toInt_toInt64 _) i64_0 rfl ?_
                      rw [if_pos (inN_io (by omega) (by omega))]
                      refine r_if_eq (fun c_9 => ?_) (fun c_9 => ?_)
                      · have c_9 := (n_eq (a := 1) (b := 0) rfl rfl (by omega) (by omega)).mp c_9
                        omega
                      · have c_9 := (not_congr (n_eq (a := 1) (b := 0) rfl rfl (by omega) (by omega))).mp c_9
                        refine r_iload_n rfl ?_
                        refine r_iconst ?_
                        refine r_icmp_le (fun c_14 => ?_) (fun c_14 => ?_)
                        · have c_14 := (n_le (a := 2) (b := 1) rfl rfl (by omega) (by omega)).mp c_14
                          omega
                        · have c_14 := (not_congr (n_le (a := 2) (b := 1) rfl rfl (by omega) (by omega))).mp c_14
                          refine r_aload_n rfl ?_
                          refine r_iload_n rfl ?_
                          refine r_virtual (vs := []) (as := [_]) (by decide) (zl rfl) rfl rfl (zl rfl) (Nat.le_refl _) (Or.inr (Or.inr ⟨zt rfl, rfl, zt rfl⟩)) ?_
                          refine s_isOne (by omega) R.mn h5 ?_
                          rw [if_pos (inN_io ha (by omega))]
                          refine r_if_ne (fun c_22 => ?_) (fun c_22 => ?_)
                          · have c_22 := (not_congr (n_eq (a := 1) (b := 0) rfl rfl (by omega) (by omega))).mp c_22
                            refine E_go 2 rfl ?_
                            refine r_iload_n rfl ?_
                            refine r_iconst ?_
                            refine r_icmp_ge (fun c_30 => ?_) (fun c_30 => ?_)
                            · have c_30 := (n_le (a := 2) (b := 2) rfl rfl (by omega) (by omega)).mp c_30
                              refine E_go 5 rfl ?_
                              refine r_iload_n rfl ?_
                              refine r_iconst ?_
                              refine r_icmp_ge (fun c_51 => ?_) (fun c_51 => ?_)
                              · have c_51 := (n_le (a := 5) (b := 2) rfl rfl (by omega) (by omega)).mp c_51
                                omega
                              · have c_51 := (not_congr (n_le (a := 5) (b := 2) rfl rfl (by omega) (by omega))).mp c_51
                                refine r_aload_n rfl ?_
                                refine r_getA (q := 66) (by decide) rfl rfl (by decide) ?_
                                refine r_iconst ?_
                                refine r_iload_n rfl ?_
                                refine r_imul ?_
                                refine r_iload_n rfl ?_
                                refine r_iadd ?_
                                refine r_iconst ?_
                                refine r_isub ?_
                                refine r_iaload (by decide) rfl (by decide) (ixE (n_sub (a := ((3 * a) + 2)) (b := 2) (n_add (a := (3 * a)) (b := 2) (n_mul (a := 3) (b := a) rfl rfl) rfl) rfl (by omega)) (show (((3 * a) + 2) - 2) < 15 by omega) (by decide)) ((congrArg (I 66) (show (((3 * a) + 2) - 2) = 3 * a by omega)).trans (R.nu ha)) ?_
                                refine r_goto ?_
                                refine E_go 9 rfl ?_
                                refine r_iret rfl trivial ?_
                                exact hQ _ _ _ R.rel
                            · have c_30 := (not_congr (n_le (a := 2) (b := 2) rfl rfl (by omega) (by omega))).mp c_30
                              omega
                          · have c_22 := (n_eq (a := 1) (b := 0) rfl rfl (by omega) (by omega)).mp c_22
                            omega
                    · exact absurd rfl ds
                  · have c_16 := (n_eq (a := 1) (b := 0) rfl rfl (by omega) (by omega)).mp c_16
                    omega
      · refine M_go (ls := [_, _, _]) (ml := 3) rfl rfl rfl (zl rfl) rfl ?_
        refine r_iload_n rfl ?_
        refine r_if_lt (fun c_1 => ?_) (fun c_1 => ?_)
        · have c_1 := (n_lt (a := 2) (b := 0) rfl rfl (by omega) (by omega)).mp c_1
          omega
        · have c_1 := (not_congr (n_lt (a := 2) (b := 0) rfl rfl (by omega) (by omega))).mp c_1
          refine r_iload_n rfl ?_
          refine r_bipush ?_
          refine r_icmp_gt (fun c_7 => ?_) (fun c_7 => ?_)
          · have c_7 := (n_lt (a := 7) (b := 2) rfl rfl (by omega) (by omega)).mp c_7
            omega
          · have c_7 := (not_congr (n_lt (a := 7) (b := 2) rfl rfl (by omega) (by omega))).mp c_7
            refine r_aload_n rfl ?_
            refine r_iload_n rfl ?_
            refine r_iload_n rfl ?_
            refine r_virtual (vs := []) (as := [_, _]) (by decide) (zl rfl) rfl rfl (zl rfl) (Nat.le_refl _) (Or.inr (Or.inr ⟨zt rfl, rfl, zt rfl⟩)) ?_
            refine M_go (ls := [_, _, _]) (ml := 3) rfl rfl rfl (zl rfl) rfl ?_
            refine r_iload_n rfl ?_
            refine r_if_eq (fun c_13_1 => ?_) (fun c_13_1 => ?_)
            · have c_13_1 := (n_eq (a := 2) (b := 0) rfl rfl (by omega) (by omega)).mp c_13_1
              omega
            · have c_13_1 := (not_congr (n_eq (a := 2) (b := 0) rfl rfl (by omega) (by omega))).mp c_13_1
              refine r_iload_n rfl ?_
              refine r_iconst ?_
              refine r_icmp_eq (fun c_13_6 => ?_) (fun c_13_6 => ?_)
              · have c_13_6 := (n_eq (a := 2) (b := 1) rfl rfl (by omega) (by omega)).mp c_13_6
                omega
              · have c_13_6 := (not_congr (n_eq (a := 2) (b := 1) rfl rfl (by omega) (by omega))).mp c_13_6
                refine r_aload_n rfl ?_
                refine r_iload_n rfl ?_
                refine r_virtual (vs := []) (as := [_]) (by decide) (zl rfl) rfl rfl (zl rfl) (Nat.le_refl _) (Or.inr (Or.inr ⟨zt rfl, rfl, zt rfl⟩)) ?_
                refine s_isAunt (by omega) R.cn h5 ?_
                rw [if_neg hx]
                refine r_if_eq (fun c_13_14 => ?_) (fun c_13_14 => ?_)
                · have c_13_14 := (n_eq (a := 0) (b := 0) rfl rfl (by omega) (by omega)).mp c_13_14
                  refine E_go 2 rfl ?_
                  refine r_iconst ?_
                  refine r_nil ?_
                  refine E_go 3 rfl ?_
                  refine r_iret rfl (by first | exact Or.inl rfl | exact Or.inr rfl) ?_
                  refine r_if_ne (fun c_16 => ?_) (fun c_16 => ?_)
                  · have c_16 := (not_congr (n_eq (a := 0) (b := 0) rfl rfl (by omega) (by omega))).mp c_16
                    omega
                  · have c_16 := (n_eq (a := 0) (b := 0) rfl rfl (by omega) (by omega)).mp c_16
                    refine r_nil ?_
                    refine E_go 1 rfl ?_
                    refine r_ldc rfl ?_
                    refine r_iret rfl trivial ?_
                    refine M_go (ls := [_, _, _]) (ml := 3) rfl rfl rfl (zl rfl) rfl ?_
                    refine r_iload_n rfl ?_
                    refine r_i2l ?_
                    refine r_lconst ?_
                    refine r_ldc2_w ?_
                    refine r_static (vs := [_, _, _]) (by decide) (zl rfl) rfl rfl (zl rfl) (Nat.le_refl _) rfl ?_
                    refine s_in0 (by omega) (x := (io 2)) (k := 8) (Int32.toInt_toInt64 _) i64_0 rfl ?_
                    rw [if_pos (inN_io (by omega) (by omega))]
                    refine r_if_eq (fun c_9 => ?_) (fun c_9 => ?_)
                    · have c_9 := (n_eq (a := 1) (b := 0) rfl rfl (by omega) (by omega)).mp c_9
                      omega
                    · have c_9 := (not_congr (n_eq (a := 1) (b := 0) rfl rfl (by omega) (by omega))).mp c_9
                      refine r_iload_n rfl ?_
                      refine r_iconst ?_
                      refine r_icmp_le (fun c_14 => ?_) (fun c_14 => ?_)
                      · have c_14 := (n_le (a := 2) (b := 1) rfl rfl (by omega) (by omega)).mp c_14
                        omega
                      · have c_14 := (not_congr (n_le (a := 2) (b := 1) rfl rfl (by omega) (by omega))).mp c_14
                        refine r_aload_n rfl ?_
                        refine r_iload_n rfl ?_
                        refine r_virtual (vs := []) (as := [_]) (by decide) (zl rfl) rfl rfl (zl rfl) (Nat.le_refl _) (Or.inr (Or.inr ⟨zt rfl, rfl, zt rfl⟩)) ?_
                        refine s_isOne (by omega) R.mn h5 ?_
                        rw [if_neg hx]
                        refine r_if_ne (fun c_22 => ?_) (fun c_22 => ?_)
                        · have c_22 := (not_congr (n_eq (a := 0) (b := 0) rfl rfl (by omega) (by omega))).mp c_22
                          omega
                        · have c_22 := (n_eq (a := 0) (b := 0) rfl rfl (by omega) (by omega)).mp c_22
                          refine r_nil ?_
                          refine E_go 1 rfl ?_
                          refine r_ldc rfl ?_
                          refine r_iret rfl trivial ?_
                          exact hQ _ _ _ R.rel
                · have c_13_14 := (not_congr (n_eq (a := 0) (b := 0) rfl rfl (by omega) (by omega))).mp c_13_14
                  omega
    · by_cases hx : inN n x
      · obtain ⟨a, ha, rfl⟩ := inN_ex hx (by omega)
        refine M_go (ls := [_, _, _]) (ml := 3) rfl rfl rfl (zl rfl) rfl ?_
        refine r_iload_n rfl ?_
        refine r_if_lt (fun c_1 => ?_) (fun c_1 => ?_)
        · have c_1 := (n_lt (a := 3) (b := 0) rfl rfl (by omega) (by omega)).mp c_1
          omega
        · have c_1 := (not_congr (n_lt (a := 3) (b := 0) rfl rfl (by omega) (by omega))).mp c_1
          refine r_iload_n rfl ?_
          refine r_bipush ?_
          refine r_icmp_gt (fun c_7 => ?_) (fun c_7 => ?_)
          · have c_7 := (n_lt (a := 7) (b := 3) rfl rfl (by omega) (by omega)).mp c_7
            omega
          · have c_7 := (not_congr (n_lt (a := 7) (b := 3) rfl rfl (by omega) (by omega))).mp c_7
            refine r_aload_n rfl ?_
            refine r_iload_n rfl ?_
            refine r_iload_n rfl ?_
            refine r_virtual (vs := []) (as := [_, _]) (by decide) (zl rfl) rfl rfl (zl rfl) (Nat.le_refl _) (Or.inr (Or.inr ⟨zt rfl, rfl, zt rfl⟩)) ?_
            refine M_go (ls := [_, _, _]) (ml := 3) rfl rfl rfl (zl rfl) rfl ?_
            refine r_iload_n rfl ?_
            refine r_if_eq (fun c_13_1 => ?_) (fun c_13_1 => ?_)
            · have c_13_1 := (n_eq (a := 3) (b := 0) rfl rfl (by omega) (by omega)).mp c_13_1
              omega
            · have c_13_1 := (not_congr (n_eq (a := 3) (b := 0) rfl rfl (by omega) (by omega))).mp c_13_1
              refine r_iload_n rfl ?_
              refine r_iconst ?_
              refine r_icmp_eq (fun c_13_6 => ?_) (fun c_13_6 => ?_)
              · have c_13_6 := (n_eq (a := 3) (b := 1) rfl rfl (by omega) (by omega)).mp c_13_6
                omega
              · have c_13_6 := (not_congr (n_eq (a := 3) (b := 1) rfl rfl (by omega) (by omega))).mp c_13_6
                refine r_aload_n rfl ?_
                refine r_iload_n rfl ?_
                refine r_virtual (vs := []) (as := [_]) (by decide) (zl rfl) rfl rfl (zl rfl) (Nat.le_refl _) (Or.inr (Or.inr ⟨zt rfl, rfl, zt rfl⟩)) ?_
                refine s_isAunt (by omega) R.cn h5 ?_
                rw [if_pos (inN_io ha (by omega))]
                refine r_if_eq (fun c_13_14 => ?_) (fun c_13_14 => ?_)
                · have c_13_14 := (n_eq (a := 1) (b := 0) rfl rfl (by omega) (by omega)).mp c_13_14
                  omega
                · have c_13_14 := (not_congr (n_eq (a := 1) (b := 0) rfl rfl (by omega) (by omega))).mp c_13_14
                  refine r_nil ?_
                  refine E_go 1 rfl ?_
                  refine r_iconst ?_
                  refine r_goto ?_
                  refine E_go 3 rfl ?_
                  refine r_iret rfl (by first | exact Or.inl rfl | exact Or.inr rfl) ?_
                  refine r_if_ne (fun c_16 => ?_) (fun c_16 => ?_)
                  · have c_16 := (not_congr (n_eq (a := 1) (b := 0) rfl rfl (by omega) (by omega))).mp c_16
                    refine E_go 2 rfl ?_
                    refine r_aload_n rfl ?_
                    refine r_getA (q := 1) (by decide) rfl rfl (by decide) ?_
                    refine r_iload_n rfl ?_
                    refine r_iload_n rfl ?_
                    refine r_virtual (vs := []) (as := [_, _]) (by decide) (zl rfl) rfl rfl (zl rfl) (Nat.le_refl _) (Or.inr (Or.inr ⟨zt rfl, rfl, zt rfl⟩)) ?_
                    refine M_go (ls := [_, _, _]) (ml := 3) rfl rfl rfl (zl rfl) rfl ?_
                    refine r_iload_n rfl ?_
                    refine r_table ?_
                    refine r_sw1 (fun cs => ?_) (fun ds => ?_)
                    · exact absurd ((n_eq (a := 3) (b := 0) rfl rfl (by omega) (by omega)).mp cs) (by omega)
                    refine r_sw1 (fun cs => ?_) (fun ds => ?_)
                    · exact absurd ((n_eq (a := 3) (b := 1) rfl rfl (by omega) (by omega)).mp cs) (by omega)
                    refine r_sw1 (fun cs => ?_) (fun ds => ?_)
                    · exact absurd ((n_eq (a := 3) (b := 2) rfl rfl (by omega) (by omega)).mp cs) (by omega)
                    refine r_sw1 (fun cs => ?_) (fun ds => ?_)
                    · refine E_go 4 rfl ?_
                      refine r_aload_n rfl ?_
                      refine r_getA (q := 4) (by decide) rfl rfl (by decide) ?_
                      refine r_iload_n rfl ?_
                      refine r_iaload (by decide) rfl (by decide) (ixE rfl (show a < 5 by omega) (by decide)) rfl ?_
                      refine r_iret rfl trivial ?_
                      refine r_iret rfl trivial ?_
                      refine M_go (ls := [_, _, _]) (ml := 3) rfl rfl rfl (zl rfl) rfl ?_
                      refine r_iload_n rfl ?_
                      refine r_i2l ?_
                      refine r_lconst ?_
                      refine r_ldc2_w ?_
                      refine r_static (vs := [_, _, _]) (by decide) (zl rfl) rfl rfl (zl rfl) (Nat.le_refl _) rfl ?_
                      refine s_in0 (by omega) (x := (io 3)) (k := 8) (Int32.toInt_toInt64 _) i64_0 rfl ?_
                      rw [if_pos (inN_io (by omega) (by omega))]
                      refine r_if_eq (fun c_9 => ?_) (fun c_9 => ?_)
                      · have c_9 := (n_eq (a := 1) (b := 0) rfl rfl (by omega) (by omega)).mp c_9
                        omega
                      · have c_9 := (not_congr (n_eq (a := 1) (b := 0) rfl rfl (by omega) (by omega))).mp c_9
                        refine r_iload_n rfl ?_
                        refine r_iconst ?_
                        refine r_icmp_le (fun c_14 => ?_) (fun c_14 => ?_)
                        · have c_14 := (n_le (a := 3) (b := 1) rfl rfl (by omega) (by omega)).mp c_14
                          omega
                        · have c_14 := (not_congr (n_le (a := 3) (b := 1) rfl rfl (by omega) (by omega))).mp c_14
                          refine r_aload_n rfl ?_
                          refine r_iload_n rfl ?_
                          refine r_virtual (vs := []) (as := [_]) (by decide) (zl rfl) rfl rfl (zl rfl) (Nat.le_refl _) (Or.inr (Or.inr ⟨zt rfl, rfl, zt rfl⟩)) ?_
                          refine s_isOne (by omega) R.mn h5 ?_
                          rw [if_pos (inN_io ha (by omega))]
                          refine r_if_ne (fun c_22 => ?_) (fun c_22 => ?_)
                          · have c_22 := (not_congr (n_eq (a := 1) (b := 0) rfl rfl (by omega) (by omega))).mp c_22
                            refine E_go 2 rfl ?_
                            refine r_iload_n rfl ?_
                            refine r_iconst ?_
                            refine r_icmp_ge (fun c_30 => ?_) (fun c_30 => ?_)
                            · have c_30 := (n_le (a := 2) (b := 3) rfl rfl (by omega) (by omega)).mp c_30
                              refine E_go 5 rfl ?_
                              refine r_iload_n rfl ?_
                              refine r_iconst ?_
                              refine r_icmp_ge (fun c_51 => ?_) (fun c_51 => ?_)
                              · have c_51 := (n_le (a := 5) (b := 3) rfl rfl (by omega) (by omega)).mp c_51
                                omega
                              · have c_51 := (not_congr (n_le (a := 5) (b := 3) rfl rfl (by omega) (by omega))).mp c_51
                                refine r_aload_n rfl ?_
                                refine r_getA (q := 66) (by decide) rfl rfl (by decide) ?_
                                refine r_iconst ?_
                                refine r_iload_n rfl ?_
                                refine r_imul ?_
                                refine r_iload_n rfl ?_
                                refine r_iadd ?_
                                refine r_iconst ?_
                                refine r_isub ?_
                                refine r_iaload (by decide) rfl (by decide) (ixE (n_sub (a := ((3 * a) + 3)) (b := 2) (n_add (a := (3 * a)) (b := 3) (n_mul (a := 3) (b := a) rfl rfl) rfl) rfl (by omega)) (show (((3 * a) + 3) - 2) < 15 by omega) (by decide)) ((congrArg (I 66) (show (((3 * a) + 3) - 2) = 3 * a + 1 by omega)).trans (R.th ha)) ?_
                                refine r_goto ?_
                                refine E_go 9 rfl ?_
                                refine r_iret rfl trivial ?_
                                exact hQ _ _ _ R.rel
                            · have c_30 := (not_congr (n_le (a := 2) (b := 3) rfl rfl (by omega) (by omega))).mp c_30
                              omega
                          · have c_22 := (n_eq (a := 1) (b := 0) rfl rfl (by omega) (by omega)).mp c_22
                            omega
                    · exact absurd rfl ds
                  · have c_16 := (n_eq (a := 1) (b := 0) rfl rfl (by omega) (by omega)).mp c_16
                    omega
      · refine M_go (ls := [_, _, _]) (ml := 3) rfl rfl rfl (zl rfl) rfl ?_
        refine r_iload_n rfl ?_
        refine r_if_lt (fun c_1 => ?_) (fun c_1 => ?_)
        · have c_1 := (n_lt (a := 3) (b := 0) rfl rfl (by omega) (by omega)).mp c_1
          omega
        · have c_1 := (not_congr (n_lt (a := 3) (b := 0) rfl rfl (by omega) (by omega))).mp c_1
          refine r_iload_n rfl ?_
          refine r_bipush ?_
          refine r_icmp_gt (fun c_7 => ?_) (fun c_7 => ?_)
          · have c_7 := (n_lt (a := 7) (b := 3) rfl rfl (by omega) (by omega)).mp c_7
            omega
          · have c_7 := (not_congr (n_lt (a := 7) (b := 3) rfl rfl (by omega) (by omega))).mp c_7
            refine r_aload_n rfl ?_
            refine r_iload_n rfl ?_
            refine r_iload_n rfl ?_
            refine r_virtual (vs := []) (as := [_, _]) (by decide) (zl rfl) rfl rfl (zl rfl) (Nat.le_refl _) (Or.inr (Or.inr ⟨zt rfl, rfl, zt rfl⟩)) ?_
            refine M_go (ls := [_, _, _]) (ml := 3) rfl rfl rfl (zl rfl) rfl ?_
            refine r_iload_n rfl ?_
            refine r_if_eq (fun c_13_1 => ?_) (fun c_13_1 => ?_)
            · have c_13_1 := (n_eq (a := 3) (b := 0) rfl rfl (by omega) (by omega)).mp c_13_1
              omega
            · have c_13_1 := (not_congr (n_eq (a := 3) (b := 0) rfl rfl (by omega) (by omega))).mp c_13_1
              refine r_iload_n rfl ?_
              refine r_iconst ?_
              refine r_icmp_eq (fun c_13_6 => ?_) (fun c_13_6 => ?_)
              · have c_13_6 := (n_eq (a := 3) (b := 1) rfl rfl (by omega) (by omega)).mp c_13_6
                omega
              · have c_13_6 := (not_congr (n_eq (a := 3) (b := 1) rfl rfl (by omega) (by omega))).mp c_13_6
                refine r_aload_n rfl ?_
                refine r_iload_n rfl ?_
                refine r_virtual (vs := []) (as := [_]) (by decide) (zl rfl) rfl rfl (zl rfl) (Nat.le_refl _) (Or.inr (Or.inr ⟨zt rfl, rfl, zt rfl⟩)) ?_
                refine s_isAunt (by omega) R.cn h5 ?_
                rw [if_neg hx]
                refine r_if_eq (fun c_13_14 => ?_) (fun c_13_14 => ?_)
                · have c_13_14 := (n_eq (a := 0) (b := 0) rfl rfl (by omega) (by omega)).mp c_13_14
                  refine E_go 2 rfl ?_
                  refine r_iconst ?_
                  refine r_nil ?_
                  refine E_go 3 rfl ?_
                  refine r_iret rfl (by first | exact Or.inl rfl | exact Or.inr rfl) ?_
                  refine r_if_ne (fun c_16 => ?_) (fun c_16 => ?_)
                  · have c_16 := (not_congr (n_eq (a := 0) (b := 0) rfl rfl (by omega) (by omega))).mp c_16
                    omega
                  · have c_16 := (n_eq (a := 0) (b := 0) rfl rfl (by omega) (by omega)).mp c_16
                    refine r_nil ?_
                    refine E_go 1 rfl ?_
                    refine r_ldc rfl ?_
                    refine r_iret rfl trivial ?_
                    refine M_go (ls := [_, _, _]) (ml := 3) rfl rfl rfl (zl rfl) rfl ?_
                    refine r_iload_n rfl ?_
                    refine r_i2l ?_
                    refine r_lconst ?_
                    refine r_ldc2_w ?_
                    refine r_static (vs := [_, _, _]) (by decide) (zl rfl) rfl rfl (zl rfl) (Nat.le_refl _) rfl ?_
                    refine s_in0 (by omega) (x := (io 3)) (k := 8) (Int32.toInt_toInt64 _) i64_0 rfl ?_
                    rw [if_pos (inN_io (by omega) (by omega))]
                    refine r_if_eq (fun c_9 => ?_) (fun c_9 => ?_)
                    · have c_9 := (n_eq (a := 1) (b := 0) rfl rfl (by omega) (by omega)).mp c_9
                      omega
                    · have c_9 := (not_congr (n_eq (a := 1) (b := 0) rfl rfl (by omega) (by omega))).mp c_9
                      refine r_iload_n rfl ?_
                      refine r_iconst ?_
                      refine r_icmp_le (fun c_14 => ?_) (fun c_14 => ?_)
                      · have c_14 := (n_le (a := 3) (b := 1) rfl rfl (by omega) (by omega)).mp c_14
                        omega
                      · have c_14 := (not_congr (n_le (a := 3) (b := 1) rfl rfl (by omega) (by omega))).mp c_14
                        refine r_aload_n rfl ?_
                        refine r_iload_n rfl ?_
                        refine r_virtual (vs := []) (as := [_]) (by decide) (zl rfl) rfl rfl (zl rfl) (Nat.le_refl _) (Or.inr (Or.inr ⟨zt rfl, rfl, zt rfl⟩)) ?_
                        refine s_isOne (by omega) R.mn h5 ?_
                        rw [if_neg hx]
                        refine r_if_ne (fun c_22 => ?_) (fun c_22 => ?_)
                        · have c_22 := (not_congr (n_eq (a := 0) (b := 0) rfl rfl (by omega) (by omega))).mp c_22
                          omega
                        · have c_22 := (n_eq (a := 0) (b := 0) rfl rfl (by omega) (by omega)).mp c_22
                          refine r_nil ?_
                          refine E_go 1 rfl ?_
                          refine r_ldc rfl ?_
                          refine r_iret rfl trivial ?_
                          exact hQ _ _ _ R.rel
                · have c_13_14 := (not_congr (n_eq (a := 0) (b := 0) rfl rfl (by omega) (by omega))).mp c_13_14
                  omega
    · by_cases hx : inN n x
      · obtain ⟨a, ha, rfl⟩ := inN_ex hx (by omega)
        refine M_go (ls := [_, _, _]) (ml := 3) rfl rfl rfl (zl rfl) rfl ?_
        refine r_iload_n rfl ?_
        refine r_if_lt (fun c_1 => ?_) (fun c_1 => ?_)
        · have c_1 := (n_lt (a := 4) (b := 0) rfl rfl (by omega) (by omega)).mp c_1
          omega
        · have c_1 := (not_congr (n_lt (a := 4) (b := 0) rfl rfl (by omega) (by omega))).mp c_1
          refine r_iload_n rfl ?_
          refine r_bipush ?_
          refine r_icmp_gt (fun c_7 => ?_) (fun c_7 => ?_)
          · have c_7 := (n_lt (a := 7) (b := 4) rfl rfl (by omega) (by omega)).mp c_7
            omega
          · have c_7 := (not_congr (n_lt (a := 7) (b := 4) rfl rfl (by omega) (by omega))).mp c_7
            refine r_aload_n rfl ?_
            refine r_iload_n rfl ?_
            refine r_iload_n rfl ?_
            refine r_virtual (vs := []) (as := [_, _]) (by decide) (zl rfl) rfl rfl (zl rfl) (Nat.le_refl _) (Or.inr (Or.inr ⟨zt rfl, rfl, zt rfl⟩)) ?_
            refine M_go (ls := [_, _, _]) (ml := 3) rfl rfl rfl (zl rfl) rfl ?_
            refine r_iload_n rfl ?_
            refine r_if_eq (fun c_13_1 => ?_) (fun c_13_1 => ?_)
            · have c_13_1 := (n_eq (a := 4) (b := 0) rfl rfl (by omega) (by omega)).mp c_13_1
              omega
            · have c_13_1 := (not_congr (n_eq (a := 4) (b := 0) rfl rfl (by omega) (by omega))).mp c_13_1
              refine r_iload_n rfl ?_
              refine r_iconst ?_
              refine r_icmp_eq (fun c_13_6 => ?_) (fun c_13_6 => ?_)
              · have c_13_6 := (n_eq (a := 4) (b := 1) rfl rfl (by omega) (by omega)).mp c_13_6
                omega
              · have c_13_6 := (not_congr (n_eq (a := 4) (b := 1) rfl rfl (by omega) (by omega))).mp c_13_6
                refine r_aload_n rfl ?_
                refine r_iload_n rfl ?_
                refine r_virtual (vs := []) (as := [_]) (by decide) (zl rfl) rfl rfl (zl rfl) (Nat.le_refl _) (Or.inr (Or.inr ⟨zt rfl, rfl, zt rfl⟩)) ?_
                refine s_isAunt (by omega) R.cn h5 ?_
                rw [if_pos (inN_io ha (by omega))]
                refine r_if_eq (fun c_13_14 => ?_) (fun c_13_14 => ?_)
                · have c_13_14 := (n_eq (a := 1) (b := 0) rfl rfl (by omega) (by omega)).mp c_13_14
                  omega
                · have c_13_14 := (not_congr (n_eq (a := 1) (b := 0) rfl rfl (by omega) (by omega))).mp c_13_14
                  refine r_nil ?_
                  refine E_go 1 rfl ?_
                  refine r_iconst ?_
                  refine r_goto ?_
                  refine E_go 3 rfl ?_
                  refine r_iret rfl (by first | exact Or.inl rfl | exact Or.inr rfl) ?_
                  refine r_if_ne (fun c_16 => ?_) (fun c_16 => ?_)
                  · have c_16 := (not_congr (n_eq (a := 1) (b := 0) rfl rfl (by omega) (by omega))).mp c_16
                    refine E_go 2 rfl ?_
                    refine r_aload_n rfl ?_
                    refine r_getA (q := 1) (by decide) rfl rfl (by decide) ?_
                    refine r_iload_n rfl ?_
                    refine r_iload_n rfl ?_
                    refine r_virtual (vs := []) (as := [_, _]) (by decide) (zl rfl) rfl rfl (zl rfl) (Nat.le_refl _) (Or.inr (Or.inr ⟨zt rfl, rfl, zt rfl⟩)) ?_
                    refine M_go (ls := [_, _, _]) (ml := 3) rfl rfl rfl (zl rfl) rfl ?_
                    refine r_iload_n rfl ?_
                    refine r_table ?_
                    refine r_sw1 (fun cs => ?_) (fun ds => ?_)
                    · exact absurd ((n_eq (a := 4) (b := 0) rfl rfl (by omega) (by omega)).mp cs) (by omega)
                    refine r_sw1 (fun cs => ?_) (fun ds => ?_)
                    · exact absurd ((n_eq (a := 4) (b := 1) rfl rfl (by omega) (by omega)).mp cs) (by omega)
                    refine r_sw1 (fun cs => ?_) (fun ds => ?_)
                    · exact absurd ((n_eq (a := 4) (b := 2) rfl rfl (by omega) (by omega)).mp cs) (by omega)
                    refine r_sw1 (fun cs => ?_) (fun ds => ?_)
                    · exact absurd ((n_eq (a := 4) (b := 3) rfl rfl (by omega) (by omega)).mp cs) (by omega)
                    refine r_sw1 (fun cs => ?_) (fun ds => ?_)
                    · refine E_go 5 rfl ?_
                      refine r_aload_n rfl ?_
                      refine r_getA (q := 5) (by decide) rfl rfl (by decide) ?_
                      refine r_iload_n rfl ?_
                      refine r_iaload (by decide) rfl (by decide) (ixE rfl (show a < 5 by omega) (by decide)) rfl ?_
                      refine r_iret rfl trivial ?_
                      refine r_iret rfl trivial ?_
                      refine M_go (ls := [_, _, _]) (ml := 3) rfl rfl rfl (zl rfl) rfl ?_
                      refine r_iload_n rfl ?_
                      refine r_i2l ?_
                      refine r_lconst ?_
                      refine r_ldc2_w ?_
                      refine r_static (vs := [_, _, _]) (by decide) (zl rfl) rfl rfl (zl rfl) (Nat.le_refl _) rfl ?_
                      refine s_in0 (by omega) (x := (io 4)) (k := 8) (Int32.toInt_toInt64 _) i64_0 rfl ?_
                      rw [if_pos (inN_io (by omega) (by omega))]
                      refine r_if_eq (fun c_9 => ?_) (fun c_9 => ?_)
                      · have c_9 := (n_eq (a := 1) (b := 0) rfl rfl (by omega) (by omega)).mp c_9
                        omega
                      · have c_9 := (not_congr (n_eq (a := 1) (b := 0) rfl rfl (by omega) (by omega))).mp c_9
                        refine r_iload_n rfl ?_
                        refine r_iconst ?_
                        refine r_icmp_le (fun c_14 => ?_) (fun c_14 => ?_)
                        · have c_14 := (n_le (a := 4) (b := 1) rfl rfl (by omega) (by omega)).mp c_14
                          omega
                        · have c_14 := (not_congr (n_le (a := 4) (b := 1) rfl rfl (by omega) (by omega))).mp c_14
                          refine r_aload_n rfl ?_
                          refine r_iload_n rfl ?_
                          refine r_virtual (vs := []) (as := [_]) (by decide) (zl rfl) rfl rfl (zl rfl) (Nat.le_refl _) (Or.inr (Or.inr ⟨zt rfl, rfl, zt rfl⟩)) ?_
                          refine s_isOne (by omega) R.mn h5 ?_
                          rw [if_pos (inN_io ha (by omega))]
                          refine r_if_ne (fun c_22 => ?_) (fun c_22 => ?_)
                          · have c_22 := (not_congr (n_eq (a := 1) (b := 0) rfl rfl (by omega) (by omega))).mp c_22
                            refine E_go 2 rfl ?_
                            refine r_iload_n rfl ?_
                            refine r_iconst ?_
                            refine r_icmp_ge (fun c_30 => ?_) (fun c_30 => ?_)
                            · have c_30 := (n_le (a := 2) (b := 4) rfl rfl (by omega) (by omega)).mp c_30
                              refine E_go 5 rfl ?_
                              refine r_iload_n rfl ?_
                              refine r_iconst ?_
                              refine r_icmp_ge (fun c_51 => ?_) (fun c_51 => ?_)
                              · have c_51 := (n_le (a := 5) (b := 4) rfl rfl (by omega) (by omega)).mp c_51
                                omega
                              · have c_51 := (not_congr (n_le (a := 5) (b := 4) rfl rfl (by omega) (by omega))).mp c_51
                                refine r_aload_n rfl ?_
                                refine r_getA (q := 66) (by decide) rfl rfl (by decide) ?_
                                refine r_iconst ?_
                                refine r_iload_n rfl ?_
                                refine r_imul ?_
                                refine r_iload_n rfl ?_
                                refine r_iadd ?_
                                refine r_iconst ?_
                                refine r_isub ?_
                                refine r_iaload (by decide) rfl (by decide) (ixE (n_sub (a := ((3 * a) + 4)) (b := 2) (n_add (a := (3 * a)) (b := 4) (n_mul (a := 3) (b := a) rfl rfl) rfl) rfl (by omega)) (show (((3 * a) + 4) - 2) < 15 by omega) (by decide)) ((congrArg (I 66) (show (((3 * a) + 4) - 2) = 3 * a + 2 by omega)).trans (R.pl ha)) ?_
                                refine r_goto ?_
                                refine E_go 9 rfl ?_
                                refine r_iret rfl trivial ?_
                                exact hQ _ _ _ R.rel
                            · have c_30 := (not_congr (n_le (a := 2) (b := 4) rfl rfl (by omega) (by omega))).mp c_30
                              omega
                          · have c_22 := (n_eq (a := 1) (b := 0) rfl rfl (by omega) (by omega)).mp c_22
                            omega
                    · exact absurd rfl ds
                  · have c_16 := (n_eq (a := 1) (b := 0) rfl rfl (by omega) (by omega)).mp c_16
                    omega
      · refine M_go (ls := [_, _, _]) (ml := 3) rfl rfl rfl (zl rfl) rfl ?_
        refine r_iload_n rfl ?_
        refine r_if_lt (fun c_1 => ?_) (fun c_1 => ?_)
        · have c_1 := (n_lt (a := 4) (b := 0) rfl rfl (by omega) (by omega)).mp c_1
          omega
        · have c_1 := (not_congr (n_lt (a := 4) (b := 0) rfl rfl (by omega) (by omega))).mp c_1
          refine r_iload_n rfl ?_
          refine r_bipush ?_
          refine r_icmp_gt (fun c_7 => ?_) (fun c_7 => ?_)
          · have c_7 := (n_lt (a := 7) (b := 4) rfl rfl (by omega) (by omega)).mp c_7
            omega
          · have c_7 := (not_congr (n_lt (a := 7) (b := 4) rfl rfl (by omega) (by omega))).mp c_7
            refine r_aload_n rfl ?_
            refine r_iload_n rfl ?_
            refine r_iload_n rfl ?_
            refine r_virtual (vs := []) (as := [_, _]) (by decide) (zl rfl) rfl rfl (zl rfl) (Nat.le_refl _) (Or.inr (Or.inr ⟨zt rfl, rfl, zt rfl⟩)) ?_
            refine M_go (ls := [_, _, _]) (ml := 3) rfl rfl rfl (zl rfl) rfl ?_
            refine r_iload_n rfl ?_
            refine r_if_eq (fun c_13_1 => ?_) (fun c_13_1 => ?_)
            · have c_13_1 := (n_eq (a := 4) (b := 0) rfl rfl (by omega) (by omega)).mp c_13_1
              omega
            · have c_13_1 := (not_congr (n_eq (a := 4) (b := 0) rfl rfl (by omega) (by omega))).mp c_13_1
              refine r_iload_n rfl ?_
              refine r_iconst ?_
              refine r_icmp_eq (fun c_13_6 => ?_) (fun c_13_6 => ?_)
              · have c_13_6 := (n_eq (a := 4) (b := 1) rfl rfl (by omega) (by omega)).mp c_13_6
                omega
              · have c_13_6 := (not_congr (n_eq (a := 4) (b := 1) rfl rfl (by omega) (by omega))).mp c_13_6
                refine r_aload_n rfl ?_
                refine r_iload_n rfl ?_
                refine r_virtual (vs := []) (as := [_]) (by decide) (zl rfl) rfl rfl (zl rfl) (Nat.le_refl _) (Or.inr (Or.inr ⟨zt rfl, rfl, zt rfl⟩)) ?_
                refine s_isAunt (by omega) R.cn h5 ?_
                rw [if_neg hx]
                refine r_if_eq (fun c_13_14 => ?_) (fun c_13_14 => ?_)
                · have c_13_14 := (n_eq (a := 0) (b := 0) rfl rfl (by omega) (by omega)).mp c_13_14
                  refine E_go 2 rfl ?_
                  refine r_iconst ?_
                  refine r_nil ?_
                  refine E_go 3 rfl ?_
                  refine r_iret rfl (by first | exact Or.inl rfl | exact Or.inr rfl) ?_
                  refine r_if_ne (fun c_16 => ?_) (fun c_16 => ?_)
                  · have c_16 := (not_congr (n_eq (a := 0) (b := 0) rfl rfl (by omega) (by omega))).mp c_16
                    omega
                  · have c_16 := (n_eq (a := 0) (b := 0) rfl rfl (by omega) (by omega)).mp c_16
                    refine r_nil ?_
                    refine E_go 1 rfl ?_
                    refine r_ldc rfl ?_
                    refine r_iret rfl trivial ?_
                    refine M_go (ls := [_, _, _]) (ml := 3) rfl rfl rfl (zl rfl) rfl ?_
                    refine r_iload_n rfl ?_
                    refine r_i2l ?_
                    refine r_lconst ?_
                    refine r_ldc2_w ?_
                    refine r_static (vs := [_, _, _]) (by decide) (zl rfl) rfl rfl (zl rfl) (Nat.le_refl _) rfl ?_
                    refine s_in0 (by omega) (x := (io 4)) (k := 8) (Int32.toInt_toInt64 _) i64_0 rfl ?_
                    rw [if_pos (inN_io (by omega) (by omega))]
                    refine r_if_eq (fun c_9 => ?_) (fun c_9 => ?_)
                    · have c_9 := (n_eq (a := 1) (b := 0) rfl rfl (by omega) (by omega)).mp c_9
                      omega
                    · have c_9 := (not_congr (n_eq (a := 1) (b := 0) rfl rfl (by omega) (by omega))).mp c_9
                      refine r_iload_n rfl ?_
                      refine r_iconst ?_
                      refine r_icmp_le (fun c_14 => ?_) (fun c_14 => ?_)
                      · have c_14 := (n_le (a := 4) (b := 1) rfl rfl (by omega) (by omega)).mp c_14
                        omega
                      · have c_14 := (not_congr (n_le (a := 4) (b := 1) rfl rfl (by omega) (by omega))).mp c_14
                        refine r_aload_n rfl ?_
                        refine r_iload_n rfl ?_
                        refine r_virtual (vs := []) (as := [_]) (by decide) (zl rfl) rfl rfl (zl rfl) (Nat.le_refl _) (Or.inr (Or.inr ⟨zt rfl, rfl, zt rfl⟩)) ?_
                        refine s_isOne (by omega) R.mn h5 ?_
                        rw [if_neg hx]
                        refine r_if_ne (fun c_22 => ?_) (fun c_22 => ?_)
                        · have c_22 := (not_congr (n_eq (a := 0) (b := 0) rfl rfl (by omega) (by omega))).mp c_22
                          omega
                        · have c_22 := (n_eq (a := 0) (b := 0) rfl rfl (by omega) (by omega)).mp c_22
                          refine r_nil ?_
                          refine E_go 1 rfl ?_
                          refine r_ldc rfl ?_
                          refine r_iret rfl trivial ?_
                          exact hQ _ _ _ R.rel
                · have c_13_14 := (not_congr (n_eq (a := 0) (b := 0) rfl rfl (by omega) (by omega))).mp c_13_14
                  omega
    · by_cases hx : inN n x
      · obtain ⟨a, ha, rfl⟩ := inN_ex hx (by omega)
        refine M_go (ls := [_, _, _]) (ml := 3) rfl rfl rfl (zl rfl) rfl ?_
        refine r_iload_n rfl ?_
        refine r_if_lt (fun c_1 => ?_) (fun c_1 => ?_)
        · have c_1 := (n_lt (a := 5) (b := 0) rfl rfl (by omega) (by omega)).mp c_1
          omega
        · have c_1 := (not_congr (n_lt (a := 5) (b := 0) rfl rfl (by omega) (by omega))).mp c_1
          refine r_iload_n rfl ?_
          refine r_bipush ?_
          refine r_icmp_gt (fun c_7 => ?_) (fun c_7 => ?_)
          · have c_7 := (n_lt (a := 7) (b := 5) rfl rfl (by omega) (by omega)).mp c_7
            omega
          · have c_7 := (not_congr (n_lt (a := 7) (b := 5) rfl rfl (by omega) (by omega))).mp c_7
            refine r_aload_n rfl ?_
            refine r_iload_n rfl ?_
            refine r_iload_n rfl ?_
            refine r_virtual (vs := []) (as := [_, _]) (by decide) (zl rfl) rfl rfl (zl rfl) (Nat.le_refl _) (Or.inr (Or.inr ⟨zt rfl, rfl, zt rfl⟩)) ?_
            refine M_go (ls := [_, _, _]) (ml := 3) rfl rfl rfl (zl rfl) rfl ?_
            refine r_iload_n rfl ?_
            refine r_if_eq (fun c_13_1 => ?_) (fun c_13_1 => ?_)
            · have c_13_1 := (n_eq (a := 5) (b := 0) rfl rfl (by omega) (by omega)).mp c_13_1
              omega
            · have c_13_1 := (not_congr (n_eq (a := 5) (b := 0) rfl rfl (by omega) (by omega))).mp c_13_1
              refine r_iload_n rfl ?_
              refine r_iconst ?_
              refine r_icmp_eq (fun c_13_6 => ?_) (fun c_13_6 => ?_)
              · have c_13_6 := (n_eq (a := 5) (b := 1) rfl rfl (by omega) (by omega)).mp c_13_6
                omega
              · have c_13_6 := (not_congr (n_eq (a := 5) (b := 1) rfl rfl (by omega) (by omega))).mp c_13_6
                refine r_aload_n rfl ?_
                refine r_iload_n rfl ?_
                refine r_virtual (vs := []) (as := [_]) (by decide) (zl rfl) rfl rfl (zl rfl) (Nat.le_refl _) (Or.inr (Or.inr ⟨zt rfl, rfl, zt rfl⟩)) ?_
                refine s_isAunt (by omega) R.cn h5 ?_
                rw [if_pos (inN_io ha (by omega))]
                refine r_if_eq (fun c_13_14 => ?_) (fun c_13_14 => ?_)
                · have c_13_14 := (n_eq (a := 1) (b := 0) rfl rfl (by omega) (by omega)).mp c_13_14
                  omega
                · have c_13_14 := (not_congr (n_eq (a := 1) (b := 0) rfl rfl (by omega) (by omega))).mp c_13_14
                  refine r_nil ?_
                  refine E_go 1 rfl ?_
                  refine r_iconst ?_
                  refine r_goto ?_
                  refine E_go 3 rfl ?_
                  refine r_iret rfl (by first | exact Or.inl rfl | exact Or.inr rfl) ?_
                  refine r_if_ne (fun c_16 => ?_) (fun c_16 => ?_)
                  · have c_16 := (not_congr (n_eq (a := 1) (b := 0) rfl rfl (by omega) (by omega))).mp c_16
                    refine E_go 2 rfl ?_
                    refine r_aload_n rfl ?_
                    refine r_getA (q := 1) (by decide) rfl rfl (by decide) ?_
                    refine r_iload_n rfl ?_
                    refine r_iload_n rfl ?_
                    refine r_virtual (vs := []) (as := [_, _]) (by decide) (zl rfl) rfl rfl (zl rfl) (Nat.le_refl _) (Or.inr (Or.inr ⟨zt rfl, rfl, zt rfl⟩)) ?_
                    refine M_go (ls := [_, _, _]) (ml := 3) rfl rfl rfl (zl rfl) rfl ?_
                    refine r_iload_n rfl ?_
                    refine r_table ?_
                    refine r_sw1 (fun cs => ?_) (fun ds => ?_)
                    · exact absurd ((n_eq (a := 5) (b := 0) rfl rfl (by omega) (by omega)).mp cs) (by omega)
                    refine r_sw1 (fun cs => ?_) (fun ds => ?_)
                    · exact absurd ((n_eq (a := 5) (b := 1) rfl rfl (by omega) (by omega)).mp cs) (by omega)
                    refine r_sw1 (fun cs => ?_) (fun ds => ?_)
                    · exact absurd ((n_eq (a := 5) (b := 2) rfl rfl (by omega) (by omega)).mp cs) (by omega)
                    refine r_sw1 (fun cs => ?_) (fun ds => ?_)
                    · exact absurd ((n_eq (a := 5) (b := 3) rfl rfl (by omega) (by omega)).mp cs) (by omega)
                    refine r_sw1 (fun cs => ?_) (fun ds => ?_)
                    · exact absurd ((n_eq (a := 5) (b := 4) rfl rfl (by omega) (by omega)).mp cs) (by omega)
                    refine r_sw1 (fun cs => ?_) (fun ds => ?_)
                    · refine E_go 6 rfl ?_
                      refine r_aload_n rfl ?_
                      refine r_getA (q := 2) (by decide) rfl rfl (by decide) ?_
                      refine r_iload_n rfl ?_
                      refine r_iaload (by decide) rfl (by decide) (ixE rfl (show a < 5 by omega) (by decide)) rfl ?_
                      refine r_iret rfl trivial ?_
                      refine r_iret rfl trivial ?_
                      refine M_go (ls := [_, _, _]) (ml := 3) rfl rfl rfl (zl rfl) rfl ?_
                      refine r_iload_n rfl ?_
                      refine r_i2l ?_
                      refine r_lconst ?_
                      refine r_ldc2_w ?_
                      refine r_static (vs := [_, _, _]) (by decide) (zl rfl) rfl rfl (zl rfl) (Nat.le_refl _) rfl ?_
                      refine s_in0 (by omega) (x := (io 5)) (k := 8) (Int32.toInt_toInt64 _) i64_0 rfl ?_
                      rw [if_pos (inN_io (by omega) (by omega))]
                      refine r_if_eq (fun c_9 => ?_) (fun c_9 => ?_)
                      · have c_9 := (n_eq (a := 1) (b := 0) rfl rfl (by omega) (by omega)).mp c_9
                        omega
                      · have c_9 := (not_congr (n_eq (a := 1) (b := 0) rfl rfl (by omega) (by omega))).mp c_9
                        refine r_iload_n rfl ?_
                        refine r_iconst ?_
                        refine r_icmp_le (fun c_14 => ?_) (fun c_14 => ?_)
                        · have c_14 := (n_le (a := 5) (b := 1) rfl rfl (by omega) (by omega)).mp c_14
                          omega
                        · have c_14 := (not_congr (n_le (a := 5) (b := 1) rfl rfl (by omega) (by omega))).mp c_14
                          refine r_aload_n rfl ?_
                          refine r_iload_n rfl ?_
                          refine r_virtual (vs := []) (as := [_]) (by decide) (zl rfl) rfl rfl (zl rfl) (Nat.le_refl _) (Or.inr (Or.inr ⟨zt rfl, rfl, zt rfl⟩)) ?_
                          refine s_isOne (by omega) R.mn h5 ?_
                          rw [if_pos (inN_io ha (by omega))]
                          refine r_if_ne (fun c_22 => ?_) (fun c_22 => ?_)
                          · have c_22 := (not_congr (n_eq (a := 1) (b := 0) rfl rfl (by omega) (by omega))).mp c_22
                            refine E_go 2 rfl ?_
                            refine r_iload_n rfl ?_
                            refine r_iconst ?_
                            refine r_icmp_ge (fun c_30 => ?_) (fun c_30 => ?_)
                            · have c_30 := (n_le (a := 2) (b := 5) rfl rfl (by omega) (by omega)).mp c_30
                              refine E_go 5 rfl ?_
                              refine r_iload_n rfl ?_
                              refine r_iconst ?_
                              refine r_icmp_ge (fun c_51 => ?_) (fun c_51 => ?_)
                              · have c_51 := (n_le (a := 5) (b := 5) rfl rfl (by omega) (by omega)).mp c_51
                                refine E_go 6 rfl ?_
                                refine r_iload_n rfl ?_
                                refine r_iconst ?_
                                refine r_icmp_ne (fun c_71 => ?_) (fun c_71 => ?_)
                                · have c_71 := (not_congr (n_eq (a := 5) (b := 5) rfl rfl (by omega) (by omega))).mp c_71
                                  omega
                                · have c_71 := (n_eq (a := 5) (b := 5) rfl rfl (by omega) (by omega)).mp c_71
                                  refine r_aload_n rfl ?_
                                  refine r_getA (q := 65) (by decide) rfl rfl (by decide) ?_
                                  refine r_iload_n rfl ?_
                                  refine r_iaload (by decide) rfl (by decide) (ixE rfl (show a < 5 by omega) (by decide)) (R.ki ha) ?_
                                  refine r_goto ?_
                                  refine E_go 9 rfl ?_
                                  refine r_iret rfl trivial ?_
                                  exact hQ _ _ _ R.rel
                              · have c_51 := (not_congr (n_le (a := 5) (b := 5) rfl rfl (by omega) (by omega))).mp c_51
                                omega
                            · have c_30 := (not_congr (n_le (a := 2) (b := 5) rfl rfl (by omega) (by omega))).mp c_30
                              omega
                          · have c_22 := (n_eq (a := 1) (b := 0) rfl rfl (by omega) (by omega)).mp c_22
                            omega
                    · exact absurd rfl ds
                  · have c_16 := (n_eq (a := 1) (b := 0) rfl rfl (by omega) (by omega)).mp c_16
                    omega
      · refine M_go (ls := [_, _, _]) (ml := 3) rfl rfl rfl (zl rfl) rfl ?_
        refine r_iload_n rfl ?_
        refine r_if_lt (fun c_1 => ?_) (fun c_1 => ?_)
        · have c_1 := (n_lt (a := 5) (b := 0) rfl rfl (by omega) (by omega)).mp c_1
          omega
        · have c_1 := (not_congr (n_lt (a := 5) (b := 0) rfl rfl (by omega) (by omega))).mp c_1
          refine r_iload_n rfl ?_
          refine r_bipush ?_
          refine r_icmp_gt (fun c_7 => ?_) (fun c_7 => ?_)
          · have c_7 := (n_lt (a := 7) (b := 5) rfl rfl (by omega) (by omega)).mp c_7
            omega
          · have c_7 := (not_congr (n_lt (a := 7) (b := 5) rfl rfl (by omega) (by omega))).mp c_7
            refine r_aload_n rfl ?_
            refine r_iload_n rfl ?_
            refine r_iload_n rfl ?_
            refine r_virtual (vs := []) (as := [_, _]) (by decide) (zl rfl) rfl rfl (zl rfl) (Nat.le_refl _) (Or.inr (Or.inr ⟨zt rfl, rfl, zt rfl⟩)) ?_
            refine M_go (ls := [_, _, _]) (ml := 3) rfl rfl rfl (zl rfl) rfl ?_
            refine r_iload_n rfl ?_
            refine r_if_eq (fun c_13_1 => ?_) (fun c_13_1 => ?_)
            · have c_13_1 := (n_eq (a := 5) (b := 0) rfl rfl (by omega) (by omega)).mp c_13_1
              omega
            · have c_13_1 := (not_congr (n_eq (a := 5) (b := 0) rfl rfl (by omega) (by omega))).mp c_13_1
              refine r_iload_n rfl ?_
              refine r_iconst ?_
              refine r_icmp_eq (fun c_13_6 => ?_) (fun c_13_6 => ?_)
              · have c_13_6 := (n_eq (a := 5) (b := 1) rfl rfl (by omega) (by omega)).mp c_13_6
                omega
              · have c_13_6 := (not_congr (n_eq (a := 5) (b := 1) rfl rfl (by omega) (by omega))).mp c_13_6
                refine r_aload_n rfl ?_
                refine r_iload_n rfl ?_
                refine r_virtual (vs := []) (as := [_]) (by decide) (zl rfl) rfl rfl (zl rfl) (Nat.le_refl _) (Or.inr (Or.inr ⟨zt rfl, rfl, zt rfl⟩)) ?_
                refine s_isAunt (by omega) R.cn h5 ?_
                rw [if_neg hx]
                refine r_if_eq (fun c_13_14 => ?_) (fun c_13_14 => ?_)
                · have c_13_14 := (n_eq (a := 0) (b := 0) rfl rfl (by omega) (by omega)).mp c_13_14
                  refine E_go 2 rfl ?_
                  refine r_iconst ?_
                  refine r_nil ?_
                  refine E_go 3 rfl ?_
                  refine r_iret rfl (by first | exact Or.inl rfl | exact Or.inr rfl) ?_
                  refine r_if_ne (fun c_16 => ?_) (fun c_16 => ?_)
                  · have c_16 := (not_congr (n_eq (a := 0) (b := 0) rfl rfl (by omega) (by omega))).mp c_16
                    omega
                  · have c_16 := (n_eq (a := 0) (b := 0) rfl rfl (by omega) (by omega)).mp c_16
                    refine r_nil ?_
                    refine E_go 1 rfl ?_
                    refine r_ldc rfl ?_
                    refine r_iret rfl trivial ?_
                    refine M_go (ls := [_, _, _]) (ml := 3) rfl rfl rfl (zl rfl) rfl ?_
                    refine r_iload_n rfl ?_
                    refine r_i2l ?_
                    refine r_lconst ?_
                    refine r_ldc2_w ?_
                    refine r_static (vs := [_, _, _]) (by decide) (zl rfl) rfl rfl (zl rfl) (Nat.le_refl _) rfl ?_
                    refine s_in0 (by omega) (x := (io 5)) (k := 8) (Int32.toInt_toInt64 _) i64_0 rfl ?_
                    rw [if_pos (inN_io (by omega) (by omega))]
                    refine r_if_eq (fun c_9 => ?_) (fun c_9 => ?_)
                    · have c_9 := (n_eq (a := 1) (b := 0) rfl rfl (by omega) (by omega)).mp c_9
                      omega
                    · have c_9 := (not_congr (n_eq (a := 1) (b := 0) rfl rfl (by omega) (by omega))).mp c_9
                      refine r_iload_n rfl ?_
                      refine r_iconst ?_
                      refine r_icmp_le (fun c_14 => ?_) (fun c_14 => ?_)
                      · have c_14 := (n_le (a := 5) (b := 1) rfl rfl (by omega) (by omega)).mp c_14
                        omega
                      · have c_14 := (not_congr (n_le (a := 5) (b := 1) rfl rfl (by omega) (by omega))).mp c_14
                        refine r_aload_n rfl ?_
                        refine r_iload_n rfl ?_
                        refine r_virtual (vs := []) (as := [_]) (by decide) (zl rfl) rfl rfl (zl rfl) (Nat.le_refl _) (Or.inr (Or.inr ⟨zt rfl, rfl, zt rfl⟩)) ?_
                        refine s_isOne (by omega) R.mn h5 ?_
                        rw [if_neg hx]
                        refine r_if_ne (fun c_22 => ?_) (fun c_22 => ?_)
                        · have c_22 := (not_congr (n_eq (a := 0) (b := 0) rfl rfl (by omega) (by omega))).mp c_22
                          omega
                        · have c_22 := (n_eq (a := 0) (b := 0) rfl rfl (by omega) (by omega)).mp c_22
                          refine r_nil ?_
                          refine E_go 1 rfl ?_
                          refine r_ldc rfl ?_
                          refine r_iret rfl trivial ?_
                          exact hQ _ _ _ R.rel
                · have c_13_14 := (not_congr (n_eq (a := 0) (b := 0) rfl rfl (by omega) (by omega))).mp c_13_14
                  omega
    · by_cases hx : inN n x
      · obtain ⟨a, ha, rfl⟩ := inN_ex hx (by omega)
        refine M_go (ls := [_, _, _]) (ml := 3) rfl rfl rfl (zl rfl) rfl ?_
        refine r_iload_n rfl ?_
        refine r_if_lt (fun c_1 => ?_) (fun c_1 => ?_)
        · have c_1 := (n_lt (a := 6) (b := 0) rfl rfl (by omega) (by omega)).mp c_1
          omega
        · have c_1 := (not_congr (n_lt (a := 6) (b := 0) rfl rfl (by omega) (by omega))).mp c_1
          refine r_iload_n rfl ?_
          refine r_bipush ?_
          refine r_icmp_gt (fun c_7 => ?_) (fun c_7 => ?_)
          · have c_7 := (n_lt (a := 7) (b := 6) rfl rfl (by omega) (by omega)).mp c_7
            omega
          · have c_7 := (not_congr (n_lt (a := 7) (b := 6) rfl rfl (by omega) (by omega))).mp c_7
            refine r_aload_n rfl ?_
            refine r_iload_n rfl ?_
            refine r_iload_n rfl ?_
            refine r_virtual (vs := []) (as := [_, _]) (by decide) (zl rfl) rfl rfl (zl rfl) (Nat.le_refl _) (Or.inr (Or.inr ⟨zt rfl, rfl, zt rfl⟩)) ?_
            refine M_go (ls := [_, _, _]) (ml := 3) rfl rfl rfl (zl rfl) rfl ?_
            refine r_iload_n rfl ?_
            refine r_if_eq (fun c_13_1 => ?_) (fun c_13_1 => ?_)
            · have c_13_1 := (n_eq (a := 6) (b := 0) rfl rfl (by omega) (by omega)).mp c_13_1
              omega
            · have c_13_1 := (not_congr (n_eq (a := 6) (b := 0) rfl rfl (by omega) (by omega))).mp c_13_1
              refine r_iload_n rfl ?_
              refine r_iconst ?_
              refine r_icmp_eq (fun c_13_6 => ?_) (fun c_13_6 => ?_)
              · have c_13_6 := (n_eq (a := 6) (b := 1) rfl rfl (by omega) (by omega)).mp c_13_6
                omega
              · have c_13_6 := (not_congr (n_eq (a := 6) (b := 1) rfl rfl (by omega) (by omega))).mp c_13_6
                refine r_aload_n rfl ?_
                refine r_iload_n rfl ?_
                refine r_virtual (vs := []) (as := [_]) (by decide) (zl rfl) rfl rfl (zl rfl) (Nat.le_refl _) (Or.inr (Or.inr ⟨zt rfl, rfl, zt rfl⟩)) ?_
                refine s_isAunt (by omega) R.cn h5 ?_
                rw [if_pos (inN_io ha (by omega))]
                refine r_if_eq (fun c_13_14 => ?_) (fun c_13_14 => ?_)
                · have c_13_14 := (n_eq (a := 1) (b := 0) rfl rfl (by omega) (by omega)).mp c_13_14
                  omega
                · have c_13_14 := (not_congr (n_eq (a := 1) (b := 0) rfl rfl (by omega) (by omega))).mp c_13_14
                  refine r_nil ?_
                  refine E_go 1 rfl ?_
                  refine r_iconst ?_
                  refine r_goto ?_
                  refine E_go 3 rfl ?_
                  refine r_iret rfl (by first | exact Or.inl rfl | exact Or.inr rfl) ?_
                  refine r_if_ne (fun c_16 => ?_) (fun c_16 => ?_)
                  · have c_16 := (not_congr (n_eq (a := 1) (b := 0) rfl rfl (by omega) (by omega))).mp c_16
                    refine E_go 2 rfl ?_
                    refine r_aload_n rfl ?_
                    refine r_getA (q := 1) (by decide) rfl rfl (by decide) ?_
                    refine r_iload_n rfl ?_
                    refine r_iload_n rfl ?_
                    refine r_virtual (vs := []) (as := [_, _]) (by decide) (zl rfl) rfl rfl (zl rfl) (Nat.le_refl _) (Or.inr (Or.inr ⟨zt rfl, rfl, zt rfl⟩)) ?_
                    refine M_go (ls := [_, _, _]) (ml := 3) rfl rfl rfl (zl rfl) rfl ?_
                    refine r_iload_n rfl ?_
                    refine r_table ?_
                    refine r_sw1 (fun cs => ?_) (fun ds => ?_)
                    · exact absurd ((n_eq (a := 6) (b := 0) rfl rfl (by omega) (by omega)).mp cs) (by omega)
                    refine r_sw1 (fun cs => ?_) (fun ds => ?_)
                    · exact absurd ((n_eq (a := 6) (b := 1) rfl rfl (by omega) (by omega)).mp cs) (by omega)
                    refine r_sw1 (fun cs => ?_) (fun ds => ?_)
                    · exact absurd ((n_eq (a := 6) (b := 2) rfl rfl (by omega) (by omega)).mp cs) (by omega)
                    refine r_sw1 (fun cs => ?_) (fun ds => ?_)
                    · exact absurd ((n_eq (a := 6) (b := 3) rfl rfl (by omega) (by omega)).mp cs) (by omega)
                    refine r_sw1 (fun cs => ?_) (fun ds => ?_)
                    · exact absurd ((n_eq (a := 6) (b := 4) rfl rfl (by omega) (by omega)).mp cs) (by omega)
                    refine r_sw1 (fun cs => ?_) (fun ds => ?_)
                    · exact absurd ((n_eq (a := 6) (b := 5) rfl rfl (by omega) (by omega)).mp cs) (by omega)
                    refine r_sw1 (fun cs => ?_) (fun ds => ?_)
                    · refine E_go 7 rfl ?_
                      refine r_aload_n rfl ?_
                      refine r_getA (q := 6) (by decide) rfl rfl (by decide) ?_
                      refine r_iload_n rfl ?_
                      refine r_iaload (by decide) rfl (by decide) (ixE rfl (show a < 5 by omega) (by decide)) rfl ?_
                      refine r_iret rfl trivial ?_
                      refine r_iret rfl trivial ?_
                      refine M_go (ls := [_, _, _]) (ml := 3) rfl rfl rfl (zl rfl) rfl ?_
                      refine r_iload_n rfl ?_
                      refine r_i2l ?_
                      refine r_lconst ?_
                      refine r_ldc2_w ?_
                      refine r_static (vs := [_, _, _]) (by decide) (zl rfl) rfl rfl (zl rfl) (Nat.le_refl _) rfl ?_
                      refine s_in0 (by omega) (x := (io 6)) (k := 8) (Int32.toInt_toInt64 _) i64_0 rfl ?_
                      rw [if_pos (inN_io (by omega) (by omega))]
                      refine r_if_eq (fun c_9 => ?_) (fun c_9 => ?_)
                      · have c_9 := (n_eq (a := 1) (b := 0) rfl rfl (by omega) (by omega)).mp c_9
                        omega
                      · have c_9 := (not_congr (n_eq (a := 1) (b := 0) rfl rfl (by omega) (by omega))).mp c_9
                        refine r_iload_n rfl ?_
                        refine r_iconst ?_
                        refine r_icmp_le (fun c_14 => ?_) (fun c_14 => ?_)
                        · have c_14 := (n_le (a := 6) (b := 1) rfl rfl (by omega) (by omega)).mp c_14
                          omega
                        · have c_14 := (not_congr (n_le (a := 6) (b := 1) rfl rfl (by omega) (by omega))).mp c_14
                          refine r_aload_n rfl ?_
                          refine r_iload_n rfl ?_
                          refine r_virtual (vs := []) (as := [_]) (by decide) (zl rfl) rfl rfl (zl rfl) (Nat.le_refl _) (Or.inr (Or.inr ⟨zt rfl, rfl, zt rfl⟩)) ?_
                          refine s_isOne (by omega) R.mn h5 ?_
                          rw [if_pos (inN_io ha (by omega))]
                          refine r_if_ne (fun c_22 => ?_) (fun c_22 => ?_)
                          · have c_22 := (not_congr (n_eq (a := 1) (b := 0) rfl rfl (by omega) (by omega))).mp c_22
                            refine E_go 2 rfl ?_
                            refine r_iload_n rfl ?_
                            refine r_iconst ?_
                            refine r_icmp_ge (fun c_30 => ?_) (fun c_30 => ?_)
                            · have c_30 := (n_le (a := 2) (b := 6) rfl rfl (by omega) (by omega)).mp c_30
                              refine E_go 5 rfl ?_
                              refine r_iload_n rfl ?_
                              refine r_iconst ?_
                              refine r_icmp_ge (fun c_51 => ?_) (fun c_51 => ?_)
                              · have c_51 := (n_le (a := 5) (b := 6) rfl rfl (by omega) (by omega)).mp c_51
                                refine E_go 6 rfl ?_
                                refine r_iload_n rfl ?_
                                refine r_iconst ?_
                                refine r_icmp_ne (fun c_71 => ?_) (fun c_71 => ?_)
                                · have c_71 := (not_congr (n_eq (a := 6) (b := 5) rfl rfl (by omega) (by omega))).mp c_71
                                  refine E_go 7 rfl ?_
                                  refine r_iload_n rfl ?_
                                  refine r_bipush ?_
                                  refine r_icmp_ne (fun c_86 => ?_) (fun c_86 => ?_)
                                  · have c_86 := (not_congr (n_eq (a := 6) (b := 6) rfl rfl (by omega) (by omega))).mp c_86
                                    omega
                                  · have c_86 := (n_eq (a := 6) (b := 6) rfl rfl (by omega) (by omega)).mp c_86
                                    refine r_aload_n rfl ?_
                                    refine r_getA (q := 67) (by decide) rfl rfl (by decide) ?_
                                    refine r_iload_n rfl ?_
                                    refine r_iaload (by decide) rfl (by decide) (ixE rfl (show a < 5 by omega) (by decide)) (R.hd ha) ?_
                                    refine r_goto ?_
                                    refine E_go 9 rfl ?_
                                    refine r_iret rfl trivial ?_
                                    exact hQ _ _ _ R.rel
                                · have c_71 := (n_eq (a := 6) (b := 5) rfl rfl (by omega) (by omega)).mp c_71
                                  omega
                              · have c_51 := (not_congr (n_le (a := 5) (b := 6) rfl rfl (by omega) (by omega))).mp c_51
                                omega
                            · have c_30 := (not_congr (n_le (a := 2) (b := 6) rfl rfl (by omega) (by omega))).mp c_30
                              omega
                          · have c_22 := (n_eq (a := 1) (b := 0) rfl rfl (by omega) (by omega)).mp c_22
                            omega
                    · exact absurd rfl ds
                  · have c_16 := (n_eq (a := 1) (b := 0) rfl rfl (by omega) (by omega)).mp c_16
                    omega
      · refine M_go (ls := [_, _, _]) (ml := 3) rfl rfl rfl (zl rfl) rfl ?_
        refine r_iload_n rfl ?_
        refine r_if_lt (fun c_1 => ?_) (fun c_1 => ?_)
        · have c_1 := (n_lt (a := 6) (b := 0) rfl rfl (by omega) (by omega)).mp c_1
          omega
        · have c_1 := (not_congr (n_lt (a := 6) (b := 0) rfl rfl (by omega) (by omega))).mp c_1
          refine r_iload_n rfl ?_
          refine r_bipush ?_
          refine r_icmp_gt (fun c_7 => ?_) (fun c_7 => ?_)
          · have c_7 := (n_lt (a := 7) (b := 6) rfl rfl (by omega) (by omega)).mp c_7
            omega
          · have c_7 := (not_congr (n_lt (a := 7) (b := 6) rfl rfl (by omega) (by omega))).mp c_7
            refine r_aload_n rfl ?_
            refine r_iload_n rfl ?_
            refine r_iload_n rfl ?_
            refine r_virtual (vs := []) (as := [_, _]) (by decide) (zl rfl) rfl rfl (zl rfl) (Nat.le_refl _) (Or.inr (Or.inr ⟨zt rfl, rfl, zt rfl⟩)) ?_
            refine M_go (ls := [_, _, _]) (ml := 3) rfl rfl rfl (zl rfl) rfl ?_
            refine r_iload_n rfl ?_
            refine r_if_eq (fun c_13_1 => ?_) (fun c_13_1 => ?_)
            · have c_13_1 := (n_eq (a := 6) (b := 0) rfl rfl (by omega) (by omega)).mp c_13_1
              omega
            · have c_13_1 := (not_congr (n_eq (a := 6) (b := 0) rfl rfl (by omega) (by omega))).mp c_13_1
              refine r_iload_n rfl ?_
              refine r_iconst ?_
              refine r_icmp_eq (fun c_13_6 => ?_) (fun c_13_6 => ?_)
              · have c_13_6 := (n_eq (a := 6) (b := 1) rfl rfl (by omega) (by omega)).mp c_13_6
                omega
              · have c_13_6 := (not_congr (n_eq (a := 6) (b := 1) rfl rfl (by omega) (by omega))).mp c_13_6
                refine r_aload_n rfl ?_
                refine r_iload_n rfl ?_
                refine r_virtual (vs := []) (as := [_]) (by decide) (zl rfl) rfl rfl (zl rfl) (Nat.le_refl _) (Or.inr (Or.inr ⟨zt rfl, rfl, zt rfl⟩)) ?_
                refine s_isAunt (by omega) R.cn h5 ?_
                rw [if_neg hx]
                refine r_if_eq (fun c_13_14 => ?_) (fun c_13_14 => ?_)
                · have c_13_14 := (n_eq (a := 0) (b := 0) rfl rfl (by omega) (by omega)).mp c_13_14
                  refine E_go 2 rfl ?_
                  refine r_iconst ?_
                  refine r_nil ?_
                  refine E_go 3 rfl ?_
                  refine r_iret rfl (by first | exact Or.inl rfl | exact Or.inr rfl) ?_
                  refine r_if_ne (fun c_16 => ?_) (fun c_16 => ?_)
                  · have c_16 := (not_congr (n_eq (a := 0) (b := 0) rfl rfl (by omega) (by omega))).mp c_16
                    omega
                  · have c_16 := (n_eq (a := 0) (b := 0) rfl rfl (by omega) (by omega)).mp c_16
                    refine r_nil ?_
                    refine E_go 1 rfl ?_
                    refine r_ldc rfl ?_
                    refine r_iret rfl trivial ?_
                    refine M_go (ls := [_, _, _]) (ml := 3) rfl rfl rfl (zl rfl) rfl ?_
                    refine r_iload_n rfl ?_
                    refine r_i2l ?_
                    refine r_lconst ?_
                    refine r_ldc2_w ?_
                    refine r_static (vs := [_, _, _]) (by decide) (zl rfl) rfl rfl (zl rfl) (Nat.le_refl _) rfl ?_
                    refine s_in0 (by omega) (x := (io 6)) (k := 8) (Int32.toInt_toInt64 _) i64_0 rfl ?_
                    rw [if_pos (inN_io (by omega) (by omega))]
                    refine r_if_eq (fun c_9 => ?_) (fun c_9 => ?_)
                    · have c_9 := (n_eq (a := 1) (b := 0) rfl rfl (by omega) (by omega)).mp c_9
                      omega
                    · have c_9 := (not_congr (n_eq (a := 1) (b := 0) rfl rfl (by omega) (by omega))).mp c_9
                      refine r_iload_n rfl ?_
                      refine r_iconst ?_
                      refine r_icmp_le (fun c_14 => ?_) (fun c_14 => ?_)
                      · have c_14 := (n_le (a := 6) (b := 1) rfl rfl (by omega) (by omega)).mp c_14
                        omega
                      · have c_14 := (not_congr (n_le (a := 6) (b := 1) rfl rfl (by omega) (by omega))).mp c_14
                        refine r_aload_n rfl ?_
                        refine r_iload_n rfl ?_
                        refine r_virtual (vs := []) (as := [_]) (by decide) (zl rfl) rfl rfl (zl rfl) (Nat.le_refl _) (Or.inr (Or.inr ⟨zt rfl, rfl, zt rfl⟩)) ?_
                        refine s_isOne (by omega) R.mn h5 ?_
                        rw [if_neg hx]
                        refine r_if_ne (fun c_22 => ?_) (fun c_22 => ?_)
                        · have c_22 := (not_congr (n_eq (a := 0) (b := 0) rfl rfl (by omega) (by omega))).mp c_22
                          omega
                        · have c_22 := (n_eq (a := 0) (b := 0) rfl rfl (by omega) (by omega)).mp c_22
                          refine r_nil ?_
                          refine E_go 1 rfl ?_
                          refine r_ldc rfl ?_
                          refine r_iret rfl trivial ?_
                          exact hQ _ _ _ R.rel
                · have c_13_14 := (not_congr (n_eq (a := 0) (b := 0) rfl rfl (by omega) (by omega))).mp c_13_14
                  omega
    · by_cases hx : inN n x
      · obtain ⟨a, ha, rfl⟩ := inN_ex hx (by omega)
        refine M_go (ls := [_, _, _]) (ml := 3) rfl rfl rfl (zl rfl) rfl ?_
        refine r_iload_n rfl ?_
        refine r_if_lt (fun c_1 => ?_) (fun c_1 => ?_)
        · have c_1 := (n_lt (a := 7) (b := 0) rfl rfl (by omega) (by omega)).mp c_1
          omega
        · have c_1 := (not_congr (n_lt (a := 7) (b := 0) rfl rfl (by omega) (by omega))).mp c_1
          refine r_iload_n rfl ?_
          refine r_bipush ?_
          refine r_icmp_gt (fun c_7 => ?_) (fun c_7 => ?_)
          · have c_7 := (n_lt (a := 7) (b := 7) rfl rfl (by omega) (by omega)).mp c_7
            omega
          · have c_7 := (not_congr (n_lt (a := 7) (b := 7) rfl rfl (by omega) (by omega))).mp c_7
            refine r_aload_n rfl ?_
            refine r_iload_n rfl ?_
            refine r_iload_n rfl ?_
            refine r_virtual (vs := []) (as := [_, _]) (by decide) (zl rfl) rfl rfl (zl rfl) (Nat.le_refl _) (Or.inr (Or.inr ⟨zt rfl, rfl, zt rfl⟩)) ?_
            refine M_go (ls := [_, _, _]) (ml := 3) rfl rfl rfl (zl rfl) rfl ?_
            refine r_iload_n rfl ?_
            refine r_if_eq (fun c_13_1 => ?_) (fun c_13_1 => ?_)
            · have c_13_1 := (n_eq (a := 7) (b := 0) rfl rfl (by omega) (by omega)).mp c_13_1
              omega
            · have c_13_1 := (not_congr (n_eq (a := 7) (b := 0) rfl rfl (by omega) (by omega))).mp c_13_1
              refine r_iload_n rfl ?_
              refine r_iconst ?_
              refine r_icmp_eq (fun c_13_6 => ?_) (fun c_13_6 => ?_)
              · have c_13_6 := (n_eq (a := 7) (b := 1) rfl rfl (by omega) (by omega)).mp c_13_6
                omega
              · have c_13_6 := (not_congr (n_eq (a := 7) (b := 1) rfl rfl (by omega) (by omega))).mp c_13_6
                refine r_aload_n rfl ?_
                refine r_iload_n rfl ?_
                refine r_virtual (vs := []) (as := [_]) (by decide) (zl rfl) rfl rfl (zl rfl) (Nat.le_refl _) (Or.inr (Or.inr ⟨zt rfl, rfl, zt rfl⟩)) ?_
                refine s_isAunt (by omega) R.cn h5 ?_
                rw [if_pos (inN_io ha (by omega))]
                refine r_if_eq (fun c_13_14 => ?_) (fun c_13_14 => ?_)
                · have c_13_14 := (n_eq (a := 1) (b := 0) rfl rfl (by omega) (by omega)).mp c_13_14
                  omega
                · have c_13_14 := (not_congr (n_eq (a := 1) (b := 0) rfl rfl (by omega) (by omega))).mp c_13_14
                  refine r_nil ?_
                  refine E_go 1 rfl ?_
                  refine r_iconst ?_
                  refine r_goto ?_
                  refine E_go 3 rfl ?_
                  refine r_iret rfl (by first | exact Or.inl rfl | exact Or.inr rfl) ?_
                  refine r_if_ne (fun c_16 => ?_) (fun c_16 => ?_)
                  · have c_16 := (not_congr (n_eq (a := 1) (b := 0) rfl rfl (by omega) (by omega))).mp c_16
                    refine E_go 2 rfl ?_
                    refine r_aload_n rfl ?_
                    refine r_getA (q := 1) (by decide) rfl rfl (by decide) ?_
                    refine r_iload_n rfl ?_
                    refine r_iload_n rfl ?_
                    refine r_virtual (vs := []) (as := [_, _]) (by decide) (zl rfl) rfl rfl (zl rfl) (Nat.le_refl _) (Or.inr (Or.inr ⟨zt rfl, rfl, zt rfl⟩)) ?_
                    refine M_go (ls := [_, _, _]) (ml := 3) rfl rfl rfl (zl rfl) rfl ?_
                    refine r_iload_n rfl ?_
                    refine r_table ?_
                    refine r_sw1 (fun cs => ?_) (fun ds => ?_)
                    · exact absurd ((n_eq (a := 7) (b := 0) rfl rfl (by omega) (by omega)).mp cs) (by omega)
                    refine r_sw1 (fun cs => ?_) (fun ds => ?_)
                    · exact absurd ((n_eq (a := 7) (b := 1) rfl rfl (by omega) (by omega)).mp cs) (by omega)
                    refine r_sw1 (fun cs => ?_) (fun ds => ?_)
                    · exact absurd ((n_eq (a := 7) (b := 2) rfl rfl (by omega) (by omega)).mp cs) (by omega)
                    refine r_sw1 (fun cs => ?_) (fun ds => ?_)
                    · exact absurd ((n_eq (a := 7) (b := 3) rfl rfl (by omega) (by omega)).mp cs) (by omega)
                    refine r_sw1 (fun cs => ?_) (fun ds => ?_)
                    · exact absurd ((n_eq (a := 7) (b := 4) rfl rfl (by omega) (by omega)).mp cs) (by omega)
                    refine r_sw1 (fun cs => ?_) (fun ds => ?_)
                    · exact absurd ((n_eq (a := 7) (b := 5) rfl rfl (by omega) (by omega)).mp cs) (by omega)
                    refine r_sw1 (fun cs => ?_) (fun ds => ?_)
                    · exact absurd ((n_eq (a := 7) (b := 6) rfl rfl (by omega) (by omega)).mp cs) (by omega)
                    refine r_sw1 (fun cs => ?_) (fun ds => ?_)
                    · refine E_go 8 rfl ?_
                      refine r_aload_n rfl ?_
                      refine r_getA (q := 2) (by decide) rfl rfl (by decide) ?_
                      refine r_iload_n rfl ?_
                      refine r_iaload (by decide) rfl (by decide) (ixE rfl (show a < 5 by omega) (by decide)) rfl ?_
                      refine r_aload_n rfl ?_
                      refine r_getA (q := 3) (by decide) rfl rfl (by decide) ?_
                      refine r_iload_n rfl ?_
                      refine r_iaload (by decide) rfl (by decide) (ixE rfl (show a < 5 by omega) (by decide)) rfl ?_
                      refine r_static (vs := [_, _]) (by decide) (zl rfl) rfl rfl (zl rfl) (Nat.le_refl _) rfl ?_
                      refine s_X1_takesOfHeat (by omega) ?_
                      refine r_iret rfl trivial ?_
                      refine r_iret rfl trivial ?_
                      refine M_go (ls := [_, _, _]) (ml := 3) rfl rfl rfl (zl rfl) rfl ?_
                      refine r_iload_n rfl ?_
                      refine r_i2l ?_
                      refine r_lconst ?_
                      refine r_ldc2_w ?_
                      refine r_static (vs := [_, _, _]) (by decide) (zl rfl) rfl rfl (zl rfl) (Nat.le_refl _) rfl ?_
                      refine s_in0 (by omega) (x := (io 7)) (k := 8) (Int32.toInt_toInt64 _) i64_0 rfl ?_
                      rw [if_pos (inN_io (by omega) (by omega))]
                      refine r_if_eq (fun c_9 => ?_) (fun c_9 => ?_)
                      · have c_9 := (n_eq (a := 1) (b := 0) rfl rfl (by omega) (by omega)).mp c_9
                        omega
                      · have c_9 := (not_congr (n_eq (a := 1) (b := 0) rfl rfl (by omega) (by omega))).mp c_9
                        refine r_iload_n rfl ?_
                        refine r_iconst ?_
                        refine r_icmp_le (fun c_14 => ?_) (fun c_14 => ?_)
                        · have c_14 := (n_le (a := 7) (b := 1) rfl rfl (by omega) (by omega)).mp c_14
                          omega
                        · have c_14 := (not_congr (n_le (a := 7) (b := 1) rfl rfl (by omega) (by omega))).mp c_14
                          refine r_aload_n rfl ?_
                          refine r_iload_n rfl ?_
                          refine r_virtual (vs := []) (as := [_]) (by decide) (zl rfl) rfl rfl (zl rfl) (Nat.le_refl _) (Or.inr (Or.inr ⟨zt rfl, rfl, zt rfl⟩)) ?_
                          refine s_isOne (by omega) R.mn h5 ?_
                          rw [if_pos (inN_io ha (by omega))]
                          refine r_if_ne (fun c_22 => ?_) (fun c_22 => ?_)
                          · have c_22 := (not_congr (n_eq (a := 1) (b := 0) rfl rfl (by omega) (by omega))).mp c_22
                            refine E_go 2 rfl ?_
                            refine r_iload_n rfl ?_
                            refine r_iconst ?_
                            refine r_icmp_ge (fun c_30 => ?_) (fun c_30 => ?_)
                            · have c_30 := (n_le (a := 2) (b := 7) rfl rfl (by omega) (by omega)).mp c_30
                              refine E_go 5 rfl ?_
                              refine r_iload_n rfl ?_
                              refine r_iconst ?_
                              refine r_icmp_ge (fun c_51 => ?_) (fun c_51 => ?_)
                              · have c_51 := (n_le (a := 5) (b := 7) rfl rfl (by omega) (by omega)).mp c_51
                                refine E_go 6 rfl ?_
                                refine r_iload_n rfl ?_
                                refine r_iconst ?_
                                refine r_icmp_ne (fun c_71 => ?_) (fun c_71 => ?_)
                                · have c_71 := (not_congr (n_eq (a := 7) (b := 5) rfl rfl (by omega) (by omega))).mp c_71
                                  refine E_go 7 rfl ?_
                                  refine r_iload_n rfl ?_
                                  refine r_bipush ?_
                                  refine r_icmp_ne (fun c_86 => ?_) (fun c_86 => ?_)
                                  · have c_86 := (not_congr (n_eq (a := 7) (b := 6) rfl rfl (by omega) (by omega))).mp c_86
                                    refine E_go 8 rfl ?_
                                    refine r_aload_n rfl ?_
                                    refine r_iload_n rfl ?_
                                    refine r_virtual (vs := []) (as := [_]) (by decide) (zl rfl) rfl rfl (zl rfl) (Nat.le_refl _) (Or.inr (Or.inr ⟨zt rfl, rfl, zt rfl⟩)) ?_
                                    refine s_drinksOf (by omega) (by omega) ?_
                                    rw [R.ki ha, R.nu ha]
                                    refine r_nil ?_
                                    refine E_go 9 rfl ?_
                                    refine r_iret rfl trivial ?_
                                    exact hQ _ _ _ R.rel
                                  · have c_86 := (n_eq (a := 7) (b := 6) rfl rfl (by omega) (by omega)).mp c_86
                                    omega
                                · have c_71 := (n_eq (a := 7) (b := 5) rfl rfl (by omega) (by omega)).mp c_71
                                  omega
                              · have c_51 := (not_congr (n_le (a := 5) (b := 7) rfl rfl (by omega) (by omega))).mp c_51
                                omega
                            · have c_30 := (not_congr (n_le (a := 2) (b := 7) rfl rfl (by omega) (by omega))).mp c_30
                              omega
                          · have c_22 := (n_eq (a := 1) (b := 0) rfl rfl (by omega) (by omega)).mp c_22
                            omega
                    · exact absurd rfl ds
                  · have c_16 := (n_eq (a := 1) (b := 0) rfl rfl (by omega) (by omega)).mp c_16
                    omega
      · refine M_go (ls := [_, _, _]) (ml := 3) rfl rfl rfl (zl rfl) rfl ?_
        refine r_iload_n rfl ?_
        refine r_if_lt (fun c_1 => ?_) (fun c_1 => ?_)
        · have c_1 := (n_lt (a := 7) (b := 0) rfl rfl (by omega) (by omega)).mp c_1
          omega
        · have c_1 := (not_congr (n_lt (a := 7) (b := 0) rfl rfl (by omega) (by omega))).mp c_1
          refine r_iload_n rfl ?_
          refine r_bipush ?_
          refine r_icmp_gt (fun c_7 => ?_) (fun c_7 => ?_)
          · have c_7 := (n_lt (a := 7) (b := 7) rfl rfl (by omega) (by omega)).mp c_7
            omega
          · have c_7 := (not_congr (n_lt (a := 7) (b := 7) rfl rfl (by omega) (by omega))).mp c_7
            refine r_aload_n rfl ?_
            refine r_iload_n rfl ?_
            refine r_iload_n rfl ?_
            refine r_virtual (vs := []) (as := [_, _]) (by decide) (zl rfl) rfl rfl (zl rfl) (Nat.le_refl _) (Or.inr (Or.inr ⟨zt rfl, rfl, zt rfl⟩)) ?_
            refine M_go (ls := [_, _, _]) (ml := 3) rfl rfl rfl (zl rfl) rfl ?_
            refine r_iload_n rfl ?_
            refine r_if_eq (fun c_13_1 => ?_) (fun c_13_1 => ?_)
            · have c_13_1 := (n_eq (a := 7) (b := 0) rfl rfl (by omega) (by omega)).mp c_13_1
              omega
            · have c_13_1 := (not_congr (n_eq (a := 7) (b := 0) rfl rfl (by omega) (by omega))).mp c_13_1
              refine r_iload_n rfl ?_
              refine r_iconst ?_
              refine r_icmp_eq (fun c_13_6 => ?_) (fun c_13_6 => ?_)
              · have c_13_6 := (n_eq (a := 7) (b := 1) rfl rfl (by omega) (by omega)).mp c_13_6
                omega
              · have c_13_6 := (not_congr (n_eq (a := 7) (b := 1) rfl rfl (by omega) (by omega))).mp c_13_6
                refine r_aload_n rfl ?_
                refine r_iload_n rfl ?_
                refine r_virtual (vs := []) (as := [_]) (by decide) (zl rfl) rfl rfl (zl rfl) (Nat.le_refl _) (Or.inr (Or.inr ⟨zt rfl, rfl, zt rfl⟩)) ?_
                refine s_isAunt (by omega) R.cn h5 ?_
                rw [if_neg hx]
                refine r_if_eq (fun c_13_14 => ?_) (fun c_13_14 => ?_)
                · have c_13_14 := (n_eq (a := 0) (b := 0) rfl rfl (by omega) (by omega)).mp c_13_14
                  refine E_go 2 rfl ?_
                  refine r_iconst ?_
                  refine r_nil ?_
                  refine E_go 3 rfl ?_
                  refine r_iret rfl (by first | exact Or.inl rfl | exact Or.inr rfl) ?_
                  refine r_if_ne (fun c_16 => ?_) (fun c_16 => ?_)
                  · have c_16 := (not_congr (n_eq (a := 0) (b := 0) rfl rfl (by omega) (by omega))).mp c_16
                    omega
                  · have c_16 := (n_eq (a := 0) (b := 0) rfl rfl (by omega) (by omega)).mp c_16
                    refine r_nil ?_
                    refine E_go 1 rfl ?_
                    refine r_ldc rfl ?_
                    refine r_iret rfl trivial ?_
                    refine M_go (ls := [_, _, _]) (ml := 3) rfl rfl rfl (zl rfl) rfl ?_
                    refine r_iload_n rfl ?_
                    refine r_i2l ?_
                    refine r_lconst ?_
                    refine r_ldc2_w ?_
                    refine r_static (vs := [_, _, _]) (by decide) (zl rfl) rfl rfl (zl rfl) (Nat.le_refl _) rfl ?_
                    refine s_in0 (by omega) (x := (io 7)) (k := 8) (Int32.toInt_toInt64 _) i64_0 rfl ?_
                    rw [if_pos (inN_io (by omega) (by omega))]
                    refine r_if_eq (fun c_9 => ?_) (fun c_9 => ?_)
                    · have c_9 := (n_eq (a := 1) (b := 0) rfl rfl (by omega) (by omega)).mp c_9
                      omega
                    · have c_9 := (not_congr (n_eq (a := 1) (b := 0) rfl rfl (by omega) (by omega))).mp c_9
                      refine r_iload_n rfl ?_
                      refine r_iconst ?_
                      refine r_icmp_le (fun c_14 => ?_) (fun c_14 => ?_)
                      · have c_14 := (n_le (a := 7) (b := 1) rfl rfl (by omega) (by omega)).mp c_14
                        omega
                      · have c_14 := (not_congr (n_le (a := 7) (b := 1) rfl rfl (by omega) (by omega))).mp c_14
                        refine r_aload_n rfl ?_
                        refine r_iload_n rfl ?_
                        refine r_virtual (vs := []) (as := [_]) (by decide) (zl rfl) rfl rfl (zl rfl) (Nat.le_refl _) (Or.inr (Or.inr ⟨zt rfl, rfl, zt rfl⟩)) ?_
                        refine s_isOne (by omega) R.mn h5 ?_
                        rw [if_neg hx]
                        refine r_if_ne (fun c_22 => ?_) (fun c_22 => ?_)
                        · have c_22 := (not_congr (n_eq (a := 0) (b := 0) rfl rfl (by omega) (by omega))).mp c_22
                          omega
                        · have c_22 := (n_eq (a := 0) (b := 0) rfl rfl (by omega) (by omega)).mp c_22
                          refine r_nil ?_
                          refine E_go 1 rfl ?_
                          refine r_ldc rfl ?_
                          refine r_iret rfl trivial ?_
                          exact hQ _ _ _ R.rel
                · have c_13_14 := (not_congr (n_eq (a := 0) (b := 0) rfl rfl (by omega) (by omega))).mp c_13_14
                  omega
  · have hw2 : ¬ (0 ≤ y.toInt ∧ y.toInt < 8) := hw
    refine M_go (ls := [_, _, _]) (ml := 3) rfl rfl rfl (zl rfl) rfl ?_
    refine r_iload_n rfl ?_
    refine r_if_lt (fun c_1 => ?_) (fun c_1 => ?_)
    · have c_1 := (jlt (b := 0) rfl (by omega)).mp c_1
      refine E_go 1 rfl ?_
      refine r_ldc rfl ?_
      refine r_iret rfl trivial ?_
      refine M_go (ls := [_, _, _]) (ml := 3) rfl rfl rfl (zl rfl) rfl ?_
      refine r_iload_n rfl ?_
      refine r_i2l ?_
      refine r_lconst ?_
      refine r_ldc2_w ?_
      refine r_static (vs := [_, _, _]) (by decide) (zl rfl) rfl rfl (zl rfl) (Nat.le_refl _) rfl ?_
      refine s_in0 (by omega) (x := y) (k := 8) (Int32.toInt_toInt64 _) i64_0 rfl ?_
      rw [if_neg hw]
      refine r_if_eq (fun c_9 => ?_) (fun c_9 => ?_)
      · have c_9 := (n_eq (a := 0) (b := 0) rfl rfl (by omega) (by omega)).mp c_9
        refine E_go 1 rfl ?_
        refine r_ldc rfl ?_
        refine r_iret rfl trivial ?_
        exact hQ _ _ _ R.rel
      · have c_9 := (not_congr (n_eq (a := 0) (b := 0) rfl rfl (by omega) (by omega))).mp c_9
        omega
    · have c_1 := (not_congr (jlt (b := 0) rfl (by omega))).mp c_1
      refine r_iload_n rfl ?_
      refine r_bipush ?_
      refine r_icmp_gt (fun c_7 => ?_) (fun c_7 => ?_)
      · have c_7 := (klt (b := 7) rfl (by omega)).mp c_7
        refine E_go 1 rfl ?_
        refine r_ldc rfl ?_
        refine r_iret rfl trivial ?_
        refine M_go (ls := [_, _, _]) (ml := 3) rfl rfl rfl (zl rfl) rfl ?_
        refine r_iload_n rfl ?_
        refine r_i2l ?_
        refine r_lconst ?_
        refine r_ldc2_w ?_
        refine r_static (vs := [_, _, _]) (by decide) (zl rfl) rfl rfl (zl rfl) (Nat.le_refl _) rfl ?_
        refine s_in0 (by omega) (x := y) (k := 8) (Int32.toInt_toInt64 _) i64_0 rfl ?_
        rw [if_neg hw]
        refine r_if_eq (fun c_9 => ?_) (fun c_9 => ?_)
        · have c_9 := (n_eq (a := 0) (b := 0) rfl rfl (by omega) (by omega)).mp c_9
          refine E_go 1 rfl ?_
          refine r_ldc rfl ?_
          refine r_iret rfl trivial ?_
          exact hQ _ _ _ R.rel
        · have c_9 := (not_congr (n_eq (a := 0) (b := 0) rfl rfl (by omega) (by omega))).mp c_9
          omega
      · have c_7 := (not_congr (klt (b := 7) rfl (by omega))).mp c_7
        omega

set_option maxRecDepth 10000 in
theorem tz_set {xs : xSc} {m : Nat} {I : Nat → Nat → Int32} {L : Nat → Nat → Int64} {Q : Value → Value → xHp → Prop} (hm : 90 ≤ m) (hR : Rel I) {y x z : Int32} (hQ : ∀ (x : Int32) J L2, Rel J → Q (.int x) (.int x) (Hp J L2)) : M xs m xi_X6_set [.ref 0, .int y, .int x, .int z] (Hp I L) (fun r1 h1 => M xs m xi_X7_set [.ref 61, .int y, .int x, .int z] h1 (fun r2 h2 => Q r1 r2 h2)) := by
  obtain ⟨m, rfl⟩ : ∃ k, m = k + 6 := ⟨m - 6, by omega⟩
  obtain ⟨n, tc, r, tp, R⟩ := hR
  have h5 := R.n5
  have hr6 := R.r6
  have ht6 := R.t6
  have hrt := R.rt
  have hp160 := R.2.2.1.1.1
  by_cases hw : inN 5 y
  · obtain ⟨w, hk, rfl⟩ := inN_ex (n := 5) hw (by omega)
    have ek : w = 0 ∨ w = 1 ∨ w = 2 ∨ w = 3 ∨ w = 4 := by omega
    clear hk
    rcases ek with rfl | rfl | rfl | rfl | rfl
    · by_cases hv : inN 100 z
      · obtain ⟨k, hk, rfl⟩ := inN_ex hv (by omega)
        refine M_go (ls := [_, _, _, _, _]) (ml := 5) rfl rfl rfl (zl rfl) rfl ?_
        refine r_iload_n rfl ?_
        refine r_if_lt (fun c_1 => ?_) (fun c_1 => ?_)
        · have c_1 := (n_lt (a := 0) (b := 0) rfl rfl (by omega) (by omega)).mp c_1
          omega
        · have c_1 := (not_congr (n_lt (a := 0) (b := 0) rfl rfl (by omega) (by omega))).mp c_1
          refine r_iload_n rfl ?_
          refine r_iconst ?_
          refine r_icmp_gt (fun c_6 => ?_) (fun c_6 => ?_)
          · have c_6 := (n_lt (a := 4) (b := 0) rfl rfl (by omega) (by omega)).mp c_6
            omega
          · have c_6 := (not_congr (n_lt (a := 4) (b := 0) rfl rfl (by omega) (by omega))).mp c_6
            refine r_aload_n rfl ?_
            refine r_iload_n rfl ?_
            refine r_iload_n rfl ?_
            refine r_virtual (vs := []) (as := [_, _]) (by decide) (zl rfl) rfl rfl (zl rfl) (Nat.le_refl _) (Or.inr (Or.inr ⟨zt rfl, rfl, zt rfl⟩)) ?_
            refine M_go (ls := [_, _, _]) (ml := 3) rfl rfl rfl (zl rfl) rfl ?_
            refine r_iload_n rfl ?_
            refine r_if_eq (fun c_12_1 => ?_) (fun c_12_1 => ?_)
            · have c_12_1 := (n_eq (a := 0) (b := 0) rfl rfl (by omega) (by omega)).mp c_12_1
              refine E_go 1 rfl ?_
              refine r_iconst ?_
              refine r_goto ?_
              refine E_go 3 rfl ?_
              refine r_iret rfl (by first | exact Or.inl rfl | exact Or.inr rfl) ?_
              refine r_if_eq (fun c_15 => ?_) (fun c_15 => ?_)
              · have c_15 := (n_eq (a := 1) (b := 0) rfl rfl (by omega) (by omega)).mp c_15
                omega
              · have c_15 := (not_congr (n_eq (a := 1) (b := 0) rfl rfl (by omega) (by omega))).mp c_15
                refine r_iload_n rfl ?_
                refine r_if_lt (fun c_19 => ?_) (fun c_19 => ?_)
                · have c_19 := (n_lt (a := k) (b := 0) rfl rfl (by omega) (by omega)).mp c_19
                  omega
                · have c_19 := (not_congr (n_lt (a := k) (b := 0) rfl rfl (by omega) (by omega))).mp c_19
                  refine r_iload_n rfl ?_
                  refine r_aload_n rfl ?_
                  refine r_iload_n rfl ?_
                  refine r_virtual (vs := []) (as := [_]) (by decide) (zl rfl) rfl rfl (zl rfl) (Nat.le_refl _) (Or.inr (Or.inr ⟨zt rfl, rfl, zt rfl⟩)) ?_
                  refine M_go (ls := [_, _]) (ml := 2) rfl rfl rfl (zl rfl) rfl ?_
                  refine r_iload_n rfl ?_
                  refine r_table ?_
                  refine r_sw1 (fun cs => ?_) (fun ds => ?_)
                  · refine E_go 1 rfl ?_
                    refine r_bipush ?_
                    refine r_iret rfl trivial ?_
                    refine r_icmp_lt (fun c_28 => ?_) (fun c_28 => ?_)
                    · have c_28 := (n_lt (a := k) (b := 100) rfl rfl (by omega) (by omega)).mp c_28
                      refine E_go 2 rfl ?_
                      refine r_aload_n rfl ?_
                      refine r_getA (q := 1) (by decide) rfl rfl (by decide) ?_
                      refine r_iload_n rfl ?_
                      refine r_iload_n rfl ?_
                      refine r_virtual (vs := []) (as := [_, _]) (by decide) (zl rfl) rfl rfl (zl rfl) (Nat.le_refl _) (Or.inr (Or.inr ⟨zt rfl, rfl, zt rfl⟩)) ?_
                      refine M_go (ls := [_, _, _]) (ml := 3) rfl rfl rfl (zl rfl) rfl ?_
                      refine r_iload_n rfl ?_
                      refine r_table ?_
                      refine r_sw1 (fun cs => ?_) (fun ds => ?_)
                      · refine E_go 1 rfl ?_
                        refine r_aload_n rfl ?_
                        refine r_getI (by decide) rfl rfl (by decide) rfl ?_
                        refine r_iret rfl trivial ?_
                        refine r_istore (ls' := [_, _, _, _, _]) (zt rfl) rfl ?_
                        refine r_aload_n rfl ?_
                        refine r_getA (q := 1) (by decide) rfl rfl (by decide) ?_
                        refine r_iload_n rfl ?_
                        refine r_iload_n rfl ?_
                        refine r_iload_n rfl ?_
                        refine r_virtual (vs := []) (as := [_, _, _]) (by decide) (zl rfl) rfl rfl (zl rfl) (Nat.le_refl _) (Or.inr (Or.inr ⟨zt rfl, rfl, zt rfl⟩)) ?_
                        refine M_go (ls := [_, _, _, _]) (ml := 4) rfl rfl rfl (zl rfl) rfl ?_
                        refine r_iload_n rfl ?_
                        refine r_table ?_
                        refine r_sw1 (fun cs => ?_) (fun ds => ?_)
                        · refine E_go 1 rfl ?_
                          refine r_aload_n rfl ?_
                          refine r_iload_n rfl ?_
                          refine r_putI rfl rfl (by decide) ?_
                          refine r_goto ?_
                          refine E_go 8 rfl ?_
                          refine r_ret rfl ?_
                          refine r_iload rfl ?_
                          refine r_iret rfl trivial ?_
                          refine M_go (ls := [_, _, _, _, _]) (ml := 5) rfl rfl rfl (zl rfl) rfl ?_
                          refine r_iload_n rfl ?_
                          refine r_i2l ?_
                          refine r_lconst ?_
                          refine r_ldc2_w ?_
                          refine r_static (vs := [_, _, _]) (by decide) (zl rfl) rfl rfl (zl rfl) (Nat.le_refl _) rfl ?_
                          refine s_in0 (by omega) (x := (io 0)) (k := 5) (Int32.toInt_toInt64 _) i64_0 rfl ?_
                          rw [if_pos (inN_io (by omega) (by omega))]
                          refine r_if_eq (fun c_9 => ?_) (fun c_9 => ?_)
                          · have c_9 := (n_eq (a := 1) (b := 0) rfl rfl (by omega) (by omega)).mp c_9
                            omega
                          · have c_9 := (not_congr (n_eq (a := 1) (b := 0) rfl rfl (by omega) (by omega))).mp c_9
                            refine r_iload_n rfl ?_
                            refine r_iconst ?_
                            refine r_icmp_le (fun c_14 => ?_) (fun c_14 => ?_)
                            · have c_14 := (n_le (a := 0) (b := 1) rfl rfl (by omega) (by omega)).mp c_14
                              refine E_go 1 rfl ?_
                              refine r_iload_n rfl ?_
                              refine r_i2l ?_
                              refine r_lconst ?_
                              refine r_iload_n rfl ?_
                              refine r_static (vs := [_]) (by decide) (zl rfl) rfl rfl (zl rfl) (Nat.le_refl _) rfl ?_
                              refine M_go (ls := [_]) (ml := 1) rfl rfl rfl (zl rfl) rfl ?_
                              refine r_iload_n rfl ?_
                              refine r_iconst ?_
                              refine r_icmp_ne (fun c_29_2 => ?_) (fun c_29_2 => ?_)
                              · have c_29_2 := (not_congr (n_eq (a := 0) (b := 1) rfl rfl (by omega) (by omega))).mp c_29_2
                                refine E_go 1 rfl ?_
                                refine r_iload_n rfl ?_
                                refine r_iconst ?_
                                refine r_icmp_ne (fun c_29_13 => ?_) (fun c_29_13 => ?_)
                                · have c_29_13 := (not_congr (n_eq (a := 0) (b := 2) rfl rfl (by omega) (by omega))).mp c_29_13
                                  refine E_go 2 rfl ?_
                                  refine r_iload_n rfl ?_
                                  refine r_iconst ?_
                                  refine r_icmp_ne (fun c_29_23 => ?_) (fun c_29_23 => ?_)
                                  · have c_29_23 := (not_congr (n_eq (a := 0) (b := 4) rfl rfl (by omega) (by omega))).mp c_29_23
                                    refine E_go 3 rfl ?_
                                    refine r_bipush ?_
                                    refine r_nil ?_
                                    refine E_go 4 rfl ?_
                                    refine r_iret rfl trivial ?_
                                    refine r_i2l ?_
                                    refine r_static (vs := [_, _, _]) (by decide) (zl rfl) rfl rfl (zl rfl) (Nat.le_refl _) rfl ?_
                                    refine s_in0 (by omega) (x := (io k)) (k := 100) (Int32.toInt_toInt64 _) i64_0 rfl ?_
                                    rw [if_pos (inN_io hk (by omega))]
                                    refine r_if_ne (fun c_36 => ?_) (fun c_36 => ?_)
                                    · have c_36 := (not_congr (n_eq (a := 1) (b := 0) rfl rfl (by omega) (by omega))).mp c_36
                                      refine E_go 3 rfl ?_
                                      refine r_aload_n rfl ?_
                                      refine r_iload_n rfl ?_
                                      refine r_iload_n rfl ?_
                                      refine r_virtual (vs := []) (as := [_, _]) (by decide) (zl rfl) rfl rfl (zl rfl) (Nat.le_refl _) (Or.inr (Or.inr ⟨zt rfl, rfl, zt rfl⟩)) ?_
                                      refine M_go (ls := [_, _, _]) (ml := 3) rfl rfl rfl (zl rfl) rfl ?_
                                      refine r_iload_n rfl ?_
                                      refine r_i2l ?_
                                      refine r_lconst ?_
                                      refine r_ldc2_w ?_
                                      refine r_static (vs := [_, _, _]) (by decide) (zl rfl) rfl rfl (zl rfl) (Nat.le_refl _) rfl ?_
                                      refine s_in0 (by omega) (x := (io 0)) (k := 8) (Int32.toInt_toInt64 _) i64_0 rfl ?_
                                      rw [if_pos (inN_io (by omega) (by omega))]
                                      refine r_if_eq (fun c_45_9 => ?_) (fun c_45_9 => ?_)
                                      · have c_45_9 := (n_eq (a := 1) (b := 0) rfl rfl (by omega) (by omega)).mp c_45_9
                                        omega
                                      · have c_45_9 := (not_congr (n_eq (a := 1) (b := 0) rfl rfl (by omega) (by omega))).mp c_45_9
                                        refine r_iload_n rfl ?_
                                        refine r_iconst ?_
                                        refine r_icmp_le (fun c_45_14 => ?_) (fun c_45_14 => ?_)
                                        · have c_45_14 := (n_le (a := 0) (b := 1) rfl rfl (by omega) (by omega)).mp c_45_14
                                          refine E_go 2 rfl ?_
                                          refine r_iload_n rfl ?_
                                          refine r_iconst ?_
                                          refine r_icmp_ge (fun c_45_30 => ?_) (fun c_45_30 => ?_)
                                          · have c_45_30 := (n_le (a := 2) (b := 0) rfl rfl (by omega) (by omega)).mp c_45_30
                                            omega
                                          · have c_45_30 := (not_congr (n_le (a := 2) (b := 0) rfl rfl (by omega) (by omega))).mp c_45_30
                                            refine r_iload_n rfl ?_
                                            refine r_if_ne (fun c_45_34 => ?_) (fun c_45_34 => ?_)
                                            · have c_45_34 := (not_congr (n_eq (a := 0) (b := 0) rfl rfl (by omega) (by omega))).mp c_45_34
                                              omega
                                            · have c_45_34 := (n_eq (a := 0) (b := 0) rfl rfl (by omega) (by omega)).mp c_45_34
                                              refine r_aload_n rfl ?_
                                              refine r_getI (by decide) rfl rfl (by decide) R.mh ?_
                                              refine r_goto ?_
                                              refine E_go 4 rfl ?_
                                              refine r_iret rfl trivial ?_
                                              refine r_istore (ls' := [_, _, _, _, _]) (zt rfl) rfl ?_
                                              refine r_aload_n rfl ?_
                                              refine r_iload_n rfl ?_
                                              refine r_iload_n rfl ?_
                                              refine r_iload_n rfl ?_
                                              refine r_virtual (vs := []) (as := [_, _, _]) (by decide) (zl rfl) rfl rfl (zl rfl) (Nat.le_refl _) (Or.inr (Or.inr ⟨zt rfl, rfl, zt rfl⟩)) ?_
                                              refine M_go (ls := [_, _, _, _]) (ml := 4) rfl rfl rfl (zl rfl) rfl ?_
                                              refine r_iload_n rfl ?_
                                              refine r_if_ne (fun c_54_1 => ?_) (fun c_54_1 => ?_)
                                              · have c_54_1 := (not_congr (n_eq (a := 0) (b := 0) rfl rfl (by omega) (by omega))).mp c_54_1
                                                omega
                                              · have c_54_1 := (n_eq (a := 0) (b := 0) rfl rfl (by omega) (by omega)).mp c_54_1
                                                refine r_aload_n rfl ?_
                                                refine r_iload_n rfl ?_
                                                refine r_putI rfl rfl (by decide) ?_
                                                refine r_goto ?_
                                                refine E_go 5 rfl ?_
                                                refine r_ret rfl ?_
                                                refine r_iload rfl ?_
                                                refine r_iret rfl trivial ?_
                                                exact hQ _ _ _ (R.setH ⟨k, hk, rfl⟩).rel
                                        · have c_45_14 := (not_congr (n_le (a := 0) (b := 1) rfl rfl (by omega) (by omega))).mp c_45_14
                                          omega
                                    · have c_36 := (n_eq (a := 1) (b := 0) rfl rfl (by omega) (by omega)).mp c_36
                                      omega
                                  · have c_29_23 := (n_eq (a := 0) (b := 4) rfl rfl (by omega) (by omega)).mp c_29_23
                                    omega
                                · have c_29_13 := (n_eq (a := 0) (b := 2) rfl rfl (by omega) (by omega)).mp c_29_13
                                  omega
                              · have c_29_2 := (n_eq (a := 0) (b := 1) rfl rfl (by omega) (by omega)).mp c_29_2
                                omega
                            · have c_14 := (not_congr (n_le (a := 0) (b := 1) rfl rfl (by omega) (by omega))).mp c_14
                              omega
                        · exact absurd rfl ds
                      · exact absurd rfl ds
                    · have c_28 := (not_congr (n_lt (a := k) (b := 100) rfl rfl (by omega) (by omega))).mp c_28
                      omega
                  · exact absurd rfl ds
            · have c_12_1 := (not_congr (n_eq (a := 0) (b := 0) rfl rfl (by omega) (by omega))).mp c_12_1
              omega
      · refine M_go (ls := [_, _, _, _, _]) (ml := 5) rfl rfl rfl (zl rfl) rfl ?_
        refine r_iload_n rfl ?_
        refine r_if_lt (fun c_1 => ?_) (fun c_1 => ?_)
        · have c_1 := (n_lt (a := 0) (b := 0) rfl rfl (by omega) (by omega)).mp c_1
          omega
        · have c_1 := (not_congr (n_lt (a := 0) (b := 0) rfl rfl (by omega) (by omega))).mp c_1
          refine r_iload_n rfl ?_
          refine r_iconst ?_
          refine r_icmp_gt (fun c_6 => ?_) (fun c_6 => ?_)
          · have c_6 := (n_lt (a := 4) (b := 0) rfl rfl (by omega) (by omega)).mp c_6
            omega
          · have c_6 := (not_congr (n_lt (a := 4) (b := 0) rfl rfl (by omega) (by omega))).mp c_6
            refine r_aload_n rfl ?_
            refine r_iload_n rfl ?_
            refine r_iload_n rfl ?_
            refine r_virtual (vs := []) (as := [_, _]) (by decide) (zl rfl) rfl rfl (zl rfl) (Nat.le_refl _) (Or.inr (Or.inr ⟨zt rfl, rfl, zt rfl⟩)) ?_
            refine M_go (ls := [_, _, _]) (ml := 3) rfl rfl rfl (zl rfl) rfl ?_
            refine r_iload_n rfl ?_
            refine r_if_eq (fun c_12_1 => ?_) (fun c_12_1 => ?_)
            · have c_12_1 := (n_eq (a := 0) (b := 0) rfl rfl (by omega) (by omega)).mp c_12_1
              refine E_go 1 rfl ?_
              refine r_iconst ?_
              refine r_goto ?_
              refine E_go 3 rfl ?_
              refine r_iret rfl (by first | exact Or.inl rfl | exact Or.inr rfl) ?_
              refine r_if_eq (fun c_15 => ?_) (fun c_15 => ?_)
              · have c_15 := (n_eq (a := 1) (b := 0) rfl rfl (by omega) (by omega)).mp c_15
                omega
              · have c_15 := (not_congr (n_eq (a := 1) (b := 0) rfl rfl (by omega) (by omega))).mp c_15
                refine r_iload_n rfl ?_
                refine r_if_lt (fun c_19 => ?_) (fun c_19 => ?_)
                · have c_19 := (jlt (b := 0) rfl (by omega)).mp c_19
                  refine E_go 1 rfl ?_
                  refine r_bipush ?_
                  refine r_iret rfl trivial ?_
                  refine M_go (ls := [_, _, _, _, _]) (ml := 5) rfl rfl rfl (zl rfl) rfl ?_
                  refine r_iload_n rfl ?_
                  refine r_i2l ?_
                  refine r_lconst ?_
                  refine r_ldc2_w ?_
                  refine r_static (vs := [_, _, _]) (by decide) (zl rfl) rfl rfl (zl rfl) (Nat.le_refl _) rfl ?_
                  refine s_in0 (by omega) (x := (io 0)) (k := 5) (Int32.toInt_toInt64 _) i64_0 rfl ?_
                  rw [if_pos (inN_io (by omega) (by omega))]
                  refine r_if_eq (fun c_9 => ?_) (fun c_9 => ?_)
                  · have c_9 := (n_eq (a := 1) (b := 0) rfl rfl (by omega) (by omega)).mp c_9
                    omega
                  · have c_9 := (not_congr (n_eq (a := 1) (b := 0) rfl rfl (by omega) (by omega))).mp c_9
                    refine r_iload_n rfl ?_
                    refine r_iconst ?_
                    refine r_icmp_le (fun c_14 => ?_) (fun c_14 => ?_)
                    · have c_14 := (n_le (a := 0) (b := 1) rfl rfl (by omega) (by omega)).mp c_14
                      refine E_go 1 rfl ?_
                      refine r_iload_n rfl ?_
                      refine r_i2l ?_
                      refine r_lconst ?_
                      refine r_iload_n rfl ?_
                      refine r_static (vs := [_]) (by decide) (zl rfl) rfl rfl (zl rfl) (Nat.le_refl _) rfl ?_
                      refine M_go (ls := [_]) (ml := 1) rfl rfl rfl (zl rfl) rfl ?_
                      refine r_iload_n rfl ?_
                      refine r_iconst ?_
                      refine r_icmp_ne (fun c_29_2 => ?_) (fun c_29_2 => ?_)
                      · have c_29_2 := (not_congr (n_eq (a := 0) (b := 1) rfl rfl (by omega) (by omega))).mp c_29_2
                        refine E_go 1 rfl ?_
                        refine r_iload_n rfl ?_
                        refine r_iconst ?_
                        refine r_icmp_ne (fun c_29_13 => ?_) (fun c_29_13 => ?_)
                        · have c_29_13 := (not_congr (n_eq (a := 0) (b := 2) rfl rfl (by omega) (by omega))).mp c_29_13
                          refine E_go 2 rfl ?_
                          refine r_iload_n rfl ?_
                          refine r_iconst ?_
                          refine r_icmp_ne (fun c_29_23 => ?_) (fun c_29_23 => ?_)
                          · have c_29_23 := (not_congr (n_eq (a := 0) (b := 4) rfl rfl (by omega) (by omega))).mp c_29_23
                            refine E_go 3 rfl ?_
                            refine r_bipush ?_
                            refine r_nil ?_
                            refine E_go 4 rfl ?_
                            refine r_iret rfl trivial ?_
                            refine r_i2l ?_
                            refine r_static (vs := [_, _, _]) (by decide) (zl rfl) rfl rfl (zl rfl) (Nat.le_refl _) rfl ?_
                            refine s_in0 (by omega) (x := z) (k := 100) (Int32.toInt_toInt64 _) i64_0 rfl ?_
                            rw [if_neg hv]
                            refine r_if_ne (fun c_36 => ?_) (fun c_36 => ?_)
                            · have c_36 := (not_congr (n_eq (a := 0) (b := 0) rfl rfl (by omega) (by omega))).mp c_36
                              omega
                            · have c_36 := (n_eq (a := 0) (b := 0) rfl rfl (by omega) (by omega)).mp c_36
                              refine r_nil ?_
                              refine E_go 2 rfl ?_
                              refine r_bipush ?_
                              refine r_iret rfl trivial ?_
                              exact hQ _ _ _ R.rel
                          · have c_29_23 := (n_eq (a := 0) (b := 4) rfl rfl (by omega) (by omega)).mp c_29_23
                            omega
                        · have c_29_13 := (n_eq (a := 0) (b := 2) rfl rfl (by omega) (by omega)).mp c_29_13
                          omega
                      · have c_29_2 := (n_eq (a := 0) (b := 1) rfl rfl (by omega) (by omega)).mp c_29_2
                        omega
                    · have c_14 := (not_congr (n_le (a := 0) (b := 1) rfl rfl (by omega) (by omega))).mp c_14
                      omega
                · have c_19 := (not_congr (jlt (b := 0) rfl (by omega))).mp c_19
                  refine r_iload_n rfl ?_
                  refine r_aload_n rfl ?_
                  refine r_iload_n rfl ?_
                  refine r_virtual (vs := []) (as := [_]) (by decide) (zl rfl) rfl rfl (zl rfl) (Nat.le_refl _) (Or.inr (Or.inr ⟨zt rfl, rfl, zt rfl⟩)) ?_
                  refine M_go (ls := [_, _]) (ml := 2) rfl rfl rfl (zl rfl) rfl ?_
                  refine r_iload_n rfl ?_
                  refine r_table ?_
                  refine r_sw1 (fun cs => ?_) (fun ds => ?_)
                  · refine E_go 1 rfl ?_
                    refine r_bipush ?_
                    refine r_iret rfl trivial ?_
                    refine r_icmp_lt (fun c_28 => ?_) (fun c_28 => ?_)
                    · have c_28 := (jlt (b := 100) rfl (by omega)).mp c_28
                      omega
                    · have c_28 := (not_congr (jlt (b := 100) rfl (by omega))).mp c_28
                      refine r_nil ?_
                      refine E_go 1 rfl ?_
                      refine r_bipush ?_
                      refine r_iret rfl trivial ?_
                      refine M_go (ls := [_, _, _, _, _]) (ml := 5) rfl rfl rfl (zl rfl) rfl ?_
                      refine r_iload_n rfl ?_
                      refine r_i2l ?_
                      refine r_lconst ?_
                      refine r_ldc2_w ?_
                      refine r_static (vs := [_, _, _]) (by decide) (zl rfl) rfl rfl (zl rfl) (Nat.le_refl _) rfl ?_
                      refine s_in0 (by omega) (x := (io 0)) (k := 5) (Int32.toInt_toInt64 _) i64_0 rfl ?_
                      rw [if_pos (inN_io (by omega) (by omega))]
                      refine r_if_eq (fun c_9 => ?_) (fun c_9 => ?_)
                      · have c_9 := (n_eq (a := 1) (b := 0) rfl rfl (by omega) (by omega)).mp c_9
                        omega
                      · have c_9 := (not_congr (n_eq (a := 1) (b := 0) rfl rfl (by omega) (by omega))).mp c_9
                        refine r_iload_n rfl ?_
                        refine r_iconst ?_
                        refine r_icmp_le (fun c_14 => ?_) (fun c_14 => ?_)
                        · have c_14 := (n_le (a := 0) (b := 1) rfl rfl (by omega) (by omega)).mp c_14
                          refine E_go 1 rfl ?_
                          refine r_iload_n rfl ?_
                          refine r_i2l ?_
                          refine r_lconst ?_
                          refine r_iload_n rfl ?_
                          refine r_static (vs := [_]) (by decide) (zl rfl) rfl rfl (zl rfl) (Nat.le_refl _) rfl ?_
                          refine M_go (ls := [_]) (ml := 1) rfl rfl rfl (zl rfl) rfl ?_
                          refine r_iload_n rfl ?_
                          refine r_iconst ?_
                          refine r_icmp_ne (fun c_29_2 => ?_) (fun c_29_2 => ?_)
                          · have c_29_2 := (not_congr (n_eq (a := 0) (b := 1) rfl rfl (by omega) (by omega))).mp c_29_2
                            refine E_go 1 rfl ?_
                            refine r_iload_n rfl ?_
                            refine r_iconst ?_
                            refine r_icmp_ne (fun c_29_13 => ?_) (fun c_29_13 => ?_)
                            · have c_29_13 := (not_congr (n_eq (a := 0) (b := 2) rfl rfl (by omega) (by omega))).mp c_29_13
                              refine E_go 2 rfl ?_
                              refine r_iload_n rfl ?_
                              refine r_iconst ?_
                              refine r_icmp_ne (fun c_29_23 => ?_) (fun c_29_23 => ?_)
                              · have c_29_23 := (not_congr (n_eq (a := 0) (b := 4) rfl rfl (by omega) (by omega))).mp c_29_23
                                refine E_go 3 rfl ?_
                                refine r_bipush ?_
                                refine r_nil ?_
                                refine E_go 4 rfl ?_
                                refine r_iret rfl trivial ?_
                                refine r_i2l ?_
                                refine r_static (vs := [_, _, _]) (by decide) (zl rfl) rfl rfl (zl rfl) (Nat.le_refl _) rfl ?_
                                refine s_in0 (by omega) (x := z) (k := 100) (Int32.toInt_toInt64 _) i64_0 rfl ?_
                                rw [if_neg hv]
                                refine r_if_ne (fun c_36 => ?_) (fun c_36 => ?_)
                                · have c_36 := (not_congr (n_eq (a := 0) (b := 0) rfl rfl (by omega) (by omega))).mp c_36
                                  omega
                                · have c_36 := (n_eq (a := 0) (b := 0) rfl rfl (by omega) (by omega)).mp c_36
                                  refine r_nil ?_
                                  refine E_go 2 rfl ?_
                                  refine r_bipush ?_
                                  refine r_iret rfl trivial ?_
                                  exact hQ _ _ _ R.rel
                              · have c_29_23 := (n_eq (a := 0) (b := 4) rfl rfl (by omega) (by omega)).mp c_29_23
                                omega
                            · have c_29_13 := (n_eq (a := 0) (b := 2) rfl rfl (by omega) (by omega)).mp c_29_13
                              omega
                          · have c_29_2 := (n_eq (a := 0) (b := 1) rfl rfl (by omega) (by omega)).mp c_29_2
                            omega
                        · have c_14 := (not_congr (n_le (a := 0) (b := 1) rfl rfl (by omega) (by omega))).mp c_14
                          omega
                  · exact absurd rfl ds
            · have c_12_1 := (not_congr (n_eq (a := 0) (b := 0) rfl rfl (by omega) (by omega))).mp c_12_1
              omega
    · by_cases hv : inN 1000 z
      · obtain ⟨k, hk, rfl⟩ := inN_ex hv (by omega)
        refine M_go (ls := [_, _, _, _, _]) (ml := 5) rfl rfl rfl (zl rfl) rfl ?_
        refine r_iload_n rfl ?_
        refine r_if_lt (fun c_1 => ?_) (fun c_1 => ?_)
        · have c_1 := (n_lt (a := 1) (b := 0) rfl rfl (by omega) (by omega)).mp c_1
          omega
        · have c_1 := (not_congr (n_lt (a := 1) (b := 0) rfl rfl (by omega) (by omega))).mp c_1
          refine r_iload_n rfl ?_
          refine r_iconst ?_
          refine r_icmp_gt (fun c_6 => ?_) (fun c_6 => ?_)
          · have c_6 := (n_lt (a := 4) (b := 1) rfl rfl (by omega) (by omega)).mp c_6
            omega
          · have c_6 := (not_congr (n_lt (a := 4) (b := 1) rfl rfl (by omega) (by omega))).mp c_6
            refine r_aload_n rfl ?_
            refine r_iload_n rfl ?_
            refine r_iload_n rfl ?_
            refine r_virtual (vs := []) (as := [_, _]) (by decide) (zl rfl) rfl rfl (zl rfl) (Nat.le_refl _) (Or.inr (Or.inr ⟨zt rfl, rfl, zt rfl⟩)) ?_
            refine M_go (ls := [_, _, _]) (ml := 3) rfl rfl rfl (zl rfl) rfl ?_
            refine r_iload_n rfl ?_
            refine r_if_eq (fun c_12_1 => ?_) (fun c_12_1 => ?_)
            · have c_12_1 := (n_eq (a := 1) (b := 0) rfl rfl (by omega) (by omega)).mp c_12_1
              omega
            · have c_12_1 := (not_congr (n_eq (a := 1) (b := 0) rfl rfl (by omega) (by omega))).mp c_12_1
              refine r_iload_n rfl ?_
              refine r_iconst ?_
              refine r_icmp_eq (fun c_12_6 => ?_) (fun c_12_6 => ?_)
              · have c_12_6 := (n_eq (a := 1) (b := 1) rfl rfl (by omega) (by omega)).mp c_12_6
                refine E_go 1 rfl ?_
                refine r_iconst ?_
                refine r_goto ?_
                refine E_go 3 rfl ?_
                refine r_iret rfl (by first | exact Or.inl rfl | exact Or.inr rfl) ?_
                refine r_if_eq (fun c_15 => ?_) (fun c_15 => ?_)
                · have c_15 := (n_eq (a := 1) (b := 0) rfl rfl (by omega) (by omega)).mp c_15
                  omega
                · have c_15 := (not_congr (n_eq (a := 1) (b := 0) rfl rfl (by omega) (by omega))).mp c_15
                  refine r_iload_n rfl ?_
                  refine r_if_lt (fun c_19 => ?_) (fun c_19 => ?_)
                  · have c_19 := (n_lt (a := k) (b := 0) rfl rfl (by omega) (by omega)).mp c_19
                    omega
                  · have c_19 := (not_congr (n_lt (a := k) (b := 0) rfl rfl (by omega) (by omega))).mp c_19
                    refine r_iload_n rfl ?_
                    refine r_aload_n rfl ?_
                    refine r_iload_n rfl ?_
                    refine r_virtual (vs := []) (as := [_]) (by decide) (zl rfl) rfl rfl (zl rfl) (Nat.le_refl _) (Or.inr (Or.inr ⟨zt rfl, rfl, zt rfl⟩)) ?_
                    refine M_go (ls := [_, _]) (ml := 2) rfl rfl rfl (zl rfl) rfl ?_
                    refine r_iload_n rfl ?_
                    refine r_table ?_
                    refine r_sw1 (fun cs => ?_) (fun ds => ?_)
                    · exact absurd ((n_eq (a := 1) (b := 0) rfl rfl (by omega) (by omega)).mp cs) (by omega)
                    refine r_sw1 (fun cs => ?_) (fun ds => ?_)
                    · refine E_go 2 rfl ?_
                      refine r_sipush ?_
                      refine r_iret rfl trivial ?_
                      refine r_icmp_lt (fun c_28 => ?_) (fun c_28 => ?_)
                      · have c_28 := (n_lt (a := k) (b := 1000) rfl rfl (by omega) (by omega)).mp c_28
                        refine E_go 2 rfl ?_
                        refine r_aload_n rfl ?_
                        refine r_getA (q := 1) (by decide) rfl rfl (by decide) ?_
                        refine r_iload_n rfl ?_
                        refine r_iload_n rfl ?_
                        refine r_virtual (vs := []) (as := [_, _]) (by decide) (zl rfl) rfl rfl (zl rfl) (Nat.le_refl _) (Or.inr (Or.inr ⟨zt rfl, rfl, zt rfl⟩)) ?_
                        refine M_go (ls := [_, _, _]) (ml := 3) rfl rfl rfl (zl rfl) rfl ?_
                        refine r_iload_n rfl ?_
                        refine r_table ?_
                        refine r_sw1 (fun cs => ?_) (fun ds => ?_)
                        · exact absurd ((n_eq (a := 1) (b := 0) rfl rfl (by omega) (by omega)).mp cs) (by omega)
                        refine r_sw1 (fun cs => ?_) (fun ds => ?_)
                        · refine E_go 2 rfl ?_
                          refine r_aload_n rfl ?_
                          refine r_getI (by decide) rfl rfl (by decide) rfl ?_
                          refine r_iret rfl trivial ?_
                          refine r_istore (ls' := [_, _, _, _, _]) (zt rfl) rfl ?_
                          refine r_aload_n rfl ?_
                          refine r_getA (q := 1) (by decide) rfl rfl (by decide) ?_
                          refine r_iload_n rfl ?_
                          refine r_iload_n rfl ?_
                          refine r_iload_n rfl ?_
                          refine r_virtual (vs := []) (as := [_, _, _]) (by decide) (zl rfl) rfl rfl (zl rfl) (Nat.le_refl _) (Or.inr (Or.inr ⟨zt rfl, rfl, zt rfl⟩)) ?_
                          refine M_go (ls := [_, _, _, _]) (ml := 4) rfl rfl rfl (zl rfl) rfl ?_
                          refine r_iload_n rfl ?_
                          refine r_table ?_
                          refine r_sw1 (fun cs => ?_) (fun ds => ?_)
                          · exact absurd ((n_eq (a := 1) (b := 0) rfl rfl (by omega) (by omega)).mp cs) (by omega)
                          refine r_sw1 (fun cs => ?_) (fun ds => ?_)
                          · refine E_go 2 rfl ?_
                            refine r_aload_n rfl ?_
                            refine r_iload_n rfl ?_
                            refine r_putI rfl rfl (by decide) ?_
                            refine r_goto ?_
                            refine E_go 8 rfl ?_
                            refine r_ret rfl ?_
                            refine r_iload rfl ?_
                            refine r_iret rfl trivial ?_
                            refine M_go (ls := [_, _, _, _, _]) (ml := 5) rfl rfl rfl (zl rfl) rfl ?_
                            refine r_iload_n rfl ?_
                            refine r_i2l ?_
                            refine r_lconst ?_
                            refine r_ldc2_w ?_
                            refine r_static (vs := [_, _, _]) (by decide) (zl rfl) rfl rfl (zl rfl) (Nat.le_refl _) rfl ?_
                            refine s_in0 (by omega) (x := (io 1)) (k := 5) (Int32.toInt_toInt64 _) i64_0 rfl ?_
                            rw [if_pos (inN_io (by omega) (by omega))]
                            refine r_if_eq (fun c_9 => ?_) (fun c_9 => ?_)
                            · have c_9 := (n_eq (a := 1) (b := 0) rfl rfl (by omega) (by omega)).mp c_9
                              omega
                            · have c_9 := (not_congr (n_eq (a := 1) (b := 0) rfl rfl (by omega) (by omega))).mp c_9
                              refine r_iload_n rfl ?_
                              refine r_iconst ?_
                              refine r_icmp_le (fun c_14 => ?_) (fun c_14 => ?_)
                              · have c_14 := (n_le (a := 1) (b := 1) rfl rfl (by omega) (by omega)).mp c_14
                                refine E_go 1 rfl ?_
                                refine r_iload_n rfl ?_
                                refine r_i2l ?_
                                refine r_lconst ?_
                                refine r_iload_n rfl ?_
                                refine r_static (vs := [_]) (by decide) (zl rfl) rfl rfl (zl rfl) (Nat.le_refl _) rfl ?_
                                refine M_go (ls := [_]) (ml := 1) rfl rfl rfl (zl rfl) rfl ?_
                                refine r_iload_n rfl ?_
                                refine r_iconst ?_
                                refine r_icmp_ne (fun c_29_2 => ?_) (fun c_29_2 => ?_)
                                · have c_29_2 := (not_congr (n_eq (a := 1) (b := 1) rfl rfl (by omega) (by omega))).mp c_29_2
                                  omega
                                · have c_29_2 := (n_eq (a := 1) (b := 1) rfl rfl (by omega) (by omega)).mp c_29_2
                                  refine r_sipush ?_
                                  refine r_goto ?_
                                  refine E_go 4 rfl ?_
                                  refine r_iret rfl trivial ?_
                                  refine r_i2l ?_
                                  refine r_static (vs := [_, _, _]) (by decide) (zl rfl) rfl rfl (zl rfl) (Nat.le_refl _) rfl ?_
                                  refine s_in0 (by omega) (x := (io k)) (k := 1000) (Int32.toInt_toInt64 _) i64_0 rfl ?_
                                  rw [if_pos (inN_io hk (by omega))]
                                  refine r_if_ne (fun c_36 => ?_) (fun c_36 => ?_)
                                  · have c_36 := (not_congr (n_eq (a := 1) (b := 0) rfl rfl (by omega) (by omega))).mp c_36
                                    refine E_go 3 rfl ?_
                                    refine r_aload_n rfl ?_
                                    refine r_iload_n rfl ?_
                                    refine r_iload_n rfl ?_
                                    refine r_virtual (vs := []) (as := [_, _]) (by decide) (zl rfl) rfl rfl (zl rfl) (Nat.le_refl _) (Or.inr (Or.inr ⟨zt rfl, rfl, zt rfl⟩)) ?_
                                    refine M_go (ls := [_, _, _]) (ml := 3) rfl rfl rfl (zl rfl) rfl ?_
                                    refine r_iload_n rfl ?_
                                    refine r_i2l ?_
                                    refine r_lconst ?_
                                    refine r_ldc2_w ?_
                                    refine r_static (vs := [_, _, _]) (by decide) (zl rfl) rfl rfl (zl rfl) (Nat.le_refl _) rfl ?_
                                    refine s_in0 (by omega) (x := (io 1)) (k := 8) (Int32.toInt_toInt64 _) i64_0 rfl ?_
                                    rw [if_pos (inN_io (by omega) (by omega))]
                                    refine r_if_eq (fun c_45_9 => ?_) (fun c_45_9 => ?_)
                                    · have c_45_9 := (n_eq (a := 1) (b := 0) rfl rfl (by omega) (by omega)).mp c_45_9
                                      omega
                                    · have c_45_9 := (not_congr (n_eq (a := 1) (b := 0) rfl rfl (by omega) (by omega))).mp c_45_9
                                      refine r_iload_n rfl ?_
                                      refine r_iconst ?_
                                      refine r_icmp_le (fun c_45_14 => ?_) (fun c_45_14 => ?_)
                                      · have c_45_14 := (n_le (a := 1) (b := 1) rfl rfl (by omega) (by omega)).mp c_45_14
                                        refine E_go 2 rfl ?_
                                        refine r_iload_n rfl ?_
                                        refine r_iconst ?_
                                        refine r_icmp_ge (fun c_45_30 => ?_) (fun c_45_30 => ?_)
                                        · have c_45_30 := (n_le (a := 2) (b := 1) rfl rfl (by omega) (by omega)).mp c_45_30
                                          omega
                                        · have c_45_30 := (not_congr (n_le (a := 2) (b := 1) rfl rfl (by omega) (by omega))).mp c_45_30
                                          refine r_iload_n rfl ?_
                                          refine r_if_ne (fun c_45_34 => ?_) (fun c_45_34 => ?_)
                                          · have c_45_34 := (not_congr (n_eq (a := 1) (b := 0) rfl rfl (by omega) (by omega))).mp c_45_34
                                            refine E_go 3 rfl ?_
                                            refine r_aload_n rfl ?_
                                            refine r_getI (by decide) rfl rfl (by decide) R.mo ?_
                                            refine r_nil ?_
                                            refine E_go 4 rfl ?_
                                            refine r_iret rfl trivial ?_
                                            refine r_istore (ls' := [_, _, _, _, _]) (zt rfl) rfl ?_
                                            refine r_aload_n rfl ?_
                                            refine r_iload_n rfl ?_
                                            refine r_iload_n rfl ?_
                                            refine r_iload_n rfl ?_
                                            refine r_virtual (vs := []) (as := [_, _, _]) (by decide) (zl rfl) rfl rfl (zl rfl) (Nat.le_refl _) (Or.inr (Or.inr ⟨zt rfl, rfl, zt rfl⟩)) ?_
                                            refine M_go (ls := [_, _, _, _]) (ml := 4) rfl rfl rfl (zl rfl) rfl ?_
                                            refine r_iload_n rfl ?_
                                            refine r_if_ne (fun c_54_1 => ?_) (fun c_54_1 => ?_)
                                            · have c_54_1 := (not_congr (n_eq (a := 1) (b := 0) rfl rfl (by omega) (by omega))).mp c_54_1
                                              refine E_go 1 rfl ?_
                                              refine r_iload_n rfl ?_
                                              refine r_iconst ?_
                                              refine r_icmp_ne (fun c_54_14 => ?_) (fun c_54_14 => ?_)
                                              · have c_54_14 := (not_congr (n_eq (a := 1) (b := 1) rfl rfl (by omega) (by omega))).mp c_54_14
                                                omega
                                              · have c_54_14 := (n_eq (a := 1) (b := 1) rfl rfl (by omega) (by omega)).mp c_54_14
                                                refine r_aload_n rfl ?_
                                                refine r_iload_n rfl ?_
                                                refine r_putI rfl rfl (by decide) ?_
                                                refine r_goto ?_
                                                refine E_go 5 rfl ?_
                                                refine r_ret rfl ?_
                                                refine r_iload rfl ?_
                                                refine r_iret rfl trivial ?_
                                                exact hQ _ _ _ (R.setO ⟨k, hk, rfl⟩).rel
                                            · have c_54_1 := (n_eq (a := 1) (b := 0) rfl rfl (by omega) (by omega)).mp c_54_1
                                              omega
                                          · have c_45_34 := (n_eq (a := 1) (b := 0) rfl rfl (by omega) (by omega)).mp c_45_34
                                            omega
                                      · have c_45_14 := (not_congr (n_le (a := 1) (b := 1) rfl rfl (by omega) (by omega))).mp c_45_14
                                        omega
                                  · have c_36 := (n_eq (a := 1) (b := 0) rfl rfl (by omega) (by omega)).mp c_36
                                    omega
                              · have c_14 := (not_congr (n_le (a := 1) (b := 1) rfl rfl (by omega) (by omega))).mp c_14
                                omega
                          · exact absurd rfl ds
                        · exact absurd rfl ds
                      · have c_28 := (not_congr (n_lt (a := k) (b := 1000) rfl rfl (by omega) (by omega))).mp c_28
                        omega
                    · exact absurd rfl ds
              · have c_12_6 := (not_congr (n_eq (a := 1) (b := 1) rfl rfl (by omega) (by omega))).mp c_12_6
                omega
      · refine M_go (ls := [_, _, _, _, _]) (ml := 5) rfl rfl rfl (zl rfl) rfl ?_
        refine r_iload_n rfl ?_
        refine r_if_lt (fun c_1 => ?_) (fun c_1 => ?_)
        · have c_1 := (n_lt (a := 1) (b := 0) rfl rfl (by omega) (by omega)).mp c_1
          omega
        · have c_1 := (not_congr (n_lt (a := 1) (b := 0) rfl rfl (by omega) (by omega))).mp c_1
          refine r_iload_n rfl ?_
          refine r_iconst ?_
          refine r_icmp_gt (fun c_6 => ?_) (fun c_6 => ?_)
          · have c_6 := (n_lt (a := 4) (b := 1) rfl rfl (by omega) (by omega)).mp c_6
            omega
          · have c_6 := (not_congr (n_lt (a := 4) (b := 1) rfl rfl (by omega) (by omega))).mp c_6
            refine r_aload_n rfl ?_
            refine r_iload_n rfl ?_
            refine r_iload_n rfl ?_
            refine r_virtual (vs := []) (as := [_, _]) (by decide) (zl rfl) rfl rfl (zl rfl) (Nat.le_refl _) (Or.inr (Or.inr ⟨zt rfl, rfl, zt rfl⟩)) ?_
            refine M_go (ls := [_, _, _]) (ml := 3) rfl rfl rfl (zl rfl) rfl ?_
            refine r_iload_n rfl ?_
            refine r_if_eq (fun c_12_1 => ?_) (fun c_12_1 => ?_)
            · have c_12_1 := (n_eq (a := 1) (b := 0) rfl rfl (by omega) (by omega)).mp c_12_1
              omega
            · have c_12_1 := (not_congr (n_eq (a := 1) (b := 0) rfl rfl (by omega) (by omega))).mp c_12_1
              refine r_iload_n rfl ?_
              refine r_iconst ?_
              refine r_icmp_eq (fun c_12_6 => ?_) (fun c_12_6 => ?_)
              · have c_12_6 := (n_eq (a := 1) (b := 1) rfl rfl (by omega) (by omega)).mp c_12_6
                refine E_go 1 rfl ?_
                refine r_iconst ?_
                refine r_goto ?_
                refine E_go 3 rfl ?_
                refine r_iret rfl (by first | exact Or.inl rfl | exact Or.inr rfl) ?_
                refine r_if_eq (fun c_15 => ?_) (fun c_15 => ?_)
                · have c_15 := (n_eq (a := 1) (b := 0) rfl rfl (by omega) (by omega)).mp c_15
                  omega
                · have c_15 := (not_congr (n_eq (a := 1) (b := 0) rfl rfl (by omega) (by omega))).mp c_15
                  refine r_iload_n rfl ?_
                  refine r_if_lt (fun c_19 => ?_) (fun c_19 => ?_)
                  · have c_19 := (jlt (b := 0) rfl (by omega)).mp c_19
                    refine E_go 1 rfl ?_
                    refine r_bipush ?_
                    refine r_iret rfl trivial ?_
                    refine M_go (ls := [_, _, _, _, _]) (ml := 5) rfl rfl rfl (zl rfl) rfl ?_
                    refine r_iload_n rfl ?_
                    refine r_i2l ?_
                    refine r_lconst ?_
                    refine r_ldc2_w ?_
                    refine r_static (vs := [_, _, _]) (by decide) (zl rfl) rfl rfl (zl rfl) (Nat.le_refl _) rfl ?_
                    refine s_in0 (by omega) (x := (io 1)) (k := 5) (Int32.toInt_toInt64 _) i64_0 rfl ?_
                    rw [if_pos (inN_io (by omega) (by omega))]
                    refine r_if_eq (fun c_9 => ?_) (fun c_9 => ?_)
                    · have c_9 := (n_eq (a := 1) (b := 0) rfl rfl (by omega) (by omega)).mp c_9
                      omega
                    · have c_9 := (not_congr (n_eq (a := 1) (b := 0) rfl rfl (by omega) (by omega))).mp c_9
                      refine r_iload_n rfl ?_
                      refine r_iconst ?_
                      refine r_icmp_le (fun c_14 => ?_) (fun c_14 => ?_)
                      · have c_14 := (n_le (a := 1) (b := 1) rfl rfl (by omega) (by omega)).mp c_14
                        refine E_go 1 rfl ?_
                        refine r_iload_n rfl ?_
                        refine r_i2l ?_
                        refine r_lconst ?_
                        refine r_iload_n rfl ?_
                        refine r_static (vs := [_]) (by decide) (zl rfl) rfl rfl (zl rfl) (Nat.le_refl _) rfl ?_
                        refine M_go (ls := [_]) (ml := 1) rfl rfl rfl (zl rfl) rfl ?_
                        refine r_iload_n rfl ?_
                        refine r_iconst ?_
                        refine r_icmp_ne (fun c_29_2 => ?_) (fun c_29_2 => ?_)
                        · have c_29_2 := (not_congr (n_eq (a := 1) (b := 1) rfl rfl (by omega) (by omega))).mp c_29_2
                          omega
                        · have c_29_2 := (n_eq (a := 1) (b := 1) rfl rfl (by omega) (by omega)).mp c_29_2
                          refine r_sipush ?_
                          refine r_goto ?_
                          refine E_go 4 rfl ?_
                          refine r_iret rfl trivial ?_
                          refine r_i2l ?_
                          refine r_static (vs := [_, _, _]) (by decide) (zl rfl) rfl rfl (zl rfl) (Nat.le_refl _) rfl ?_
                          refine s_in0 (by omega) (x := z) (k := 1000) (Int32.toInt_toInt64 _) i64_0 rfl ?_
                          rw [if_neg hv]
                          refine r_if_ne (fun c_36 => ?_) (fun c_36 => ?_)
                          · have c_36 := (not_congr (n_eq (a := 0) (b := 0) rfl rfl (by omega) (by omega))).mp c_36
                            omega
                          · have c_36 := (n_eq (a := 0) (b := 0) rfl rfl (by omega) (by omega)).mp c_36
                            refine r_nil ?_
                            refine E_go 2 rfl ?_
                            refine r_bipush ?_
                            refine r_iret rfl trivial ?_
                            exact hQ _ _ _ R.rel
                      · have c_14 := (not_congr (n_le (a := 1) (b := 1) rfl rfl (by omega) (by omega))).mp c_14
                        omega
                  · have c_19 := (not_congr (jlt (b := 0) rfl (by omega))).mp c_19
                    refine r_iload_n rfl ?_
                    refine r_aload_n rfl ?_
                    refine r_iload_n rfl ?_
                    refine r_virtual (vs := []) (as := [_]) (by decide) (zl rfl) rfl rfl (zl rfl) (Nat.le_refl _) (Or.inr (Or.inr ⟨zt rfl, rfl, zt rfl⟩)) ?_
                    refine M_go (ls := [_, _]) (ml := 2) rfl rfl rfl (zl rfl) rfl ?_
                    refine r_iload_n rfl ?_
                    refine r_table ?_
                    refine r_sw1 (fun cs => ?_) (fun ds => ?_)
                    · exact absurd ((n_eq (a := 1) (b := 0) rfl rfl (by omega) (by omega)).mp cs) (by omega)
                    refine r_sw1 (fun cs => ?_) (fun ds => ?_)
                    · refine E_go 2 rfl ?_
                      refine r_sipush ?_
                      refine r_iret rfl trivial ?_
                      refine r_icmp_lt (fun c_28 => ?_) (fun c_28 => ?_)
                      · have c_28 := (jlt (b := 1000) rfl (by omega)).mp c_28
                        omega
                      · have c_28 := (not_congr (jlt (b := 1000) rfl (by omega))).mp c_28
                        refine r_nil ?_
                        refine E_go 1 rfl ?_
                        refine r_bipush ?_
                        refine r_iret rfl trivial ?_
                        refine M_go (ls := [_, _, _, _, _]) (ml := 5) rfl rfl rfl (zl rfl) rfl ?_
                        refine r_iload_n rfl ?_
                        refine r_i2l ?_
                        refine r_lconst ?_
                        refine r_ldc2_w ?_
                        refine r_static (vs := [_, _, _]) (by decide) (zl rfl) rfl rfl (zl rfl) (Nat.le_refl _) rfl ?_
                        refine s_in0 (by omega) (x := (io 1)) (k := 5) (Int32.toInt_toInt64 _) i64_0 rfl ?_
                        rw [if_pos (inN_io (by omega) (by omega))]
                        refine r_if_eq (fun c_9 => ?_) (fun c_9 => ?_)
                        · have c_9 := (n_eq (a := 1) (b := 0) rfl rfl (by omega) (by omega)).mp c_9
                          omega
                        · have c_9 := (not_congr (n_eq (a := 1) (b := 0) rfl rfl (by omega) (by omega))).mp c_9
                          refine r_iload_n rfl ?_
                          refine r_iconst ?_
                          refine r_icmp_le (fun c_14 => ?_) (fun c_14 => ?_)
                          · have c_14 := (n_le (a := 1) (b := 1) rfl rfl (by omega) (by omega)).mp c_14
                            refine E_go 1 rfl ?_
                            refine r_iload_n rfl ?_
                            refine r_i2l ?_
                            refine r_lconst ?_
                            refine r_iload_n rfl ?_
                            refine r_static (vs := [_]) (by decide) (zl rfl) rfl rfl (zl rfl) (Nat.le_refl _) rfl ?_
                            refine M_go (ls := [_]) (ml := 1) rfl rfl rfl (zl rfl) rfl ?_
                            refine r_iload_n rfl ?_
                            refine r_iconst ?_
                            refine r_icmp_ne (fun c_29_2 => ?_) (fun c_29_2 => ?_)
                            · have c_29_2 := (not_congr (n_eq (a := 1) (b := 1) rfl rfl (by omega) (by omega))).mp c_29_2
                              omega
                            · have c_29_2 := (n_eq (a := 1) (b := 1) rfl rfl (by omega) (by omega)).mp c_29_2
                              refine r_sipush ?_
                              refine r_goto ?_
                              refine E_go 4 rfl ?_
                              refine r_iret rfl trivial ?_
                              refine r_i2l ?_
                              refine r_static (vs := [_, _, _]) (by decide) (zl rfl) rfl rfl (zl rfl) (Nat.le_refl _) rfl ?_
                              refine s_in0 (by omega) (x := z) (k := 1000) (Int32.toInt_toInt64 _) i64_0 rfl ?_
                              rw [if_neg hv]
                              refine r_if_ne (fun c_36 => ?_) (fun c_36 => ?_)
                              · have c_36 := (not_congr (n_eq (a := 0) (b := 0) rfl rfl (by omega) (by omega))).mp c_36
                                omega
                              · have c_36 := (n_eq (a := 0) (b := 0) rfl rfl (by omega) (by omega)).mp c_36
                                refine r_nil ?_
                                refine E_go 2 rfl ?_
                                refine r_bipush ?_
                                refine r_iret rfl trivial ?_
                                exact hQ _ _ _ R.rel
                          · have c_14 := (not_congr (n_le (a := 1) (b := 1) rfl rfl (by omega) (by omega))).mp c_14
                            omega
                    · exact absurd rfl ds
              · have c_12_6 := (not_congr (n_eq (a := 1) (b := 1) rfl rfl (by omega) (by omega))).mp c_12_6
                omega
    · by_cases hx : inN n x
      · obtain ⟨a, ha, rfl⟩ := inN_ex hx (by omega)
        by_cases hv : inN 10 z
        · obtain ⟨k, hk, rfl⟩ := inN_ex hv (by omega)
          refine M_go (ls := [_, _, _, _, _]) (ml := 5) rfl rfl rfl (zl rfl) rfl ?_
          refine r_iload_n rfl ?_
          refine r_if_lt (fun c_1 => ?_) (fun c_1 => ?_)
          · have c_1 := (n_lt (a := 2) (b := 0) rfl rfl (by omega) (by omega)).mp c_1
            omega
          · have c_1 := (not_congr (n_lt (a := 2) (b := 0) rfl rfl (by omega) (by omega))).mp c_1
            refine r_iload_n rfl ?_
            refine r_iconst ?_
            refine r_icmp_gt (fun c_6 => ?_) (fun c_6 => ?_)
            · have c_6 := (n_lt (a := 4) (b := 2) rfl rfl (by omega) (by omega)).mp c_6
              omega
            · have c_6 := (not_congr (n_lt (a := 4) (b := 2) rfl rfl (by omega) (by omega))).mp c_6
              refine r_aload_n rfl ?_
              refine r_iload_n rfl ?_
              refine r_iload_n rfl ?_
              refine r_virtual (vs := []) (as := [_, _]) (by decide) (zl rfl) rfl rfl (zl rfl) (Nat.le_refl _) (Or.inr (Or.inr ⟨zt rfl, rfl, zt rfl⟩)) ?_
              refine M_go (ls := [_, _, _]) (ml := 3) rfl rfl rfl (zl rfl) rfl ?_
              refine r_iload_n rfl ?_
              refine r_if_eq (fun c_12_1 => ?_) (fun c_12_1 => ?_)
              · have c_12_1 := (n_eq (a := 2) (b := 0) rfl rfl (by omega) (by omega)).mp c_12_1
                omega
              · have c_12_1 := (not_congr (n_eq (a := 2) (b := 0) rfl rfl (by omega) (by omega))).mp c_12_1
                refine r_iload_n rfl ?_
                refine r_iconst ?_
                refine r_icmp_eq (fun c_12_6 => ?_) (fun c_12_6 => ?_)
                · have c_12_6 := (n_eq (a := 2) (b := 1) rfl rfl (by omega) (by omega)).mp c_12_6
                  omega
                · have c_12_6 := (not_congr (n_eq (a := 2) (b := 1) rfl rfl (by omega) (by omega))).mp c_12_6
                  refine r_aload_n rfl ?_
                  refine r_iload_n rfl ?_
                  refine r_virtual (vs := []) (as := [_]) (by decide) (zl rfl) rfl rfl (zl rfl) (Nat.le_refl _) (Or.inr (Or.inr ⟨zt rfl, rfl, zt rfl⟩)) ?_
                  refine s_isAunt (by omega) R.cn h5 ?_
                  rw [if_pos (inN_io ha (by omega))]
                  refine r_if_eq (fun c_12_14 => ?_) (fun c_12_14 => ?_)
                  · have c_12_14 := (n_eq (a := 1) (b := 0) rfl rfl (by omega) (by omega)).mp c_12_14
                    omega
                  · have c_12_14 := (not_congr (n_eq (a := 1) (b := 0) rfl rfl (by omega) (by omega))).mp c_12_14
                    refine r_nil ?_
                    refine E_go 1 rfl ?_
                    refine r_iconst ?_
                    refine r_goto ?_
                    refine E_go 3 rfl ?_
                    refine r_iret rfl (by first | exact Or.inl rfl | exact Or.inr rfl) ?_
                    refine r_if_eq (fun c_15 => ?_) (fun c_15 => ?_)
                    · have c_15 := (n_eq (a := 1) (b := 0) rfl rfl (by omega) (by omega)).mp c_15
                      omega
                    · have c_15 := (not_congr (n_eq (a := 1) (b := 0) rfl rfl (by omega) (by omega))).mp c_15
                      refine r_iload_n rfl ?_
                      refine r_if_lt (fun c_19 => ?_) (fun c_19 => ?_)
                      · have c_19 := (n_lt (a := k) (b := 0) rfl rfl (by omega) (by omega)).mp c_19
                        omega
                      · have c_19 := (not_congr (n_lt (a := k) (b := 0) rfl rfl (by omega) (by omega))).mp c_19
                        refine r_iload_n rfl ?_
                        refine r_aload_n rfl ?_
                        refine r_iload_n rfl ?_
                        refine r_virtual (vs := []) (as := [_]) (by decide) (zl rfl) rfl rfl (zl rfl) (Nat.le_refl _) (Or.inr (Or.inr ⟨zt rfl, rfl, zt rfl⟩)) ?_
                        refine M_go (ls := [_, _]) (ml := 2) rfl rfl rfl (zl rfl) rfl ?_
                        refine r_iload_n rfl ?_
                        refine r_table ?_
                        refine r_sw1 (fun cs => ?_) (fun ds => ?_)
                        · exact absurd ((n_eq (a := 2) (b := 0) rfl rfl (by omega) (by omega)).mp cs) (by omega)
                        refine r_sw1 (fun cs => ?_) (fun ds => ?_)
                        · exact absurd ((n_eq (a := 2) (b := 1) rfl rfl (by omega) (by omega)).mp cs) (by omega)
                        refine r_sw1 (fun cs => ?_) (fun ds => ?_)
                        · refine E_go 3 rfl ?_
                          refine r_bipush ?_
                          refine r_iret rfl trivial ?_
                          refine r_icmp_lt (fun c_28 => ?_) (fun c_28 => ?_)
                          · have c_28 := (n_lt (a := k) (b := 10) rfl rfl (by omega) (by omega)).mp c_28
                            refine E_go 2 rfl ?_
                            refine r_aload_n rfl ?_
                            refine r_getA (q := 1) (by decide) rfl rfl (by decide) ?_
                            refine r_iload_n rfl ?_
                            refine r_iload_n rfl ?_
                            refine r_virtual (vs := []) (as := [_, _]) (by decide) (zl rfl) rfl rfl (zl rfl) (Nat.le_refl _) (Or.inr (Or.inr ⟨zt rfl, rfl, zt rfl⟩)) ?_
                            refine M_go (ls := [_, _, _]) (ml := 3) rfl rfl rfl (zl rfl) rfl ?_
                            refine r_iload_n rfl ?_
                            refine r_table ?_
                            refine r_sw1 (fun cs => ?_) (fun ds => ?_)
                            · exact absurd ((n_eq (a := 2) (b := 0) rfl rfl (by omega) (by omega)).mp cs) (by omega)
                            refine r_sw1 (fun cs => ?_) (fun ds => ?_)
                            · exact absurd ((n_eq (a := 2) (b := 1) rfl rfl (by omega) (by omega)).mp cs) (by omega)
                            refine r_sw1 (fun cs => ?_) (fun ds => ?_)
                            · refine E_go 3 rfl ?_
                              refine r_aload_n rfl ?_
                              refine r_getA (q := 3) (by decide) rfl rfl (by decide) ?_
                              refine r_iload_n rfl ?_
                              refine r_iaload (by decide) rfl (by decide) (ixE rfl (show a < 5 by omega) (by decide)) rfl ?_
                              refine r_iret rfl trivial ?_
                              refine r_istore (ls' := [_, _, _, _, _]) (zt rfl) rfl ?_
                              refine r_aload_n rfl ?_
                              refine r_getA (q := 1) (by decide) rfl rfl (by decide) ?_
                              refine r_iload_n rfl ?_
                              refine r_iload_n rfl ?_
                              refine r_iload_n rfl ?_
                              refine r_virtual (vs := []) (as := [_, _, _]) (by decide) (zl rfl) rfl rfl (zl rfl) (Nat.le_refl _) (Or.inr (Or.inr ⟨zt rfl, rfl, zt rfl⟩)) ?_
                              refine M_go (ls := [_, _, _, _]) (ml := 4) rfl rfl rfl (zl rfl) rfl ?_
                              refine r_iload_n rfl ?_
                              refine r_table ?_
                              refine r_sw1 (fun cs => ?_) (fun ds => ?_)
                              · exact absurd ((n_eq (a := 2) (b := 0) rfl rfl (by omega) (by omega)).mp cs) (by omega)
                              refine r_sw1 (fun cs => ?_) (fun ds => ?_)
                              · exact absurd ((n_eq (a := 2) (b := 1) rfl rfl (by omega) (by omega)).mp cs) (by omega)
                              refine r_sw1 (fun cs => ?_) (fun ds => ?_)
                              · refine E_go 3 rfl ?_
                                refine r_aload_n rfl ?_
                                refine r_getA (q := 3) (by decide) rfl rfl (by decide) ?_
                                refine r_iload_n rfl ?_
                                refine r_iload_n rfl ?_
                                refine r_iastore rfl (by decide) (ixE rfl (show a < 5 by omega) (by decide)) ?_
                                refine r_goto ?_
                                refine E_go 8 rfl ?_
                                refine r_ret rfl ?_
                                refine r_iload rfl ?_
                                refine r_iret rfl trivial ?_
                                refine M_go (ls := [_, _, _, _, _]) (ml := 5) rfl rfl rfl (zl rfl) rfl ?_
                                refine r_iload_n rfl ?_
                                refine r_i2l ?_
                                refine r_lconst ?_
                                refine r_ldc2_w ?_
                                refine r_static (vs := [_, _, _]) (by decide) (zl rfl) rfl rfl (zl rfl) (Nat.le_refl _) rfl ?_
                                refine s_in0 (by omega) (x := (io 2)) (k := 5) (Int32.toInt_toInt64 _) i64_0 rfl ?_
                                rw [if_pos (inN_io (by omega) (by omega))]
                                refine r_if_eq (fun c_9 => ?_) (fun c_9 => ?_)
                                · have c_9 := (n_eq (a := 1) (b := 0) rfl rfl (by omega) (by omega)).mp c_9
                                  omega
                                · have c_9 := (not_congr (n_eq (a := 1) (b := 0) rfl rfl (by omega) (by omega))).mp c_9
                                  refine r_iload_n rfl ?_
                                  refine r_iconst ?_
                                  refine r_icmp_le (fun c_14 => ?_) (fun c_14 => ?_)
                                  · have c_14 := (n_le (a := 2) (b := 1) rfl rfl (by omega) (by omega)).mp c_14
                                    omega
                                  · have c_14 := (not_congr (n_le (a := 2) (b := 1) rfl rfl (by omega) (by omega))).mp c_14
                                    refine r_aload_n rfl ?_
                                    refine r_iload_n rfl ?_
                                    refine r_virtual (vs := []) (as := [_]) (by decide) (zl rfl) rfl rfl (zl rfl) (Nat.le_refl _) (Or.inr (Or.inr ⟨zt rfl, rfl, zt rfl⟩)) ?_
                                    refine s_isOne (by omega) R.mn h5 ?_
                                    rw [if_pos (inN_io ha (by omega))]
                                    refine r_if_eq (fun c_22 => ?_) (fun c_22 => ?_)
                                    · have c_22 := (n_eq (a := 1) (b := 0) rfl rfl (by omega) (by omega)).mp c_22
                                      omega
                                    · have c_22 := (not_congr (n_eq (a := 1) (b := 0) rfl rfl (by omega) (by omega))).mp c_22
                                      refine r_nil ?_
                                      refine E_go 1 rfl ?_
                                      refine r_iload_n rfl ?_
                                      refine r_i2l ?_
                                      refine r_lconst ?_
                                      refine r_iload_n rfl ?_
                                      refine r_static (vs := [_]) (by decide) (zl rfl) rfl rfl (zl rfl) (Nat.le_refl _) rfl ?_
                                      refine M_go (ls := [_]) (ml := 1) rfl rfl rfl (zl rfl) rfl ?_
                                      refine r_iload_n rfl ?_
                                      refine r_iconst ?_
                                      refine r_icmp_ne (fun c_29_2 => ?_) (fun c_29_2 => ?_)
                                      · have c_29_2 := (not_congr (n_eq (a := 2) (b := 1) rfl rfl (by omega) (by omega))).mp c_29_2
                                        refine E_go 1 rfl ?_
                                        refine r_iload_n rfl ?_
                                        refine r_iconst ?_
                                        refine r_icmp_ne (fun c_29_13 => ?_) (fun c_29_13 => ?_)
                                        · have c_29_13 := (not_congr (n_eq (a := 2) (b := 2) rfl rfl (by omega) (by omega))).mp c_29_13
                                          omega
                                        · have c_29_13 := (n_eq (a := 2) (b := 2) rfl rfl (by omega) (by omega)).mp c_29_13
                                          refine r_bipush ?_
                                          refine r_goto ?_
                                          refine E_go 4 rfl ?_
                                          refine r_iret rfl trivial ?_
                                          refine r_i2l ?_
                                          refine r_static (vs := [_, _, _]) (by decide) (zl rfl) rfl rfl (zl rfl) (Nat.le_refl _) rfl ?_
                                          refine s_in0 (by omega) (x := (io k)) (k := 10) (Int32.toInt_toInt64 _) i64_0 rfl ?_
                                          rw [if_pos (inN_io hk (by omega))]
                                          refine r_if_ne (fun c_36 => ?_) (fun c_36 => ?_)
                                          · have c_36 := (not_congr (n_eq (a := 1) (b := 0) rfl rfl (by omega) (by omega))).mp c_36
                                            refine E_go 3 rfl ?_
                                            refine r_aload_n rfl ?_
                                            refine r_iload_n rfl ?_
                                            refine r_iload_n rfl ?_
                                            refine r_virtual (vs := []) (as := [_, _]) (by decide) (zl rfl) rfl rfl (zl rfl) (Nat.le_refl _) (Or.inr (Or.inr ⟨zt rfl, rfl, zt rfl⟩)) ?_
                                            refine M_go (ls := [_, _, _]) (ml := 3) rfl rfl rfl (zl rfl) rfl ?_
                                            refine r_iload_n rfl ?_
                                            refine r_i2l ?_
                                            refine r_lconst ?_
                                            refine r_ldc2_w ?_
                                            refine r_static (vs := [_, _, _]) (by decide) (zl rfl) rfl rfl (zl rfl) (Nat.le_refl _) rfl ?_
                                            refine s_in0 (by omega) (x := (io 2)) (k := 8) (Int32.toInt_toInt64 _) i64_0 rfl ?_
                                            rw [if_pos (inN_io (by omega) (by omega))]
                                            refine r_if_eq (fun c_45_9 => ?_) (fun c_45_9 => ?_)
                                            · have c_45_9 := (n_eq (a := 1) (b := 0) rfl rfl (by omega) (by omega)).mp c_45_9
                                              omega
                                            · have c_45_9 := (not_congr (n_eq (a := 1) (b := 0) rfl rfl (by omega) (by omega))).mp c_45_9
                                              refine r_iload_n rfl ?_
                                              refine r_iconst ?_
                                              refine r_icmp_le (fun c_45_14 => ?_) (fun c_45_14 => ?_)
                                              · have c_45_14 := (n_le (a := 2) (b := 1) rfl rfl (by omega) (by omega)).mp c_45_14
                                                omega
                                              · have c_45_14 := (not_congr (n_le (a := 2) (b := 1) rfl rfl (by omega) (by omega))).mp c_45_14
                                                refine r_aload_n rfl ?_
                                                refine r_iload_n rfl ?_
                                                refine r_virtual (vs := []) (as := [_]) (by decide) (zl rfl) rfl rfl (zl rfl) (Nat.le_refl _) (Or.inr (Or.inr ⟨zt rfl, rfl, zt rfl⟩)) ?_
                                                refine s_isOne (by omega) R.mn h5 ?_
                                                rw [if_pos (inN_io ha (by omega))]
                                                refine r_if_ne (fun c_45_22 => ?_) (fun c_45_22 => ?_)
                                                · have c_45_22 := (not_congr (n_eq (a := 1) (b := 0) rfl rfl (by omega) (by omega))).mp c_45_22
                                                  refine E_go 2 rfl ?_
                                                  refine r_iload_n rfl ?_
                                                  refine r_iconst ?_
                                                  refine r_icmp_ge (fun c_45_30 => ?_) (fun c_45_30 => ?_)
                                                  · have c_45_30 := (n_le (a := 2) (b := 2) rfl rfl (by omega) (by omega)).mp c_45_30
                                                    refine E_go 5 rfl ?_
                                                    refine r_iload_n rfl ?_
                                                    refine r_iconst ?_
                                                    refine r_icmp_ge (fun c_45_51 => ?_) (fun c_45_51 => ?_)
                                                    · have c_45_51 := (n_le (a := 5) (b := 2) rfl rfl (by omega) (by omega)).mp c_45_51
                                                      omega
                                                    · have c_45_51 := (not_congr (n_le (a := 5) (b := 2) rfl rfl (by omega) (by omega))).mp c_45_51
                                                      refine r_aload_n rfl ?_
                                                      refine r_getA (q := 66) (by decide) rfl rfl (by decide) ?_
                                                      refine r_iconst ?_
                                                      refine r_iload_n rfl ?_
                                                      refine r_imul ?_
                                                      refine r_iload_n rfl ?_
                                                      refine r_iadd ?_
                                                      refine r_iconst ?_
                                                      refine r_isub ?_
                                                      refine r_iaload (by decide) rfl (by decide) (ixE (n_sub (a := ((3 * a) + 2)) (b := 2) (n_add (a := (3 * a)) (b := 2) (n_mul (a := 3) (b := a) rfl rfl) rfl) rfl (by omega)) (show (((3 * a) + 2) - 2) < 15 by omega) (by decide)) ((congrArg (I 66) (show (((3 * a) + 2) - 2) = 3 * a by omega)).trans (R.nu ha)) ?_
                                                      refine r_goto ?_
                                                      refine E_go 9 rfl ?_
                                                      refine r_iret rfl trivial ?_
                                                      refine r_istore (ls' := [_, _, _, _, _]) (zt rfl) rfl ?_
                                                      refine r_aload_n rfl ?_
                                                      refine r_iload_n rfl ?_
                                                      refine r_iload_n rfl ?_
                                                      refine r_iload_n rfl ?_
                                                      refine r_virtual (vs := []) (as := [_, _, _]) (by decide) (zl rfl) rfl rfl (zl rfl) (Nat.le_refl _) (Or.inr (Or.inr ⟨zt rfl, rfl, zt rfl⟩)) ?_
                                                      refine M_go (ls := [_, _, _, _]) (ml := 4) rfl rfl rfl (zl rfl) rfl ?_
                                                      refine r_iload_n rfl ?_
                                                      refine r_if_ne (fun c_54_1 => ?_) (fun c_54_1 => ?_)
                                                      · have c_54_1 := (not_congr (n_eq (a := 2) (b := 0) rfl rfl (by omega) (by omega))).mp c_54_1
                                                        refine E_go 1 rfl ?_
                                                        refine r_iload_n rfl ?_
                                                        refine r_iconst ?_
                                                        refine r_icmp_ne (fun c_54_14 => ?_) (fun c_54_14 => ?_)
                                                        · have c_54_14 := (not_congr (n_eq (a := 2) (b := 1) rfl rfl (by omega) (by omega))).mp c_54_14
                                                          refine E_go 2 rfl ?_
                                                          refine r_iload_n rfl ?_
                                                          refine r_iconst ?_
                                                          refine r_icmp_ge (fun c_54_27 => ?_) (fun c_54_27 => ?_)
                                                          · have c_54_27 := (n_le (a := 5) (b := 2) rfl rfl (by omega) (by omega)).mp c_54_27
                                                            omega
                                                          · have c_54_27 := (not_congr (n_le (a := 5) (b := 2) rfl rfl (by omega) (by omega))).mp c_54_27
                                                            refine r_aload_n rfl ?_
                                                            refine r_getA (q := 66) (by decide) rfl rfl (by decide) ?_
                                                            refine r_iconst ?_
                                                            refine r_iload_n rfl ?_
                                                            refine r_imul ?_
                                                            refine r_iload_n rfl ?_
                                                            refine r_iadd ?_
                                                            refine r_iconst ?_
                                                            refine r_isub ?_
                                                            refine r_iload_n rfl ?_
                                                            refine r_iastore rfl (by decide) (ixE (n_sub (a := ((3 * a) + 2)) (b := 2) (n_add (a := (3 * a)) (b := 2) (n_mul (a := 3) (b := a) rfl rfl) rfl) rfl (by omega)) (show (((3 * a) + 2) - 2) < 15 by omega) (by decide)) ?_
                                                            refine r_goto ?_
                                                            refine E_go 5 rfl ?_
                                                            refine r_ret rfl ?_
                                                            refine r_iload rfl ?_
                                                            refine r_iret rfl trivial ?_
                                                            rw [show 3 * a + 2 - 2 = 3 * a by omega]
                                                            exact hQ _ _ _ (R.setN ha ⟨k, hk, rfl⟩).rel
                                                        · have c_54_14 := (n_eq (a := 2) (b := 1) rfl rfl (by omega) (by omega)).mp c_54_14
                                                          omega
                                                      · have c_54_1 := (n_eq (a := 2) (b := 0) rfl rfl (by omega) (by omega)).mp c_54_1
                                                        omega
                                                  · have c_45_30 := (not_congr (n_le (a := 2) (b := 2) rfl rfl (by omega) (by omega))).mp c_45_30
                                                    omega
                                                · have c_45_22 := (n_eq (a := 1) (b := 0) rfl rfl (by omega) (by omega)).mp c_45_22
                                                  omega
                                          · have c_36 := (n_eq (a := 1) (b := 0) rfl rfl (by omega) (by omega)).mp c_36
                                            omega
                                      · have c_29_2 := (n_eq (a := 2) (b := 1) rfl rfl (by omega) (by omega)).mp c_29_2
                                        omega
                              · exact absurd rfl ds
                            · exact absurd rfl ds
                          · have c_28 := (not_congr (n_lt (a := k) (b := 10) rfl rfl (by omega) (by omega))).mp c_28
                            omega
                        · exact absurd rfl ds
        · refine M_go (ls := [_, _, _, _, _]) (ml := 5) rfl rfl rfl (zl rfl) rfl ?_
          refine r_iload_n rfl ?_
          refine r_if_lt (fun c_1 => ?_) (fun c_1 => ?_)
          · have c_1 := (n_lt (a := 2) (b := 0) rfl rfl (by omega) (by omega)).mp c_1
            omega
          · have c_1 := (not_congr (n_lt (a := 2) (b := 0) rfl rfl (by omega) (by omega))).mp c_1
            refine r_iload_n rfl ?_
            refine r_iconst ?_
            refine r_icmp_gt (fun c_6 => ?_) (fun c_6 => ?_)
            · have c_6 := (n_lt (a := 4) (b := 2) rfl rfl (by omega) (by omega)).mp c_6
              omega
            · have c_6 := (not_congr (n_lt (a := 4) (b := 2) rfl rfl (by omega) (by omega))).mp c_6
              refine r_aload_n rfl ?_
              refine r_iload_n rfl ?_
              refine r_iload_n rfl ?_
              refine r_virtual (vs := []) (as := [_, _]) (by decide) (zl rfl) rfl rfl (zl rfl) (Nat.le_refl _) (Or.inr (Or.inr ⟨zt rfl, rfl, zt rfl⟩)) ?_
              refine M_go (ls := [_, _, _]) (ml := 3) rfl rfl rfl (zl rfl) rfl ?_
              refine r_iload_n rfl ?_
              refine r_if_eq (fun c_12_1 => ?_) (fun c_12_1 => ?_)
              · have c_12_1 := (n_eq (a := 2) (b := 0) rfl rfl (by omega) (by omega)).mp c_12_1
                omega
              · have c_12_1 := (not_congr (n_eq (a := 2) (b := 0) rfl rfl (by omega) (by omega))).mp c_12_1
                refine r_iload_n rfl ?_
                refine r_iconst ?_
                refine r_icmp_eq (fun c_12_6 => ?_) (fun c_12_6 => ?_)
                · have c_12_6 := (n_eq (a := 2) (b := 1) rfl rfl (by omega) (by omega)).mp c_12_6
                  omega
                · have c_12_6 := (not_congr (n_eq (a := 2) (b := 1) rfl rfl (by omega) (by omega))).mp c_12_6
                  refine r_aload_n rfl ?_
                  refine r_iload_n rfl ?_
                  refine r_virtual (vs := []) (as := [_]) (by decide) (zl rfl) rfl rfl (zl rfl) (Nat.le_refl _) (Or.inr (Or.inr ⟨zt rfl, rfl, zt rfl⟩)) ?_
                  refine s_isAunt (by omega) R.cn h5 ?_
                  rw [if_pos (inN_io ha (by omega))]
                  refine r_if_eq (fun c_12_14 => ?_) (fun c_12_14 => ?_)
                  · have c_12_14 := (n_eq (a := 1) (b := 0) rfl rfl (by omega) (by omega)).mp c_12_14
                    omega
                  · have c_12_14 := (not_congr (n_eq (a := 1) (b := 0) rfl rfl (by omega) (by omega))).mp c_12_14
                    refine r_nil ?_
                    refine E_go 1 rfl ?_
                    refine r_iconst ?_
                    refine r_goto ?_
                    refine E_go 3 rfl ?_
                    refine r_iret rfl (by first | exact Or.inl rfl | exact Or.inr rfl) ?_
                    refine r_if_eq (fun c_15 => ?_) (fun c_15 => ?_)
                    · have c_15 := (n_eq (a := 1) (b := 0) rfl rfl (by omega) (by omega)).mp c_15
                      omega
                    · have c_15 := (not_congr (n_eq (a := 1) (b := 0) rfl rfl (by omega) (by omega))).mp c_15
                      refine r_iload_n rfl ?_
                      refine r_if_lt (fun c_19 => ?_) (fun c_19 => ?_)
                      · have c_19 := (jlt (b := 0) rfl (by omega)).mp c_19
                        refine E_go 1 rfl ?_
                        refine r_bipush ?_
                        refine r_iret rfl trivial ?_
                        refine M_go (ls := [_, _, _, _, _]) (ml := 5) rfl rfl rfl (zl rfl) rfl ?_
                        refine r_iload_n rfl ?_
                        refine r_i2l ?_
                        refine r_lconst ?_
                        refine r_ldc2_w ?_
                        refine r_static (vs := [_, _, _]) (by decide) (zl rfl) rfl rfl (zl rfl) (Nat.le_refl _) rfl ?_
                        refine s_in0 (by omega) (x := (io 2)) (k := 5) (Int32.toInt_toInt64 _) i64_0 rfl ?_
                        rw [if_pos (inN_io (by omega) (by omega))]
                        refine r_if_eq (fun c_9 => ?_) (fun c_9 => ?_)
                        · have c_9 := (n_eq (a := 1) (b := 0) rfl rfl (by omega) (by omega)).mp c_9
                          omega
                        · have c_9 := (not_congr (n_eq (a := 1) (b := 0) rfl rfl (by omega) (by omega))).mp c_9
                          refine r_iload_n rfl ?_
                          refine r_iconst ?_
                          refine r_icmp_le (fun c_14 => ?_) (fun c_14 => ?_)
                          · have c_14 := (n_le (a := 2) (b := 1) rfl rfl (by omega) (by omega)).mp c_14
                            omega
                          · have c_14 := (not_congr (n_le (a := 2) (b := 1) rfl rfl (by omega) (by omega))).mp c_14
                            refine r_aload_n rfl ?_
                            refine r_iload_n rfl ?_
                            refine r_virtual (vs := []) (as := [_]) (by decide) (zl rfl) rfl rfl (zl rfl) (Nat.le_refl _) (Or.inr (Or.inr ⟨zt rfl, rfl, zt rfl⟩)) ?_
                            refine s_isOne (by omega) R.mn h5 ?_
                            rw [if_pos (inN_io ha (by omega))]
                            refine r_if_eq (fun c_22 => ?_) (fun c_22 => ?_)
                            · have c_22 := (n_eq (a := 1) (b := 0) rfl rfl (by omega) (by omega)).mp c_22
                              omega
                            · have c_22 := (not_congr (n_eq (a := 1) (b := 0) rfl rfl (by omega) (by omega))).mp c_22
                              refine r_nil ?_
                              refine E_go 1 rfl ?_
                              refine r_iload_n rfl ?_
                              refine r_i2l ?_
                              refine r_lconst ?_
                              refine r_iload_n rfl ?_
                              refine r_static (vs := [_]) (by decide) (zl rfl) rfl rfl (zl rfl) (Nat.le_refl _) rfl ?_
                              refine M_go (ls := [_]) (ml := 1) rfl rfl rfl (zl rfl) rfl ?_
                              refine r_iload_n rfl ?_
                              refine r_iconst ?_
                              refine r_icmp_ne (fun c_29_2 => ?_) (fun c_29_2 => ?_)
                              · have c_29_2 := (not_congr (n_eq (a := 2) (b := 1) rfl rfl (by omega) (by omega))).mp c_29_2
                                refine E_go 1 rfl ?_
                                refine r_iload_n rfl ?_
                                refine r_iconst ?_
                                refine r_icmp_ne (fun c_29_13 => ?_) (fun c_29_13 => ?_)
                                · have c_29_13 := (not_congr (n_eq (a := 2) (b := 2) rfl rfl (by omega) (by omega))).mp c_29_13
                                  omega
                                · have c_29_13 := (n_eq (a := 2) (b := 2) rfl rfl (by omega) (by omega)).mp c_29_13
                                  refine r_bipush ?_
                                  refine r_goto ?_
                                  refine E_go 4 rfl ?_
                                  refine r_iret rfl trivial ?_
                                  refine r_i2l ?_
                                  refine r_static (vs := [_, _, _]) (by decide) (zl rfl) rfl rfl (zl rfl) (Nat.le_refl _) rfl ?_
                                  refine s_in0 (by omega) (x := z) (k := 10) (Int32.toInt_toInt64 _) i64_0 rfl ?_
                                  rw [if_neg hv]
                                  refine r_if_ne (fun c_36 => ?_) (fun c_36 => ?_)
                                  · have c_36 := (not_congr (n_eq (a := 0) (b := 0) rfl rfl (by omega) (by omega))).mp c_36
                                    omega
                                  · have c_36 := (n_eq (a := 0) (b := 0) rfl rfl (by omega) (by omega)).mp c_36
                                    refine r_nil ?_
                                    refine E_go 2 rfl ?_
                                    refine r_bipush ?_
                                    refine r_iret rfl trivial ?_
                                    exact hQ _ _ _ R.rel
                              · have c_29_2 := (n_eq (a := 2) (b := 1) rfl rfl (by omega) (by omega)).mp c_29_2
                                omega
                      · have c_19 := (not_congr (jlt (b := 0) rfl (by omega))).mp c_19
                        refine r_iload_n rfl ?_
                        refine r_aload_n rfl ?_
                        refine r_iload_n rfl ?_
                        refine r_virtual (vs := []) (as := [_]) (by decide) (zl rfl) rfl rfl (zl rfl) (Nat.le_refl _) (Or.inr (Or.inr ⟨zt rfl, rfl, zt rfl⟩)) ?_
                        refine M_go (ls := [_, _]) (ml := 2) rfl rfl rfl (zl rfl) rfl ?_
                        refine r_iload_n rfl ?_
                        refine r_table ?_
                        refine r_sw1 (fun cs => ?_) (fun ds => ?_)
                        · exact absurd ((n_eq (a := 2) (b := 0) rfl rfl (by omega) (by omega)).mp cs) (by omega)
                        refine r_sw1 (fun cs => ?_) (fun ds => ?_)
                        · exact absurd ((n_eq (a := 2) (b := 1) rfl rfl (by omega) (by omega)).mp cs) (by omega)
                        refine r_sw1 (fun cs => ?_) (fun ds => ?_)
                        · refine E_go 3 rfl ?_
                          refine r_bipush ?_
                          refine r_iret rfl trivial ?_
                          refine r_icmp_lt (fun c_28 => ?_) (fun c_28 => ?_)
                          · have c_28 := (jlt (b := 10) rfl (by omega)).mp c_28
                            omega
                          · have c_28 := (not_congr (jlt (b := 10) rfl (by omega))).mp c_28
                            refine r_nil ?_
                            refine E_go 1 rfl ?_
                            refine r_bipush ?_
                            refine r_iret rfl trivial ?_
                            refine M_go (ls := [_, _, _, _, _]) (ml := 5) rfl rfl rfl (zl rfl) rfl ?_
                            refine r_iload_n rfl ?_
                            refine r_i2l ?_
                            refine r_lconst ?_
                            refine r_ldc2_w ?_
                            refine r_static (vs := [_, _, _]) (by decide) (zl rfl) rfl rfl (zl rfl) (Nat.le_refl _) rfl ?_
                            refine s_in0 (by omega) (x := (io 2)) (k := 5) (Int32.toInt_toInt64 _) i64_0 rfl ?_
                            rw [if_pos (inN_io (by omega) (by omega))]
                            refine r_if_eq (fun c_9 => ?_) (fun c_9 => ?_)
                            · have c_9 := (n_eq (a := 1) (b := 0) rfl rfl (by omega) (by omega)).mp c_9
                              omega
                            · have c_9 := (not_congr (n_eq (a := 1) (b := 0) rfl rfl (by omega) (by omega))).mp c_9
                              refine r_iload_n rfl ?_
                              refine r_iconst ?_
                              refine r_icmp_le (fun c_14 => ?_) (fun c_14 => ?_)
                              · have c_14 := (n_le (a := 2) (b := 1) rfl rfl (by omega) (by omega)).mp c_14
                                omega
                              · have c_14 := (not_congr (n_le (a := 2) (b := 1) rfl rfl (by omega) (by omega))).mp c_14
                                refine r_aload_n rfl ?_
                                refine r_iload_n rfl ?_
                                refine r_virtual (vs := []) (as := [_]) (by decide) (zl rfl) rfl rfl (zl rfl) (Nat.le_refl _) (Or.inr (Or.inr ⟨zt rfl, rfl, zt rfl⟩)) ?_
                                refine s_isOne (by omega) R.mn h5 ?_
                                rw [if_pos (inN_io ha (by omega))]
                                refine r_if_eq (fun c_22 => ?_) (fun c_22 => ?_)
                                · have c_22 := (n_eq (a := 1) (b := 0) rfl rfl (by omega) (by omega)).mp c_22
                                  omega
                                · have c_22 := (not_congr (n_eq (a := 1) (b := 0) rfl rfl (by omega) (by omega))).mp c_22
                                  refine r_nil ?_
                                  refine E_go 1 rfl ?_
                                  refine r_iload_n rfl ?_
                                  refine r_i2l ?_
                                  refine r_lconst ?_
                                  refine r_iload_n rfl ?_
                                  refine r_static (vs := [_]) (by decide) (zl rfl) rfl rfl (zl rfl) (Nat.le_refl _) rfl ?_
                                  refine M_go (ls := [_]) (ml := 1) rfl rfl rfl (zl rfl) rfl ?_
                                  refine r_iload_n rfl ?_
                                  refine r_iconst ?_
                                  refine r_icmp_ne (fun c_29_2 => ?_) (fun c_29_2 => ?_)
                                  · have c_29_2 := (not_congr (n_eq (a := 2) (b := 1) rfl rfl (by omega) (by omega))).mp c_29_2
                                    refine E_go 1 rfl ?_
                                    refine r_iload_n rfl ?_
                                    refine r_iconst ?_
                                    refine r_icmp_ne (fun c_29_13 => ?_) (fun c_29_13 => ?_)
                                    · have c_29_13 := (not_congr (n_eq (a := 2) (b := 2) rfl rfl (by omega) (by omega))).mp c_29_13
                                      omega
                                    · have c_29_13 := (n_eq (a := 2) (b := 2) rfl rfl (by omega) (by omega)).mp c_29_13
                                      refine r_bipush ?_
                                      refine r_goto ?_
                                      refine E_go 4 rfl ?_
                                      refine r_iret rfl trivial ?_
                                      refine r_i2l ?_
                                      refine r_static (vs := [_, _, _]) (by decide) (zl rfl) rfl rfl (zl rfl) (Nat.le_refl _) rfl ?_
                                      refine s_in0 (by omega) (x := z) (k := 10) (Int32.toInt_toInt64 _) i64_0 rfl ?_
                                      rw [if_neg hv]
                                      refine r_if_ne (fun c_36 => ?_) (fun c_36 => ?_)
                                      · have c_36 := (not_congr (n_eq (a := 0) (b := 0) rfl rfl (by omega) (by omega))).mp c_36
                                        omega
                                      · have c_36 := (n_eq (a := 0) (b := 0) rfl rfl (by omega) (by omega)).mp c_36
                                        refine r_nil ?_
                                        refine E_go 2 rfl ?_
                                        refine r_bipush ?_
                                        refine r_iret rfl trivial ?_
                                        exact hQ _ _ _ R.rel
                                  · have c_29_2 := (n_eq (a := 2) (b := 1) rfl rfl (by omega) (by omega)).mp c_29_2
                                    omega
                        · exact absurd rfl ds
      · refine M_go (ls := [_, _, _, _, _]) (ml := 5) rfl rfl rfl (zl rfl) rfl ?_
        refine r_iload_n rfl ?_
        refine r_if_lt (fun c_1 => ?_) (fun c_1 => ?_)
        · have c_1 := (n_lt (a := 2) (b := 0) rfl rfl (by omega) (by omega)).mp c_1
          omega
        · have c_1 := (not_congr (n_lt (a := 2) (b := 0) rfl rfl (by omega) (by omega))).mp c_1
          refine r_iload_n rfl ?_
          refine r_iconst ?_
          refine r_icmp_gt (fun c_6 => ?_) (fun c_6 => ?_)
          · have c_6 := (n_lt (a := 4) (b := 2) rfl rfl (by omega) (by omega)).mp c_6
            omega
          · have c_6 := (not_congr (n_lt (a := 4) (b := 2) rfl rfl (by omega) (by omega))).mp c_6
            refine r_aload_n rfl ?_
            refine r_iload_n rfl ?_
            refine r_iload_n rfl ?_
            refine r_virtual (vs := []) (as := [_, _]) (by decide) (zl rfl) rfl rfl (zl rfl) (Nat.le_refl _) (Or.inr (Or.inr ⟨zt rfl, rfl, zt rfl⟩)) ?_
            refine M_go (ls := [_, _, _]) (ml := 3) rfl rfl rfl (zl rfl) rfl ?_
            refine r_iload_n rfl ?_
            refine r_if_eq (fun c_12_1 => ?_) (fun c_12_1 => ?_)
            · have c_12_1 := (n_eq (a := 2) (b := 0) rfl rfl (by omega) (by omega)).mp c_12_1
              omega
            · have c_12_1 := (not_congr (n_eq (a := 2) (b := 0) rfl rfl (by omega) (by omega))).mp c_12_1
              refine r_iload_n rfl ?_
              refine r_iconst ?_
              refine r_icmp_eq (fun c_12_6 => ?_) (fun c_12_6 => ?_)
              · have c_12_6 := (n_eq (a := 2) (b := 1) rfl rfl (by omega) (by omega)).mp c_12_6
                omega
              · have c_12_6 := (not_congr (n_eq (a := 2) (b := 1) rfl rfl (by omega) (by omega))).mp c_12_6
                refine r_aload_n rfl ?_
                refine r_iload_n rfl ?_
                refine r_virtual (vs := []) (as := [_]) (by decide) (zl rfl) rfl rfl (zl rfl) (Nat.le_refl _) (Or.inr (Or.inr ⟨zt rfl, rfl, zt rfl⟩)) ?_
                refine s_isAunt (by omega) R.cn h5 ?_
                rw [if_neg hx]
                refine r_if_eq (fun c_12_14 => ?_) (fun c_12_14 => ?_)
                · have c_12_14 := (n_eq (a := 0) (b := 0) rfl rfl (by omega) (by omega)).mp c_12_14
                  refine E_go 2 rfl ?_
                  refine r_iconst ?_
                  refine r_nil ?_
                  refine E_go 3 rfl ?_
                  refine r_iret rfl (by first | exact Or.inl rfl | exact Or.inr rfl) ?_
                  refine r_if_eq (fun c_15 => ?_) (fun c_15 => ?_)
                  · have c_15 := (n_eq (a := 0) (b := 0) rfl rfl (by omega) (by omega)).mp c_15
                    refine E_go 1 rfl ?_
                    refine r_bipush ?_
                    refine r_iret rfl trivial ?_
                    refine M_go (ls := [_, _, _, _, _]) (ml := 5) rfl rfl rfl (zl rfl) rfl ?_
                    refine r_iload_n rfl ?_
                    refine r_i2l ?_
                    refine r_lconst ?_
                    refine r_ldc2_w ?_
                    refine r_static (vs := [_, _, _]) (by decide) (zl rfl) rfl rfl (zl rfl) (Nat.le_refl _) rfl ?_
                    refine s_in0 (by omega) (x := (io 2)) (k := 5) (Int32.toInt_toInt64 _) i64_0 rfl ?_
                    rw [if_pos (inN_io (by omega) (by omega))]
                    refine r_if_eq (fun c_9 => ?_) (fun c_9 => ?_)
                    · have c_9 := (n_eq (a := 1) (b := 0) rfl rfl (by omega) (by omega)).mp c_9
                      omega
                    · have c_9 := (not_congr (n_eq (a := 1) (b := 0) rfl rfl (by omega) (by omega))).mp c_9
                      refine r_iload_n rfl ?_
                      refine r_iconst ?_
                      refine r_icmp_le (fun c_14 => ?_) (fun c_14 => ?_)
                      · have c_14 := (n_le (a := 2) (b := 1) rfl rfl (by omega) (by omega)).mp c_14
                        omega
                      · have c_14 := (not_congr (n_le (a := 2) (b := 1) rfl rfl (by omega) (by omega))).mp c_14
                        refine r_aload_n rfl ?_
                        refine r_iload_n rfl ?_
                        refine r_virtual (vs := []) (as := [_]) (by decide) (zl rfl) rfl rfl (zl rfl) (Nat.le_refl _) (Or.inr (Or.inr ⟨zt rfl, rfl, zt rfl⟩)) ?_
                        refine s_isOne (by omega) R.mn h5 ?_
                        rw [if_neg hx]
                        refine r_if_eq (fun c_22 => ?_) (fun c_22 => ?_)
                        · have c_22 := (n_eq (a := 0) (b := 0) rfl rfl (by omega) (by omega)).mp c_22
                          refine E_go 2 rfl ?_
                          refine r_bipush ?_
                          refine r_iret rfl trivial ?_
                          exact hQ _ _ _ R.rel
                        · have c_22 := (not_congr (n_eq (a := 0) (b := 0) rfl rfl (by omega) (by omega))).mp c_22
                          omega
                  · have c_15 := (not_congr (n_eq (a := 0) (b := 0) rfl rfl (by omega) (by omega))).mp c_15
                    omega
                · have c_12_14 := (not_congr (n_eq (a := 0) (b := 0) rfl rfl (by omega) (by omega))).mp c_12_14
                  omega
    · by_cases hx : inN n x
      · obtain ⟨a, ha, rfl⟩ := inN_ex hx (by omega)
        by_cases hv : inN 100 z
        · obtain ⟨k, hk, rfl⟩ := inN_ex hv (by omega)
          refine M_go (ls := [_, _, _, _, _]) (ml := 5) rfl rfl rfl (zl rfl) rfl ?_
          refine r_iload_n rfl ?_
          refine r_if_lt (fun c_1 => ?_) (fun c_1 => ?_)
          · have c_1 := (n_lt (a := 3) (b := 0) rfl rfl (by omega) (by omega)).mp c_1
            omega
          · have c_1 := (not_congr (n_lt (a := 3) (b := 0) rfl rfl (by omega) (by omega))).mp c_1
            refine r_iload_n rfl ?_
            refine r_iconst ?_
            refine r_icmp_gt (fun c_6 => ?_) (fun c_6 => ?_)
            · have c_6 := (n_lt (a := 4) (b := 3) rfl rfl (by omega) (by omega)).mp c_6
              omega
            · have c_6 := (not_congr (n_lt (a := 4) (b := 3) rfl rfl (by omega) (by omega))).mp c_6
              refine r_aload_n rfl ?_
              refine r_iload_n rfl ?_
              refine r_iload_n rfl ?_
              refine r_virtual (vs := []) (as := [_, _]) (by decide) (zl rfl) rfl rfl (zl rfl) (Nat.le_refl _) (Or.inr (Or.inr ⟨zt rfl, rfl, zt rfl⟩)) ?_
              refine M_go (ls := [_, _, _]) (ml := 3) rfl rfl rfl (zl rfl) rfl ?_
              refine r_iload_n rfl ?_
              refine r_if_eq (fun c_12_1 => ?_) (fun c_12_1 => ?_)
              · have c_12_1 := (n_eq (a := 3) (b := 0) rfl rfl (by omega) (by omega)).mp c_12_1
                omega
              · have c_12_1 := (not_congr (n_eq (a := 3) (b := 0) rfl rfl (by omega) (by omega))).mp c_12_1
                refine r_iload_n rfl ?_
                refine r_iconst ?_
                refine r_icmp_eq (fun c_12_6 => ?_) (fun c_12_6 => ?_)
                · have c_12_6 := (n_eq (a := 3) (b := 1) rfl rfl (by omega) (by omega)).mp c_12_6
                  omega
                · have c_12_6 := (not_congr (n_eq (a := 3) (b := 1) rfl rfl (by omega) (by omega))).mp c_12_6
                  refine r_aload_n rfl ?_
                  refine r_iload_n rfl ?_
                  refine r_virtual (vs := []) (as := [_]) (by decide) (zl rfl) rfl rfl (zl rfl) (Nat.le_refl _) (Or.inr (Or.inr ⟨zt rfl, rfl, zt rfl⟩)) ?_
                  refine s_isAunt (by omega) R.cn h5 ?_
                  rw [if_pos (inN_io ha (by omega))]
                  refine r_if_eq (fun c_12_14 => ?_) (fun c_12_14 => ?_)
                  · have c_12_14 := (n_eq (a := 1) (b := 0) rfl rfl (by omega) (by omega)).mp c_12_14
                    omega
                  · have c_12_14 := (not_congr (n_eq (a := 1) (b := 0) rfl rfl (by omega) (by omega))).mp c_12_14
                    refine r_nil ?_
                    refine E_go 1 rfl ?_
                    refine r_iconst ?_
                    refine r_goto ?_
                    refine E_go 3 rfl ?_
                    refine r_iret rfl (by first | exact Or.inl rfl | exact Or.inr rfl) ?_
                    refine r_if_eq (fun c_15 => ?_) (fun c_15 => ?_)
                    · have c_15 := (n_eq (a := 1) (b := 0) rfl rfl (by omega) (by omega)).mp c_15
                      omega
                    · have c_15 := (not_congr (n_eq (a := 1) (b := 0) rfl rfl (by omega) (by omega))).mp c_15
                      refine r_iload_n rfl ?_
                      refine r_if_lt (fun c_19 => ?_) (fun c_19 => ?_)
                      · have c_19 := (n_lt (a := k) (b := 0) rfl rfl (by omega) (by omega)).mp c_19
                        omega
                      · have c_19 := (not_congr (n_lt (a := k) (b := 0) rfl rfl (by omega) (by omega))).mp c_19
                        refine r_iload_n rfl ?_
                        refine r_aload_n rfl ?_
                        refine r_iload_n rfl ?_
                        refine r_virtual (vs := []) (as := [_]) (by decide) (zl rfl) rfl rfl (zl rfl) (Nat.le_refl _) (Or.inr (Or.inr ⟨zt rfl, rfl, zt rfl⟩)) ?_
                        refine M_go (ls := [_, _]) (ml := 2) rfl rfl rfl (zl rfl) rfl ?_
                        refine r_iload_n rfl ?_
                        refine r_table ?_
                        refine r_sw1 (fun cs => ?_) (fun ds => ?_)
                        · exact absurd ((n_eq (a := 3) (b := 0) rfl rfl (by omega) (by omega)).mp cs) (by omega)
                        refine r_sw1 (fun cs => ?_) (fun ds => ?_)
                        · exact absurd ((n_eq (a := 3) (b := 1) rfl rfl (by omega) (by omega)).mp cs) (by omega)
                        refine r_sw1 (fun cs => ?_) (fun ds => ?_)
                        · exact absurd ((n_eq (a := 3) (b := 2) rfl rfl (by omega) (by omega)).mp cs) (by omega)
                        refine r_sw1 (fun cs => ?_) (fun ds => ?_)
                        · refine E_go 4 rfl ?_
                          refine r_bipush ?_
                          refine r_iret rfl trivial ?_
                          refine r_icmp_lt (fun c_28 => ?_) (fun c_28 => ?_)
                          · have c_28 := (n_lt (a := k) (b := 100) rfl rfl (by omega) (by omega)).mp c_28
                            refine E_go 2 rfl ?_
                            refine r_aload_n rfl ?_
                            refine r_getA (q := 1) (by decide) rfl rfl (by decide) ?_
                            refine r_iload_n rfl ?_
                            refine r_iload_n rfl ?_
                            refine r_virtual (vs := []) (as := [_, _]) (by decide) (zl rfl) rfl rfl (zl rfl) (Nat.le_refl _) (Or.inr (Or.inr ⟨zt rfl, rfl, zt rfl⟩)) ?_
                            refine M_go (ls := [_, _, _]) (ml := 3) rfl rfl rfl (zl rfl) rfl ?_
                            refine r_iload_n rfl ?_
                            refine r_table ?_
                            refine r_sw1 (fun cs => ?_) (fun ds => ?_)
                            · exact absurd ((n_eq (a := 3) (b := 0) rfl rfl (by omega) (by omega)).mp cs) (by omega)
                            refine r_sw1 (fun cs => ?_) (fun ds => ?_)
                            · exact absurd ((n_eq (a := 3) (b := 1) rfl rfl (by omega) (by omega)).mp cs) (by omega)
                            refine r_sw1 (fun cs => ?_) (fun ds => ?_)
                            · exact absurd ((n_eq (a := 3) (b := 2) rfl rfl (by omega) (by omega)).mp cs) (by omega)
                            refine r_sw1 (fun cs => ?_) (fun ds => ?_)
                            · refine E_go 4 rfl ?_
                              refine r_aload_n rfl ?_
                              refine r_getA (q := 4) (by decide) rfl rfl (by decide) ?_
                              refine r_iload_n rfl ?_
                              refine r_iaload (by decide) rfl (by decide) (ixE rfl (show a < 5 by omega) (by decide)) rfl ?_
                              refine r_iret rfl trivial ?_
                              refine r_istore (ls' := [_, _, _, _, _]) (zt rfl) rfl ?_
                              refine r_aload_n rfl ?_
                              refine r_getA (q := 1) (by decide) rfl rfl (by decide) ?_
                              refine r_iload_n rfl ?_
                              refine r_iload_n rfl ?_
                              refine r_iload_n rfl ?_
                              refine r_virtual (vs := []) (as := [_, _, _]) (by decide) (zl rfl) rfl rfl (zl rfl) (Nat.le_refl _) (Or.inr (Or.inr ⟨zt rfl, rfl, zt rfl⟩)) ?_
                              refine M_go (ls := [_, _, _, _]) (ml := 4) rfl rfl rfl (zl rfl) rfl ?_
                              refine r_iload_n rfl ?_
                              refine r_table ?_
                              refine r_sw1 (fun cs => ?_) (fun ds => ?_)
                              · exact absurd ((n_eq (a := 3) (b := 0) rfl rfl (by omega) (by omega)).mp cs) (by omega)
                              refine r_sw1 (fun cs => ?_) (fun ds => ?_)
                              · exact absurd ((n_eq (a := 3) (b := 1) rfl rfl (by omega) (by omega)).mp cs) (by omega)
                              refine r_sw1 (fun cs => ?_) (fun ds => ?_)
                              · exact absurd ((n_eq (a := 3) (b := 2) rfl rfl (by omega) (by omega)).mp cs) (by omega)
                              refine r_sw1 (fun cs => ?_) (fun ds => ?_)
                              · refine E_go 4 rfl ?_
                                refine r_aload_n rfl ?_
                                refine r_getA (q := 4) (by decide) rfl rfl (by decide) ?_
                                refine r_iload_n rfl ?_
                                refine r_iload_n rfl ?_
                                refine r_iastore rfl (by decide) (ixE rfl (show a < 5 by omega) (by decide)) ?_
                                refine r_goto ?_
                                refine E_go 8 rfl ?_
                                refine r_ret rfl ?_
                                refine r_iload rfl ?_
                                refine r_iret rfl trivial ?_
                                refine M_go (ls := [_, _, _, _, _]) (ml := 5) rfl rfl rfl (zl rfl) rfl ?_
                                refine r_iload_n rfl ?_
                                refine r_i2l ?_
                                refine r_lconst ?_
                                refine r_ldc2_w ?_
                                refine r_static (vs := [_, _, _]) (by decide) (zl rfl) rfl rfl (zl rfl) (Nat.le_refl _) rfl ?_
                                refine s_in0 (by omega) (x := (io 3)) (k := 5) (Int32.toInt_toInt64 _) i64_0 rfl ?_
                                rw [if_pos (inN_io (by omega) (by omega))]
                                refine r_if_eq (fun c_9 => ?_) (fun c_9 => ?_)
                                · have c_9 := (n_eq (a := 1) (b := 0) rfl rfl (by omega) (by omega)).mp c_9
                                  omega
                                · have c_9 := (not_congr (n_eq (a := 1) (b := 0) rfl rfl (by omega) (by omega))).mp c_9
                                  refine r_iload_n rfl ?_
                                  refine r_iconst ?_
                                  refine r_icmp_le (fun c_14 => ?_) (fun c_14 => ?_)
                                  · have c_14 := (n_le (a := 3) (b := 1) rfl rfl (by omega) (by omega)).mp c_14
                                    omega
                                  · have c_14 := (not_congr (n_le (a := 3) (b := 1) rfl rfl (by omega) (by omega))).mp c_14
                                    refine r_aload_n rfl ?_
                                    refine r_iload_n rfl ?_
                                    refine r_virtual (vs := []) (as := [_]) (by decide) (zl rfl) rfl rfl (zl rfl) (Nat.le_refl _) (Or.inr (Or.inr ⟨zt rfl, rfl, zt rfl⟩)) ?_
                                    refine s_isOne (by omega) R.mn h5 ?_
                                    rw [if_pos (inN_io ha (by omega))]
                                    refine r_if_eq (fun c_22 => ?_) (fun c_22 => ?_)
                                    · have c_22 := (n_eq (a := 1) (b := 0) rfl rfl (by omega) (by omega)).mp c_22
                                      omega
                                    · have c_22 := (not_congr (n_eq (a := 1) (b := 0) rfl rfl (by omega) (by omega))).mp c_22
                                      refine r_nil ?_
                                      refine E_go 1 rfl ?_
                                      refine r_iload_n rfl ?_
                                      refine r_i2l ?_
                                      refine r_lconst ?_
                                      refine r_iload_n rfl ?_
                                      refine r_static (vs := [_]) (by decide) (zl rfl) rfl rfl (zl rfl) (Nat.le_refl _) rfl ?_
                                      refine M_go (ls := [_]) (ml := 1) rfl rfl rfl (zl rfl) rfl ?_
                                      refine r_iload_n rfl ?_
                                      refine r_iconst ?_
                                      refine r_icmp_ne (fun c_29_2 => ?_) (fun c_29_2 => ?_)
                                      · have c_29_2 := (not_congr (n_eq (a := 3) (b := 1) rfl rfl (by omega) (by omega))).mp c_29_2
                                        refine E_go 1 rfl ?_
                                        refine r_iload_n rfl ?_
                                        refine r_iconst ?_
                                        refine r_icmp_ne (fun c_29_13 => ?_) (fun c_29_13 => ?_)
                                        · have c_29_13 := (not_congr (n_eq (a := 3) (b := 2) rfl rfl (by omega) (by omega))).mp c_29_13
                                          refine E_go 2 rfl ?_
                                          refine r_iload_n rfl ?_
                                          refine r_iconst ?_
                                          refine r_icmp_ne (fun c_29_23 => ?_) (fun c_29_23 => ?_)
                                          · have c_29_23 := (not_congr (n_eq (a := 3) (b := 4) rfl rfl (by omega) (by omega))).mp c_29_23
                                            refine E_go 3 rfl ?_
                                            refine r_bipush ?_
                                            refine r_nil ?_
                                            refine E_go 4 rfl ?_
                                            refine r_iret rfl trivial ?_
                                            refine r_i2l ?_
                                            refine r_static (vs := [_, _, _]) (by decide) (zl rfl) rfl rfl (zl rfl) (Nat.le_refl _) rfl ?_
                                            refine s_in0 (by omega) (x := (io k)) (k := 100) (Int32.toInt_toInt64 _) i64_0 rfl ?_
                                            rw [if_pos (inN_io hk (by omega))]
                                            refine r_if_ne (fun c_36 => ?_) (fun c_36 => ?_)
                                            · have c_36 := (not_congr (n_eq (a := 1) (b := 0) rfl rfl (by omega) (by omega))).mp c_36
                                              refine E_go 3 rfl ?_
                                              refine r_aload_n rfl ?_
                                              refine r_iload_n rfl ?_
                                              refine r_iload_n rfl ?_
                                              refine r_virtual (vs := []) (as := [_, _]) (by decide) (zl rfl) rfl rfl (zl rfl) (Nat.le_refl _) (Or.inr (Or.inr ⟨zt rfl, rfl, zt rfl⟩)) ?_
                                              refine M_go (ls := [_, _, _]) (ml := 3) rfl rfl rfl (zl rfl) rfl ?_
                                              refine r_iload_n rfl ?_
                                              refine r_i2l ?_
                                              refine r_lconst ?_
                                              refine r_ldc2_w ?_
                                              refine r_static (vs := [_, _, _]) (by decide) (zl rfl) rfl rfl (zl rfl) (Nat.le_refl _) rfl ?_
                                              refine s_in0 (by omega) (x := (io 3)) (k := 8) (Int32.toInt_toInt64 _) i64_0 rfl ?_
                                              rw [if_pos (inN_io (by omega) (by omega))]
                                              refine r_if_eq (fun c_45_9 => ?_) (fun c_45_9 => ?_)
                                              · have c_45_9 := (n_eq (a := 1) (b := 0) rfl rfl (by omega) (by omega)).mp c_45_9
                                                omega
                                              · have c_45_9 := (not_congr (n_eq (a := 1) (b := 0) rfl rfl (by omega) (by omega))).mp c_45_9
                                                refine r_iload_n rfl ?_
                                                refine r_iconst ?_
                                                refine r_icmp_le (fun c_45_14 => ?_) (fun c_45_14 => ?_)
                                                · have c_45_14 := (n_le (a := 3) (b := 1) rfl rfl (by omega) (by omega)).mp c_45_14
                                                  omega
                                                · have c_45_14 := (not_congr (n_le (a := 3) (b := 1) rfl rfl (by omega) (by omega))).mp c_45_14
                                                  refine r_aload_n rfl ?_
                                                  refine r_iload_n rfl ?_
                                                  refine r_virtual (vs := []) (as := [_]) (by decide) (zl rfl) rfl rfl (zl rfl) (Nat.le_refl _) (Or.inr (Or.inr ⟨zt rfl, rfl, zt rfl⟩)) ?_
                                                  refine s_isOne (by omega) R.mn h5 ?_
                                                  rw [if_pos (inN_io ha (by omega))]
                                                  refine r_if_ne (fun c_45_22 => ?_) (fun c_45_22 => ?_)
                                                  · have c_45_22 := (not_congr (n_eq (a := 1) (b := 0) rfl rfl (by omega) (by omega))).mp c_45_22
                                                    refine E_go 2 rfl ?_
                                                    refine r_iload_n rfl ?_
                                                    refine r_iconst ?_
                                                    refine r_icmp_ge (fun c_45_30 => ?_) (fun c_45_30 => ?_)
                                                    · have c_45_30 := (n_le (a := 2) (b := 3) rfl rfl (by omega) (by omega)).mp c_45_30
                                                      refine E_go 5 rfl ?_
                                                      refine r_iload_n rfl ?_
                                                      refine r_iconst ?_
                                                      refine r_icmp_ge (fun c_45_51 => ?_) (fun c_45_51 => ?_)
                                                      · have c_45_51 := (n_le (a := 5) (b := 3) rfl rfl (by omega) (by omega)).mp c_45_51
                                                        omega
                                                      · have c_45_51 := (not_congr (n_le (a := 5) (b := 3) rfl rfl (by omega) (by omega))).mp c_45_51
                                                        refine r_aload_n rfl ?_
                                                        refine r_getA (q := 66) (by decide) rfl rfl (by decide) ?_
                                                        refine r_iconst ?_
                                                        refine r_iload_n rfl ?_
                                                        refine r_imul ?_
                                                        refine r_iload_n rfl ?_
                                                        refine r_iadd ?_
                                                        refine r_iconst ?_
                                                        refine r_isub ?_
                                                        refine r_iaload (by decide) rfl (by decide) (ixE (n_sub (a := ((3 * a) + 3)) (b := 2) (n_add (a := (3 * a)) (b := 3) (n_mul (a := 3) (b := a) rfl rfl) rfl) rfl (by omega)) (show (((3 * a) + 3) - 2) < 15 by omega) (by decide)) ((congrArg (I 66) (show (((3 * a) + 3) - 2) = 3 * a + 1 by omega)).trans (R.th ha)) ?_
                                                        refine r_goto ?_
                                                        refine E_go 9 rfl ?_
                                                        refine r_iret rfl trivial ?_
                                                        refine r_istore (ls' := [_, _, _, _, _]) (zt rfl) rfl ?_
                                                        refine r_aload_n rfl ?_
                                                        refine r_iload_n rfl ?_
                                                        refine r_iload_n rfl ?_
                                                        refine r_iload_n rfl ?_
                                                        refine r_virtual (vs := []) (as := [_, _, _]) (by decide) (zl rfl) rfl rfl (zl rfl) (Nat.le_refl _) (Or.inr (Or.inr ⟨zt rfl, rfl, zt rfl⟩)) ?_
                                                        refine M_go (ls := [_, _, _, _]) (ml := 4) rfl rfl rfl (zl rfl) rfl ?_
                                                        refine r_iload_n rfl ?_
                                                        refine r_if_ne (fun c_54_1 => ?_) (fun c_54_1 => ?_)
                                                        · have c_54_1 := (not_congr (n_eq (a := 3) (b := 0) rfl rfl (by omega) (by omega))).mp c_54_1
                                                          refine E_go 1 rfl ?_
                                                          refine r_iload_n rfl ?_
                                                          refine r_iconst ?_
                                                          refine r_icmp_ne (fun c_54_14 => ?_) (fun c_54_14 => ?_)
                                                          · have c_54_14 := (not_congr (n_eq (a := 3) (b := 1) rfl rfl (by omega) (by omega))).mp c_54_14
                                                            refine E_go 2 rfl ?_
                                                            refine r_iload_n rfl ?_
                                                            refine r_iconst ?_
                                                            refine r_icmp_ge (fun c_54_27 => ?_) (fun c_54_27 => ?_)
                                                            · have c_54_27 := (n_le (a := 5) (b := 3) rfl rfl (by omega) (by omega)).mp c_54_27
                                                              omega
                                                            · have c_54_27 := (not_congr (n_le (a := 5) (b := 3) rfl rfl (by omega) (by omega))).mp c_54_27
                                                              refine r_aload_n rfl ?_
                                                              refine r_getA (q := 66) (by decide) rfl rfl (by decide) ?_
                                                              refine r_iconst ?_
                                                              refine r_iload_n rfl ?_
                                                              refine r_imul ?_
                                                              refine r_iload_n rfl ?_
                                                              refine r_iadd ?_
                                                              refine r_iconst ?_
                                                              refine r_isub ?_
                                                              refine r_iload_n rfl ?_
                                                              refine r_iastore rfl (by decide) (ixE (n_sub (a := ((3 * a) + 3)) (b := 2) (n_add (a := (3 * a)) (b := 3) (n_mul (a := 3) (b := a) rfl rfl) rfl) rfl (by omega)) (show (((3 * a) + 3) - 2) < 15 by omega) (by decide)) ?_
                                                              refine r_goto ?_
                                                              refine E_go 5 rfl ?_
                                                              refine r_ret rfl ?_
                                                              refine r_iload rfl ?_
                                                              refine r_iret rfl trivial ?_
                                                              rw [show 3 * a + 3 - 2 = 3 * a + 1 by omega]
                                                              exact hQ _ _ _ (R.setT ha ⟨k, hk, rfl⟩).rel
                                                          · have c_54_14 := (n_eq (a := 3) (b := 1) rfl rfl (by omega) (by omega)).mp c_54_14
                                                            omega
                                                        · have c_54_1 := (n_eq (a := 3) (b := 0) rfl rfl (by omega) (by omega)).mp c_54_1
                                                          omega
                                                    · have c_45_30 := (not_congr (n_le (a := 2) (b := 3) rfl rfl (by omega) (by omega))).mp c_45_30
                                                      omega
                                                  · have c_45_22 := (n_eq (a := 1) (b := 0) rfl rfl (by omega) (by omega)).mp c_45_22
                                                    omega
                                            · have c_36 := (n_eq (a := 1) (b := 0) rfl rfl (by omega) (by omega)).mp c_36
                                              omega
                                          · have c_29_23 := (n_eq (a := 3) (b := 4) rfl rfl (by omega) (by omega)).mp c_29_23
                                            omega
                                        · have c_29_13 := (n_eq (a := 3) (b := 2) rfl rfl (by omega) (by omega)).mp c_29_13
                                          omega
                                      · have c_29_2 := (n_eq (a := 3) (b := 1) rfl rfl (by omega) (by omega)).mp c_29_2
                                        omega
                              · exact absurd rfl ds
                            · exact absurd rfl ds
                          · have c_28 := (not_congr (n_lt (a := k) (b := 100) rfl rfl (by omega) (by omega))).mp c_28
                            omega
                        · exact absurd rfl ds
        · refine M_go (ls := [_, _, _, _, _]) (ml := 5) rfl rfl rfl (zl rfl) rfl ?_
          refine r_iload_n rfl ?_
          refine r_if_lt (fun c_1 => ?_) (fun c_1 => ?_)
          · have c_1 := (n_lt (a := 3) (b := 0) rfl rfl (by omega) (by omega)).mp c_1
            omega
          · have c_1 := (not_congr (n_lt (a := 3) (b := 0) rfl rfl (by omega) (by omega))).mp c_1
            refine r_iload_n rfl ?_
            refine r_iconst ?_
            refine r_icmp_gt (fun c_6 => ?_) (fun c_6 => ?_)
            · have c_6 := (n_lt (a := 4) (b := 3) rfl rfl (by omega) (by omega)).mp c_6
              omega
            · have c_6 := (not_congr (n_lt (a := 4) (b := 3) rfl rfl (by omega) (by omega))).mp c_6
              refine r_aload_n rfl ?_
              refine r_iload_n rfl ?_
              refine r_iload_n rfl ?_
              refine r_virtual (vs := []) (as := [_, _]) (by decide) (zl rfl) rfl rfl (zl rfl) (Nat.le_refl _) (Or.inr (Or.inr ⟨zt rfl, rfl, zt rfl⟩)) ?_
              refine M_go (ls := [_, _, _]) (ml := 3) rfl rfl rfl (zl rfl) rfl ?_
              refine r_iload_n rfl ?_
              refine r_if_eq (fun c_12_1 => ?_) (fun c_12_1 => ?_)
              · have c_12_1 := (n_eq (a := 3) (b := 0) rfl rfl (by omega) (by omega)).mp c_12_1
                omega
              · have c_12_1 := (not_congr (n_eq (a := 3) (b := 0) rfl rfl (by omega) (by omega))).mp c_12_1
                refine r_iload_n rfl ?_
                refine r_iconst ?_
                refine r_icmp_eq (fun c_12_6 => ?_) (fun c_12_6 => ?_)
                · have c_12_6 := (n_eq (a := 3) (b := 1) rfl rfl (by omega) (by omega)).mp c_12_6
                  omega
                · have c_12_6 := (not_congr (n_eq (a := 3) (b := 1) rfl rfl (by omega) (by omega))).mp c_12_6
                  refine r_aload_n rfl ?_
                  refine r_iload_n rfl ?_
                  refine r_virtual (vs := []) (as := [_]) (by decide) (zl rfl) rfl rfl (zl rfl) (Nat.le_refl _) (Or.inr (Or.inr ⟨zt rfl, rfl, zt rfl⟩)) ?_
                  refine s_isAunt (by omega) R.cn h5 ?_
                  rw [if_pos (inN_io ha (by omega))]
                  refine r_if_eq (fun c_12_14 => ?_) (fun c_12_14 => ?_)
                  · have c_12_14 := (n_eq (a := 1) (b := 0) rfl rfl (by omega) (by omega)).mp c_12_14
                    omega
                  · have c_12_14 := (not_congr (n_eq (a := 1) (b := 0) rfl rfl (by omega) (by omega))).mp c_12_14
                    refine r_nil ?_
                    refine E_go 1 rfl ?_
                    refine r_iconst ?_
                    refine r_goto ?_
                    refine E_go 3 rfl ?_
                    refine r_iret rfl (by first | exact Or.inl rfl | exact Or.inr rfl) ?_
                    refine r_if_eq (fun c_15 => ?_) (fun c_15 => ?_)
                    · have c_15 := (n_eq (a := 1) (b := 0) rfl rfl (by omega) (by omega)).mp c_15
                      omega
                    · have c_15 := (not_congr (n_eq (a := 1) (b := 0) rfl rfl (by omega) (by omega))).mp c_15
                      refine r_iload_n rfl ?_
                      refine r_if_lt (fun c_19 => ?_) (fun c_19 => ?_)
                      · have c_19 := (jlt (b := 0) rfl (by omega)).mp c_19
                        refine E_go 1 rfl ?_
                        refine r_bipush ?_
                        refine r_iret rfl trivial ?_
                        refine M_go (ls := [_, _, _, _, _]) (ml := 5) rfl rfl rfl (zl rfl) rfl ?_
                        refine r_iload_n rfl ?_
                        refine r_i2l ?_
                        refine r_lconst ?_
                        refine r_ldc2_w ?_
                        refine r_static (vs := [_, _, _]) (by decide) (zl rfl) rfl rfl (zl rfl) (Nat.le_refl _) rfl ?_
                        refine s_in0 (by omega) (x := (io 3)) (k := 5) (Int32.toInt_toInt64 _) i64_0 rfl ?_
                        rw [if_pos (inN_io (by omega) (by omega))]
                        refine r_if_eq (fun c_9 => ?_) (fun c_9 => ?_)
                        · have c_9 := (n_eq (a := 1) (b := 0) rfl rfl (by omega) (by omega)).mp c_9
                          omega
                        · have c_9 := (not_congr (n_eq (a := 1) (b := 0) rfl rfl (by omega) (by omega))).mp c_9
                          refine r_iload_n rfl ?_
                          refine r_iconst ?_
                          refine r_icmp_le (fun c_14 => ?_) (fun c_14 => ?_)
                          · have c_14 := (n_le (a := 3) (b := 1) rfl rfl (by omega) (by omega)).mp c_14
                            omega
                          · have c_14 := (not_congr (n_le (a := 3) (b := 1) rfl rfl (by omega) (by omega))).mp c_14
                            refine r_aload_n rfl ?_
                            refine r_iload_n rfl ?_
                            refine r_virtual (vs := []) (as := [_]) (by decide) (zl rfl) rfl rfl (zl rfl) (Nat.le_refl _) (Or.inr (Or.inr ⟨zt rfl, rfl, zt rfl⟩)) ?_
                            refine s_isOne (by omega) R.mn h5 ?_
                            rw [if_pos (inN_io ha (by omega))]
                            refine r_if_eq (fun c_22 => ?_) (fun c_22 => ?_)
                            · have c_22 := (n_eq (a := 1) (b := 0) rfl rfl (by omega) (by omega)).mp c_22
                              omega
                            · have c_22 := (not_congr (n_eq (a := 1) (b := 0) rfl rfl (by omega) (by omega))).mp c_22
                              refine r_nil ?_
                              refine E_go 1 rfl ?_
                              refine r_iload_n rfl ?_
                              refine r_i2l ?_
                              refine r_lconst ?_
                              refine r_iload_n rfl ?_
                              refine r_static (vs := [_]) (by decide) (zl rfl) rfl rfl (zl rfl) (Nat.le_refl _) rfl ?_
                              refine M_go (ls := [_]) (ml := 1) rfl rfl rfl (zl rfl) rfl ?_
                              refine r_iload_n rfl ?_
                              refine r_iconst ?_
                              refine r_icmp_ne (fun c_29_2 => ?_) (fun c_29_2 => ?_)
                              · have c_29_2 := (not_congr (n_eq (a := 3) (b := 1) rfl rfl (by omega) (by omega))).mp c_29_2
                                refine E_go 1 rfl ?_
                                refine r_iload_n rfl ?_
                                refine r_iconst ?_
                                refine r_icmp_ne (fun c_29_13 => ?_) (fun c_29_13 => ?_)
                                · have c_29_13 := (not_congr (n_eq (a := 3) (b := 2) rfl rfl (by omega) (by omega))).mp c_29_13
                                  refine E_go 2 rfl ?_
                                  refine r_iload_n rfl ?_
                                  refine r_iconst ?_
                                  refine r_icmp_ne (fun c_29_23 => ?_) (fun c_29_23 => ?_)
                                  · have c_29_23 := (not_congr (n_eq (a := 3) (b := 4) rfl rfl (by omega) (by omega))).mp c_29_23
                                    refine E_go 3 rfl ?_
                                    refine r_bipush ?_
                                    refine r_nil ?_
                                    refine E_go 4 rfl ?_
                                    refine r_iret rfl trivial ?_
                                    refine r_i2l ?_
                                    refine r_static (vs := [_, _, _]) (by decide) (zl rfl) rfl rfl (zl rfl) (Nat.le_refl _) rfl ?_
                                    refine s_in0 (by omega) (x := z) (k := 100) (Int32.toInt_toInt64 _) i64_0 rfl ?_
                                    rw [if_neg hv]
                                    refine r_if_ne (fun c_36 => ?_) (fun c_36 => ?_)
                                    · have c_36 := (not_congr (n_eq (a := 0) (b := 0) rfl rfl (by omega) (by omega))).mp c_36
                                      omega
                                    · have c_36 := (n_eq (a := 0) (b := 0) rfl rfl (by omega) (by omega)).mp c_36
                                      refine r_nil ?_
                                      refine E_go 2 rfl ?_
                                      refine r_bipush ?_
                                      refine r_iret rfl trivial ?_
                                      exact hQ _ _ _ R.rel
                                  · have c_29_23 := (n_eq (a := 3) (b := 4) rfl rfl (by omega) (by omega)).mp c_29_23
                                    omega
                                · have c_29_13 := (n_eq (a := 3) (b := 2) rfl rfl (by omega) (by omega)).mp c_29_13
                                  omega
                              · have c_29_2 := (n_eq (a := 3) (b := 1) rfl rfl (by omega) (by omega)).mp c_29_2
                                omega
                      · have c_19 := (not_congr (jlt (b := 0) rfl (by omega))).mp c_19
                        refine r_iload_n rfl ?_
                        refine r_aload_n rfl ?_
                        refine r_iload_n rfl ?_
                        refine r_virtual (vs := []) (as := [_]) (by decide) (zl rfl) rfl rfl (zl rfl) (Nat.le_refl _) (Or.inr (Or.inr ⟨zt rfl, rfl, zt rfl⟩)) ?_
                        refine M_go (ls := [_, _]) (ml := 2) rfl rfl rfl (zl rfl) rfl ?_
                        refine r_iload_n rfl ?_
                        refine r_table ?_
                        refine r_sw1 (fun cs => ?_) (fun ds => ?_)
                        · exact absurd ((n_eq (a := 3) (b := 0) rfl rfl (by omega) (by omega)).mp cs) (by omega)
                        refine r_sw1 (fun cs => ?_) (fun ds => ?_)
                        · exact absurd ((n_eq (a := 3) (b := 1) rfl rfl (by omega) (by omega)).mp cs) (by omega)
                        refine r_sw1 (fun cs => ?_) (fun ds => ?_)
                        · exact absurd ((n_eq (a := 3) (b := 2) rfl rfl (by omega) (by omega)).mp cs) (by omega)
                        refine r_sw1 (fun cs => ?_) (fun ds => ?_)
                        · refine E_go 4 rfl ?_
                          refine r_bipush ?_
                          refine r_iret rfl trivial ?_
                          refine r_icmp_lt (fun c_28 => ?_) (fun c_28 => ?_)
                          · have c_28 := (jlt (b := 100) rfl (by omega)).mp c_28
                            omega
                          · have c_28 := (not_congr (jlt (b := 100) rfl (by omega))).mp c_28
                            refine r_nil ?_
                            refine E_go 1 rfl ?_
                            refine r_bipush ?_
                            refine r_iret rfl trivial ?_
                            refine M_go (ls := [_, _, _, _, _]) (ml := 5) rfl rfl rfl (zl rfl) rfl ?_
                            refine r_iload_n rfl ?_
                            refine r_i2l ?_
                            refine r_lconst ?_
                            refine r_ldc2_w ?_
                            refine r_static (vs := [_, _, _]) (by decide) (zl rfl) rfl rfl (zl rfl) (Nat.le_refl _) rfl ?_
                            refine s_in0 (by omega) (x := (io 3)) (k := 5) (Int32.toInt_toInt64 _) i64_0 rfl ?_
                            rw [if_pos (inN_io (by omega) (by omega))]
                            refine r_if_eq (fun c_9 => ?_) (fun c_9 => ?_)
                            · have c_9 := (n_eq (a := 1) (b := 0) rfl rfl (by omega) (by omega)).mp c_9
                              omega
                            · have c_9 := (not_congr (n_eq (a := 1) (b := 0) rfl rfl (by omega) (by omega))).mp c_9
                              refine r_iload_n rfl ?_
                              refine r_iconst ?_
                              refine r_icmp_le (fun c_14 => ?_) (fun c_14 => ?_)
                              · have c_14 := (n_le (a := 3) (b := 1) rfl rfl (by omega) (by omega)).mp c_14
                                omega
                              · have c_14 := (not_congr (n_le (a := 3) (b := 1) rfl rfl (by omega) (by omega))).mp c_14
                                refine r_aload_n rfl ?_
                                refine r_iload_n rfl ?_
                                refine r_virtual (vs := []) (as := [_]) (by decide) (zl rfl) rfl rfl (zl rfl) (Nat.le_refl _) (Or.inr (Or.inr ⟨zt rfl, rfl, zt rfl⟩)) ?_
                                refine s_isOne (by omega) R.mn h5 ?_
                                rw [if_pos (inN_io ha (by omega))]
                                refine r_if_eq (fun c_22 => ?_) (fun c_22 => ?_)
                                · have c_22 := (n_eq (a := 1) (b := 0) rfl rfl (by omega) (by omega)).mp c_22
                                  omega
                                · have c_22 := (not_congr (n_eq (a := 1) (b := 0) rfl rfl (by omega) (by omega))).mp c_22
                                  refine r_nil ?_
                                  refine E_go 1 rfl ?_
                                  refine r_iload_n rfl ?_
                                  refine r_i2l ?_
                                  refine r_lconst ?_
                                  refine r_iload_n rfl ?_
                                  refine r_static (vs := [_]) (by decide) (zl rfl) rfl rfl (zl rfl) (Nat.le_refl _) rfl ?_
                                  refine M_go (ls := [_]) (ml := 1) rfl rfl rfl (zl rfl) rfl ?_
                                  refine r_iload_n rfl ?_
                                  refine r_iconst ?_
                                  refine r_icmp_ne (fun c_29_2 => ?_) (fun c_29_2 => ?_)
                                  · have c_29_2 := (not_congr (n_eq (a := 3) (b := 1) rfl rfl (by omega) (by omega))).mp c_29_2
                                    refine E_go 1 rfl ?_
                                    refine r_iload_n rfl ?_
                                    refine r_iconst ?_
                                    refine r_icmp_ne (fun c_29_13 => ?_) (fun c_29_13 => ?_)
                                    · have c_29_13 := (not_congr (n_eq (a := 3) (b := 2) rfl rfl (by omega) (by omega))).mp c_29_13
                                      refine E_go 2 rfl ?_
                                      refine r_iload_n rfl ?_
                                      refine r_iconst ?_
                                      refine r_icmp_ne (fun c_29_23 => ?_) (fun c_29_23 => ?_)
                                      · have c_29_23 := (not_congr (n_eq (a := 3) (b := 4) rfl rfl (by omega) (by omega))).mp c_29_23
                                        refine E_go 3 rfl ?_
                                        refine r_bipush ?_
                                        refine r_nil ?_
                                        refine E_go 4 rfl ?_
                                        refine r_iret rfl trivial ?_
                                        refine r_i2l ?_
                                        refine r_static (vs := [_, _, _]) (by decide) (zl rfl) rfl rfl (zl rfl) (Nat.le_refl _) rfl ?_
                                        refine s_in0 (by omega) (x := z) (k := 100) (Int32.toInt_toInt64 _) i64_0 rfl ?_
                                        rw [if_neg hv]
                                        refine r_if_ne (fun c_36 => ?_) (fun c_36 => ?_)
                                        · have c_36 := (not_congr (n_eq (a := 0) (b := 0) rfl rfl (by omega) (by omega))).mp c_36
                                          omega
                                        · have c_36 := (n_eq (a := 0) (b := 0) rfl rfl (by omega) (by omega)).mp c_36
                                          refine r_nil ?_
                                          refine E_go 2 rfl ?_
                                          refine r_bipush ?_
                                          refine r_iret rfl trivial ?_
                                          exact hQ _ _ _ R.rel
                                      · have c_29_23 := (n_eq (a := 3) (b := 4) rfl rfl (by omega) (by omega)).mp c_29_23
                                        omega
                                    · have c_29_13 := (n_eq (a := 3) (b := 2) rfl rfl (by omega) (by omega)).mp c_29_13
                                      omega
                                  · have c_29_2 := (n_eq (a := 3) (b := 1) rfl rfl (by omega) (by omega)).mp c_29_2
                                    omega
                        · exact absurd rfl ds
      · refine M_go (ls := [_, _, _, _, _]) (ml := 5) rfl rfl rfl (zl rfl) rfl ?_
        refine r_iload_n rfl ?_
        refine r_if_lt (fun c_1 => ?_) (fun c_1 => ?_)
        · have c_1 := (n_lt (a := 3) (b := 0) rfl rfl (by omega) (by omega)).mp c_1
          omega
        · have c_1 := (not_congr (n_lt (a := 3) (b := 0) rfl rfl (by omega) (by omega))).mp c_1
          refine r_iload_n rfl ?_
          refine r_iconst ?_
          refine r_icmp_gt (fun c_6 => ?_) (fun c_6 => ?_)
          · have c_6 := (n_lt (a := 4) (b := 3) rfl rfl (by omega) (by omega)).mp c_6
            omega
          · have c_6 := (not_congr (n_lt (a := 4) (b := 3) rfl rfl (by omega) (by omega))).mp c_6
            refine r_aload_n rfl ?_
            refine r_iload_n rfl ?_
            refine r_iload_n rfl ?_
            refine r_virtual (vs := []) (as := [_, _]) (by decide) (zl rfl) rfl rfl (zl rfl) (Nat.le_refl _) (Or.inr (Or.inr ⟨zt rfl, rfl, zt rfl⟩)) ?_
            refine M_go (ls := [_, _, _]) (ml := 3) rfl rfl rfl (zl rfl) rfl ?_
            refine r_iload_n rfl ?_
            refine r_if_eq (fun c_12_1 => ?_) (fun c_12_1 => ?_)
            · have c_12_1 := (n_eq (a := 3) (b := 0) rfl rfl (by omega) (by omega)).mp c_12_1
              omega
            · have c_12_1 := (not_congr (n_eq (a := 3) (b := 0) rfl rfl (by omega) (by omega))).mp c_12_1
              refine r_iload_n rfl ?_
              refine r_iconst ?_
              refine r_icmp_eq (fun c_12_6 => ?_) (fun c_12_6 => ?_)
              · have c_12_6 := (n_eq (a := 3) (b := 1) rfl rfl (by omega) (by omega)).mp c_12_6
                omega
              · have c_12_6 := (not_congr (n_eq (a := 3) (b := 1) rfl rfl (by omega) (by omega))).mp c_12_6
                refine r_aload_n rfl ?_
                refine r_iload_n rfl ?_
                refine r_virtual (vs := []) (as := [_]) (by decide) (zl rfl) rfl rfl (zl rfl) (Nat.le_refl _) (Or.inr (Or.inr ⟨zt rfl, rfl, zt rfl⟩)) ?_
                refine s_isAunt (by omega) R.cn h5 ?_
                rw [if_neg hx]
                refine r_if_eq (fun c_12_14 => ?_) (fun c_12_14 => ?_)
                · have c_12_14 := (n_eq (a := 0) (b := 0) rfl rfl (by omega) (by omega)).mp c_12_14
                  refine E_go 2 rfl ?_
                  refine r_iconst ?_
                  refine r_nil ?_
                  refine E_go 3 rfl ?_
                  refine r_iret rfl (by first | exact Or.inl rfl | exact Or.inr rfl) ?_
                  refine r_if_eq (fun c_15 => ?_) (fun c_15 => ?_)
                  · have c_15 := (n_eq (a := 0) (b := 0) rfl rfl (by omega) (by omega)).mp c_15
                    refine E_go 1 rfl ?_
                    refine r_bipush ?_
                    refine r_iret rfl trivial ?_
                    refine M_go (ls := [_, _, _, _, _]) (ml := 5) rfl rfl rfl (zl rfl) rfl ?_
                    refine r_iload_n rfl ?_
                    refine r_i2l ?_
                    refine r_lconst ?_
                    refine r_ldc2_w ?_
                    refine r_static (vs := [_, _, _]) (by decide) (zl rfl) rfl rfl (zl rfl) (Nat.le_refl _) rfl ?_
                    refine s_in0 (by omega) (x := (io 3)) (k := 5) (Int32.toInt_toInt64 _) i64_0 rfl ?_
                    rw [if_pos (inN_io (by omega) (by omega))]
                    refine r_if_eq (fun c_9 => ?_) (fun c_9 => ?_)
                    · have c_9 := (n_eq (a := 1) (b := 0) rfl rfl (by omega) (by omega)).mp c_9
                      omega
                    · have c_9 := (not_congr (n_eq (a := 1) (b := 0) rfl rfl (by omega) (by omega))).mp c_9
                      refine r_iload_n rfl ?_
                      refine r_iconst ?_
                      refine r_icmp_le (fun c_14 => ?_) (fun c_14 => ?_)
                      · have c_14 := (n_le (a := 3) (b := 1) rfl rfl (by omega) (by omega)).mp c_14
                        omega
                      · have c_14 := (not_congr (n_le (a := 3) (b := 1) rfl rfl (by omega) (by omega))).mp c_14
                        refine r_aload_n rfl ?_
                        refine r_iload_n rfl ?_
                        refine r_virtual (vs := []) (as := [_]) (by decide) (zl rfl) rfl rfl (zl rfl) (Nat.le_refl _) (Or.inr (Or.inr ⟨zt rfl, rfl, zt rfl⟩)) ?_
                        refine s_isOne (by omega) R.mn h5 ?_
                        rw [if_neg hx]
                        refine r_if_eq (fun c_22 => ?_) (fun c_22 => ?_)
                        · have c_22 := (n_eq (a := 0) (b := 0) rfl rfl (by omega) (by omega)).mp c_22
                          refine E_go 2 rfl ?_
                          refine r_bipush ?_
                          refine r_iret rfl trivial ?_
                          exact hQ _ _ _ R.rel
                        · have c_22 := (not_congr (n_eq (a := 0) (b := 0) rfl rfl (by omega) (by omega))).mp c_22
                          omega
                  · have c_15 := (not_congr (n_eq (a := 0) (b := 0) rfl rfl (by omega) (by omega))).mp c_15
                    omega
                · have c_12_14 := (not_congr (n_eq (a := 0) (b := 0) rfl rfl (by omega) (by omega))).mp c_12_14
                  omega
    · by_cases hx : inN n x
      · obtain ⟨a, ha, rfl⟩ := inN_ex hx (by omega)
        by_cases hv : inN 64 z
        · obtain ⟨k, hk, rfl⟩ := inN_ex hv (by omega)
          refine M_go (ls := [_, _, _, _, _]) (ml := 5) rfl rfl rfl (zl rfl) rfl ?_
          refine r_iload_n rfl ?_
          refine r_if_lt (fun c_1 => ?_) (fun c_1 => ?_)
          · have c_1 := (n_lt (a := 4) (b := 0) rfl rfl (by omega) (by omega)).mp c_1
            omega
          · have c_1 := (not_congr (n_lt (a := 4) (b := 0) rfl rfl (by omega) (by omega))).mp c_1
            refine r_iload_n rfl ?_
            refine r_iconst ?_
            refine r_icmp_gt (fun c_6 => ?_) (fun c_6 => ?_)
            · have c_6 := (n_lt (a := 4) (b := 4) rfl rfl (by omega) (by omega)).mp c_6
              omega
            · have c_6 := (not_congr (n_lt (a := 4) (b := 4) rfl rfl (by omega) (by omega))).mp c_6
              refine r_aload_n rfl ?_
              refine r_iload_n rfl ?_
              refine r_iload_n rfl ?_
              refine r_virtual (vs := []) (as := [_, _]) (by decide) (zl rfl) rfl rfl (zl rfl) (Nat.le_refl _) (Or.inr (Or.inr ⟨zt rfl, rfl, zt rfl⟩)) ?_
              refine M_go (ls := [_, _, _]) (ml := 3) rfl rfl rfl (zl rfl) rfl ?_
              refine r_iload_n rfl ?_
              refine r_if_eq (fun c_12_1 => ?_) (fun c_12_1 => ?_)
              · have c_12_1 := (n_eq (a := 4) (b := 0) rfl rfl (by omega) (by omega)).mp c_12_1
                omega
              · have c_12_1 := (not_congr (n_eq (a := 4) (b := 0) rfl rfl (by omega) (by omega))).mp c_12_1
                refine r_iload_n rfl ?_
                refine r_iconst ?_
                refine r_icmp_eq (fun c_12_6 => ?_) (fun c_12_6 => ?_)
                · have c_12_6 := (n_eq (a := 4) (b := 1) rfl rfl (by omega) (by omega)).mp c_12_6
                  omega
                · have c_12_6 := (not_congr (n_eq (a := 4) (b := 1) rfl rfl (by omega) (by omega))).mp c_12_6
                  refine r_aload_n rfl ?_
                  refine r_iload_n rfl ?_
                  refine r_virtual (vs := []) (as := [_]) (by decide) (zl rfl) rfl rfl (zl rfl) (Nat.le_refl _) (Or.inr (Or.inr ⟨zt rfl, rfl, zt rfl⟩)) ?_
                  refine s_isAunt (by omega) R.cn h5 ?_
                  rw [if_pos (inN_io ha (by omega))]
                  refine r_if_eq (fun c_12_14 => ?_) (fun c_12_14 => ?_)
                  · have c_12_14 := (n_eq (a := 1) (b := 0) rfl rfl (by omega) (by omega)).mp c_12_14
                    omega
                  · have c_12_14 := (not_congr (n_eq (a := 1) (b := 0) rfl rfl (by omega) (by omega))).mp c_12_14
                    refine r_nil ?_
                    refine E_go 1 rfl ?_
                    refine r_iconst ?_
                    refine r_goto ?_
                    refine E_go 3 rfl ?_
                    refine r_iret rfl (by first | exact Or.inl rfl | exact Or.inr rfl) ?_
                    refine r_if_eq (fun c_15 => ?_) (fun c_15 => ?_)
                    · have c_15 := (n_eq (a := 1) (b := 0) rfl rfl (by omega) (by omega)).mp c_15
                      omega
                    · have c_15 := (not_congr (n_eq (a := 1) (b := 0) rfl rfl (by omega) (by omega))).mp c_15
                      refine r_iload_n rfl ?_
                      refine r_if_lt (fun c_19 => ?_) (fun c_19 => ?_)
                      · have c_19 := (n_lt (a := k) (b := 0) rfl rfl (by omega) (by omega)).mp c_19
                        omega
                      · have c_19 := (not_congr (n_lt (a := k) (b := 0) rfl rfl (by omega) (by omega))).mp c_19
                        refine r_iload_n rfl ?_
                        refine r_aload_n rfl ?_
                        refine r_iload_n rfl ?_
                        refine r_virtual (vs := []) (as := [_]) (by decide) (zl rfl) rfl rfl (zl rfl) (Nat.le_refl _) (Or.inr (Or.inr ⟨zt rfl, rfl, zt rfl⟩)) ?_
                        refine M_go (ls := [_, _]) (ml := 2) rfl rfl rfl (zl rfl) rfl ?_
                        refine r_iload_n rfl ?_
                        refine r_table ?_
                        refine r_sw1 (fun cs => ?_) (fun ds => ?_)
                        · exact absurd ((n_eq (a := 4) (b := 0) rfl rfl (by omega) (by omega)).mp cs) (by omega)
                        refine r_sw1 (fun cs => ?_) (fun ds => ?_)
                        · exact absurd ((n_eq (a := 4) (b := 1) rfl rfl (by omega) (by omega)).mp cs) (by omega)
                        refine r_sw1 (fun cs => ?_) (fun ds => ?_)
                        · exact absurd ((n_eq (a := 4) (b := 2) rfl rfl (by omega) (by omega)).mp cs) (by omega)
                        refine r_sw1 (fun cs => ?_) (fun ds => ?_)
                        · exact absurd ((n_eq (a := 4) (b := 3) rfl rfl (by omega) (by omega)).mp cs) (by omega)
                        refine r_sw1 (fun cs => ?_) (fun ds => ?_)
                        · refine E_go 5 rfl ?_
                          refine r_bipush ?_
                          refine r_iret rfl trivial ?_
                          refine r_icmp_lt (fun c_28 => ?_) (fun c_28 => ?_)
                          · have c_28 := (n_lt (a := k) (b := 64) rfl rfl (by omega) (by omega)).mp c_28
                            refine E_go 2 rfl ?_
                            refine r_aload_n rfl ?_
                            refine r_getA (q := 1) (by decide) rfl rfl (by decide) ?_
                            refine r_iload_n rfl ?_
                            refine r_iload_n rfl ?_
                            refine r_virtual (vs := []) (as := [_, _]) (by decide) (zl rfl) rfl rfl (zl rfl) (Nat.le_refl _) (Or.inr (Or.inr ⟨zt rfl, rfl, zt rfl⟩)) ?_
                            refine M_go (ls := [_, _, _]) (ml := 3) rfl rfl rfl (zl rfl) rfl ?_
                            refine r_iload_n rfl ?_
                            refine r_table ?_
                            refine r_sw1 (fun cs => ?_) (fun ds => ?_)
                            · exact absurd ((n_eq (a := 4) (b := 0) rfl rfl (by omega) (by omega)).mp cs) (by omega)
                            refine r_sw1 (fun cs => ?_) (fun ds => ?_)
                            · exact absurd ((n_eq (a := 4) (b := 1) rfl rfl (by omega) (by omega)).mp cs) (by omega)
                            refine r_sw1 (fun cs => ?_) (fun ds => ?_)
                            · exact absurd ((n_eq (a := 4) (b := 2) rfl rfl (by omega) (by omega)).mp cs) (by omega)
                            refine r_sw1 (fun cs => ?_) (fun ds => ?_)
                            · exact absurd ((n_eq (a := 4) (b := 3) rfl rfl (by omega) (by omega)).mp cs) (by omega)
                            refine r_sw1 (fun cs => ?_) (fun ds => ?_)
                            · refine E_go 5 rfl ?_
                              refine r_aload_n rfl ?_
                              refine r_getA (q := 5) (by decide) rfl rfl (by decide) ?_
                              refine r_iload_n rfl ?_
                              refine r_iaload (by decide) rfl (by decide) (ixE rfl (show a < 5 by omega) (by decide)) rfl ?_
                              refine r_iret rfl trivial ?_
                              refine r_istore (ls' := [_, _, _, _, _]) (zt rfl) rfl ?_
                              refine r_aload_n rfl ?_
                              refine r_getA (q := 1) (by decide) rfl rfl (by decide) ?_
                              refine r_iload_n rfl ?_
                              refine r_iload_n rfl ?_
                              refine r_iload_n rfl ?_
                              refine r_virtual (vs := []) (as := [_, _, _]) (by decide) (zl rfl) rfl rfl (zl rfl) (Nat.le_refl _) (Or.inr (Or.inr ⟨zt rfl, rfl, zt rfl⟩)) ?_
                              refine M_go (ls := [_, _, _, _]) (ml := 4) rfl rfl rfl (zl rfl) rfl ?_
                              refine r_iload_n rfl ?_
                              refine r_table ?_
                              refine r_sw1 (fun cs => ?_) (fun ds => ?_)
                              · exact absurd ((n_eq (a := 4) (b := 0) rfl rfl (by omega) (by omega)).mp cs) (by omega)
                              refine r_sw1 (fun cs => ?_) (fun ds => ?_)
                              · exact absurd ((n_eq (a := 4) (b := 1) rfl rfl (by omega) (by omega)).mp cs) (by omega)
                              refine r_sw1 (fun cs => ?_) (fun ds => ?_)
                              · exact absurd ((n_eq (a := 4) (b := 2) rfl rfl (by omega) (by omega)).mp cs) (by omega)
                              refine r_sw1 (fun cs => ?_) (fun ds => ?_)
                              · exact absurd ((n_eq (a := 4) (b := 3) rfl rfl (by omega) (by omega)).mp cs) (by omega)
                              refine r_sw1 (fun cs => ?_) (fun ds => ?_)
                              · refine E_go 5 rfl ?_
                                refine r_aload_n rfl ?_
                                refine r_getA (q := 5) (by decide) rfl rfl (by decide) ?_
                                refine r_iload_n rfl ?_
                                refine r_iload_n rfl ?_
                                refine r_iastore rfl (by decide) (ixE rfl (show a < 5 by omega) (by decide)) ?_
                                refine r_goto ?_
                                refine E_go 8 rfl ?_
                                refine r_ret rfl ?_
                                refine r_iload rfl ?_
                                refine r_iret rfl trivial ?_
                                refine M_go (ls := [_, _, _, _, _]) (ml := 5) rfl rfl rfl (zl rfl) rfl ?_
                                refine r_iload_n rfl ?_
                                refine r_i2l ?_
                                refine r_lconst ?_
                                refine r_ldc2_w ?_
                                refine r_static (vs := [_, _, _]) (by decide) (zl rfl) rfl rfl (zl rfl) (Nat.le_refl _) rfl ?_
                                refine s_in0 (by omega) (x := (io 4)) (k := 5) (Int32.toInt_toInt64 _) i64_0 rfl ?_
                                rw [if_pos (inN_io (by omega) (by omega))]
                                refine r_if_eq (fun c_9 => ?_) (fun c_9 => ?_)
                                · have c_9 := (n_eq (a := 1) (b := 0) rfl rfl (by omega) (by omega)).mp c_9
                                  omega
                                · have c_9 := (not_congr (n_eq (a := 1) (b := 0) rfl rfl (by omega) (by omega))).mp c_9
                                  refine r_iload_n rfl ?_
                                  refine r_iconst ?_
                                  refine r_icmp_le (fun c_14 => ?_) (fun c_14 => ?_)
                                  · have c_14 := (n_le (a := 4) (b := 1) rfl rfl (by omega) (by omega)).mp c_14
                                    omega
                                  · have c_14 := (not_congr (n_le (a := 4) (b := 1) rfl rfl (by omega) (by omega))).mp c_14
                                    refine r_aload_n rfl ?_
                                    refine r_iload_n rfl ?_
                                    refine r_virtual (vs := []) (as := [_]) (by decide) (zl rfl) rfl rfl (zl rfl) (Nat.le_refl _) (Or.inr (Or.inr ⟨zt rfl, rfl, zt rfl⟩)) ?_
                                    refine s_isOne (by omega) R.mn h5 ?_
                                    rw [if_pos (inN_io ha (by omega))]
                                    refine r_if_eq (fun c_22 => ?_) (fun c_22 => ?_)
                                    · have c_22 := (n_eq (a := 1) (b := 0) rfl rfl (by omega) (by omega)).mp c_22
                                      omega
                                    · have c_22 := (not_congr (n_eq (a := 1) (b := 0) rfl rfl (by omega) (by omega))).mp c_22
                                      refine r_nil ?_
                                      refine E_go 1 rfl ?_
                                      refine r_iload_n rfl ?_
                                      refine r_i2l ?_
                                      refine r_lconst ?_
                                      refine r_iload_n rfl ?_
                                      refine r_static (vs := [_]) (by decide) (zl rfl) rfl rfl (zl rfl) (Nat.le_refl _) rfl ?_
                                      refine M_go (ls := [_]) (ml := 1) rfl rfl rfl (zl rfl) rfl ?_
                                      refine r_iload_n rfl ?_
                                      refine r_iconst ?_
                                      refine r_icmp_ne (fun c_29_2 => ?_) (fun c_29_2 => ?_)
                                      · have c_29_2 := (not_congr (n_eq (a := 4) (b := 1) rfl rfl (by omega) (by omega))).mp c_29_2
                                        refine E_go 1 rfl ?_
                                        refine r_iload_n rfl ?_
                                        refine r_iconst ?_
                                        refine r_icmp_ne (fun c_29_13 => ?_) (fun c_29_13 => ?_)
                                        · have c_29_13 := (not_congr (n_eq (a := 4) (b := 2) rfl rfl (by omega) (by omega))).mp c_29_13
                                          refine E_go 2 rfl ?_
                                          refine r_iload_n rfl ?_
                                          refine r_iconst ?_
                                          refine r_icmp_ne (fun c_29_23 => ?_) (fun c_29_23 => ?_)
                                          · have c_29_23 := (not_congr (n_eq (a := 4) (b := 4) rfl rfl (by omega) (by omega))).mp c_29_23
                                            omega
                                          · have c_29_23 := (n_eq (a := 4) (b := 4) rfl rfl (by omega) (by omega)).mp c_29_23
                                            refine r_bipush ?_
                                            refine r_goto ?_
                                            refine E_go 4 rfl ?_
                                            refine r_iret rfl trivial ?_
                                            refine r_i2l ?_
                                            refine r_static (vs := [_, _, _]) (by decide) (zl rfl) rfl rfl (zl rfl) (Nat.le_refl _) rfl ?_
                                            refine s_in0 (by omega) (x := (io k)) (k := 64) (Int32.toInt_toInt64 _) i64_0 rfl ?_
                                            rw [if_pos (inN_io hk (by omega))]
                                            refine r_if_ne (fun c_36 => ?_) (fun c_36 => ?_)
                                            · have c_36 := (not_congr (n_eq (a := 1) (b := 0) rfl rfl (by omega) (by omega))).mp c_36
                                              refine E_go 3 rfl ?_
                                              refine r_aload_n rfl ?_
                                              refine r_iload_n rfl ?_
                                              refine r_iload_n rfl ?_
                                              refine r_virtual (vs := []) (as := [_, _]) (by decide) (zl rfl) rfl rfl (zl rfl) (Nat.le_refl _) (Or.inr (Or.inr ⟨zt rfl, rfl, zt rfl⟩)) ?_
                                              refine M_go (ls := [_, _, _]) (ml := 3) rfl rfl rfl (zl rfl) rfl ?_
                                              refine r_iload_n rfl ?_
                                              refine r_i2l ?_
                                              refine r_lconst ?_
                                              refine r_ldc2_w ?_
                                              refine r_static (vs := [_, _, _]) (by decide) (zl rfl) rfl rfl (zl rfl) (Nat.le_refl _) rfl ?_
                                              refine s_in0 (by omega) (x := (io 4)) (k := 8) (Int32.toInt_toInt64 _) i64_0 rfl ?_
                                              rw [if_pos (inN_io (by omega) (by omega))]
                                              refine r_if_eq (fun c_45_9 => ?_) (fun c_45_9 => ?_)
                                              · have c_45_9 := (n_eq (a := 1) (b := 0) rfl rfl (by omega) (by omega)).mp c_45_9
                                                omega
                                              · have c_45_9 := (not_congr (n_eq (a := 1) (b := 0) rfl rfl (by omega) (by omega))).mp c_45_9
                                                refine r_iload_n rfl ?_
                                                refine r_iconst ?_
                                                refine r_icmp_le (fun c_45_14 => ?_) (fun c_45_14 => ?_)
                                                · have c_45_14 := (n_le (a := 4) (b := 1) rfl rfl (by omega) (by omega)).mp c_45_14
                                                  omega
                                                · have c_45_14 := (not_congr (n_le (a := 4) (b := 1) rfl rfl (by omega) (by omega))).mp c_45_14
                                                  refine r_aload_n rfl ?_
                                                  refine r_iload_n rfl ?_
                                                  refine r_virtual (vs := []) (as := [_]) (by decide) (zl rfl) rfl rfl (zl rfl) (Nat.le_refl _) (Or.inr (Or.inr ⟨zt rfl, rfl, zt rfl⟩)) ?_
                                                  refine s_isOne (by omega) R.mn h5 ?_
                                                  rw [if_pos (inN_io ha (by omega))]
                                                  refine r_if_ne (fun c_45_22 => ?_) (fun c_45_22 => ?_)
                                                  · have c_45_22 := (not_congr (n_eq (a := 1) (b := 0) rfl rfl (by omega) (by omega))).mp c_45_22
                                                    refine E_go 2 rfl ?_
                                                    refine r_iload_n rfl ?_
                                                    refine r_iconst ?_
                                                    refine r_icmp_ge (fun c_45_30 => ?_) (fun c_45_30 => ?_)
                                                    · have c_45_30 := (n_le (a := 2) (b := 4) rfl rfl (by omega) (by omega)).mp c_45_30
                                                      refine E_go 5 rfl ?_
                                                      refine r_iload_n rfl ?_
                                                      refine r_iconst ?_
                                                      refine r_icmp_ge (fun c_45_51 => ?_) (fun c_45_51 => ?_)
                                                      · have c_45_51 := (n_le (a := 5) (b := 4) rfl rfl (by omega) (by omega)).mp c_45_51
                                                        omega
                                                      · have c_45_51 := (not_congr (n_le (a := 5) (b := 4) rfl rfl (by omega) (by omega))).mp c_45_51
                                                        refine r_aload_n rfl ?_
                                                        refine r_getA (q := 66) (by decide) rfl rfl (by decide) ?_
                                                        refine r_iconst ?_
                                                        refine r_iload_n rfl ?_
                                                        refine r_imul ?_
                                                        refine r_iload_n rfl ?_
                                                        refine r_iadd ?_
                                                        refine r_iconst ?_
                                                        refine r_isub ?_
                                                        refine r_iaload (by decide) rfl (by decide) (ixE (n_sub (a := ((3 * a) + 4)) (b := 2) (n_add (a := (3 * a)) (b := 4) (n_mul (a := 3) (b := a) rfl rfl) rfl) rfl (by omega)) (show (((3 * a) + 4) - 2) < 15 by omega) (by decide)) ((congrArg (I 66) (show (((3 * a) + 4) - 2) = 3 * a + 2 by omega)).trans (R.pl ha)) ?_
                                                        refine r_goto ?_
                                                        refine E_go 9 rfl ?_
                                                        refine r_iret rfl trivial ?_
                                                        refine r_istore (ls' := [_, _, _, _, _]) (zt rfl) rfl ?_
                                                        refine r_aload_n rfl ?_
                                                        refine r_iload_n rfl ?_
                                                        refine r_iload_n rfl ?_
                                                        refine r_iload_n rfl ?_
                                                        refine r_virtual (vs := []) (as := [_, _, _]) (by decide) (zl rfl) rfl rfl (zl rfl) (Nat.le_refl _) (Or.inr (Or.inr ⟨zt rfl, rfl, zt rfl⟩)) ?_
                                                        refine M_go (ls := [_, _, _, _]) (ml := 4) rfl rfl rfl (zl rfl) rfl ?_
                                                        refine r_iload_n rfl ?_
                                                        refine r_if_ne (fun c_54_1 => ?_) (fun c_54_1 => ?_)
                                                        · have c_54_1 := (not_congr (n_eq (a := 4) (b := 0) rfl rfl (by omega) (by omega))).mp c_54_1
                                                          refine E_go 1 rfl ?_
                                                          refine r_iload_n rfl ?_
                                                          refine r_iconst ?_
                                                          refine r_icmp_ne (fun c_54_14 => ?_) (fun c_54_14 => ?_)
                                                          · have c_54_14 := (not_congr (n_eq (a := 4) (b := 1) rfl rfl (by omega) (by omega))).mp c_54_14
                                                            refine E_go 2 rfl ?_
                                                            refine r_iload_n rfl ?_
                                                            refine r_iconst ?_
                                                            refine r_icmp_ge (fun c_54_27 => ?_) (fun c_54_27 => ?_)
                                                            · have c_54_27 := (n_le (a := 5) (b := 4) rfl rfl (by omega) (by omega)).mp c_54_27
                                                              omega
                                                            · have c_54_27 := (not_congr (n_le (a := 5) (b := 4) rfl rfl (by omega) (by omega))).mp c_54_27
                                                              refine r_aload_n rfl ?_
                                                              refine r_getA (q := 66) (by decide) rfl rfl (by decide) ?_
                                                              refine r_iconst ?_
                                                              refine r_iload_n rfl ?_
                                                              refine r_imul ?_
                                                              refine r_iload_n rfl ?_
                                                              refine r_iadd ?_
                                                              refine r_iconst ?_
                                                              refine r_isub ?_
                                                              refine r_iload_n rfl ?_
                                                              refine r_iastore rfl (by decide) (ixE (n_sub (a := ((3 * a) + 4)) (b := 2) (n_add (a := (3 * a)) (b := 4) (n_mul (a := 3) (b := a) rfl rfl) rfl) rfl (by omega)) (show (((3 * a) + 4) - 2) < 15 by omega) (by decide)) ?_
                                                              refine r_goto ?_
                                                              refine E_go 5 rfl ?_
                                                              refine r_ret rfl ?_
                                                              refine r_iload rfl ?_
                                                              refine r_iret rfl trivial ?_
                                                              rw [show 3 * a + 4 - 2 = 3 * a + 2 by omega]
                                                              exact hQ _ _ _ (R.setP ha ⟨k, hk, rfl⟩).rel
                                                          · have c_54_14 := (n_eq (a := 4) (b := 1) rfl rfl (by omega) (by omega)).mp c_54_14
                                                            omega
                                                        · have c_54_1 := (n_eq (a := 4) (b := 0) rfl rfl (by omega) (by omega)).mp c_54_1
                                                          omega
                                                    · have c_45_30 := (not_congr (n_le (a := 2) (b := 4) rfl rfl (by omega) (by omega))).mp c_45_30
                                                      omega
                                                  · have c_45_22 := (n_eq (a := 1) (b := 0) rfl rfl (by omega) (by omega)).mp c_45_22
                                                    omega
                                            · have c_36 := (n_eq (a := 1) (b := 0) rfl rfl (by omega) (by omega)).mp c_36
                                              omega
                                        · have c_29_13 := (n_eq (a := 4) (b := 2) rfl rfl (by omega) (by omega)).mp c_29_13
                                          omega
                                      · have c_29_2 := (n_eq (a := 4) (b := 1) rfl rfl (by omega) (by omega)).mp c_29_2
                                        omega
                              · exact absurd rfl ds
                            · exact absurd rfl ds
                          · have c_28 := (not_congr (n_lt (a := k) (b := 64) rfl rfl (by omega) (by omega))).mp c_28
                            omega
                        · exact absurd rfl ds
        · refine M_go (ls := [_, _, _, _, _]) (ml := 5) rfl rfl rfl (zl rfl) rfl ?_
          refine r_iload_n rfl ?_
          refine r_if_lt (fun c_1 => ?_) (fun c_1 => ?_)
          · have c_1 := (n_lt (a := 4) (b := 0) rfl rfl (by omega) (by omega)).mp c_1
            omega
          · have c_1 := (not_congr (n_lt (a := 4) (b := 0) rfl rfl (by omega) (by omega))).mp c_1
            refine r_iload_n rfl ?_
            refine r_iconst ?_
            refine r_icmp_gt (fun c_6 => ?_) (fun c_6 => ?_)
            · have c_6 := (n_lt (a := 4) (b := 4) rfl rfl (by omega) (by omega)).mp c_6
              omega
            · have c_6 := (not_congr (n_lt (a := 4) (b := 4) rfl rfl (by omega) (by omega))).mp c_6
              refine r_aload_n rfl ?_
              refine r_iload_n rfl ?_
              refine r_iload_n rfl ?_
              refine r_virtual (vs := []) (as := [_, _]) (by decide) (zl rfl) rfl rfl (zl rfl) (Nat.le_refl _) (Or.inr (Or.inr ⟨zt rfl, rfl, zt rfl⟩)) ?_
              refine M_go (ls := [_, _, _]) (ml := 3) rfl rfl rfl (zl rfl) rfl ?_
              refine r_iload_n rfl ?_
              refine r_if_eq (fun c_12_1 => ?_) (fun c_12_1 => ?_)
              · have c_12_1 := (n_eq (a := 4) (b := 0) rfl rfl (by omega) (by omega)).mp c_12_1
                omega
              · have c_12_1 := (not_congr (n_eq (a := 4) (b := 0) rfl rfl (by omega) (by omega))).mp c_12_1
                refine r_iload_n rfl ?_
                refine r_iconst ?_
                refine r_icmp_eq (fun c_12_6 => ?_) (fun c_12_6 => ?_)
                · have c_12_6 := (n_eq (a := 4) (b := 1) rfl rfl (by omega) (by omega)).mp c_12_6
                  omega
                · have c_12_6 := (not_congr (n_eq (a := 4) (b := 1) rfl rfl (by omega) (by omega))).mp c_12_6
                  refine r_aload_n rfl ?_
                  refine r_iload_n rfl ?_
                  refine r_virtual (vs := []) (as := [_]) (by decide) (zl rfl) rfl rfl (zl rfl) (Nat.le_refl _) (Or.inr (Or.inr ⟨zt rfl, rfl, zt rfl⟩)) ?_
                  refine s_isAunt (by omega) R.cn h5 ?_
                  rw [if_pos (inN_io ha (by omega))]
                  refine r_if_eq (fun c_12_14 => ?_) (fun c_12_14 => ?_)
                  · have c_12_14 := (n_eq (a := 1) (b := 0) rfl rfl (by omega) (by omega)).mp c_12_14
                    omega
                  · have c_12_14 := (not_congr (n_eq (a := 1) (b := 0) rfl rfl (by omega) (by omega))).mp c_12_14
                    refine r_nil ?_
                    refine E_go 1 rfl ?_
                    refine r_iconst ?_
                    refine r_goto ?_
                    refine E_go 3 rfl ?_
                    refine r_iret rfl (by first | exact Or.inl rfl | exact Or.inr rfl) ?_
                    refine r_if_eq (fun c_15 => ?_) (fun c_15 => ?_)
                    · have c_15 := (n_eq (a := 1) (b := 0) rfl rfl (by omega) (by omega)).mp c_15
                      omega
                    · have c_15 := (not_congr (n_eq (a := 1) (b := 0) rfl rfl (by omega) (by omega))).mp c_15
                      refine r_iload_n rfl ?_
                      refine r_if_lt (fun c_19 => ?_) (fun c_19 => ?_)
                      · have c_19 := (jlt (b := 0) rfl (by omega)).mp c_19
                        refine E_go 1 rfl ?_
                        refine r_bipush ?_
                        refine r_iret rfl trivial ?_
                        refine M_go (ls := [_, _, _, _, _]) (ml := 5) rfl rfl rfl (zl rfl) rfl ?_
                        refine r_iload_n rfl ?_
                        refine r_i2l ?_
                        refine r_lconst ?_
                        refine r_ldc2_w ?_
                        refine r_static (vs := [_, _, _]) (by decide) (zl rfl) rfl rfl (zl rfl) (Nat.le_refl _) rfl ?_
                        refine s_in0 (by omega) (x := (io 4)) (k := 5) (Int32.toInt_toInt64 _) i64_0 rfl ?_
                        rw [if_pos (inN_io (by omega) (by omega))]
                        refine r_if_eq (fun c_9 => ?_) (fun c_9 => ?_)
                        · have c_9 := (n_eq (a := 1) (b := 0) rfl rfl (by omega) (by omega)).mp c_9
                          omega
                        · have c_9 := (not_congr (n_eq (a := 1) (b := 0) rfl rfl (by omega) (by omega))).mp c_9
                          refine r_iload_n rfl ?_
                          refine r_iconst ?_
                          refine r_icmp_le (fun c_14 => ?_) (fun c_14 => ?_)
                          · have c_14 := (n_le (a := 4) (b := 1) rfl rfl (by omega) (by omega)).mp c_14
                            omega
                          · have c_14 := (not_congr (n_le (a := 4) (b := 1) rfl rfl (by omega) (by omega))).mp c_14
                            refine r_aload_n rfl ?_
                            refine r_iload_n rfl ?_
                            refine r_virtual (vs := []) (as := [_]) (by decide) (zl rfl) rfl rfl (zl rfl) (Nat.le_refl _) (Or.inr (Or.inr ⟨zt rfl, rfl, zt rfl⟩)) ?_
                            refine s_isOne (by omega) R.mn h5 ?_
                            rw [if_pos (inN_io ha (by omega))]
                            refine r_if_eq (fun c_22 => ?_) (fun c_22 => ?_)
                            · have c_22 := (n_eq (a := 1) (b := 0) rfl rfl (by omega) (by omega)).mp c_22
                              omega
                            · have c_22 := (not_congr (n_eq (a := 1) (b := 0) rfl rfl (by omega) (by omega))).mp c_22
                              refine r_nil ?_
                              refine E_go 1 rfl ?_
                              refine r_iload_n rfl ?_
                              refine r_i2l ?_
                              refine r_lconst ?_
                              refine r_iload_n rfl ?_
                              refine r_static (vs := [_]) (by decide) (zl rfl) rfl rfl (zl rfl) (Nat.le_refl _) rfl ?_
                              refine M_go (ls := [_]) (ml := 1) rfl rfl rfl (zl rfl) rfl ?_
                              refine r_iload_n rfl ?_
                              refine r_iconst ?_
                              refine r_icmp_ne (fun c_29_2 => ?_) (fun c_29_2 => ?_)
                              · have c_29_2 := (not_congr (n_eq (a := 4) (b := 1) rfl rfl (by omega) (by omega))).mp c_29_2
                                refine E_go 1 rfl ?_
                                refine r_iload_n rfl ?_
                                refine r_iconst ?_
                                refine r_icmp_ne (fun c_29_13 => ?_) (fun c_29_13 => ?_)
                                · have c_29_13 := (not_congr (n_eq (a := 4) (b := 2) rfl rfl (by omega) (by omega))).mp c_29_13
                                  refine E_go 2 rfl ?_
                                  refine r_iload_n rfl ?_
                                  refine r_iconst ?_
                                  refine r_icmp_ne (fun c_29_23 => ?_) (fun c_29_23 => ?_)
                                  · have c_29_23 := (not_congr (n_eq (a := 4) (b := 4) rfl rfl (by omega) (by omega))).mp c_29_23
                                    omega
                                  · have c_29_23 := (n_eq (a := 4) (b := 4) rfl rfl (by omega) (by omega)).mp c_29_23
                                    refine r_bipush ?_
                                    refine r_goto ?_
                                    refine E_go 4 rfl ?_
                                    refine r_iret rfl trivial ?_
                                    refine r_i2l ?_
                                    refine r_static (vs := [_, _, _]) (by decide) (zl rfl) rfl rfl (zl rfl) (Nat.le_refl _) rfl ?_
                                    refine s_in0 (by omega) (x := z) (k := 64) (Int32.toInt_toInt64 _) i64_0 rfl ?_
                                    rw [if_neg hv]
                                    refine r_if_ne (fun c_36 => ?_) (fun c_36 => ?_)
                                    · have c_36 := (not_congr (n_eq (a := 0) (b := 0) rfl rfl (by omega) (by omega))).mp c_36
                                      omega
                                    · have c_36 := (n_eq (a := 0) (b := 0) rfl rfl (by omega) (by omega)).mp c_36
                                      refine r_nil ?_
                                      refine E_go 2 rfl ?_
                                      refine r_bipush ?_
                                      refine r_iret rfl trivial ?_
                                      exact hQ _ _ _ R.rel
                                · have c_29_13 := (n_eq (a := 4) (b := 2) rfl rfl (by omega) (by omega)).mp c_29_13
                                  omega
                              · have c_29_2 := (n_eq (a := 4) (b := 1) rfl rfl (by omega) (by omega)).mp c_29_2
                                omega
                      · have c_19 := (not_congr (jlt (b := 0) rfl (by omega))).mp c_19
                        refine r_iload_n rfl ?_
                        refine r_aload_n rfl ?_
                        refine r_iload_n rfl ?_
                        refine r_virtual (vs := []) (as := [_]) (by decide) (zl rfl) rfl rfl (zl rfl) (Nat.le_refl _) (Or.inr (Or.inr ⟨zt rfl, rfl, zt rfl⟩)) ?_
                        refine M_go (ls := [_, _]) (ml := 2) rfl rfl rfl (zl rfl) rfl ?_
                        refine r_iload_n rfl ?_
                        refine r_table ?_
                        refine r_sw1 (fun cs => ?_) (fun ds => ?_)
                        · exact absurd ((n_eq (a := 4) (b := 0) rfl rfl (by omega) (by omega)).mp cs) (by omega)
                        refine r_sw1 (fun cs => ?_) (fun ds => ?_)
                        · exact absurd ((n_eq (a := 4) (b := 1) rfl rfl (by omega) (by omega)).mp cs) (by omega)
                        refine r_sw1 (fun cs => ?_) (fun ds => ?_)
                        · exact absurd ((n_eq (a := 4) (b := 2) rfl rfl (by omega) (by omega)).mp cs) (by omega)
                        refine r_sw1 (fun cs => ?_) (fun ds => ?_)
                        · exact absurd ((n_eq (a := 4) (b := 3) rfl rfl (by omega) (by omega)).mp cs) (by omega)
                        refine r_sw1 (fun cs => ?_) (fun ds => ?_)
                        · refine E_go 5 rfl ?_
                          refine r_bipush ?_
                          refine r_iret rfl trivial ?_
                          refine r_icmp_lt (fun c_28 => ?_) (fun c_28 => ?_)
                          · have c_28 := (jlt (b := 64) rfl (by omega)).mp c_28
                            omega
                          · have c_28 := (not_congr (jlt (b := 64) rfl (by omega))).mp c_28
                            refine r_nil ?_
                            refine E_go 1 rfl ?_
                            refine r_bipush ?_
                            refine r_iret rfl trivial ?_
                            refine M_go (ls := [_, _, _, _, _]) (ml := 5) rfl rfl rfl (zl rfl) rfl ?_
                            refine r_iload_n rfl ?_
                            refine r_i2l ?_
                            refine r_lconst ?_
                            refine r_ldc2_w ?_
                            refine r_static (vs := [_, _, _]) (by decide) (zl rfl) rfl rfl (zl rfl) (Nat.le_refl _) rfl ?_
                            refine s_in0 (by omega) (x := (io 4)) (k := 5) (Int32.toInt_toInt64 _) i64_0 rfl ?_
                            rw [if_pos (inN_io (by omega) (by omega))]
                            refine r_if_eq (fun c_9 => ?_) (fun c_9 => ?_)
                            · have c_9 := (n_eq (a := 1) (b := 0) rfl rfl (by omega) (by omega)).mp c_9
                              omega
                            · have c_9 := (not_congr (n_eq (a := 1) (b := 0) rfl rfl (by omega) (by omega))).mp c_9
                              refine r_iload_n rfl ?_
                              refine r_iconst ?_
                              refine r_icmp_le (fun c_14 => ?_) (fun c_14 => ?_)
                              · have c_14 := (n_le (a := 4) (b := 1) rfl rfl (by omega) (by omega)).mp c_14
                                omega
                              · have c_14 := (not_congr (n_le (a := 4) (b := 1) rfl rfl (by omega) (by omega))).mp c_14
                                refine r_aload_n rfl ?_
                                refine r_iload_n rfl ?_
                                refine r_virtual (vs := []) (as := [_]) (by decide) (zl rfl) rfl rfl (zl rfl) (Nat.le_refl _) (Or.inr (Or.inr ⟨zt rfl, rfl, zt rfl⟩)) ?_
                                refine s_isOne (by omega) R.mn h5 ?_
                                rw [if_pos (inN_io ha (by omega))]
                                refine r_if_eq (fun c_22 => ?_) (fun c_22 => ?_)
                                · have c_22 := (n_eq (a := 1) (b := 0) rfl rfl (by omega) (by omega)).mp c_22
                                  omega
                                · have c_22 := (not_congr (n_eq (a := 1) (b := 0) rfl rfl (by omega) (by omega))).mp c_22
                                  refine r_nil ?_
                                  refine E_go 1 rfl ?_
                                  refine r_iload_n rfl ?_
                                  refine r_i2l ?_
                                  refine r_lconst ?_
                                  refine r_iload_n rfl ?_
                                  refine r_static (vs := [_]) (by decide) (zl rfl) rfl rfl (zl rfl) (Nat.le_refl _) rfl ?_
                                  refine M_go (ls := [_]) (ml := 1) rfl rfl rfl (zl rfl) rfl ?_
                                  refine r_iload_n rfl ?_
                                  refine r_iconst ?_
                                  refine r_icmp_ne (fun c_29_2 => ?_) (fun c_29_2 => ?_)
                                  · have c_29_2 := (not_congr (n_eq (a := 4) (b := 1) rfl rfl (by omega) (by omega))).mp c_29_2
                                    refine E_go 1 rfl ?_
                                    refine r_iload_n rfl ?_
                                    refine r_iconst ?_
                                    refine r_icmp_ne (fun c_29_13 => ?_) (fun c_29_13 => ?_)
                                    · have c_29_13 := (not_congr (n_eq (a := 4) (b := 2) rfl rfl (by omega) (by omega))).mp c_29_13
                                      refine E_go 2 rfl ?_
                                      refine r_iload_n rfl ?_
                                      refine r_iconst ?_
                                      refine r_icmp_ne (fun c_29_23 => ?_) (fun c_29_23 => ?_)
                                      · have c_29_23 := (not_congr (n_eq (a := 4) (b := 4) rfl rfl (by omega) (by omega))).mp c_29_23
                                        omega
                                      · have c_29_23 := (n_eq (a := 4) (b := 4) rfl rfl (by omega) (by omega)).mp c_29_23
                                        refine r_bipush ?_
                                        refine r_goto ?_
                                        refine E_go 4 rfl ?_
                                        refine r_iret rfl trivial ?_
                                        refine r_i2l ?_
                                        refine r_static (vs := [_, _, _]) (by decide) (zl rfl) rfl rfl (zl rfl) (Nat.le_refl _) rfl ?_
                                        refine s_in0 (by omega) (x := z) (k := 64) (Int32.toInt_toInt64 _) i64_0 rfl ?_
                                        rw [if_neg hv]
                                        refine r_if_ne (fun c_36 => ?_) (fun c_36 => ?_)
                                        · have c_36 := (not_congr (n_eq (a := 0) (b := 0) rfl rfl (by omega) (by omega))).mp c_36
                                          omega
                                        · have c_36 := (n_eq (a := 0) (b := 0) rfl rfl (by omega) (by omega)).mp c_36
                                          refine r_nil ?_
                                          refine E_go 2 rfl ?_
                                          refine r_bipush ?_
                                          refine r_iret rfl trivial ?_
                                          exact hQ _ _ _ R.rel
                                    · have c_29_13 := (n_eq (a := 4) (b := 2) rfl rfl (by omega) (by omega)).mp c_29_13
                                      omega
                                  · have c_29_2 := (n_eq (a := 4) (b := 1) rfl rfl (by omega) (by omega)).mp c_29_2
                                    omega
                        · exact absurd rfl ds
      · refine M_go (ls := [_, _, _, _, _]) (ml := 5) rfl rfl rfl (zl rfl) rfl ?_
        refine r_iload_n rfl ?_
        refine r_if_lt (fun c_1 => ?_) (fun c_1 => ?_)
        · have c_1 := (n_lt (a := 4) (b := 0) rfl rfl (by omega) (by omega)).mp c_1
          omega
        · have c_1 := (not_congr (n_lt (a := 4) (b := 0) rfl rfl (by omega) (by omega))).mp c_1
          refine r_iload_n rfl ?_
          refine r_iconst ?_
          refine r_icmp_gt (fun c_6 => ?_) (fun c_6 => ?_)
          · have c_6 := (n_lt (a := 4) (b := 4) rfl rfl (by omega) (by omega)).mp c_6
            omega
          · have c_6 := (not_congr (n_lt (a := 4) (b := 4) rfl rfl (by omega) (by omega))).mp c_6
            refine r_aload_n rfl ?_
            refine r_iload_n rfl ?_
            refine r_iload_n rfl ?_
            refine r_virtual (vs := []) (as := [_, _]) (by decide) (zl rfl) rfl rfl (zl rfl) (Nat.le_refl _) (Or.inr (Or.inr ⟨zt rfl, rfl, zt rfl⟩)) ?_
            refine M_go (ls := [_, _, _]) (ml := 3) rfl rfl rfl (zl rfl) rfl ?_
            refine r_iload_n rfl ?_
            refine r_if_eq (fun c_12_1 => ?_) (fun c_12_1 => ?_)
            · have c_12_1 := (n_eq (a := 4) (b := 0) rfl rfl (by omega) (by omega)).mp c_12_1
              omega
            · have c_12_1 := (not_congr (n_eq (a := 4) (b := 0) rfl rfl (by omega) (by omega))).mp c_12_1
              refine r_iload_n rfl ?_
              refine r_iconst ?_
              refine r_icmp_eq (fun c_12_6 => ?_) (fun c_12_6 => ?_)
              · have c_12_6 := (n_eq (a := 4) (b := 1) rfl rfl (by omega) (by omega)).mp c_12_6
                omega
              · have c_12_6 := (not_congr (n_eq (a := 4) (b := 1) rfl rfl (by omega) (by omega))).mp c_12_6
                refine r_aload_n rfl ?_
                refine r_iload_n rfl ?_
                refine r_virtual (vs := []) (as := [_]) (by decide) (zl rfl) rfl rfl (zl rfl) (Nat.le_refl _) (Or.inr (Or.inr ⟨zt rfl, rfl, zt rfl⟩)) ?_
                refine s_isAunt (by omega) R.cn h5 ?_
                rw [if_neg hx]
                refine r_if_eq (fun c_12_14 => ?_) (fun c_12_14 => ?_)
                · have c_12_14 := (n_eq (a := 0) (b := 0) rfl rfl (by omega) (by omega)).mp c_12_14
                  refine E_go 2 rfl ?_
                  refine r_iconst ?_
                  refine r_nil ?_
                  refine E_go 3 rfl ?_
                  refine r_iret rfl (by first | exact Or.inl rfl | exact Or.inr rfl) ?_
                  refine r_if_eq (fun c_15 => ?_) (fun c_15 => ?_)
                  · have c_15 := (n_eq (a := 0) (b := 0) rfl rfl (by omega) (by omega)).mp c_15
                    refine E_go 1 rfl ?_
                    refine r_bipush ?_
                    refine r_iret rfl trivial ?_
                    refine M_go (ls := [_, _, _, _, _]) (ml := 5) rfl rfl rfl (zl rfl) rfl ?_
                    refine r_iload_n rfl ?_
                    refine r_i2l ?_
                    refine r_lconst ?_
                    refine r_ldc2_w ?_
                    refine r_static (vs := [_, _, _]) (by decide) (zl rfl) rfl rfl (zl rfl) (Nat.le_refl _) rfl ?_
                    refine s_in0 (by omega) (x := (io 4)) (k := 5) (Int32.toInt_toInt64 _) i64_0 rfl ?_
                    rw [if_pos (inN_io (by omega) (by omega))]
                    refine r_if_eq (fun c_9 => ?_) (fun c_9 => ?_)
                    · have c_9 := (n_eq (a := 1) (b := 0) rfl rfl (by omega) (by omega)).mp c_9
                      omega
                    · have c_9 := (not_congr (n_eq (a := 1) (b := 0) rfl rfl (by omega) (by omega))).mp c_9
                      refine r_iload_n rfl ?_
                      refine r_iconst ?_
                      refine r_icmp_le (fun c_14 => ?_) (fun c_14 => ?_)
                      · have c_14 := (n_le (a := 4) (b := 1) rfl rfl (by omega) (by omega)).mp c_14
                        omega
                      · have c_14 := (not_congr (n_le (a := 4) (b := 1) rfl rfl (by omega) (by omega))).mp c_14
                        refine r_aload_n rfl ?_
                        refine r_iload_n rfl ?_
                        refine r_virtual (vs := []) (as := [_]) (by decide) (zl rfl) rfl rfl (zl rfl) (Nat.le_refl _) (Or.inr (Or.inr ⟨zt rfl, rfl, zt rfl⟩)) ?_
                        refine s_isOne (by omega) R.mn h5 ?_
                        rw [if_neg hx]
                        refine r_if_eq (fun c_22 => ?_) (fun c_22 => ?_)
                        · have c_22 := (n_eq (a := 0) (b := 0) rfl rfl (by omega) (by omega)).mp c_22
                          refine E_go 2 rfl ?_
                          refine r_bipush ?_
                          refine r_iret rfl trivial ?_
                          exact hQ _ _ _ R.rel
                        · have c_22 := (not_congr (n_eq (a := 0) (b := 0) rfl rfl (by omega) (by omega))).mp c_22
                          omega
                  · have c_15 := (not_congr (n_eq (a := 0) (b := 0) rfl rfl (by omega) (by omega))).mp c_15
                    omega
                · have c_12_14 := (not_congr (n_eq (a := 0) (b := 0) rfl rfl (by omega) (by omega))).mp c_12_14
                  omega
  · have hw2 : ¬ (0 ≤ y.toInt ∧ y.toInt < 5) := hw
    refine M_go (ls := [_, _, _, _, _]) (ml := 5) rfl rfl rfl (zl rfl) rfl ?_
    refine r_iload_n rfl ?_
    refine r_if_lt (fun c_1 => ?_) (fun c_1 => ?_)
    · have c_1 := (jlt (b := 0) rfl (by omega)).mp c_1
      refine E_go 1 rfl ?_
      refine r_bipush ?_
      refine r_iret rfl trivial ?_
      refine M_go (ls := [_, _, _, _, _]) (ml := 5) rfl rfl rfl (zl rfl) rfl ?_
      refine r_iload_n rfl ?_
      refine r_i2l ?_
      refine r_lconst ?_
      refine r_ldc2_w ?_
      refine r_static (vs := [_, _, _]) (by decide) (zl rfl) rfl rfl (zl rfl) (Nat.le_refl _) rfl ?_
      refine s_in0 (by omega) (x := y) (k := 5) (Int32.toInt_toInt64 _) i64_0 rfl ?_
      rw [if_neg hw]
      refine r_if_eq (fun c_9 => ?_) (fun c_9 => ?_)
      · have c_9 := (n_eq (a := 0) (b := 0) rfl rfl (by omega) (by omega)).mp c_9
        refine E_go 2 rfl ?_
        refine r_bipush ?_
        refine r_iret rfl trivial ?_
        exact hQ _ _ _ R.rel
      · have c_9 := (not_congr (n_eq (a := 0) (b := 0) rfl rfl (by omega) (by omega))).mp c_9
        omega
    · have c_1 := (not_congr (jlt (b := 0) rfl (by omega))).mp c_1
      refine r_iload_n rfl ?_
      refine r_iconst ?_
      refine r_icmp_gt (fun c_6 => ?_) (fun c_6 => ?_)
      · have c_6 := (klt (b := 4) rfl (by omega)).mp c_6
        refine E_go 1 rfl ?_
        refine r_bipush ?_
        refine r_iret rfl trivial ?_
        refine M_go (ls := [_, _, _, _, _]) (ml := 5) rfl rfl rfl (zl rfl) rfl ?_
        refine r_iload_n rfl ?_
        refine r_i2l ?_
        refine r_lconst ?_
        refine r_ldc2_w ?_
        refine r_static (vs := [_, _, _]) (by decide) (zl rfl) rfl rfl (zl rfl) (Nat.le_refl _) rfl ?_
        refine s_in0 (by omega) (x := y) (k := 5) (Int32.toInt_toInt64 _) i64_0 rfl ?_
        rw [if_neg hw]
        refine r_if_eq (fun c_9 => ?_) (fun c_9 => ?_)
        · have c_9 := (n_eq (a := 0) (b := 0) rfl rfl (by omega) (by omega)).mp c_9
          refine E_go 2 rfl ?_
          refine r_bipush ?_
          refine r_iret rfl trivial ?_
          exact hQ _ _ _ R.rel
        · have c_9 := (not_congr (n_eq (a := 0) (b := 0) rfl rfl (by omega) (by omega))).mp c_9
          omega
      · have c_6 := (not_congr (klt (b := 4) rfl (by omega))).mp c_6
        omega

set_option maxRecDepth 10000 in
theorem tz_force {xs : xSc} {m : Nat} {I : Nat → Nat → Int32} {L : Nat → Nat → Int64} {Q : Value → Value → xHp → Prop} (hm : 90 ≤ m) (hR : Rel I) {x : Int32} (hQ : ∀ (x : Int32) J L2, Rel J → Q (.int x) (.int x) (Hp J L2)) : M xs m xi_X6_force [.ref 0, .int x] (Hp I L) (fun r1 h1 => M xs m xi_X7_force [.ref 61, .int x] h1 (fun r2 h2 => Q r1 r2 h2)) := by
  obtain ⟨m, rfl⟩ : ∃ k, m = k + 6 := ⟨m - 6, by omega⟩
  obtain ⟨n, tc, r, tp, R⟩ := hR
  have h5 := R.n5
  have hr6 := R.r6
  have ht6 := R.t6
  have hrt := R.rt
  have hp160 := R.2.2.1.1.1
  by_cases hx : inN tc x
  · obtain ⟨t, ht, rfl⟩ := inN_ex hx (by omega)
    refine M_go (ls := [_, _, _]) (ml := 3) rfl rfl rfl (zl rfl) rfl ?_
    refine r_iload_n rfl ?_
    refine r_if_lt (fun c_1 => ?_) (fun c_1 => ?_)
    · have c_1 := (n_lt (a := t) (b := 0) rfl rfl (by omega) (by omega)).mp c_1
      omega
    · have c_1 := (not_congr (n_lt (a := t) (b := 0) rfl rfl (by omega) (by omega))).mp c_1
      refine r_iload_n rfl ?_
      refine r_aload_n rfl ?_
      refine r_getI (by decide) rfl rfl (by decide) R.ct ?_
      refine r_icmp_lt (fun c_9 => ?_) (fun c_9 => ?_)
      · have c_9 := (n_lt (a := t) (b := tc) rfl rfl (by omega) (by omega)).mp c_9
        refine E_go 2 rfl ?_
        refine r_aload_n rfl ?_
        refine r_getA (q := 1) (by decide) rfl rfl (by decide) ?_
        refine r_getI (by decide) rfl rfl (by decide) R.cr ?_
        refine r_istore_n (ls' := [_, _, _]) (zt rfl) rfl ?_
        refine r_aload_n rfl ?_
        refine r_getA (q := 1) (by decide) rfl rfl (by decide) ?_
        refine r_iload_n rfl ?_
        refine r_putI rfl rfl (by decide) ?_
        refine r_iload_n rfl ?_
        refine r_iret rfl trivial ?_
        refine M_go (ls := [_, _, _]) (ml := 3) rfl rfl rfl (zl rfl) rfl ?_
        refine r_iload_n rfl ?_
        refine r_i2l ?_
        refine r_lconst ?_
        refine r_aload_n rfl ?_
        refine r_getI (by decide) rfl rfl (by decide) R.mt ?_
        refine r_iconst ?_
        refine r_isub ?_
        refine r_i2l ?_
        refine r_static (vs := [_, _, _]) (by decide) (zl rfl) rfl rfl (zl rfl) (Nat.le_refl _) rfl ?_
        refine s_in0 (by omega) (x := (io t)) (k := tc) (Int32.toInt_toInt64 _) i64_0 (by rw [Int32.toInt_toInt64, sub_int (by rw [io_int (by omega), show (1 : Int32).toInt = 1 from rfl]; omega) (by rw [io_int (by omega), show (1 : Int32).toInt = 1 from rfl]; omega), io_int (by omega)]; rfl) ?_
        rw [if_pos (inN_io ht (by omega))]
        refine r_if_ne (fun c_13 => ?_) (fun c_13 => ?_)
        · have c_13 := (not_congr (n_eq (a := 1) (b := 0) rfl rfl (by omega) (by omega))).mp c_13
          refine E_go 1 rfl ?_
          refine r_aload_n rfl ?_
          refine r_getI (by decide) rfl rfl (by decide) R.mr ?_
          refine r_istore_n (ls' := [_, _, _]) (zt rfl) rfl ?_
          refine r_aload_n rfl ?_
          refine r_iload_n rfl ?_
          refine r_putI rfl rfl (by decide) ?_
          refine r_iload_n rfl ?_
          refine r_iret rfl trivial ?_
          exact hQ _ _ _ (R.force ht).rel
        · have c_13 := (n_eq (a := 1) (b := 0) rfl rfl (by omega) (by omega)).mp c_13
          omega
      · have c_9 := (not_congr (n_lt (a := t) (b := tc) rfl rfl (by omega) (by omega))).mp c_9
        omega
  · refine M_go (ls := [_, _, _]) (ml := 3) rfl rfl rfl (zl rfl) rfl ?_
    refine r_iload_n rfl ?_
    refine r_if_lt (fun c_1 => ?_) (fun c_1 => ?_)
    · have c_1 := (jlt (b := 0) rfl (by omega)).mp c_1
      refine E_go 1 rfl ?_
      refine r_bipush ?_
      refine r_iret rfl trivial ?_
      refine M_go (ls := [_, _, _]) (ml := 3) rfl rfl rfl (zl rfl) rfl ?_
      refine r_iload_n rfl ?_
      refine r_i2l ?_
      refine r_lconst ?_
      refine r_aload_n rfl ?_
      refine r_getI (by decide) rfl rfl (by decide) R.mt ?_
      refine r_iconst ?_
      refine r_isub ?_
      refine r_i2l ?_
      refine r_static (vs := [_, _, _]) (by decide) (zl rfl) rfl rfl (zl rfl) (Nat.le_refl _) rfl ?_
      refine s_in0 (by omega) (x := x) (k := tc) (Int32.toInt_toInt64 _) i64_0 (by rw [Int32.toInt_toInt64, sub_int (by rw [io_int (by omega), show (1 : Int32).toInt = 1 from rfl]; omega) (by rw [io_int (by omega), show (1 : Int32).toInt = 1 from rfl]; omega), io_int (by omega)]; rfl) ?_
      rw [if_neg hx]
      refine r_if_ne (fun c_13 => ?_) (fun c_13 => ?_)
      · have c_13 := (not_congr (n_eq (a := 0) (b := 0) rfl rfl (by omega) (by omega))).mp c_13
        omega
      · have c_13 := (n_eq (a := 0) (b := 0) rfl rfl (by omega) (by omega)).mp c_13
        refine r_bipush ?_
        refine r_iret rfl trivial ?_
        exact hQ _ _ _ R.rel
    · have c_1 := (not_congr (jlt (b := 0) rfl (by omega))).mp c_1
      refine r_iload_n rfl ?_
      refine r_aload_n rfl ?_
      refine r_getI (by decide) rfl rfl (by decide) R.ct ?_
      refine r_icmp_lt (fun c_9 => ?_) (fun c_9 => ?_)
      · have c_9 := (jlt (b := tc) rfl (by omega)).mp c_9
        omega
      · have c_9 := (not_congr (jlt (b := tc) rfl (by omega))).mp c_9
        refine r_nil ?_
        refine E_go 1 rfl ?_
        refine r_bipush ?_
        refine r_iret rfl trivial ?_
        refine M_go (ls := [_, _, _]) (ml := 3) rfl rfl rfl (zl rfl) rfl ?_
        refine r_iload_n rfl ?_
        refine r_i2l ?_
        refine r_lconst ?_
        refine r_aload_n rfl ?_
        refine r_getI (by decide) rfl rfl (by decide) R.mt ?_
        refine r_iconst ?_
        refine r_isub ?_
        refine r_i2l ?_
        refine r_static (vs := [_, _, _]) (by decide) (zl rfl) rfl rfl (zl rfl) (Nat.le_refl _) rfl ?_
        refine s_in0 (by omega) (x := x) (k := tc) (Int32.toInt_toInt64 _) i64_0 (by rw [Int32.toInt_toInt64, sub_int (by rw [io_int (by omega), show (1 : Int32).toInt = 1 from rfl]; omega) (by rw [io_int (by omega), show (1 : Int32).toInt = 1 from rfl]; omega), io_int (by omega)]; rfl) ?_
        rw [if_neg hx]
        refine r_if_ne (fun c_13 => ?_) (fun c_13 => ?_)
        · have c_13 := (not_congr (n_eq (a := 0) (b := 0) rfl rfl (by omega) (by omega))).mp c_13
          omega
        · have c_13 := (n_eq (a := 0) (b := 0) rfl rfl (by omega) (by omega)).mp c_13
          refine r_bipush ?_
          refine r_iret rfl trivial ?_
          exact hQ _ _ _ R.rel

set_option maxRecDepth 10000 in
theorem tz_feed {xs : xSc} {m : Nat} {I : Nat → Nat → Int32} {L : Nat → Nat → Int64} {Q : Value → Value → xHp → Prop} (hm : 90 ≤ m) (hR : Rel I) {x : Int32} (hQ : ∀ (x : Int32) J L2, Rel J → Q (.int x) (.int x) (Hp J L2)) : M xs m xi_X6_feed [.ref 0, .int x] (Hp I L) (fun r1 h1 => M xs m xi_X7_feed [.ref 61, .int x] h1 (fun r2 h2 => Q r1 r2 h2)) := by
  obtain ⟨m, rfl⟩ : ∃ k, m = k + 6 := ⟨m - 6, by omega⟩
  obtain ⟨n, tc, r, tp, R⟩ := hR
  have h5 := R.n5
  have hr6 := R.r6
  have ht6 := R.t6
  have hrt := R.rt
  have hp160 := R.2.2.1.1.1
  by_cases hx : inN 256 x
  · obtain ⟨k, hk, rfl⟩ := inN_ex hx (by omega)
    by_cases hf : tp = 160
    · refine M_go (ls := [_, _]) (ml := 2) rfl rfl rfl (zl rfl) rfl ?_
      refine r_iload_n rfl ?_
      refine r_if_lt (fun c_1 => ?_) (fun c_1 => ?_)
      · have c_1 := (n_lt (a := k) (b := 0) rfl rfl (by omega) (by omega)).mp c_1
        omega
      · have c_1 := (not_congr (n_lt (a := k) (b := 0) rfl rfl (by omega) (by omega))).mp c_1
        refine r_iload_n rfl ?_
        refine r_sipush ?_
        refine r_icmp_le (fun c_8 => ?_) (fun c_8 => ?_)
        · have c_8 := (n_le (a := k) (b := 255) rfl rfl (by omega) (by omega)).mp c_8
          refine E_go 2 rfl ?_
          refine r_aload_n rfl ?_
          refine r_getA (q := 29) (by decide) rfl rfl (by decide) ?_
          refine r_iload_n rfl ?_
          refine r_virtual (vs := []) (as := [_]) (by decide) (zl rfl) rfl rfl (zl rfl) (Nat.le_refl _) (Or.inr (Or.inr ⟨zt rfl, rfl, zt rfl⟩)) ?_
          refine M_go (ls := [_, _]) (ml := 2) rfl rfl rfl (zl rfl) rfl ?_
          refine r_aload_n rfl ?_
          refine r_getI (by decide) rfl rfl (by decide) R.cp ?_
          refine r_sipush ?_
          refine r_icmp_lt (fun c_19_7 => ?_) (fun c_19_7 => ?_)
          · have c_19_7 := (n_lt (a := tp) (b := 160) rfl rfl (by omega) (by omega)).mp c_19_7
            omega
          · have c_19_7 := (not_congr (n_lt (a := tp) (b := 160) rfl rfl (by omega) (by omega))).mp c_19_7
            refine r_iconst ?_
            refine r_iret rfl (by first | exact Or.inl rfl | exact Or.inr rfl) ?_
            refine r_if_eq (fun c_22 => ?_) (fun c_22 => ?_)
            · have c_22 := (n_eq (a := 0) (b := 0) rfl rfl (by omega) (by omega)).mp c_22
              refine E_go 3 rfl ?_
              refine r_bipush ?_
              refine r_nil ?_
              refine E_go 4 rfl ?_
              refine r_iret rfl trivial ?_
              refine M_go (ls := [_, _]) (ml := 2) rfl rfl rfl (zl rfl) rfl ?_
              refine r_iload_n rfl ?_
              refine r_i2l ?_
              refine r_lconst ?_
              refine r_ldc2_w ?_
              refine r_static (vs := [_, _, _]) (by decide) (zl rfl) rfl rfl (zl rfl) (Nat.le_refl _) rfl ?_
              refine s_in0 (by omega) (x := (io k)) (k := 256) (Int32.toInt_toInt64 _) i64_0 rfl ?_
              rw [if_pos (inN_io hk (by omega))]
              refine r_if_ne (fun c_9 => ?_) (fun c_9 => ?_)
              · have c_9 := (not_congr (n_eq (a := 1) (b := 0) rfl rfl (by omega) (by omega))).mp c_9
                refine E_go 1 rfl ?_
                refine r_aload_n rfl ?_
                refine r_getI (by decide) rfl rfl (by decide) R.mp ?_
                refine r_sipush ?_
                refine r_icmp_ne (fun c_22 => ?_) (fun c_22 => ?_)
                · have c_22 := (not_congr (n_eq (a := tp) (b := 160) rfl rfl (by omega) (by omega))).mp c_22
                  omega
                · have c_22 := (n_eq (a := tp) (b := 160) rfl rfl (by omega) (by omega)).mp c_22
                  refine r_bipush ?_
                  refine r_iret rfl trivial ?_
                  exact hQ _ _ _ R.rel
              · have c_9 := (n_eq (a := 1) (b := 0) rfl rfl (by omega) (by omega)).mp c_9
                omega
            · have c_22 := (not_congr (n_eq (a := 0) (b := 0) rfl rfl (by omega) (by omega))).mp c_22
              omega
        · have c_8 := (not_congr (n_le (a := k) (b := 255) rfl rfl (by omega) (by omega))).mp c_8
          omega
    · refine M_go (ls := [_, _]) (ml := 2) rfl rfl rfl (zl rfl) rfl ?_
      refine r_iload_n rfl ?_
      refine r_if_lt (fun c_1 => ?_) (fun c_1 => ?_)
      · have c_1 := (n_lt (a := k) (b := 0) rfl rfl (by omega) (by omega)).mp c_1
        omega
      · have c_1 := (not_congr (n_lt (a := k) (b := 0) rfl rfl (by omega) (by omega))).mp c_1
        refine r_iload_n rfl ?_
        refine r_sipush ?_
        refine r_icmp_le (fun c_8 => ?_) (fun c_8 => ?_)
        · have c_8 := (n_le (a := k) (b := 255) rfl rfl (by omega) (by omega)).mp c_8
          refine E_go 2 rfl ?_
          refine r_aload_n rfl ?_
          refine r_getA (q := 29) (by decide) rfl rfl (by decide) ?_
          refine r_iload_n rfl ?_
          refine r_virtual (vs := []) (as := [_]) (by decide) (zl rfl) rfl rfl (zl rfl) (Nat.le_refl _) (Or.inr (Or.inr ⟨zt rfl, rfl, zt rfl⟩)) ?_
          refine M_go (ls := [_, _]) (ml := 2) rfl rfl rfl (zl rfl) rfl ?_
          refine r_aload_n rfl ?_
          refine r_getI (by decide) rfl rfl (by decide) R.cp ?_
          refine r_sipush ?_
          refine r_icmp_lt (fun c_19_7 => ?_) (fun c_19_7 => ?_)
          · have c_19_7 := (n_lt (a := tp) (b := 160) rfl rfl (by omega) (by omega)).mp c_19_7
            refine E_go 1 rfl ?_
            refine r_aload_n rfl ?_
            refine r_getA (q := 32) (by decide) rfl rfl (by decide) ?_
            refine r_aload_n rfl ?_
            refine r_getI (by decide) rfl rfl (by decide) R.cp ?_
            refine r_iload_n rfl ?_
            refine r_iastore rfl (by decide) (ixE rfl (show tp < 160 by omega) (by decide)) ?_
            refine r_aload_n rfl ?_
            refine r_dup rfl ?_
            refine r_getI (by decide) rfl rfl (by decide) R.cp ?_
            refine r_iconst ?_
            refine r_iadd ?_
            refine r_putI rfl rfl (by decide) ?_
            refine r_iconst ?_
            refine r_iret rfl (by first | exact Or.inl rfl | exact Or.inr rfl) ?_
            refine r_if_eq (fun c_22 => ?_) (fun c_22 => ?_)
            · have c_22 := (n_eq (a := 1) (b := 0) rfl rfl (by omega) (by omega)).mp c_22
              omega
            · have c_22 := (not_congr (n_eq (a := 1) (b := 0) rfl rfl (by omega) (by omega))).mp c_22
              refine r_aload_n rfl ?_
              refine r_getA (q := 29) (by decide) rfl rfl (by decide) ?_
              refine r_getI (by decide) rfl rfl (by decide) (n_add (a := tp) (b := 1) rfl rfl) ?_
              refine r_goto ?_
              refine E_go 4 rfl ?_
              refine r_iret rfl trivial ?_
              refine M_go (ls := [_, _]) (ml := 2) rfl rfl rfl (zl rfl) rfl ?_
              refine r_iload_n rfl ?_
              refine r_i2l ?_
              refine r_lconst ?_
              refine r_ldc2_w ?_
              refine r_static (vs := [_, _, _]) (by decide) (zl rfl) rfl rfl (zl rfl) (Nat.le_refl _) rfl ?_
              refine s_in0 (by omega) (x := (io k)) (k := 256) (Int32.toInt_toInt64 _) i64_0 rfl ?_
              rw [if_pos (inN_io hk (by omega))]
              refine r_if_ne (fun c_9 => ?_) (fun c_9 => ?_)
              · have c_9 := (not_congr (n_eq (a := 1) (b := 0) rfl rfl (by omega) (by omega))).mp c_9
                refine E_go 1 rfl ?_
                refine r_aload_n rfl ?_
                refine r_getI (by decide) rfl rfl (by decide) R.mp ?_
                refine r_sipush ?_
                refine r_icmp_ne (fun c_22 => ?_) (fun c_22 => ?_)
                · have c_22 := (not_congr (n_eq (a := tp) (b := 160) rfl rfl (by omega) (by omega))).mp c_22
                  refine E_go 2 rfl ?_
                  refine r_aload_n rfl ?_
                  refine r_getA (q := 64) (by decide) rfl rfl (by decide) ?_
                  refine r_aload_n rfl ?_
                  refine r_getI (by decide) rfl rfl (by decide) R.mp ?_
                  refine r_iload_n rfl ?_
                  refine r_iastore rfl (by decide) (ixE rfl (show tp < 160 by omega) (by decide)) ?_
                  refine r_aload_n rfl ?_
                  refine r_dup rfl ?_
                  refine r_getI (by decide) rfl rfl (by decide) R.mp ?_
                  refine r_iconst ?_
                  refine r_iadd ?_
                  refine r_putI rfl rfl (by decide) ?_
                  refine r_aload_n rfl ?_
                  refine r_getI (by decide) rfl rfl (by decide) (n_add (a := tp) (b := 1) rfl rfl) ?_
                  refine r_iret rfl trivial ?_
                  exact hQ _ _ _ (R.feed (by omega) ⟨k, hk, rfl⟩).rel
                · have c_22 := (n_eq (a := tp) (b := 160) rfl rfl (by omega) (by omega)).mp c_22
                  omega
              · have c_9 := (n_eq (a := 1) (b := 0) rfl rfl (by omega) (by omega)).mp c_9
                omega
          · have c_19_7 := (not_congr (n_lt (a := tp) (b := 160) rfl rfl (by omega) (by omega))).mp c_19_7
            omega
        · have c_8 := (not_congr (n_le (a := k) (b := 255) rfl rfl (by omega) (by omega))).mp c_8
          omega
  · refine M_go (ls := [_, _]) (ml := 2) rfl rfl rfl (zl rfl) rfl ?_
    refine r_iload_n rfl ?_
    refine r_if_lt (fun c_1 => ?_) (fun c_1 => ?_)
    · have c_1 := (jlt (b := 0) rfl (by omega)).mp c_1
      refine E_go 1 rfl ?_
      refine r_bipush ?_
      refine r_iret rfl trivial ?_
      refine M_go (ls := [_, _]) (ml := 2) rfl rfl rfl (zl rfl) rfl ?_
      refine r_iload_n rfl ?_
      refine r_i2l ?_
      refine r_lconst ?_
      refine r_ldc2_w ?_
      refine r_static (vs := [_, _, _]) (by decide) (zl rfl) rfl rfl (zl rfl) (Nat.le_refl _) rfl ?_
      refine s_in0 (by omega) (x := x) (k := 256) (Int32.toInt_toInt64 _) i64_0 rfl ?_
      rw [if_neg hx]
      refine r_if_ne (fun c_9 => ?_) (fun c_9 => ?_)
      · have c_9 := (not_congr (n_eq (a := 0) (b := 0) rfl rfl (by omega) (by omega))).mp c_9
        omega
      · have c_9 := (n_eq (a := 0) (b := 0) rfl rfl (by omega) (by omega)).mp c_9
        refine r_bipush ?_
        refine r_iret rfl trivial ?_
        exact hQ _ _ _ R.rel
    · have c_1 := (not_congr (jlt (b := 0) rfl (by omega))).mp c_1
      refine r_iload_n rfl ?_
      refine r_sipush ?_
      refine r_icmp_le (fun c_8 => ?_) (fun c_8 => ?_)
      · have c_8 := (jle (b := 255) rfl (by omega)).mp c_8
        omega
      · have c_8 := (not_congr (jle (b := 255) rfl (by omega))).mp c_8
        refine r_nil ?_
        refine E_go 1 rfl ?_
        refine r_bipush ?_
        refine r_iret rfl trivial ?_
        refine M_go (ls := [_, _]) (ml := 2) rfl rfl rfl (zl rfl) rfl ?_
        refine r_iload_n rfl ?_
        refine r_i2l ?_
        refine r_lconst ?_
        refine r_ldc2_w ?_
        refine r_static (vs := [_, _, _]) (by decide) (zl rfl) rfl rfl (zl rfl) (Nat.le_refl _) rfl ?_
        refine s_in0 (by omega) (x := x) (k := 256) (Int32.toInt_toInt64 _) i64_0 rfl ?_
        rw [if_neg hx]
        refine r_if_ne (fun c_9 => ?_) (fun c_9 => ?_)
        · have c_9 := (not_congr (n_eq (a := 0) (b := 0) rfl rfl (by omega) (by omega))).mp c_9
          omega
        · have c_9 := (n_eq (a := 0) (b := 0) rfl rfl (by omega) (by omega)).mp c_9
          refine r_bipush ?_
          refine r_iret rfl trivial ?_
          exact hQ _ _ _ R.rel
