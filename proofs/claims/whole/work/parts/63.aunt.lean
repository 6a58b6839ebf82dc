/-! calls: count, taken, image, back, aunt -/

set_option maxRecDepth 10000 in
theorem s_thirstOfAll {xs : xSc} {m : Nat} {I : Nat → Nat → Int32} {L : Nat → Nat → Int64} {Q : Value → xHp → Prop} (hm : 1 ≤ m) {n : Nat} (hn : I 1 3 = io n) (h5 : n ≤ 5) (hQ : Q (.int (sm (I 4) n)) (Hp I L)) : M xs m xi_X4_thirstOfAll [.ref 1] (Hp I L) Q := by
  obtain ⟨m, rfl⟩ : ∃ k, m = k + 1 := ⟨m - 1, by omega⟩
  have key : ∀ d a, a + d = n → E xs m xi_X4_thirstOfAll 82 Q 4 [.ref 1, .int (sm (I 4) a), .int (io a)] [] (82, I, L, xF0) := by
    intro d
    induction d using Nat.strongRecOn with
    | _ d ih =>
    intro a hd
    refine E_go 1 rfl ?_
    refine r_iload_n rfl ?_
    refine r_aload_n rfl ?_
    refine r_getI (by decide) rfl rfl (by decide) hn ?_
    refine r_icmp_ge (fun c_9 => ?_) (fun c_9 => ?_)
    · have c_9 := (n_le (a := n) (b := a) rfl rfl (by omega) (by omega)).mp c_9
      refine E_go 2 rfl ?_
      refine r_iload_n rfl ?_
      refine r_iret rfl trivial ?_
      rw [show a = n by omega]
      exact hQ
    · have c_9 := (not_congr (n_le (a := n) (b := a) rfl rfl (by omega) (by omega))).mp c_9
      refine r_iload_n rfl ?_
      refine r_aload_n rfl ?_
      refine r_getA (q := 4) (by decide) rfl rfl (by decide) ?_
      refine r_iload_n rfl ?_
      refine r_iaload (by decide) rfl (by decide) (ixE rfl (show a < 5 by omega) (by decide)) rfl ?_
      refine r_iadd ?_
      refine r_istore_n (ls' := [_, _, _]) (zt rfl) rfl ?_
      refine r_iincN (y := io (a + 1)) (ls' := [_, _, _]) rfl (zt rfl) (n_add (a := a) (b := 1) rfl rfl) rfl ?_
      refine r_goto ?_
      exact ih (d - 1) (by omega) (a + 1) (by omega)
  refine M_go (ls := [_, _, _]) (ml := 3) rfl rfl rfl (zl rfl) rfl ?_
  refine r_iconst ?_
  refine r_istore_n (ls' := [_, _, _]) (zt rfl) rfl ?_
  refine r_iconst ?_
  refine r_istore_n (ls' := [_, _, _]) (zt rfl) rfl ?_
  refine r_nil ?_
  exact key n 0 (by omega)

set_option maxRecDepth 10000 in
theorem tz_count {xs : xSc} {m : Nat} {I : Nat → Nat → Int32} {L : Nat → Nat → Int64} {Q : Value → Value → xHp → Prop} (hm : 90 ≤ m) (hR : Rel I) {x : Int32} (hQ : ∀ (x : Int32) J L2, Rel J → Q (.int x) (.int x) (Hp J L2)) : M xs m xi_X6_count [.ref 0, .int x] (Hp I L) (fun r1 h1 => M xs m xi_X7_count [.ref 61, .int x] h1 (fun r2 h2 => Q r1 r2 h2)) := by
  obtain ⟨m, rfl⟩ : ∃ k, m = k + 6 := ⟨m - 6, by omega⟩
  obtain ⟨n, tc, r, tp, R⟩ := hR
  have h5 := R.n5
  have hr6 := R.r6
  have ht6 := R.t6
  have hrt := R.rt
  have hp160 := R.2.2.1.1.1
  by_cases hw : inN 6 x
  · obtain ⟨k, hk, rfl⟩ := inN_ex (n := 6) hw (by omega)
    have ek : k = 0 ∨ k = 1 ∨ k = 2 ∨ k = 3 ∨ k = 4 ∨ k = 5 := by omega
    rcases ek with rfl | rfl | rfl | rfl | rfl | rfl
    · refine M_go (ls := [_, _]) (ml := 2) rfl rfl rfl (zl rfl) rfl ?_
      refine r_iload_n rfl ?_
      refine r_table ?_
      refine r_sw1 (fun cs => ?_) (fun ds => ?_)
      · refine E_go 1 rfl ?_
        refine r_aload_n rfl ?_
        refine r_getA (q := 1) (by decide) rfl rfl (by decide) ?_
        refine r_getI (by decide) rfl rfl (by decide) R.cn ?_
        refine r_iret rfl trivial ?_
        refine M_go (ls := [_, _, _, _]) (ml := 4) rfl rfl rfl (zl rfl) rfl ?_
        refine r_iload_n rfl ?_
        refine r_i2l ?_
        refine r_lconst ?_
        refine r_ldc2_w ?_
        refine r_static (vs := [_, _, _]) (by decide) (zl rfl) rfl rfl (zl rfl) (Nat.le_refl _) rfl ?_
        refine s_in0 (by omega) (x := (io 0)) (k := 6) (Int32.toInt_toInt64 _) i64_0 rfl ?_
        rw [if_pos (inN_io (by omega) (by omega))]
        refine r_if_ne (fun c_9 => ?_) (fun c_9 => ?_)
        · have c_9 := (not_congr (n_eq (a := 1) (b := 0) rfl rfl (by omega) (by omega))).mp c_9
          refine E_go 1 rfl ?_
          refine r_iload_n rfl ?_
          refine r_iconst ?_
          refine r_icmp_ge (fun c_17 => ?_) (fun c_17 => ?_)
          · have c_17 := (n_le (a := 5) (b := 0) rfl rfl (by omega) (by omega)).mp c_17
            omega
          · have c_17 := (not_congr (n_le (a := 5) (b := 0) rfl rfl (by omega) (by omega))).mp c_17
            refine r_iload_n rfl ?_
            refine r_if_ne (fun c_21 => ?_) (fun c_21 => ?_)
            · have c_21 := (not_congr (n_eq (a := 0) (b := 0) rfl rfl (by omega) (by omega))).mp c_21
              omega
            · have c_21 := (n_eq (a := 0) (b := 0) rfl rfl (by omega) (by omega)).mp c_21
              refine r_aload_n rfl ?_
              refine r_getI (by decide) rfl rfl (by decide) R.mn ?_
              refine r_goto ?_
              refine E_go 6 rfl ?_
              refine r_iret rfl trivial ?_
              exact hQ _ _ _ R.rel
        · have c_9 := (n_eq (a := 1) (b := 0) rfl rfl (by omega) (by omega)).mp c_9
          omega
      · exact absurd rfl ds
    · refine M_go (ls := [_, _]) (ml := 2) rfl rfl rfl (zl rfl) rfl ?_
      refine r_iload_n rfl ?_
      refine r_table ?_
      refine r_sw1 (fun cs => ?_) (fun ds => ?_)
      · exact absurd ((n_eq (a := 1) (b := 0) rfl rfl (by omega) (by omega)).mp cs) (by omega)
      refine r_sw1 (fun cs => ?_) (fun ds => ?_)
      · refine E_go 2 rfl ?_
        refine r_aload_n rfl ?_
        refine r_getA (q := 1) (by decide) rfl rfl (by decide) ?_
        refine r_getI (by decide) rfl rfl (by decide) rfl ?_
        refine r_iret rfl trivial ?_
        refine M_go (ls := [_, _, _, _]) (ml := 4) rfl rfl rfl (zl rfl) rfl ?_
        refine r_iload_n rfl ?_
        refine r_i2l ?_
        refine r_lconst ?_
        refine r_ldc2_w ?_
        refine r_static (vs := [_, _, _]) (by decide) (zl rfl) rfl rfl (zl rfl) (Nat.le_refl _) rfl ?_
        refine s_in0 (by omega) (x := (io 1)) (k := 6) (Int32.toInt_toInt64 _) i64_0 rfl ?_
        rw [if_pos (inN_io (by omega) (by omega))]
        refine r_if_ne (fun c_9 => ?_) (fun c_9 => ?_)
        · have c_9 := (not_congr (n_eq (a := 1) (b := 0) rfl rfl (by omega) (by omega))).mp c_9
          refine E_go 1 rfl ?_
          refine r_iload_n rfl ?_
          refine r_iconst ?_
          refine r_icmp_ge (fun c_17 => ?_) (fun c_17 => ?_)
          · have c_17 := (n_le (a := 5) (b := 1) rfl rfl (by omega) (by omega)).mp c_17
            omega
          · have c_17 := (not_congr (n_le (a := 5) (b := 1) rfl rfl (by omega) (by omega))).mp c_17
            refine r_iload_n rfl ?_
            refine r_if_ne (fun c_21 => ?_) (fun c_21 => ?_)
            · have c_21 := (not_congr (n_eq (a := 1) (b := 0) rfl rfl (by omega) (by omega))).mp c_21
              refine E_go 2 rfl ?_
              refine r_iload_n rfl ?_
              refine r_iconst ?_
              refine r_icmp_ne (fun c_33 => ?_) (fun c_33 => ?_)
              · have c_33 := (not_congr (n_eq (a := 1) (b := 1) rfl rfl (by omega) (by omega))).mp c_33
                omega
              · have c_33 := (n_eq (a := 1) (b := 1) rfl rfl (by omega) (by omega)).mp c_33
                refine r_aload_n rfl ?_
                refine r_getI (by decide) rfl rfl (by decide) R.mo ?_
                refine r_goto ?_
                refine E_go 6 rfl ?_
                refine r_iret rfl trivial ?_
                exact hQ _ _ _ R.rel
            · have c_21 := (n_eq (a := 1) (b := 0) rfl rfl (by omega) (by omega)).mp c_21
              omega
        · have c_9 := (n_eq (a := 1) (b := 0) rfl rfl (by omega) (by omega)).mp c_9
          omega
      · exact absurd rfl ds
    · refine M_go (ls := [_, _]) (ml := 2) rfl rfl rfl (zl rfl) rfl ?_
      refine r_iload_n rfl ?_
      refine r_table ?_
      refine r_sw1 (fun cs => ?_) (fun ds => ?_)
      · exact absurd ((n_eq (a := 2) (b := 0) rfl rfl (by omega) (by omega)).mp cs) (by omega)
      refine r_sw1 (fun cs => ?_) (fun ds => ?_)
      · exact absurd ((n_eq (a := 2) (b := 1) rfl rfl (by omega) (by omega)).mp cs) (by omega)
      refine r_sw1 (fun cs => ?_) (fun ds => ?_)
      · refine E_go 3 rfl ?_
        refine r_aload_n rfl ?_
        refine r_getI (by decide) rfl rfl (by decide) R.ct ?_
        refine r_iret rfl trivial ?_
        refine M_go (ls := [_, _, _, _]) (ml := 4) rfl rfl rfl (zl rfl) rfl ?_
        refine r_iload_n rfl ?_
        refine r_i2l ?_
        refine r_lconst ?_
        refine r_ldc2_w ?_
        refine r_static (vs := [_, _, _]) (by decide) (zl rfl) rfl rfl (zl rfl) (Nat.le_refl _) rfl ?_
        refine s_in0 (by omega) (x := (io 2)) (k := 6) (Int32.toInt_toInt64 _) i64_0 rfl ?_
        rw [if_pos (inN_io (by omega) (by omega))]
        refine r_if_ne (fun c_9 => ?_) (fun c_9 => ?_)
        · have c_9 := (not_congr (n_eq (a := 1) (b := 0) rfl rfl (by omega) (by omega))).mp c_9
          refine E_go 1 rfl ?_
          refine r_iload_n rfl ?_
          refine r_iconst ?_
          refine r_icmp_ge (fun c_17 => ?_) (fun c_17 => ?_)
          · have c_17 := (n_le (a := 5) (b := 2) rfl rfl (by omega) (by omega)).mp c_17
            omega
          · have c_17 := (not_congr (n_le (a := 5) (b := 2) rfl rfl (by omega) (by omega))).mp c_17
            refine r_iload_n rfl ?_
            refine r_if_ne (fun c_21 => ?_) (fun c_21 => ?_)
            · have c_21 := (not_congr (n_eq (a := 2) (b := 0) rfl rfl (by omega) (by omega))).mp c_21
              refine E_go 2 rfl ?_
              refine r_iload_n rfl ?_
              refine r_iconst ?_
              refine r_icmp_ne (fun c_33 => ?_) (fun c_33 => ?_)
              · have c_33 := (not_congr (n_eq (a := 2) (b := 1) rfl rfl (by omega) (by omega))).mp c_33
                refine E_go 3 rfl ?_
                refine r_iload_n rfl ?_
                refine r_iconst ?_
                refine r_icmp_ne (fun c_45 => ?_) (fun c_45 => ?_)
                · have c_45 := (not_congr (n_eq (a := 2) (b := 2) rfl rfl (by omega) (by omega))).mp c_45
                  omega
                · have c_45 := (n_eq (a := 2) (b := 2) rfl rfl (by omega) (by omega)).mp c_45
                  refine r_aload_n rfl ?_
                  refine r_getI (by decide) rfl rfl (by decide) R.mt ?_
                  refine r_goto ?_
                  refine E_go 6 rfl ?_
                  refine r_iret rfl trivial ?_
                  exact hQ _ _ _ R.rel
              · have c_33 := (n_eq (a := 2) (b := 1) rfl rfl (by omega) (by omega)).mp c_33
                omega
            · have c_21 := (n_eq (a := 2) (b := 0) rfl rfl (by omega) (by omega)).mp c_21
              omega
        · have c_9 := (n_eq (a := 1) (b := 0) rfl rfl (by omega) (by omega)).mp c_9
          omega
      · exact absurd rfl ds
    · refine M_go (ls := [_, _]) (ml := 2) rfl rfl rfl (zl rfl) rfl ?_
      refine r_iload_n rfl ?_
      refine r_table ?_
      refine r_sw1 (fun cs => ?_) (fun ds => ?_)
      · exact absurd ((n_eq (a := 3) (b := 0) rfl rfl (by omega) (by omega)).mp cs) (by omega)
      refine r_sw1 (fun cs => ?_) (fun ds => ?_)
      · exact absurd ((n_eq (a := 3) (b := 1) rfl rfl (by omega) (by omega)).mp cs) (by omega)
      refine r_sw1 (fun cs => ?_) (fun ds => ?_)
      · exact absurd ((n_eq (a := 3) (b := 2) rfl rfl (by omega) (by omega)).mp cs) (by omega)
      refine r_sw1 (fun cs => ?_) (fun ds => ?_)
      · refine E_go 4 rfl ?_
        refine r_aload_n rfl ?_
        refine r_getA (q := 29) (by decide) rfl rfl (by decide) ?_
        refine r_getI (by decide) rfl rfl (by decide) R.cp ?_
        refine r_iret rfl trivial ?_
        refine M_go (ls := [_, _, _, _]) (ml := 4) rfl rfl rfl (zl rfl) rfl ?_
        refine r_iload_n rfl ?_
        refine r_i2l ?_
        refine r_lconst ?_
        refine r_ldc2_w ?_
        refine r_static (vs := [_, _, _]) (by decide) (zl rfl) rfl rfl (zl rfl) (Nat.le_refl _) rfl ?_
        refine s_in0 (by omega) (x := (io 3)) (k := 6) (Int32.toInt_toInt64 _) i64_0 rfl ?_
        rw [if_pos (inN_io (by omega) (by omega))]
        refine r_if_ne (fun c_9 => ?_) (fun c_9 => ?_)
        · have c_9 := (not_congr (n_eq (a := 1) (b := 0) rfl rfl (by omega) (by omega))).mp c_9
          refine E_go 1 rfl ?_
          refine r_iload_n rfl ?_
          refine r_iconst ?_
          refine r_icmp_ge (fun c_17 => ?_) (fun c_17 => ?_)
          · have c_17 := (n_le (a := 5) (b := 3) rfl rfl (by omega) (by omega)).mp c_17
            omega
          · have c_17 := (not_congr (n_le (a := 5) (b := 3) rfl rfl (by omega) (by omega))).mp c_17
            refine r_iload_n rfl ?_
            refine r_if_ne (fun c_21 => ?_) (fun c_21 => ?_)
            · have c_21 := (not_congr (n_eq (a := 3) (b := 0) rfl rfl (by omega) (by omega))).mp c_21
              refine E_go 2 rfl ?_
              refine r_iload_n rfl ?_
              refine r_iconst ?_
              refine r_icmp_ne (fun c_33 => ?_) (fun c_33 => ?_)
              · have c_33 := (not_congr (n_eq (a := 3) (b := 1) rfl rfl (by omega) (by omega))).mp c_33
                refine E_go 3 rfl ?_
                refine r_iload_n rfl ?_
                refine r_iconst ?_
                refine r_icmp_ne (fun c_45 => ?_) (fun c_45 => ?_)
                · have c_45 := (not_congr (n_eq (a := 3) (b := 2) rfl rfl (by omega) (by omega))).mp c_45
                  refine E_go 4 rfl ?_
                  refine r_iload_n rfl ?_
                  refine r_iconst ?_
                  refine r_icmp_ne (fun c_57 => ?_) (fun c_57 => ?_)
                  · have c_57 := (not_congr (n_eq (a := 3) (b := 3) rfl rfl (by omega) (by omega))).mp c_57
                    omega
                  · have c_57 := (n_eq (a := 3) (b := 3) rfl rfl (by omega) (by omega)).mp c_57
                    refine r_aload_n rfl ?_
                    refine r_getI (by decide) rfl rfl (by decide) R.mp ?_
                    refine r_goto ?_
                    refine E_go 6 rfl ?_
                    refine r_iret rfl trivial ?_
                    exact hQ _ _ _ R.rel
                · have c_45 := (n_eq (a := 3) (b := 2) rfl rfl (by omega) (by omega)).mp c_45
                  omega
              · have c_33 := (n_eq (a := 3) (b := 1) rfl rfl (by omega) (by omega)).mp c_33
                omega
            · have c_21 := (n_eq (a := 3) (b := 0) rfl rfl (by omega) (by omega)).mp c_21
              omega
        · have c_9 := (n_eq (a := 1) (b := 0) rfl rfl (by omega) (by omega)).mp c_9
          omega
      · exact absurd rfl ds
    · refine M_go (ls := [_, _]) (ml := 2) rfl rfl rfl (zl rfl) rfl ?_
      refine r_iload_n rfl ?_
      refine r_table ?_
      refine r_sw1 (fun cs => ?_) (fun ds => ?_)
      · exact absurd ((n_eq (a := 4) (b := 0) rfl rfl (by omega) (by omega)).mp cs) (by omega)
      refine r_sw1 (fun cs => ?_) (fun ds => ?_)
      · exact absurd ((n_eq (a := 4) (b := 1) rfl rfl (by omega) (by omega)).mp cs) (by omega)
      refine r_sw1 (fun cs => ?_) (fun ds => ?_)
      · exact absurd ((n_eq (a := 4) (b := 2) rfl rfl (by omega) (by omega)).mp cs) (by omega)
      refine r_sw1 (fun cs => ?_) (fun ds => ?_)
      · exact absurd ((n_eq (a := 4) (b := 3) rfl rfl (by omega) (by omega)).mp cs) (by omega)
      refine r_sw1 (fun cs => ?_) (fun ds => ?_)
      · refine E_go 5 rfl ?_
        refine r_aload_n rfl ?_
        refine r_getA (q := 1) (by decide) rfl rfl (by decide) ?_
        refine r_getI (by decide) rfl rfl (by decide) R.cr ?_
        refine r_iret rfl trivial ?_
        refine M_go (ls := [_, _, _, _]) (ml := 4) rfl rfl rfl (zl rfl) rfl ?_
        refine r_iload_n rfl ?_
        refine r_i2l ?_
        refine r_lconst ?_
        refine r_ldc2_w ?_
        refine r_static (vs := [_, _, _]) (by decide) (zl rfl) rfl rfl (zl rfl) (Nat.le_refl _) rfl ?_
        refine s_in0 (by omega) (x := (io 4)) (k := 6) (Int32.toInt_toInt64 _) i64_0 rfl ?_
        rw [if_pos (inN_io (by omega) (by omega))]
        refine r_if_ne (fun c_9 => ?_) (fun c_9 => ?_)
        · have c_9 := (not_congr (n_eq (a := 1) (b := 0) rfl rfl (by omega) (by omega))).mp c_9
          refine E_go 1 rfl ?_
          refine r_iload_n rfl ?_
          refine r_iconst ?_
          refine r_icmp_ge (fun c_17 => ?_) (fun c_17 => ?_)
          · have c_17 := (n_le (a := 5) (b := 4) rfl rfl (by omega) (by omega)).mp c_17
            omega
          · have c_17 := (not_congr (n_le (a := 5) (b := 4) rfl rfl (by omega) (by omega))).mp c_17
            refine r_iload_n rfl ?_
            refine r_if_ne (fun c_21 => ?_) (fun c_21 => ?_)
            · have c_21 := (not_congr (n_eq (a := 4) (b := 0) rfl rfl (by omega) (by omega))).mp c_21
              refine E_go 2 rfl ?_
              refine r_iload_n rfl ?_
              refine r_iconst ?_
              refine r_icmp_ne (fun c_33 => ?_) (fun c_33 => ?_)
              · have c_33 := (not_congr (n_eq (a := 4) (b := 1) rfl rfl (by omega) (by omega))).mp c_33
                refine E_go 3 rfl ?_
                refine r_iload_n rfl ?_
                refine r_iconst ?_
                refine r_icmp_ne (fun c_45 => ?_) (fun c_45 => ?_)
                · have c_45 := (not_congr (n_eq (a := 4) (b := 2) rfl rfl (by omega) (by omega))).mp c_45
                  refine E_go 4 rfl ?_
                  refine r_iload_n rfl ?_
                  refine r_iconst ?_
                  refine r_icmp_ne (fun c_57 => ?_) (fun c_57 => ?_)
                  · have c_57 := (not_congr (n_eq (a := 4) (b := 3) rfl rfl (by omega) (by omega))).mp c_57
                    refine E_go 5 rfl ?_
                    refine r_aload_n rfl ?_
                    refine r_getI (by decide) rfl rfl (by decide) R.mr ?_
                    refine r_nil ?_
                    refine E_go 6 rfl ?_
                    refine r_iret rfl trivial ?_
                    exact hQ _ _ _ R.rel
                  · have c_57 := (n_eq (a := 4) (b := 3) rfl rfl (by omega) (by omega)).mp c_57
                    omega
                · have c_45 := (n_eq (a := 4) (b := 2) rfl rfl (by omega) (by omega)).mp c_45
                  omega
              · have c_33 := (n_eq (a := 4) (b := 1) rfl rfl (by omega) (by omega)).mp c_33
                omega
            · have c_21 := (n_eq (a := 4) (b := 0) rfl rfl (by omega) (by omega)).mp c_21
              omega
        · have c_9 := (n_eq (a := 1) (b := 0) rfl rfl (by omega) (by omega)).mp c_9
          omega
      · exact absurd rfl ds
    · refine M_go (ls := [_, _]) (ml := 2) rfl rfl rfl (zl rfl) rfl ?_
      refine r_iload_n rfl ?_
      refine r_table ?_
      refine r_sw1 (fun cs => ?_) (fun ds => ?_)
      · exact absurd ((n_eq (a := 5) (b := 0) rfl rfl (by omega) (by omega)).mp cs) (by omega)
      refine r_sw1 (fun cs => ?_) (fun ds => ?_)
      · exact absurd ((n_eq (a := 5) (b := 1) rfl rfl (by omega) (by omega)).mp cs) (by omega)
      refine r_sw1 (fun cs => ?_) (fun ds => ?_)
      · exact absurd ((n_eq (a := 5) (b := 2) rfl rfl (by omega) (by omega)).mp cs) (by omega)
      refine r_sw1 (fun cs => ?_) (fun ds => ?_)
      · exact absurd ((n_eq (a := 5) (b := 3) rfl rfl (by omega) (by omega)).mp cs) (by omega)
      refine r_sw1 (fun cs => ?_) (fun ds => ?_)
      · exact absurd ((n_eq (a := 5) (b := 4) rfl rfl (by omega) (by omega)).mp cs) (by omega)
      refine r_sw1 (fun cs => ?_) (fun ds => ?_)
      · refine E_go 6 rfl ?_
        refine r_aload_n rfl ?_
        refine r_getA (q := 1) (by decide) rfl rfl (by decide) ?_
        refine r_virtual (vs := []) (as := []) (by decide) (zl rfl) rfl rfl (zl rfl) (Nat.le_refl _) (Or.inr (Or.inr ⟨zt rfl, rfl, zt rfl⟩)) ?_
        refine s_thirstOfAll (by omega) R.cn h5 ?_
        refine r_iret rfl trivial ?_
        refine M_go (ls := [_, _, _, _]) (ml := 4) rfl rfl rfl (zl rfl) rfl ?_
        refine r_iload_n rfl ?_
        refine r_i2l ?_
        refine r_lconst ?_
        refine r_ldc2_w ?_
        refine r_static (vs := [_, _, _]) (by decide) (zl rfl) rfl rfl (zl rfl) (Nat.le_refl _) rfl ?_
        refine s_in0 (by omega) (x := (io 5)) (k := 6) (Int32.toInt_toInt64 _) i64_0 rfl ?_
        rw [if_pos (inN_io (by omega) (by omega))]
        refine r_if_ne (fun c_9 => ?_) (fun c_9 => ?_)
        · have c_9 := (not_congr (n_eq (a := 1) (b := 0) rfl rfl (by omega) (by omega))).mp c_9
          refine E_go 1 rfl ?_
          refine r_iload_n rfl ?_
          refine r_iconst ?_
          refine r_icmp_ge (fun c_17 => ?_) (fun c_17 => ?_)
          · have c_17 := (n_le (a := 5) (b := 5) rfl rfl (by omega) (by omega)).mp c_17
            refine E_go 7 rfl ?_
            refine r_iconst ?_
            refine r_istore_n (ls' := [_, _, _, _]) (zt rfl) rfl ?_
            refine r_iconst ?_
            refine r_istore_n (ls' := [_, _, _, _]) (zt rfl) rfl ?_
            refine r_nil ?_
            have key : ∀ d a, a + d = n → E xs (m + 5) xi_X7_count 82 (fun r2 h2 => Q (.int (sm (I 4) n)) r2 h2) 76 [.ref 61, .int 5, .int (sm (mTh I) a), .int (io a)] [] (82, I, L, xF0) := by
              intro d
              induction d using Nat.strongRecOn with
              | _ d ih =>
              intro a hd
              refine E_go 8 rfl ?_
              refine r_iload_n rfl ?_
              refine r_aload_n rfl ?_
              refine r_getI (by decide) rfl rfl (by decide) R.mn ?_
              refine r_icmp_ge (fun c_81 => ?_) (fun c_81 => ?_)
              · have c_81 := (n_le (a := n) (b := a) rfl rfl (by omega) (by omega)).mp c_81
                refine E_go 9 rfl ?_
                refine r_iload_n rfl ?_
                refine r_iret rfl trivial ?_
                have e : a = n := by omega
                subst e
                rw [sm_c (fun b hb => R.th hb)]
                exact hQ _ _ _ R.rel
              · have c_81 := (not_congr (n_le (a := n) (b := a) rfl rfl (by omega) (by omega))).mp c_81
                refine r_iload_n rfl ?_
                refine r_aload_n rfl ?_
                refine r_getA (q := 66) (by decide) rfl rfl (by decide) ?_
                refine r_iconst ?_
                refine r_iload_n rfl ?_
                refine r_imul ?_
                refine r_iconst ?_
                refine r_iadd ?_
                refine r_iaload (by decide) rfl (by decide) (ixE (n_add (a := (3 * a)) (b := 1) (n_mul (a := 3) (b := a) rfl rfl) rfl) (show ((3 * a) + 1) < 15 by omega) (by decide)) (show I 66 (3 * a + 1) = mTh I a from rfl) ?_
                refine r_iadd ?_
                refine r_istore_n (ls' := [_, _, _, _]) (zt rfl) rfl ?_
                refine r_iincN (y := io (a + 1)) (ls' := [_, _, _, _]) rfl (zt rfl) (n_add (a := a) (b := 1) rfl rfl) rfl ?_
                refine r_goto ?_
                exact ih (d - 1) (by omega) (a + 1) (by omega)
            exact key n 0 (by omega)
          · have c_17 := (not_congr (n_le (a := 5) (b := 5) rfl rfl (by omega) (by omega))).mp c_17
            omega
        · have c_9 := (n_eq (a := 1) (b := 0) rfl rfl (by omega) (by omega)).mp c_9
          omega
      · exact absurd rfl ds
  · refine M_go (ls := [_, _]) (ml := 2) rfl rfl rfl (zl rfl) rfl ?_
    refine r_iload_n rfl ?_
    refine r_table ?_
    refine r_sw1 (fun cs => absurd (by rw [cs]; exact ⟨by decide, by decide⟩) hw) (fun _ => ?_)
    refine r_sw1 (fun cs => absurd (by rw [cs]; exact ⟨by decide, by decide⟩) hw) (fun _ => ?_)
    refine r_sw1 (fun cs => absurd (by rw [cs]; exact ⟨by decide, by decide⟩) hw) (fun _ => ?_)
    refine r_sw1 (fun cs => absurd (by rw [cs]; exact ⟨by decide, by decide⟩) hw) (fun _ => ?_)
    refine r_sw1 (fun cs => absurd (by rw [cs]; exact ⟨by decide, by decide⟩) hw) (fun _ => ?_)
    refine r_sw1 (fun cs => absurd (by rw [cs]; exact ⟨by decide, by decide⟩) hw) (fun _ => ?_)
    refine r_sw0 ?_
    refine E_go 7 rfl ?_
    refine r_bipush ?_
    refine r_iret rfl trivial ?_
    refine M_go (ls := [_, _, _, _]) (ml := 4) rfl rfl rfl (zl rfl) rfl ?_
    refine r_iload_n rfl ?_
    refine r_i2l ?_
    refine r_lconst ?_
    refine r_ldc2_w ?_
    refine r_static (vs := [_, _, _]) (by decide) (zl rfl) rfl rfl (zl rfl) (Nat.le_refl _) rfl ?_
    refine s_in0 (by omega) (x := x) (k := 6) (Int32.toInt_toInt64 _) i64_0 rfl ?_
    rw [if_neg hw]
    refine r_if_ne (fun c_9 => ?_) (fun c_9 => ?_)
    · have c_9 := (not_congr (n_eq (a := 0) (b := 0) rfl rfl (by omega) (by omega))).mp c_9
      omega
    · have c_9 := (n_eq (a := 0) (b := 0) rfl rfl (by omega) (by omega)).mp c_9
      refine r_bipush ?_
      refine r_iret rfl trivial ?_
      exact hQ _ _ _ R.rel

set_option maxRecDepth 10000 in
theorem tz_taken {xs : xSc} {m : Nat} {I : Nat → Nat → Int32} {L : Nat → Nat → Int64} {Q : Value → Value → xHp → Prop} (hm : 90 ≤ m) (hR : Rel I) {x y : Int32} (hQ : ∀ (x : Int32) J L2, Rel J → Q (.int x) (.int x) (Hp J L2)) : M xs m xi_X6_taken [.ref 0, .int x, .int y] (Hp I L) (fun r1 h1 => M xs m xi_X7_taken [.ref 61, .int x, .int y] h1 (fun r2 h2 => Q r1 r2 h2)) := by
  obtain ⟨m, rfl⟩ : ∃ k, m = k + 6 := ⟨m - 6, by omega⟩
  obtain ⟨n, tc, r, tp, R⟩ := hR
  have h5 := R.n5
  have hr6 := R.r6
  have ht6 := R.t6
  have hrt := R.rt
  have hp160 := R.2.2.1.1.1
  by_cases hy : inN 6 y
  · obtain ⟨k, hk, rfl⟩ := inN_ex (n := 6) hy (by omega)
    by_cases hx : inN n x
    · obtain ⟨a, ha, rfl⟩ := inN_ex hx (by omega)
      obtain ⟨c, hc, ec⟩ := (R.1.2.2.2 a ha).1.2
      have ek : c = 0 ∨ c = 1 ∨ c = 2 ∨ c = 3 ∨ c = 4 ∨ c = 5 := by omega
      rcases ek with rfl | rfl | rfl | rfl | rfl | rfl
      · refine M_go (ls := [_, _, _]) (ml := 3) rfl rfl rfl (zl rfl) rfl ?_
        refine r_iload_n rfl ?_
        refine r_if_lt (fun c_1 => ?_) (fun c_1 => ?_)
        · have c_1 := (n_lt (a := k) (b := 0) rfl rfl (by omega) (by omega)).mp c_1
          omega
        · have c_1 := (not_congr (n_lt (a := k) (b := 0) rfl rfl (by omega) (by omega))).mp c_1
          refine r_iload_n rfl ?_
          refine r_bipush ?_
          refine r_icmp_lt (fun c_7 => ?_) (fun c_7 => ?_)
          · have c_7 := (n_lt (a := k) (b := 6) rfl rfl (by omega) (by omega)).mp c_7
            refine E_go 2 rfl ?_
            refine r_aload_n rfl ?_
            refine r_iload_n rfl ?_
            refine r_virtual (vs := []) (as := [_]) (by decide) (zl rfl) rfl rfl (zl rfl) (Nat.le_refl _) (Or.inr (Or.inr ⟨zt rfl, rfl, zt rfl⟩)) ?_
            refine s_isAunt (by omega) R.cn h5 ?_
            rw [if_pos (inN_io ha (by omega))]
            refine r_if_ne (fun c_18 => ?_) (fun c_18 => ?_)
            · have c_18 := (not_congr (n_eq (a := 1) (b := 0) rfl rfl (by omega) (by omega))).mp c_18
              refine E_go 3 rfl ?_
              refine r_aload_n rfl ?_
              refine r_getA (q := 1) (by decide) rfl rfl (by decide) ?_
              refine r_getA (q := 2) (by decide) rfl rfl (by decide) ?_
              refine r_iload_n rfl ?_
              refine r_iaload (by decide) rfl (by decide) (ixE rfl (show a < 5 by omega) (by decide)) ec ?_
              refine r_iload_n rfl ?_
              refine r_static (vs := [_, _]) (by decide) (zl rfl) rfl rfl (zl rfl) (Nat.le_refl _) rfl ?_
              refine M_go (ls := [_, _, _, _]) (ml := 4) rfl rfl rfl (zl rfl) rfl ?_
              refine r_iload_n rfl ?_
              refine r_istore_n (ls' := [_, _, _, _]) (zt rfl) rfl ?_
              refine r_iconst ?_
              refine r_istore_n (ls' := [_, _, _, _]) (zt rfl) rfl ?_
              refine r_nil ?_
              refine E_go 1 rfl ?_
              refine r_iload_n rfl ?_
              refine r_bipush ?_
              refine r_icmp_ge (fun c_34_7 => ?_) (fun c_34_7 => ?_)
              · have c_34_7 := (n_le (a := 6) (b := 0) rfl rfl (by omega) (by omega)).mp c_34_7
                omega
              · have c_34_7 := (not_congr (n_le (a := 6) (b := 0) rfl rfl (by omega) (by omega))).mp c_34_7
                refine r_iload_n rfl ?_
                refine r_if_lt (fun c_34_11 => ?_) (fun c_34_11 => ?_)
                · have c_34_11 := (n_lt (a := 0) (b := 0) rfl rfl (by omega) (by omega)).mp c_34_11
                  omega
                · have c_34_11 := (not_congr (n_lt (a := 0) (b := 0) rfl rfl (by omega) (by omega))).mp c_34_11
                  refine r_iload_n rfl ?_
                  refine r_bipush ?_
                  refine r_icmp_ge (fun c_34_17 => ?_) (fun c_34_17 => ?_)
                  · have c_34_17 := (n_le (a := 6) (b := 0) rfl rfl (by omega) (by omega)).mp c_34_17
                    omega
                  · have c_34_17 := (not_congr (n_le (a := 6) (b := 0) rfl rfl (by omega) (by omega))).mp c_34_17
                    refine r_iload_n rfl ?_
                    refine r_iload_n rfl ?_
                    refine r_icmp_ne (fun c_34_22 => ?_) (fun c_34_22 => ?_)
                    · have c_34_22 := (not_congr (n_eq (a := 0) (b := k) rfl rfl (by omega) (by omega))).mp c_34_22
                      refine E_go 2 rfl ?_
                      refine r_getstatic3 rfl ?_
                      refine r_iload_n rfl ?_
                      refine r_ialoadK rfl (vp_io (a := 0) (by omega) (by omega)) ?_
                      refine r_istore_n (ls' := [_, _, _, _]) (zt rfl) rfl ?_
                      refine r_iincN (y := io 1) (ls' := [_, _, _, _]) rfl (zt rfl) rfl rfl ?_
                      refine r_goto ?_
                      refine E_go 1 rfl ?_
                      refine r_iload_n rfl ?_
                      refine r_bipush ?_
                      refine r_icmp_ge (fun c_34_7 => ?_) (fun c_34_7 => ?_)
                      · have c_34_7 := (n_le (a := 6) (b := 1) rfl rfl (by omega) (by omega)).mp c_34_7
                        omega
                      · have c_34_7 := (not_congr (n_le (a := 6) (b := 1) rfl rfl (by omega) (by omega))).mp c_34_7
                        refine r_iload_n rfl ?_
                        refine r_if_lt (fun c_34_11 => ?_) (fun c_34_11 => ?_)
                        · refine E_go 3 rfl ?_
                          refine r_iconst ?_
                          refine r_iret rfl (by first | exact Or.inl rfl | exact Or.inr rfl) ?_
                          refine r_if_eq (fun c_37 => ?_) (fun c_37 => ?_)
                          · have c_37 := (n_eq (a := 0) (b := 0) rfl rfl (by omega) (by omega)).mp c_37
                            refine E_go 4 rfl ?_
                            refine r_bipush ?_
                            refine r_nil ?_
                            refine E_go 5 rfl ?_
                            refine r_iret rfl trivial ?_
                            refine M_go (ls := [_, _, _, _]) (ml := 4) rfl rfl rfl (zl rfl) rfl ?_
                            refine r_iload_n rfl ?_
                            refine r_i2l ?_
                            refine r_lconst ?_
                            refine r_ldc2_w ?_
                            refine r_static (vs := [_, _, _]) (by decide) (zl rfl) rfl rfl (zl rfl) (Nat.le_refl _) rfl ?_
                            refine s_in0 (by omega) (x := (io k)) (k := 6) (Int32.toInt_toInt64 _) i64_0 rfl ?_
                            rw [if_pos (inN_io hk (by omega))]
                            refine r_if_ne (fun c_9 => ?_) (fun c_9 => ?_)
                            · have c_9 := (not_congr (n_eq (a := 1) (b := 0) rfl rfl (by omega) (by omega))).mp c_9
                              refine E_go 1 rfl ?_
                              refine r_aload_n rfl ?_
                              refine r_iload_n rfl ?_
                              refine r_virtual (vs := []) (as := [_]) (by decide) (zl rfl) rfl rfl (zl rfl) (Nat.le_refl _) (Or.inr (Or.inr ⟨zt rfl, rfl, zt rfl⟩)) ?_
                              refine s_isOne (by omega) R.mn h5 ?_
                              rw [if_pos (inN_io ha (by omega))]
                              refine r_if_ne (fun c_20 => ?_) (fun c_20 => ?_)
                              · have c_20 := (not_congr (n_eq (a := 1) (b := 0) rfl rfl (by omega) (by omega))).mp c_20
                                refine E_go 2 rfl ?_
                                refine r_aload_n rfl ?_
                                refine r_getA (q := 65) (by decide) rfl rfl (by decide) ?_
                                refine r_iload_n rfl ?_
                                refine r_iaload (by decide) rfl (by decide) (ixE rfl (show a < 5 by omega) (by decide)) ((R.ki ha).trans ec) ?_
                                refine r_istore_n (ls' := [_, _, _, _]) (zt rfl) rfl ?_
                                refine r_nil ?_
                                refine E_go 3 rfl ?_
                                refine r_iload_n rfl ?_
                                refine r_iconst ?_
                                refine r_icmp_eq (fun c_35 => ?_) (fun c_35 => ?_)
                                · exact absurd c_35 (by decide)
                                · refine r_iload_n rfl ?_
                                  refine r_iload_n rfl ?_
                                  refine r_icmp_eq (fun c_40 => ?_) (fun c_40 => ?_)
                                  · have c_40 := (n_eq (a := 0) (b := k) rfl rfl (by omega) (by omega)).mp c_40
                                    refine E_go 4 rfl ?_
                                    refine r_iload_n rfl ?_
                                    refine r_iload_n rfl ?_
                                    refine r_icmp_ne (fun c_53 => ?_) (fun c_53 => ?_)
                                    · have c_53 := (not_congr (n_eq (a := 0) (b := k) rfl rfl (by omega) (by omega))).mp c_53
                                      refine E_go 5 rfl ?_
                                      refine r_bipush ?_
                                      refine r_nil ?_
                                      refine E_go 6 rfl ?_
                                      refine r_iret rfl trivial ?_
                                      first
                                      | (exfalso; omega)
                                      | exact hQ _ _ _ R.rel
                                    · have c_53 := (n_eq (a := 0) (b := k) rfl rfl (by omega) (by omega)).mp c_53
                                      refine r_aload_n rfl ?_
                                      refine r_getA (q := 66) (by decide) rfl rfl (by decide) ?_
                                      refine r_iconst ?_
                                      refine r_iload_n rfl ?_
                                      refine r_imul ?_
                                      refine r_iaload (by decide) rfl (by decide) (ixE (n_mul (a := 3) (b := a) rfl rfl) (show (3 * a) < 15 by omega) (by decide)) (R.nu ha) ?_
                                      refine r_goto ?_
                                      refine E_go 6 rfl ?_
                                      refine r_iret rfl trivial ?_
                                      first
                                      | (exfalso; omega)
                                      | exact hQ _ _ _ R.rel
                                  · have c_40 := (not_congr (n_eq (a := 0) (b := k) rfl rfl (by omega) (by omega))).mp c_40
                                    refine r_iload_n rfl ?_
                                    refine r_static (vs := [_]) (by decide) (zl rfl) rfl rfl (zl rfl) (Nat.le_refl _) rfl ?_
                                    refine M_go (ls := [_]) (ml := 1) rfl rfl rfl (zl rfl) rfl ?_
                                    refine r_iload_n rfl ?_
                                    refine r_if_ne (fun c_44_1 => ?_) (fun c_44_1 => ?_)
                                    · have c_44_1 := (not_congr (n_eq (a := 0) (b := 0) rfl rfl (by omega) (by omega))).mp c_44_1
                                      omega
                                    · have c_44_1 := (n_eq (a := 0) (b := 0) rfl rfl (by omega) (by omega)).mp c_44_1
                                      refine r_iconst ?_
                                      refine r_goto ?_
                                      refine E_go 4 rfl ?_
                                      refine r_iret rfl trivial ?_
                                      refine r_istore_n (ls' := [_, _, _, _]) (zt rfl) rfl ?_
                                      refine r_goto ?_
                                      refine E_go 3 rfl ?_
                                      refine r_iload_n rfl ?_
                                      refine r_iconst ?_
                                      refine r_icmp_eq (fun c_35 => ?_) (fun c_35 => ?_)
                                      · refine E_go 4 rfl ?_
                                        refine r_iload_n rfl ?_
                                        refine r_iload_n rfl ?_
                                        refine r_icmp_ne (fun c_53 => ?_) (fun c_53 => ?_)
                                        · refine E_go 5 rfl ?_
                                          refine r_bipush ?_
                                          refine r_nil ?_
                                          refine E_go 6 rfl ?_
                                          refine r_iret rfl trivial ?_
                                          first
                                          | (exfalso; omega)
                                          | exact hQ _ _ _ R.rel
                                        · exact absurd c_53.symm (io_m1 (by omega))
                                      · exact absurd rfl c_35
                              · have c_20 := (n_eq (a := 1) (b := 0) rfl rfl (by omega) (by omega)).mp c_20
                                omega
                            · have c_9 := (n_eq (a := 1) (b := 0) rfl rfl (by omega) (by omega)).mp c_9
                              omega
                          · have c_37 := (not_congr (n_eq (a := 0) (b := 0) rfl rfl (by omega) (by omega))).mp c_37
                            omega
                        · exact absurd (by decide) c_34_11
                    · have c_34_22 := (n_eq (a := 0) (b := k) rfl rfl (by omega) (by omega)).mp c_34_22
                      refine r_iconst ?_
                      refine r_iret rfl (by first | exact Or.inl rfl | exact Or.inr rfl) ?_
                      refine r_if_eq (fun c_37 => ?_) (fun c_37 => ?_)
                      · have c_37 := (n_eq (a := 1) (b := 0) rfl rfl (by omega) (by omega)).mp c_37
                        omega
                      · have c_37 := (not_congr (n_eq (a := 1) (b := 0) rfl rfl (by omega) (by omega))).mp c_37
                        refine r_aload_n rfl ?_
                        refine r_getA (q := 1) (by decide) rfl rfl (by decide) ?_
                        refine r_getA (q := 3) (by decide) rfl rfl (by decide) ?_
                        refine r_iload_n rfl ?_
                        refine r_iaload (by decide) rfl (by decide) (ixE rfl (show a < 5 by omega) (by decide)) rfl ?_
                        refine r_goto ?_
                        refine E_go 5 rfl ?_
                        refine r_iret rfl trivial ?_
                        refine M_go (ls := [_, _, _, _]) (ml := 4) rfl rfl rfl (zl rfl) rfl ?_
                        refine r_iload_n rfl ?_
                        refine r_i2l ?_
                        refine r_lconst ?_
                        refine r_ldc2_w ?_
                        refine r_static (vs := [_, _, _]) (by decide) (zl rfl) rfl rfl (zl rfl) (Nat.le_refl _) rfl ?_
                        refine s_in0 (by omega) (x := (io k)) (k := 6) (Int32.toInt_toInt64 _) i64_0 rfl ?_
                        rw [if_pos (inN_io hk (by omega))]
                        refine r_if_ne (fun c_9 => ?_) (fun c_9 => ?_)
                        · have c_9 := (not_congr (n_eq (a := 1) (b := 0) rfl rfl (by omega) (by omega))).mp c_9
                          refine E_go 1 rfl ?_
                          refine r_aload_n rfl ?_
                          refine r_iload_n rfl ?_
                          refine r_virtual (vs := []) (as := [_]) (by decide) (zl rfl) rfl rfl (zl rfl) (Nat.le_refl _) (Or.inr (Or.inr ⟨zt rfl, rfl, zt rfl⟩)) ?_
                          refine s_isOne (by omega) R.mn h5 ?_
                          rw [if_pos (inN_io ha (by omega))]
                          refine r_if_ne (fun c_20 => ?_) (fun c_20 => ?_)
                          · have c_20 := (not_congr (n_eq (a := 1) (b := 0) rfl rfl (by omega) (by omega))).mp c_20
                            refine E_go 2 rfl ?_
                            refine r_aload_n rfl ?_
                            refine r_getA (q := 65) (by decide) rfl rfl (by decide) ?_
                            refine r_iload_n rfl ?_
                            refine r_iaload (by decide) rfl (by decide) (ixE rfl (show a < 5 by omega) (by decide)) ((R.ki ha).trans ec) ?_
                            refine r_istore_n (ls' := [_, _, _, _]) (zt rfl) rfl ?_
                            refine r_nil ?_
                            refine E_go 3 rfl ?_
                            refine r_iload_n rfl ?_
                            refine r_iconst ?_
                            refine r_icmp_eq (fun c_35 => ?_) (fun c_35 => ?_)
                            · exact absurd c_35 (by decide)
                            · refine r_iload_n rfl ?_
                              refine r_iload_n rfl ?_
                              refine r_icmp_eq (fun c_40 => ?_) (fun c_40 => ?_)
                              · have c_40 := (n_eq (a := 0) (b := k) rfl rfl (by omega) (by omega)).mp c_40
                                refine E_go 4 rfl ?_
                                refine r_iload_n rfl ?_
                                refine r_iload_n rfl ?_
                                refine r_icmp_ne (fun c_53 => ?_) (fun c_53 => ?_)
                                · have c_53 := (not_congr (n_eq (a := 0) (b := k) rfl rfl (by omega) (by omega))).mp c_53
                                  refine E_go 5 rfl ?_
                                  refine r_bipush ?_
                                  refine r_nil ?_
                                  refine E_go 6 rfl ?_
                                  refine r_iret rfl trivial ?_
                                  first
                                  | (exfalso; omega)
                                  | exact hQ _ _ _ R.rel
                                · have c_53 := (n_eq (a := 0) (b := k) rfl rfl (by omega) (by omega)).mp c_53
                                  refine r_aload_n rfl ?_
                                  refine r_getA (q := 66) (by decide) rfl rfl (by decide) ?_
                                  refine r_iconst ?_
                                  refine r_iload_n rfl ?_
                                  refine r_imul ?_
                                  refine r_iaload (by decide) rfl (by decide) (ixE (n_mul (a := 3) (b := a) rfl rfl) (show (3 * a) < 15 by omega) (by decide)) (R.nu ha) ?_
                                  refine r_goto ?_
                                  refine E_go 6 rfl ?_
                                  refine r_iret rfl trivial ?_
                                  first
                                  | (exfalso; omega)
                                  | exact hQ _ _ _ R.rel
                              · have c_40 := (not_congr (n_eq (a := 0) (b := k) rfl rfl (by omega) (by omega))).mp c_40
                                refine r_iload_n rfl ?_
                                refine r_static (vs := [_]) (by decide) (zl rfl) rfl rfl (zl rfl) (Nat.le_refl _) rfl ?_
                                refine M_go (ls := [_]) (ml := 1) rfl rfl rfl (zl rfl) rfl ?_
                                refine r_iload_n rfl ?_
                                refine r_if_ne (fun c_44_1 => ?_) (fun c_44_1 => ?_)
                                · have c_44_1 := (not_congr (n_eq (a := 0) (b := 0) rfl rfl (by omega) (by omega))).mp c_44_1
                                  omega
                                · have c_44_1 := (n_eq (a := 0) (b := 0) rfl rfl (by omega) (by omega)).mp c_44_1
                                  refine r_iconst ?_
                                  refine r_goto ?_
                                  refine E_go 4 rfl ?_
                                  refine r_iret rfl trivial ?_
                                  refine r_istore_n (ls' := [_, _, _, _]) (zt rfl) rfl ?_
                                  refine r_goto ?_
                                  refine E_go 3 rfl ?_
                                  refine r_iload_n rfl ?_
                                  refine r_iconst ?_
                                  refine r_icmp_eq (fun c_35 => ?_) (fun c_35 => ?_)
                                  · refine E_go 4 rfl ?_
                                    refine r_iload_n rfl ?_
                                    refine r_iload_n rfl ?_
                                    refine r_icmp_ne (fun c_53 => ?_) (fun c_53 => ?_)
                                    · refine E_go 5 rfl ?_
                                      refine r_bipush ?_
                                      refine r_nil ?_
                                      refine E_go 6 rfl ?_
                                      refine r_iret rfl trivial ?_
                                      first
                                      | (exfalso; omega)
                                      | exact hQ _ _ _ R.rel
                                    · exact absurd c_53.symm (io_m1 (by omega))
                                  · exact absurd rfl c_35
                          · have c_20 := (n_eq (a := 1) (b := 0) rfl rfl (by omega) (by omega)).mp c_20
                            omega
                        · have c_9 := (n_eq (a := 1) (b := 0) rfl rfl (by omega) (by omega)).mp c_9
                          omega
            · have c_18 := (n_eq (a := 1) (b := 0) rfl rfl (by omega) (by omega)).mp c_18
              omega
          · have c_7 := (not_congr (n_lt (a := k) (b := 6) rfl rfl (by omega) (by omega))).mp c_7
            omega
      · refine M_go (ls := [_, _, _]) (ml := 3) rfl rfl rfl (zl rfl) rfl ?_
        refine r_iload_n rfl ?_
        refine r_if_lt (fun c_1 => ?_) (fun c_1 => ?_)
        · have c_1 := (n_lt (a := k) (b := 0) rfl rfl (by omega) (by omega)).mp c_1
          omega
        · have c_1 := (not_congr (n_lt (a := k) (b := 0) rfl rfl (by omega) (by omega))).mp c_1
          refine r_iload_n rfl ?_
          refine r_bipush ?_
          refine r_icmp_lt (fun c_7 => ?_) (fun c_7 => ?_)
          · have c_7 := (n_lt (a := k) (b := 6) rfl rfl (by omega) (by omega)).mp c_7
            refine E_go 2 rfl ?_
            refine r_aload_n rfl ?_
            refine r_iload_n rfl ?_
            refine r_virtual (vs := []) (as := [_]) (by decide) (zl rfl) rfl rfl (zl rfl) (Nat.le_refl _) (Or.inr (Or.inr ⟨zt rfl, rfl, zt rfl⟩)) ?_
            refine s_isAunt (by omega) R.cn h5 ?_
            rw [if_pos (inN_io ha (by omega))]
            refine r_if_ne (fun c_18 => ?_) (fun c_18 => ?_)
            · have c_18 := (not_congr (n_eq (a := 1) (b := 0) rfl rfl (by omega) (by omega))).mp c_18
              refine E_go 3 rfl ?_
              refine r_aload_n rfl ?_
              refine r_getA (q := 1) (by decide) rfl rfl (by decide) ?_
              refine r_getA (q := 2) (by decide) rfl rfl (by decide) ?_
              refine r_iload_n rfl ?_
              refine r_iaload (by decide) rfl (by decide) (ixE rfl (show a < 5 by omega) (by decide)) ec ?_
              refine r_iload_n rfl ?_
              refine r_static (vs := [_, _]) (by decide) (zl rfl) rfl rfl (zl rfl) (Nat.le_refl _) rfl ?_
              refine M_go (ls := [_, _, _, _]) (ml := 4) rfl rfl rfl (zl rfl) rfl ?_
              refine r_iload_n rfl ?_
              refine r_istore_n (ls' := [_, _, _, _]) (zt rfl) rfl ?_
              refine r_iconst ?_
              refine r_istore_n (ls' := [_, _, _, _]) (zt rfl) rfl ?_
              refine r_nil ?_
              refine E_go 1 rfl ?_
              refine r_iload_n rfl ?_
              refine r_bipush ?_
              refine r_icmp_ge (fun c_34_7 => ?_) (fun c_34_7 => ?_)
              · have c_34_7 := (n_le (a := 6) (b := 0) rfl rfl (by omega) (by omega)).mp c_34_7
                omega
              · have c_34_7 := (not_congr (n_le (a := 6) (b := 0) rfl rfl (by omega) (by omega))).mp c_34_7
                refine r_iload_n rfl ?_
                refine r_if_lt (fun c_34_11 => ?_) (fun c_34_11 => ?_)
                · have c_34_11 := (n_lt (a := 1) (b := 0) rfl rfl (by omega) (by omega)).mp c_34_11
                  omega
                · have c_34_11 := (not_congr (n_lt (a := 1) (b := 0) rfl rfl (by omega) (by omega))).mp c_34_11
                  refine r_iload_n rfl ?_
                  refine r_bipush ?_
                  refine r_icmp_ge (fun c_34_17 => ?_) (fun c_34_17 => ?_)
                  · have c_34_17 := (n_le (a := 6) (b := 1) rfl rfl (by omega) (by omega)).mp c_34_17
                    omega
                  · have c_34_17 := (not_congr (n_le (a := 6) (b := 1) rfl rfl (by omega) (by omega))).mp c_34_17
                    refine r_iload_n rfl ?_
                    refine r_iload_n rfl ?_
                    refine r_icmp_ne (fun c_34_22 => ?_) (fun c_34_22 => ?_)
                    · have c_34_22 := (not_congr (n_eq (a := 1) (b := k) rfl rfl (by omega) (by omega))).mp c_34_22
                      refine E_go 2 rfl ?_
                      refine r_getstatic3 rfl ?_
                      refine r_iload_n rfl ?_
                      refine r_ialoadK rfl (vp_io (a := 1) (by omega) (by omega)) ?_
                      refine r_istore_n (ls' := [_, _, _, _]) (zt rfl) rfl ?_
                      refine r_iincN (y := io 1) (ls' := [_, _, _, _]) rfl (zt rfl) rfl rfl ?_
                      refine r_goto ?_
                      refine E_go 1 rfl ?_
                      refine r_iload_n rfl ?_
                      refine r_bipush ?_
                      refine r_icmp_ge (fun c_34_7 => ?_) (fun c_34_7 => ?_)
                      · have c_34_7 := (n_le (a := 6) (b := 1) rfl rfl (by omega) (by omega)).mp c_34_7
                        omega
                      · have c_34_7 := (not_congr (n_le (a := 6) (b := 1) rfl rfl (by omega) (by omega))).mp c_34_7
                        refine r_iload_n rfl ?_
                        refine r_if_lt (fun c_34_11 => ?_) (fun c_34_11 => ?_)
                        · have c_34_11 := (n_lt (a := 0) (b := 0) rfl rfl (by omega) (by omega)).mp c_34_11
                          omega
                        · have c_34_11 := (not_congr (n_lt (a := 0) (b := 0) rfl rfl (by omega) (by omega))).mp c_34_11
                          refine r_iload_n rfl ?_
                          refine r_bipush ?_
                          refine r_icmp_ge (fun c_34_17 => ?_) (fun c_34_17 => ?_)
                          · have c_34_17 := (n_le (a := 6) (b := 0) rfl rfl (by omega) (by omega)).mp c_34_17
                            omega
                          · have c_34_17 := (not_congr (n_le (a := 6) (b := 0) rfl rfl (by omega) (by omega))).mp c_34_17
                            refine r_iload_n rfl ?_
                            refine r_iload_n rfl ?_
                            refine r_icmp_ne (fun c_34_22 => ?_) (fun c_34_22 => ?_)
                            · have c_34_22 := (not_congr (n_eq (a := 0) (b := k) rfl rfl (by omega) (by omega))).mp c_34_22
                              refine E_go 2 rfl ?_
                              refine r_getstatic3 rfl ?_
                              refine r_iload_n rfl ?_
                              refine r_ialoadK rfl (vp_io (a := 0) (by omega) (by omega)) ?_
                              refine r_istore_n (ls' := [_, _, _, _]) (zt rfl) rfl ?_
                              refine r_iincN (y := io 2) (ls' := [_, _, _, _]) rfl (zt rfl) rfl rfl ?_
                              refine r_goto ?_
                              refine E_go 1 rfl ?_
                              refine r_iload_n rfl ?_
                              refine r_bipush ?_
                              refine r_icmp_ge (fun c_34_7 => ?_) (fun c_34_7 => ?_)
                              · have c_34_7 := (n_le (a := 6) (b := 2) rfl rfl (by omega) (by omega)).mp c_34_7
                                omega
                              · have c_34_7 := (not_congr (n_le (a := 6) (b := 2) rfl rfl (by omega) (by omega))).mp c_34_7
                                refine r_iload_n rfl ?_
                                refine r_if_lt (fun c_34_11 => ?_) (fun c_34_11 => ?_)
                                · refine E_go 3 rfl ?_
                                  refine r_iconst ?_
                                  refine r_iret rfl (by first | exact Or.inl rfl | exact Or.inr rfl) ?_
                                  refine r_if_eq (fun c_37 => ?_) (fun c_37 => ?_)
                                  · have c_37 := (n_eq (a := 0) (b := 0) rfl rfl (by omega) (by omega)).mp c_37
                                    refine E_go 4 rfl ?_
                                    refine r_bipush ?_
                                    refine r_nil ?_
                                    refine E_go 5 rfl ?_
                                    refine r_iret rfl trivial ?_
                                    refine M_go (ls := [_, _, _, _]) (ml := 4) rfl rfl rfl (zl rfl) rfl ?_
                                    refine r_iload_n rfl ?_
                                    refine r_i2l ?_
                                    refine r_lconst ?_
                                    refine r_ldc2_w ?_
                                    refine r_static (vs := [_, _, _]) (by decide) (zl rfl) rfl rfl (zl rfl) (Nat.le_refl _) rfl ?_
                                    refine s_in0 (by omega) (x := (io k)) (k := 6) (Int32.toInt_toInt64 _) i64_0 rfl ?_
                                    rw [if_pos (inN_io hk (by omega))]
                                    refine r_if_ne (fun c_9 => ?_) (fun c_9 => ?_)
                                    · have c_9 := (not_congr (n_eq (a := 1) (b := 0) rfl rfl (by omega) (by omega))).mp c_9
                                      refine E_go 1 rfl ?_
                                      refine r_aload_n rfl ?_
                                      refine r_iload_n rfl ?_
                                      refine r_virtual (vs := []) (as := [_]) (by decide) (zl rfl) rfl rfl (zl rfl) (Nat.le_refl _) (Or.inr (Or.inr ⟨zt rfl, rfl, zt rfl⟩)) ?_
                                      refine s_isOne (by omega) R.mn h5 ?_
                                      rw [if_pos (inN_io ha (by omega))]
                                      refine r_if_ne (fun c_20 => ?_) (fun c_20 => ?_)
                                      · have c_20 := (not_congr (n_eq (a := 1) (b := 0) rfl rfl (by omega) (by omega))).mp c_20
                                        refine E_go 2 rfl ?_
                                        refine r_aload_n rfl ?_
                                        refine r_getA (q := 65) (by decide) rfl rfl (by decide) ?_
                                        refine r_iload_n rfl ?_
                                        refine r_iaload (by decide) rfl (by decide) (ixE rfl (show a < 5 by omega) (by decide)) ((R.ki ha).trans ec) ?_
                                        refine r_istore_n (ls' := [_, _, _, _]) (zt rfl) rfl ?_
                                        refine r_nil ?_
                                        refine E_go 3 rfl ?_
                                        refine r_iload_n rfl ?_
                                        refine r_iconst ?_
                                        refine r_icmp_eq (fun c_35 => ?_) (fun c_35 => ?_)
                                        · exact absurd c_35 (by decide)
                                        · refine r_iload_n rfl ?_
                                          refine r_iload_n rfl ?_
                                          refine r_icmp_eq (fun c_40 => ?_) (fun c_40 => ?_)
                                          · have c_40 := (n_eq (a := 1) (b := k) rfl rfl (by omega) (by omega)).mp c_40
                                            refine E_go 4 rfl ?_
                                            refine r_iload_n rfl ?_
                                            refine r_iload_n rfl ?_
                                            refine r_icmp_ne (fun c_53 => ?_) (fun c_53 => ?_)
                                            · have c_53 := (not_congr (n_eq (a := 1) (b := k) rfl rfl (by omega) (by omega))).mp c_53
                                              refine E_go 5 rfl ?_
                                              refine r_bipush ?_
                                              refine r_nil ?_
                                              refine E_go 6 rfl ?_
                                              refine r_iret rfl trivial ?_
                                              first
                                              | (exfalso; omega)
                                              | exact hQ _ _ _ R.rel
                                            · have c_53 := (n_eq (a := 1) (b := k) rfl rfl (by omega) (by omega)).mp c_53
                                              refine r_aload_n rfl ?_
                                              refine r_getA (q := 66) (by decide) rfl rfl (by decide) ?_
                                              refine r_iconst ?_
                                              refine r_iload_n rfl ?_
                                              refine r_imul ?_
                                              refine r_iaload (by decide) rfl (by decide) (ixE (n_mul (a := 3) (b := a) rfl rfl) (show (3 * a) < 15 by omega) (by decide)) (R.nu ha) ?_
                                              refine r_goto ?_
                                              refine E_go 6 rfl ?_
                                              refine r_iret rfl trivial ?_
                                              first
                                              | (exfalso; omega)
                                              | exact hQ _ _ _ R.rel
                                          · have c_40 := (not_congr (n_eq (a := 1) (b := k) rfl rfl (by omega) (by omega))).mp c_40
                                            refine r_iload_n rfl ?_
                                            refine r_static (vs := [_]) (by decide) (zl rfl) rfl rfl (zl rfl) (Nat.le_refl _) rfl ?_
                                            refine M_go (ls := [_]) (ml := 1) rfl rfl rfl (zl rfl) rfl ?_
                                            refine r_iload_n rfl ?_
                                            refine r_if_ne (fun c_44_1 => ?_) (fun c_44_1 => ?_)
                                            · have c_44_1 := (not_congr (n_eq (a := 1) (b := 0) rfl rfl (by omega) (by omega))).mp c_44_1
                                              refine E_go 1 rfl ?_
                                              refine r_iload_n rfl ?_
                                              refine r_iconst ?_
                                              refine r_icmp_ne (fun c_44_10 => ?_) (fun c_44_10 => ?_)
                                              · have c_44_10 := (not_congr (n_eq (a := 1) (b := 3) rfl rfl (by omega) (by omega))).mp c_44_10
                                                refine E_go 2 rfl ?_
                                                refine r_iload_n rfl ?_
                                                refine r_iconst ?_
                                                refine r_icmp_ne (fun c_44_19 => ?_) (fun c_44_19 => ?_)
                                                · have c_44_19 := (not_congr (n_eq (a := 1) (b := 4) rfl rfl (by omega) (by omega))).mp c_44_19
                                                  refine E_go 3 rfl ?_
                                                  refine r_iconst ?_
                                                  refine r_nil ?_
                                                  refine E_go 4 rfl ?_
                                                  refine r_iret rfl trivial ?_
                                                  refine r_istore_n (ls' := [_, _, _, _]) (zt rfl) rfl ?_
                                                  refine r_goto ?_
                                                  refine E_go 3 rfl ?_
                                                  refine r_iload_n rfl ?_
                                                  refine r_iconst ?_
                                                  refine r_icmp_eq (fun c_35 => ?_) (fun c_35 => ?_)
                                                  · exact absurd c_35 (by decide)
                                                  · refine r_iload_n rfl ?_
                                                    refine r_iload_n rfl ?_
                                                    refine r_icmp_eq (fun c_40 => ?_) (fun c_40 => ?_)
                                                    · have c_40 := (n_eq (a := 0) (b := k) rfl rfl (by omega) (by omega)).mp c_40
                                                      refine E_go 4 rfl ?_
                                                      refine r_iload_n rfl ?_
                                                      refine r_iload_n rfl ?_
                                                      refine r_icmp_ne (fun c_53 => ?_) (fun c_53 => ?_)
                                                      · have c_53 := (not_congr (n_eq (a := 0) (b := k) rfl rfl (by omega) (by omega))).mp c_53
                                                        refine E_go 5 rfl ?_
                                                        refine r_bipush ?_
                                                        refine r_nil ?_
                                                        refine E_go 6 rfl ?_
                                                        refine r_iret rfl trivial ?_
                                                        first
                                                        | (exfalso; omega)
                                                        | exact hQ _ _ _ R.rel
                                                      · have c_53 := (n_eq (a := 0) (b := k) rfl rfl (by omega) (by omega)).mp c_53
                                                        refine r_aload_n rfl ?_
                                                        refine r_getA (q := 66) (by decide) rfl rfl (by decide) ?_
                                                        refine r_iconst ?_
                                                        refine r_iload_n rfl ?_
                                                        refine r_imul ?_
                                                        refine r_iaload (by decide) rfl (by decide) (ixE (n_mul (a := 3) (b := a) rfl rfl) (show (3 * a) < 15 by omega) (by decide)) (R.nu ha) ?_
                                                        refine r_goto ?_
                                                        refine E_go 6 rfl ?_
                                                        refine r_iret rfl trivial ?_
                                                        first
                                                        | (exfalso; omega)
                                                        | exact hQ _ _ _ R.rel
                                                    · have c_40 := (not_congr (n_eq (a := 0) (b := k) rfl rfl (by omega) (by omega))).mp c_40
                                                      refine r_iload_n rfl ?_
                                                      refine r_static (vs := [_]) (by decide) (zl rfl) rfl rfl (zl rfl) (Nat.le_refl _) rfl ?_
                                                      refine M_go (ls := [_]) (ml := 1) rfl rfl rfl (zl rfl) rfl ?_
                                                      refine r_iload_n rfl ?_
                                                      refine r_if_ne (fun c_44_1 => ?_) (fun c_44_1 => ?_)
                                                      · have c_44_1 := (not_congr (n_eq (a := 0) (b := 0) rfl rfl (by omega) (by omega))).mp c_44_1
                                                        omega
                                                      · have c_44_1 := (n_eq (a := 0) (b := 0) rfl rfl (by omega) (by omega)).mp c_44_1
                                                        refine r_iconst ?_
                                                        refine r_goto ?_
                                                        refine E_go 4 rfl ?_
                                                        refine r_iret rfl trivial ?_
                                                        refine r_istore_n (ls' := [_, _, _, _]) (zt rfl) rfl ?_
                                                        refine r_goto ?_
                                                        refine E_go 3 rfl ?_
                                                        refine r_iload_n rfl ?_
                                                        refine r_iconst ?_
                                                        refine r_icmp_eq (fun c_35 => ?_) (fun c_35 => ?_)
                                                        · refine E_go 4 rfl ?_
                                                          refine r_iload_n rfl ?_
                                                          refine r_iload_n rfl ?_
                                                          refine r_icmp_ne (fun c_53 => ?_) (fun c_53 => ?_)
                                                          · refine E_go 5 rfl ?_
                                                            refine r_bipush ?_
                                                            refine r_nil ?_
                                                            refine E_go 6 rfl ?_
                                                            refine r_iret rfl trivial ?_
                                                            first
                                                            | (exfalso; omega)
                                                            | exact hQ _ _ _ R.rel
                                                          · exact absurd c_53.symm (io_m1 (by omega))
                                                        · exact absurd rfl c_35
                                                · have c_44_19 := (n_eq (a := 1) (b := 4) rfl rfl (by omega) (by omega)).mp c_44_19
                                                  omega
                                              · have c_44_10 := (n_eq (a := 1) (b := 3) rfl rfl (by omega) (by omega)).mp c_44_10
                                                omega
                                            · have c_44_1 := (n_eq (a := 1) (b := 0) rfl rfl (by omega) (by omega)).mp c_44_1
                                              omega
                                      · have c_20 := (n_eq (a := 1) (b := 0) rfl rfl (by omega) (by omega)).mp c_20
                                        omega
                                    · have c_9 := (n_eq (a := 1) (b := 0) rfl rfl (by omega) (by omega)).mp c_9
                                      omega
                                  · have c_37 := (not_congr (n_eq (a := 0) (b := 0) rfl rfl (by omega) (by omega))).mp c_37
                                    omega
                                · exact absurd (by decide) c_34_11
                            · have c_34_22 := (n_eq (a := 0) (b := k) rfl rfl (by omega) (by omega)).mp c_34_22
                              refine r_iconst ?_
                              refine r_iret rfl (by first | exact Or.inl rfl | exact Or.inr rfl) ?_
                              refine r_if_eq (fun c_37 => ?_) (fun c_37 => ?_)
                              · have c_37 := (n_eq (a := 1) (b := 0) rfl rfl (by omega) (by omega)).mp c_37
                                omega
                              · have c_37 := (not_congr (n_eq (a := 1) (b := 0) rfl rfl (by omega) (by omega))).mp c_37
                                refine r_aload_n rfl ?_
                                refine r_getA (q := 1) (by decide) rfl rfl (by decide) ?_
                                refine r_getA (q := 3) (by decide) rfl rfl (by decide) ?_
                                refine r_iload_n rfl ?_
                                refine r_iaload (by decide) rfl (by decide) (ixE rfl (show a < 5 by omega) (by decide)) rfl ?_
                                refine r_goto ?_
                                refine E_go 5 rfl ?_
                                refine r_iret rfl trivial ?_
                                refine M_go (ls := [_, _, _, _]) (ml := 4) rfl rfl rfl (zl rfl) rfl ?_
                                refine r_iload_n rfl ?_
                                refine r_i2l ?_
                                refine r_lconst ?_
                                refine r_ldc2_w ?_
                                refine r_static (vs := [_, _, _]) (by decide) (zl rfl) rfl rfl (zl rfl) (Nat.le_refl _) rfl ?_
                                refine s_in0 (by omega) (x := (io k)) (k := 6) (Int32.toInt_toInt64 _) i64_0 rfl ?_
                                rw [if_pos (inN_io hk (by omega))]
                                refine r_if_ne (fun c_9 => ?_) (fun c_9 => ?_)
                                · have c_9 := (not_congr (n_eq (a := 1) (b := 0) rfl rfl (by omega) (by omega))).mp c_9
                                  refine E_go 1 rfl ?_
                                  refine r_aload_n rfl ?_
                                  refine r_iload_n rfl ?_
                                  refine r_virtual (vs := []) (as := [_]) (by decide) (zl rfl) rfl rfl (zl rfl) (Nat.le_refl _) (Or.inr (Or.inr ⟨zt rfl, rfl, zt rfl⟩)) ?_
                                  refine s_isOne (by omega) R.mn h5 ?_
                                  rw [if_pos (inN_io ha (by omega))]
                                  refine r_if_ne (fun c_20 => ?_) (fun c_20 => ?_)
                                  · have c_20 := (not_congr (n_eq (a := 1) (b := 0) rfl rfl (by omega) (by omega))).mp c_20
                                    refine E_go 2 rfl ?_
                                    refine r_aload_n rfl ?_
                                    refine r_getA (q := 65) (by decide) rfl rfl (by decide) ?_
                                    refine r_iload_n rfl ?_
                                    refine r_iaload (by decide) rfl (by decide) (ixE rfl (show a < 5 by omega) (by decide)) ((R.ki ha).trans ec) ?_
                                    refine r_istore_n (ls' := [_, _, _, _]) (zt rfl) rfl ?_
                                    refine r_nil ?_
                                    refine E_go 3 rfl ?_
                                    refine r_iload_n rfl ?_
                                    refine r_iconst ?_
                                    refine r_icmp_eq (fun c_35 => ?_) (fun c_35 => ?_)
                                    · exact absurd c_35 (by decide)
                                    · refine r_iload_n rfl ?_
                                      refine r_iload_n rfl ?_
                                      refine r_icmp_eq (fun c_40 => ?_) (fun c_40 => ?_)
                                      · have c_40 := (n_eq (a := 1) (b := k) rfl rfl (by omega) (by omega)).mp c_40
                                        refine E_go 4 rfl ?_
                                        refine r_iload_n rfl ?_
                                        refine r_iload_n rfl ?_
                                        refine r_icmp_ne (fun c_53 => ?_) (fun c_53 => ?_)
                                        · have c_53 := (not_congr (n_eq (a := 1) (b := k) rfl rfl (by omega) (by omega))).mp c_53
                                          refine E_go 5 rfl ?_
                                          refine r_bipush ?_
                                          refine r_nil ?_
                                          refine E_go 6 rfl ?_
                                          refine r_iret rfl trivial ?_
                                          first
                                          | (exfalso; omega)
                                          | exact hQ _ _ _ R.rel
                                        · have c_53 := (n_eq (a := 1) (b := k) rfl rfl (by omega) (by omega)).mp c_53
                                          refine r_aload_n rfl ?_
                                          refine r_getA (q := 66) (by decide) rfl rfl (by decide) ?_
                                          refine r_iconst ?_
                                          refine r_iload_n rfl ?_
                                          refine r_imul ?_
                                          refine r_iaload (by decide) rfl (by decide) (ixE (n_mul (a := 3) (b := a) rfl rfl) (show (3 * a) < 15 by omega) (by decide)) (R.nu ha) ?_
                                          refine r_goto ?_
                                          refine E_go 6 rfl ?_
                                          refine r_iret rfl trivial ?_
                                          first
                                          | (exfalso; omega)
                                          | exact hQ _ _ _ R.rel
                                      · have c_40 := (not_congr (n_eq (a := 1) (b := k) rfl rfl (by omega) (by omega))).mp c_40
                                        refine r_iload_n rfl ?_
                                        refine r_static (vs := [_]) (by decide) (zl rfl) rfl rfl (zl rfl) (Nat.le_refl _) rfl ?_
                                        refine M_go (ls := [_]) (ml := 1) rfl rfl rfl (zl rfl) rfl ?_
                                        refine r_iload_n rfl ?_
                                        refine r_if_ne (fun c_44_1 => ?_) (fun c_44_1 => ?_)
                                        · have c_44_1 := (not_congr (n_eq (a := 1) (b := 0) rfl rfl (by omega) (by omega))).mp c_44_1
                                          refine E_go 1 rfl ?_
                                          refine r_iload_n rfl ?_
                                          refine r_iconst ?_
                                          refine r_icmp_ne (fun c_44_10 => ?_) (fun c_44_10 => ?_)
                                          · have c_44_10 := (not_congr (n_eq (a := 1) (b := 3) rfl rfl (by omega) (by omega))).mp c_44_10
                                            refine E_go 2 rfl ?_
                                            refine r_iload_n rfl ?_
                                            refine r_iconst ?_
                                            refine r_icmp_ne (fun c_44_19 => ?_) (fun c_44_19 => ?_)
                                            · have c_44_19 := (not_congr (n_eq (a := 1) (b := 4) rfl rfl (by omega) (by omega))).mp c_44_19
                                              refine E_go 3 rfl ?_
                                              refine r_iconst ?_
                                              refine r_nil ?_
                                              refine E_go 4 rfl ?_
                                              refine r_iret rfl trivial ?_
                                              refine r_istore_n (ls' := [_, _, _, _]) (zt rfl) rfl ?_
                                              refine r_goto ?_
                                              refine E_go 3 rfl ?_
                                              refine r_iload_n rfl ?_
                                              refine r_iconst ?_
                                              refine r_icmp_eq (fun c_35 => ?_) (fun c_35 => ?_)
                                              · exact absurd c_35 (by decide)
                                              · refine r_iload_n rfl ?_
                                                refine r_iload_n rfl ?_
                                                refine r_icmp_eq (fun c_40 => ?_) (fun c_40 => ?_)
                                                · have c_40 := (n_eq (a := 0) (b := k) rfl rfl (by omega) (by omega)).mp c_40
                                                  refine E_go 4 rfl ?_
                                                  refine r_iload_n rfl ?_
                                                  refine r_iload_n rfl ?_
                                                  refine r_icmp_ne (fun c_53 => ?_) (fun c_53 => ?_)
                                                  · have c_53 := (not_congr (n_eq (a := 0) (b := k) rfl rfl (by omega) (by omega))).mp c_53
                                                    refine E_go 5 rfl ?_
                                                    refine r_bipush ?_
                                                    refine r_nil ?_
                                                    refine E_go 6 rfl ?_
                                                    refine r_iret rfl trivial ?_
                                                    first
                                                    | (exfalso; omega)
                                                    | exact hQ _ _ _ R.rel
                                                  · have c_53 := (n_eq (a := 0) (b := k) rfl rfl (by omega) (by omega)).mp c_53
                                                    refine r_aload_n rfl ?_
                                                    refine r_getA (q := 66) (by decide) rfl rfl (by decide) ?_
                                                    refine r_iconst ?_
                                                    refine r_iload_n rfl ?_
                                                    refine r_imul ?_
                                                    refine r_iaload (by decide) rfl (by decide) (ixE (n_mul (a := 3) (b := a) rfl rfl) (show (3 * a) < 15 by omega) (by decide)) (R.nu ha) ?_
                                                    refine r_goto ?_
                                                    refine E_go 6 rfl ?_
                                                    refine r_iret rfl trivial ?_
                                                    first
                                                    | (exfalso; omega)
                                                    | exact hQ _ _ _ R.rel
                                                · have c_40 := (not_congr (n_eq (a := 0) (b := k) rfl rfl (by omega) (by omega))).mp c_40
                                                  refine r_iload_n rfl ?_
                                                  refine r_static (vs := [_]) (by decide) (zl rfl) rfl rfl (zl rfl) (Nat.le_refl _) rfl ?_
                                                  refine M_go (ls := [_]) (ml := 1) rfl rfl rfl (zl rfl) rfl ?_
                                                  refine r_iload_n rfl ?_
                                                  refine r_if_ne (fun c_44_1 => ?_) (fun c_44_1 => ?_)
                                                  · have c_44_1 := (not_congr (n_eq (a := 0) (b := 0) rfl rfl (by omega) (by omega))).mp c_44_1
                                                    omega
                                                  · have c_44_1 := (n_eq (a := 0) (b := 0) rfl rfl (by omega) (by omega)).mp c_44_1
                                                    refine r_iconst ?_
                                                    refine r_goto ?_
                                                    refine E_go 4 rfl ?_
                                                    refine r_iret rfl trivial ?_
                                                    refine r_istore_n (ls' := [_, _, _, _]) (zt rfl) rfl ?_
                                                    refine r_goto ?_
                                                    refine E_go 3 rfl ?_
                                                    refine r_iload_n rfl ?_
                                                    refine r_iconst ?_
                                                    refine r_icmp_eq (fun c_35 => ?_) (fun c_35 => ?_)
                                                    · refine E_go 4 rfl ?_
                                                      refine r_iload_n rfl ?_
                                                      refine r_iload_n rfl ?_
                                                      refine r_icmp_ne (fun c_53 => ?_) (fun c_53 => ?_)
                                                      · refine E_go 5 rfl ?_
                                                        refine r_bipush ?_
                                                        refine r_nil ?_
                                                        refine E_go 6 rfl ?_
                                                        refine r_iret rfl trivial ?_
                                                        first
                                                        | (exfalso; omega)
                                                        | exact hQ _ _ _ R.rel
                                                      · exact absurd c_53.symm (io_m1 (by omega))
                                                    · exact absurd rfl c_35
                                            · have c_44_19 := (n_eq (a := 1) (b := 4) rfl rfl (by omega) (by omega)).mp c_44_19
                                              omega
                                          · have c_44_10 := (n_eq (a := 1) (b := 3) rfl rfl (by omega) (by omega)).mp c_44_10
                                            omega
                                        · have c_44_1 := (n_eq (a := 1) (b := 0) rfl rfl (by omega) (by omega)).mp c_44_1
                                          omega
                                  · have c_20 := (n_eq (a := 1) (b := 0) rfl rfl (by omega) (by omega)).mp c_20
                                    omega
                                · have c_9 := (n_eq (a := 1) (b := 0) rfl rfl (by omega) (by omega)).mp c_9
                                  omega
                    · have c_34_22 := (n_eq (a := 1) (b := k) rfl rfl (by omega) (by omega)).mp c_34_22
                      refine r_iconst ?_
                      refine r_iret rfl (by first | exact Or.inl rfl | exact Or.inr rfl) ?_
                      refine r_if_eq (fun c_37 => ?_) (fun c_37 => ?_)
                      · have c_37 := (n_eq (a := 1) (b := 0) rfl rfl (by omega) (by omega)).mp c_37
                        omega
                      · have c_37 := (not_congr (n_eq (a := 1) (b := 0) rfl rfl (by omega) (by omega))).mp c_37
                        refine r_aload_n rfl ?_
                        refine r_getA (q := 1) (by decide) rfl rfl (by decide) ?_
                        refine r_getA (q := 3) (by decide) rfl rfl (by decide) ?_
                        refine r_iload_n rfl ?_
                        refine r_iaload (by decide) rfl (by decide) (ixE rfl (show a < 5 by omega) (by decide)) rfl ?_
                        refine r_goto ?_
                        refine E_go 5 rfl ?_
                        refine r_iret rfl trivial ?_
                        refine M_go (ls := [_, _, _, _]) (ml := 4) rfl rfl rfl (zl rfl) rfl ?_
                        refine r_iload_n rfl ?_
                        refine r_i2l ?_
                        refine r_lconst ?_
                        refine r_ldc2_w ?_
                        refine r_static (vs := [_, _, _]) (by decide) (zl rfl) rfl rfl (zl rfl) (Nat.le_refl _) rfl ?_
                        refine s_in0 (by omega) (x := (io k)) (k := 6) (Int32.toInt_toInt64 _) i64_0 rfl ?_
                        rw [if_pos (inN_io hk (by omega))]
                        refine r_if_ne (fun c_9 => ?_) (fun c_9 => ?_)
                        · have c_9 := (not_congr (n_eq (a := 1) (b := 0) rfl rfl (by omega) (by omega))).mp c_9
                          refine E_go 1 rfl ?_
                          refine r_aload_n rfl ?_
                          refine r_iload_n rfl ?_
                          refine r_virtual (vs := []) (as := [_]) (by decide) (zl rfl) rfl rfl (zl rfl) (Nat.le_refl _) (Or.inr (Or.inr ⟨zt rfl, rfl, zt rfl⟩)) ?_
                          refine s_isOne (by omega) R.mn h5 ?_
                          rw [if_pos (inN_io ha (by omega))]
                          refine r_if_ne (fun c_20 => ?_) (fun c_20 => ?_)
                          · have c_20 := (not_congr (n_eq (a := 1) (b := 0) rfl rfl (by omega) (by omega))).mp c_20
                            refine E_go 2 rfl ?_
                            refine r_aload_n rfl ?_
                            refine r_getA (q := 65) (by decide) rfl rfl (by decide) ?_
                            refine r_iload_n rfl ?_
                            refine r_iaload (by decide) rfl (by decide) (ixE rfl (show a < 5 by omega) (by decide)) ((R.ki ha).trans ec) ?_
                            refine r_istore_n (ls' := [_, _, _, _]) (zt rfl) rfl ?_
                            refine r_nil ?_
                            refine E_go 3 rfl ?_
                            refine r_iload_n rfl ?_
                            refine r_iconst ?_
                            refine r_icmp_eq (fun c_35 => ?_) (fun c_35 => ?_)
                            · exact absurd c_35 (by decide)
                            · refine r_iload_n rfl ?_
                              refine r_iload_n rfl ?_
                              refine r_icmp_eq (fun c_40 => ?_) (fun c_40 => ?_)
                              · have c_40 := (n_eq (a := 1) (b := k) rfl rfl (by omega) (by omega)).mp c_40
                                refine E_go 4 rfl ?_
                                refine r_iload_n rfl ?_
                                refine r_iload_n rfl ?_
                                refine r_icmp_ne (fun c_53 => ?_) (fun c_53 => ?_)
                                · have c_53 := (not_congr (n_eq (a := 1) (b := k) rfl rfl (by omega) (by omega))).mp c_53
                                  refine E_go 5 rfl ?_
                                  refine r_bipush ?_
                                  refine r_nil ?_
                                  refine E_go 6 rfl ?_
                                  refine r_iret rfl trivial ?_
                                  first
                                  | (exfalso; omega)
                                  | exact hQ _ _ _ R.rel
                                · have c_53 := (n_eq (a := 1) (b := k) rfl rfl (by omega) (by omega)).mp c_53
                                  refine r_aload_n rfl ?_
                                  refine r_getA (q := 66) (by decide) rfl rfl (by decide) ?_
                                  refine r_iconst ?_
                                  refine r_iload_n rfl ?_
                                  refine r_imul ?_
                                  refine r_iaload (by decide) rfl (by decide) (ixE (n_mul (a := 3) (b := a) rfl rfl) (show (3 * a) < 15 by omega) (by decide)) (R.nu ha) ?_
                                  refine r_goto ?_
                                  refine E_go 6 rfl ?_
                                  refine r_iret rfl trivial ?_
                                  first
                                  | (exfalso; omega)
                                  | exact hQ _ _ _ R.rel
                              · have c_40 := (not_congr (n_eq (a := 1) (b := k) rfl rfl (by omega) (by omega))).mp c_40
                                refine r_iload_n rfl ?_
                                refine r_static (vs := [_]) (by decide) (zl rfl) rfl rfl (zl rfl) (Nat.le_refl _) rfl ?_
                                refine M_go (ls := [_]) (ml := 1) rfl rfl rfl (zl rfl) rfl ?_
                                refine r_iload_n rfl ?_
                                refine r_if_ne (fun c_44_1 => ?_) (fun c_44_1 => ?_)
                                · have c_44_1 := (not_congr (n_eq (a := 1) (b := 0) rfl rfl (by omega) (by omega))).mp c_44_1
                                  refine E_go 1 rfl ?_
                                  refine r_iload_n rfl ?_
                                  refine r_iconst ?_
                                  refine r_icmp_ne (fun c_44_10 => ?_) (fun c_44_10 => ?_)
                                  · have c_44_10 := (not_congr (n_eq (a := 1) (b := 3) rfl rfl (by omega) (by omega))).mp c_44_10
                                    refine E_go 2 rfl ?_
                                    refine r_iload_n rfl ?_
                                    refine r_iconst ?_
                                    refine r_icmp_ne (fun c_44_19 => ?_) (fun c_44_19 => ?_)
                                    · have c_44_19 := (not_congr (n_eq (a := 1) (b := 4) rfl rfl (by omega) (by omega))).mp c_44_19
                                      refine E_go 3 rfl ?_
                                      refine r_iconst ?_
                                      refine r_nil ?_
                                      refine E_go 4 rfl ?_
                                      refine r_iret rfl trivial ?_
                                      refine r_istore_n (ls' := [_, _, _, _]) (zt rfl) rfl ?_
                                      refine r_goto ?_
                                      refine E_go 3 rfl ?_
                                      refine r_iload_n rfl ?_
                                      refine r_iconst ?_
                                      refine r_icmp_eq (fun c_35 => ?_) (fun c_35 => ?_)
                                      · exact absurd c_35 (by decide)
                                      · refine r_iload_n rfl ?_
                                        refine r_iload_n rfl ?_
                                        refine r_icmp_eq (fun c_40 => ?_) (fun c_40 => ?_)
                                        · have c_40 := (n_eq (a := 0) (b := k) rfl rfl (by omega) (by omega)).mp c_40
                                          refine E_go 4 rfl ?_
                                          refine r_iload_n rfl ?_
                                          refine r_iload_n rfl ?_
                                          refine r_icmp_ne (fun c_53 => ?_) (fun c_53 => ?_)
                                          · have c_53 := (not_congr (n_eq (a := 0) (b := k) rfl rfl (by omega) (by omega))).mp c_53
                                            refine E_go 5 rfl ?_
                                            refine r_bipush ?_
                                            refine r_nil ?_
                                            refine E_go 6 rfl ?_
                                            refine r_iret rfl trivial ?_
                                            first
                                            | (exfalso; omega)
                                            | exact hQ _ _ _ R.rel
                                          · have c_53 := (n_eq (a := 0) (b := k) rfl rfl (by omega) (by omega)).mp c_53
                                            refine r_aload_n rfl ?_
                                            refine r_getA (q := 66) (by decide) rfl rfl (by decide) ?_
                                            refine r_iconst ?_
                                            refine r_iload_n rfl ?_
                                            refine r_imul ?_
                                            refine r_iaload (by decide) rfl (by decide) (ixE (n_mul (a := 3) (b := a) rfl rfl) (show (3 * a) < 15 by omega) (by decide)) (R.nu ha) ?_
                                            refine r_goto ?_
                                            refine E_go 6 rfl ?_
                                            refine r_iret rfl trivial ?_
                                            first
                                            | (exfalso; omega)
                                            | exact hQ _ _ _ R.rel
                                        · have c_40 := (not_congr (n_eq (a := 0) (b := k) rfl rfl (by omega) (by omega))).mp c_40
                                          refine r_iload_n rfl ?_
                                          refine r_static (vs := [_]) (by decide) (zl rfl) rfl rfl (zl rfl) (Nat.le_refl _) rfl ?_
                                          refine M_go (ls := [_]) (ml := 1) rfl rfl rfl (zl rfl) rfl ?_
                                          refine r_iload_n rfl ?_
                                          refine r_if_ne (fun c_44_1 => ?_) (fun c_44_1 => ?_)
                                          · have c_44_1 := (not_congr (n_eq (a := 0) (b := 0) rfl rfl (by omega) (by omega))).mp c_44_1
                                            omega
                                          · have c_44_1 := (n_eq (a := 0) (b := 0) rfl rfl (by omega) (by omega)).mp c_44_1
                                            refine r_iconst ?_
                                            refine r_goto ?_
                                            refine E_go 4 rfl ?_
                                            refine r_iret rfl trivial ?_
                                            refine r_istore_n (ls' := [_, _, _, _]) (zt rfl) rfl ?_
                                            refine r_goto ?_
                                            refine E_go 3 rfl ?_
                                            refine r_iload_n rfl ?_
                                            refine r_iconst ?_
                                            refine r_icmp_eq (fun c_35 => ?_) (fun c_35 => ?_)
                                            · refine E_go 4 rfl ?_
                                              refine r_iload_n rfl ?_
                                              refine r_iload_n rfl ?_
                                              refine r_icmp_ne (fun c_53 => ?_) (fun c_53 => ?_)
                                              · refine E_go 5 rfl ?_
                                                refine r_bipush ?_
                                                refine r_nil ?_
                                                refine E_go 6 rfl ?_
                                                refine r_iret rfl trivial ?_
                                                first
                                                | (exfalso; omega)
                                                | exact hQ _ _ _ R.rel
                                              · exact absurd c_53.symm (io_m1 (by omega))
                                            · exact absurd rfl c_35
                                    · have c_44_19 := (n_eq (a := 1) (b := 4) rfl rfl (by omega) (by omega)).mp c_44_19
                                      omega
                                  · have c_44_10 := (n_eq (a := 1) (b := 3) rfl rfl (by omega) (by omega)).mp c_44_10
                                    omega
                                · have c_44_1 := (n_eq (a := 1) (b := 0) rfl rfl (by omega) (by omega)).mp c_44_1
                                  omega
                          · have c_20 := (n_eq (a := 1) (b := 0) rfl rfl (by omega) (by omega)).mp c_20
                            omega
                        · have c_9 := (n_eq (a := 1) (b := 0) rfl rfl (by omega) (by omega)).mp c_9
                          omega
            · have c_18 := (n_eq (a := 1) (b := 0) rfl rfl (by omega) (by omega)).mp c_18
              omega
          · have c_7 := (not_congr (n_lt (a := k) (b := 6) rfl rfl (by omega) (by omega))).mp c_7
            omega
      · refine M_go (ls := [_, _, _]) (ml := 3) rfl rfl rfl (zl rfl) rfl ?_
        refine r_iload_n rfl ?_
        refine r_if_lt (fun c_1 => ?_) (fun c_1 => ?_)
        · have c_1 := (n_lt (a := k) (b := 0) rfl rfl (by omega) (by omega)).mp c_1
          omega
        · have c_1 := (not_congr (n_lt (a := k) (b := 0) rfl rfl (by omega) (by omega))).mp c_1
          refine r_iload_n rfl ?_
          refine r_bipush ?_
          refine r_icmp_lt (fun c_7 => ?_) (fun c_7 => ?_)
          · have c_7 := (n_lt (a := k) (b := 6) rfl rfl (by omega) (by omega)).mp c_7
            refine E_go 2 rfl ?_
            refine r_aload_n rfl ?_
            refine r_iload_n rfl ?_
            refine r_virtual (vs := []) (as := [_]) (by decide) (zl rfl) rfl rfl (zl rfl) (Nat.le_refl _) (Or.inr (Or.inr ⟨zt rfl, rfl, zt rfl⟩)) ?_
            refine s_isAunt (by omega) R.cn h5 ?_
            rw [if_pos (inN_io ha (by omega))]
            refine r_if_ne (fun c_18 => ?_) (fun c_18 => ?_)
            · have c_18 := (not_congr (n_eq (a := 1) (b := 0) rfl rfl (by omega) (by omega))).mp c_18
              refine E_go 3 rfl ?_
              refine r_aload_n rfl ?_
              refine r_getA (q := 1) (by decide) rfl rfl (by decide) ?_
              refine r_getA (q := 2) (by decide) rfl rfl (by decide) ?_
              refine r_iload_n rfl ?_
              refine r_iaload (by decide) rfl (by decide) (ixE rfl (show a < 5 by omega) (by decide)) ec ?_
              refine r_iload_n rfl ?_
              refine r_static (vs := [_, _]) (by decide) (zl rfl) rfl rfl (zl rfl) (Nat.le_refl _) rfl ?_
              refine M_go (ls := [_, _, _, _]) (ml := 4) rfl rfl rfl (zl rfl) rfl ?_
              refine r_iload_n rfl ?_
              refine r_istore_n (ls' := [_, _, _, _]) (zt rfl) rfl ?_
              refine r_iconst ?_
              refine r_istore_n (ls' := [_, _, _, _]) (zt rfl) rfl ?_
              refine r_nil ?_
              refine E_go 1 rfl ?_
              refine r_iload_n rfl ?_
              refine r_bipush ?_
              refine r_icmp_ge (fun c_34_7 => ?_) (fun c_34_7 => ?_)
              · have c_34_7 := (n_le (a := 6) (b := 0) rfl rfl (by omega) (by omega)).mp c_34_7
                omega
              · have c_34_7 := (not_congr (n_le (a := 6) (b := 0) rfl rfl (by omega) (by omega))).mp c_34_7
                refine r_iload_n rfl ?_
                refine r_if_lt (fun c_34_11 => ?_) (fun c_34_11 => ?_)
                · have c_34_11 := (n_lt (a := 2) (b := 0) rfl rfl (by omega) (by omega)).mp c_34_11
                  omega
                · have c_34_11 := (not_congr (n_lt (a := 2) (b := 0) rfl rfl (by omega) (by omega))).mp c_34_11
                  refine r_iload_n rfl ?_
                  refine r_bipush ?_
                  refine r_icmp_ge (fun c_34_17 => ?_) (fun c_34_17 => ?_)
                  · have c_34_17 := (n_le (a := 6) (b := 2) rfl rfl (by omega) (by omega)).mp c_34_17
                    omega
                  · have c_34_17 := (not_congr (n_le (a := 6) (b := 2) rfl rfl (by omega) (by omega))).mp c_34_17
                    refine r_iload_n rfl ?_
                    refine r_iload_n rfl ?_
                    refine r_icmp_ne (fun c_34_22 => ?_) (fun c_34_22 => ?_)
                    · have c_34_22 := (not_congr (n_eq (a := 2) (b := k) rfl rfl (by omega) (by omega))).mp c_34_22
                      refine E_go 2 rfl ?_
                      refine r_getstatic3 rfl ?_
                      refine r_iload_n rfl ?_
                      refine r_ialoadK rfl (vp_io (a := 2) (by omega) (by omega)) ?_
                      refine r_istore_n (ls' := [_, _, _, _]) (zt rfl) rfl ?_
                      refine r_iincN (y := io 1) (ls' := [_, _, _, _]) rfl (zt rfl) rfl rfl ?_
                      refine r_goto ?_
                      refine E_go 1 rfl ?_
                      refine r_iload_n rfl ?_
                      refine r_bipush ?_
                      refine r_icmp_ge (fun c_34_7 => ?_) (fun c_34_7 => ?_)
                      · have c_34_7 := (n_le (a := 6) (b := 1) rfl rfl (by omega) (by omega)).mp c_34_7
                        omega
                      · have c_34_7 := (not_congr (n_le (a := 6) (b := 1) rfl rfl (by omega) (by omega))).mp c_34_7
                        refine r_iload_n rfl ?_
                        refine r_if_lt (fun c_34_11 => ?_) (fun c_34_11 => ?_)
                        · have c_34_11 := (n_lt (a := 0) (b := 0) rfl rfl (by omega) (by omega)).mp c_34_11
                          omega
                        · have c_34_11 := (not_congr (n_lt (a := 0) (b := 0) rfl rfl (by omega) (by omega))).mp c_34_11
                          refine r_iload_n rfl ?_
                          refine r_bipush ?_
                          refine r_icmp_ge (fun c_34_17 => ?_) (fun c_34_17 => ?_)
                          · have c_34_17 := (n_le (a := 6) (b := 0) rfl rfl (by omega) (by omega)).mp c_34_17
                            omega
                          · have c_34_17 := (not_congr (n_le (a := 6) (b := 0) rfl rfl (by omega) (by omega))).mp c_34_17
                            refine r_iload_n rfl ?_
                            refine r_iload_n rfl ?_
                            refine r_icmp_ne (fun c_34_22 => ?_) (fun c_34_22 => ?_)
                            · have c_34_22 := (not_congr (n_eq (a := 0) (b := k) rfl rfl (by omega) (by omega))).mp c_34_22
                              refine E_go 2 rfl ?_
                              refine r_getstatic3 rfl ?_
                              refine r_iload_n rfl ?_
                              refine r_ialoadK rfl (vp_io (a := 0) (by omega) (by omega)) ?_
                              refine r_istore_n (ls' := [_, _, _, _]) (zt rfl) rfl ?_
                              refine r_iincN (y := io 2) (ls' := [_, _, _, _]) rfl (zt rfl) rfl rfl ?_
                              refine r_goto ?_
                              refine E_go 1 rfl ?_
                              refine r_iload_n rfl ?_
                              refine r_bipush ?_
                              refine r_icmp_ge (fun c_34_7 => ?_) (fun c_34_7 => ?_)
                              · have c_34_7 := (n_le (a := 6) (b := 2) rfl rfl (by omega) (by omega)).mp c_34_7
                                omega
                              · have c_34_7 := (not_congr (n_le (a := 6) (b := 2) rfl rfl (by omega) (by omega))).mp c_34_7
                                refine r_iload_n rfl ?_
                                refine r_if_lt (fun c_34_11 => ?_) (fun c_34_11 => ?_)
                                · refine E_go 3 rfl ?_
                                  refine r_iconst ?_
                                  refine r_iret rfl (by first | exact Or.inl rfl | exact Or.inr rfl) ?_
                                  refine r_if_eq (fun c_37 => ?_) (fun c_37 => ?_)
                                  · have c_37 := (n_eq (a := 0) (b := 0) rfl rfl (by omega) (by omega)).mp c_37
                                    refine E_go 4 rfl ?_
                                    refine r_bipush ?_
                                    refine r_nil ?_
                                    refine E_go 5 rfl ?_
                                    refine r_iret rfl trivial ?_
                                    refine M_go (ls := [_, _, _, _]) (ml := 4) rfl rfl rfl (zl rfl) rfl ?_
                                    refine r_iload_n rfl ?_
                                    refine r_i2l ?_
                                    refine r_lconst ?_
                                    refine r_ldc2_w ?_
                                    refine r_static (vs := [_, _, _]) (by decide) (zl rfl) rfl rfl (zl rfl) (Nat.le_refl _) rfl ?_
                                    refine s_in0 (by omega) (x := (io k)) (k := 6) (Int32.toInt_toInt64 _) i64_0 rfl ?_
                                    rw [if_pos (inN_io hk (by omega))]
                                    refine r_if_ne (fun c_9 => ?_) (fun c_9 => ?_)
                                    · have c_9 := (not_congr (n_eq (a := 1) (b := 0) rfl rfl (by omega) (by omega))).mp c_9
                                      refine E_go 1 rfl ?_
                                      refine r_aload_n rfl ?_
                                      refine r_iload_n rfl ?_
                                      refine r_virtual (vs := []) (as := [_]) (by decide) (zl rfl) rfl rfl (zl rfl) (Nat.le_refl _) (Or.inr (Or.inr ⟨zt rfl, rfl, zt rfl⟩)) ?_
                                      refine s_isOne (by omega) R.mn h5 ?_
                                      rw [if_pos (inN_io ha (by omega))]
                                      refine r_if_ne (fun c_20 => ?_) (fun c_20 => ?_)
                                      · have c_20 := (not_congr (n_eq (a := 1) (b := 0) rfl rfl (by omega) (by omega))).mp c_20
                                        refine E_go 2 rfl ?_
                                        refine r_aload_n rfl ?_
                                        refine r_getA (q := 65) (by decide) rfl rfl (by decide) ?_
                                        refine r_iload_n rfl ?_
                                        refine r_iaload (by decide) rfl (by decide) (ixE rfl (show a < 5 by omega) (by decide)) ((R.ki ha).trans ec) ?_
                                        refine r_istore_n (ls' := [_, _, _, _]) (zt rfl) rfl ?_
                                        refine r_nil ?_
                                        refine E_go 3 rfl ?_
                                        refine r_iload_n rfl ?_
                                        refine r_iconst ?_
                                        refine r_icmp_eq (fun c_35 => ?_) (fun c_35 => ?_)
                                        · exact absurd c_35 (by decide)
                                        · refine r_iload_n rfl ?_
                                          refine r_iload_n rfl ?_
                                          refine r_icmp_eq (fun c_40 => ?_) (fun c_40 => ?_)
                                          · have c_40 := (n_eq (a := 2) (b := k) rfl rfl (by omega) (by omega)).mp c_40
                                            refine E_go 4 rfl ?_
                                            refine r_iload_n rfl ?_
                                            refine r_iload_n rfl ?_
                                            refine r_icmp_ne (fun c_53 => ?_) (fun c_53 => ?_)
                                            · have c_53 := (not_congr (n_eq (a := 2) (b := k) rfl rfl (by omega) (by omega))).mp c_53
                                              refine E_go 5 rfl ?_
                                              refine r_bipush ?_
                                              refine r_nil ?_
                                              refine E_go 6 rfl ?_
                                              refine r_iret rfl trivial ?_
                                              first
                                              | (exfalso; omega)
                                              | exact hQ _ _ _ R.rel
                                            · have c_53 := (n_eq (a := 2) (b := k) rfl rfl (by omega) (by omega)).mp c_53
                                              refine r_aload_n rfl ?_
                                              refine r_getA (q := 66) (by decide) rfl rfl (by decide) ?_
                                              refine r_iconst ?_
                                              refine r_iload_n rfl ?_
                                              refine r_imul ?_
                                              refine r_iaload (by decide) rfl (by decide) (ixE (n_mul (a := 3) (b := a) rfl rfl) (show (3 * a) < 15 by omega) (by decide)) (R.nu ha) ?_
                                              refine r_goto ?_
                                              refine E_go 6 rfl ?_
                                              refine r_iret rfl trivial ?_
                                              first
                                              | (exfalso; omega)
                                              | exact hQ _ _ _ R.rel
                                          · have c_40 := (not_congr (n_eq (a := 2) (b := k) rfl rfl (by omega) (by omega))).mp c_40
                                            refine r_iload_n rfl ?_
                                            refine r_static (vs := [_]) (by decide) (zl rfl) rfl rfl (zl rfl) (Nat.le_refl _) rfl ?_
                                            refine M_go (ls := [_]) (ml := 1) rfl rfl rfl (zl rfl) rfl ?_
                                            refine r_iload_n rfl ?_
                                            refine r_if_ne (fun c_44_1 => ?_) (fun c_44_1 => ?_)
                                            · have c_44_1 := (not_congr (n_eq (a := 2) (b := 0) rfl rfl (by omega) (by omega))).mp c_44_1
                                              refine E_go 1 rfl ?_
                                              refine r_iload_n rfl ?_
                                              refine r_iconst ?_
                                              refine r_icmp_ne (fun c_44_10 => ?_) (fun c_44_10 => ?_)
                                              · have c_44_10 := (not_congr (n_eq (a := 2) (b := 3) rfl rfl (by omega) (by omega))).mp c_44_10
                                                refine E_go 2 rfl ?_
                                                refine r_iload_n rfl ?_
                                                refine r_iconst ?_
                                                refine r_icmp_ne (fun c_44_19 => ?_) (fun c_44_19 => ?_)
                                                · have c_44_19 := (not_congr (n_eq (a := 2) (b := 4) rfl rfl (by omega) (by omega))).mp c_44_19
                                                  refine E_go 3 rfl ?_
                                                  refine r_iconst ?_
                                                  refine r_nil ?_
                                                  refine E_go 4 rfl ?_
                                                  refine r_iret rfl trivial ?_
                                                  refine r_istore_n (ls' := [_, _, _, _]) (zt rfl) rfl ?_
                                                  refine r_goto ?_
                                                  refine E_go 3 rfl ?_
                                                  refine r_iload_n rfl ?_
                                                  refine r_iconst ?_
                                                  refine r_icmp_eq (fun c_35 => ?_) (fun c_35 => ?_)
                                                  · exact absurd c_35 (by decide)
                                                  · refine r_iload_n rfl ?_
                                                    refine r_iload_n rfl ?_
                                                    refine r_icmp_eq (fun c_40 => ?_) (fun c_40 => ?_)
                                                    · have c_40 := (n_eq (a := 0) (b := k) rfl rfl (by omega) (by omega)).mp c_40
                                                      refine E_go 4 rfl ?_
                                                      refine r_iload_n rfl ?_
                                                      refine r_iload_n rfl ?_
                                                      refine r_icmp_ne (fun c_53 => ?_) (fun c_53 => ?_)
                                                      · have c_53 := (not_congr (n_eq (a := 0) (b := k) rfl rfl (by omega) (by omega))).mp c_53
                                                        refine E_go 5 rfl ?_
                                                        refine r_bipush ?_
                                                        refine r_nil ?_
                                                        refine E_go 6 rfl ?_
                                                        refine r_iret rfl trivial ?_
                                                        first
                                                        | (exfalso; omega)
                                                        | exact hQ _ _ _ R.rel
                                                      · have c_53 := (n_eq (a := 0) (b := k) rfl rfl (by omega) (by omega)).mp c_53
                                                        refine r_aload_n rfl ?_
                                                        refine r_getA (q := 66) (by decide) rfl rfl (by decide) ?_
                                                        refine r_iconst ?_
                                                        refine r_iload_n rfl ?_
                                                        refine r_imul ?_
                                                        refine r_iaload (by decide) rfl (by decide) (ixE (n_mul (a := 3) (b := a) rfl rfl) (show (3 * a) < 15 by omega) (by decide)) (R.nu ha) ?_
                                                        refine r_goto ?_
                                                        refine E_go 6 rfl ?_
                                                        refine r_iret rfl trivial ?_
                                                        first
                                                        | (exfalso; omega)
                                                        | exact hQ _ _ _ R.rel
                                                    · have c_40 := (not_congr (n_eq (a := 0) (b := k) rfl rfl (by omega) (by omega))).mp c_40
                                                      refine r_iload_n rfl ?_
                                                      refine r_static (vs := [_]) (by decide) (zl rfl) rfl rfl (zl rfl) (Nat.le_refl _) rfl ?_
                                                      refine M_go (ls := [_]) (ml := 1) rfl rfl rfl (zl rfl) rfl ?_
                                                      refine r_iload_n rfl ?_
                                                      refine r_if_ne (fun c_44_1 => ?_) (fun c_44_1 => ?_)
                                                      · have c_44_1 := (not_congr (n_eq (a := 0) (b := 0) rfl rfl (by omega) (by omega))).mp c_44_1
                                                        omega
                                                      · have c_44_1 := (n_eq (a := 0) (b := 0) rfl rfl (by omega) (by omega)).mp c_44_1
                                                        refine r_iconst ?_
                                                        refine r_goto ?_
                                                        refine E_go 4 rfl ?_
                                                        refine r_iret rfl trivial ?_
                                                        refine r_istore_n (ls' := [_, _, _, _]) (zt rfl) rfl ?_
                                                        refine r_goto ?_
                                                        refine E_go 3 rfl ?_
                                                        refine r_iload_n rfl ?_
                                                        refine r_iconst ?_
                                                        refine r_icmp_eq (fun c_35 => ?_) (fun c_35 => ?_)
                                                        · refine E_go 4 rfl ?_
                                                          refine r_iload_n rfl ?_
                                                          refine r_iload_n rfl ?_
                                                          refine r_icmp_ne (fun c_53 => ?_) (fun c_53 => ?_)
                                                          · refine E_go 5 rfl ?_
                                                            refine r_bipush ?_
                                                            refine r_nil ?_
                                                            refine E_go 6 rfl ?_
                                                            refine r_iret rfl trivial ?_
                                                            first
                                                            | (exfalso; omega)
                                                            | exact hQ _ _ _ R.rel
                                                          · exact absurd c_53.symm (io_m1 (by omega))
                                                        · exact absurd rfl c_35
                                                · have c_44_19 := (n_eq (a := 2) (b := 4) rfl rfl (by omega) (by omega)).mp c_44_19
                                                  omega
                                              · have c_44_10 := (n_eq (a := 2) (b := 3) rfl rfl (by omega) (by omega)).mp c_44_10
                                                omega
                                            · have c_44_1 := (n_eq (a := 2) (b := 0) rfl rfl (by omega) (by omega)).mp c_44_1
                                              omega
                                      · have c_20 := (n_eq (a := 1) (b := 0) rfl rfl (by omega) (by omega)).mp c_20
                                        omega
                                    · have c_9 := (n_eq (a := 1) (b := 0) rfl rfl (by omega) (by omega)).mp c_9
                                      omega
                                  · have c_37 := (not_congr (n_eq (a := 0) (b := 0) rfl rfl (by omega) (by omega))).mp c_37
                                    omega
                                · exact absurd (by decide) c_34_11
                            · have c_34_22 := (n_eq (a := 0) (b := k) rfl rfl (by omega) (by omega)).mp c_34_22
                              refine r_iconst ?_
                              refine r_iret rfl (by first | exact Or.inl rfl | exact Or.inr rfl) ?_
                              refine r_if_eq (fun c_37 => ?_) (fun c_37 => ?_)
                              · have c_37 := (n_eq (a := 1) (b := 0) rfl rfl (by omega) (by omega)).mp c_37
                                omega
                              · have c_37 := (not_congr (n_eq (a := 1) (b := 0) rfl rfl (by omega) (by omega))).mp c_37
                                refine r_aload_n rfl ?_
                                refine r_getA (q := 1) (by decide) rfl rfl (by decide) ?_
                                refine r_getA (q := 3) (by decide) rfl rfl (by decide) ?_
                                refine r_iload_n rfl ?_
                                refine r_iaload (by decide) rfl (by decide) (ixE rfl (show a < 5 by omega) (by decide)) rfl ?_
                                refine r_goto ?_
                                refine E_go 5 rfl ?_
                                refine r_iret rfl trivial ?_
                                refine M_go (ls := [_, _, _, _]) (ml := 4) rfl rfl rfl (zl rfl) rfl ?_
                                refine r_iload_n rfl ?_
                                refine r_i2l ?_
                                refine r_lconst ?_
                                refine r_ldc2_w ?_
                                refine r_static (vs := [_, _, _]) (by decide) (zl rfl) rfl rfl (zl rfl) (Nat.le_refl _) rfl ?_
                                refine s_in0 (by omega) (x := (io k)) (k := 6) (Int32.toInt_toInt64 _) i64_0 rfl ?_
                                rw [if_pos (inN_io hk (by omega))]
                                refine r_if_ne (fun c_9 => ?_) (fun c_9 => ?_)
                                · have c_9 := (not_congr (n_eq (a := 1) (b := 0) rfl rfl (by omega) (by omega))).mp c_9
                                  refine E_go 1 rfl ?_
                                  refine r_aload_n rfl ?_
                                  refine r_iload_n rfl ?_
                                  refine r_virtual (vs := []) (as := [_]) (by decide) (zl rfl) rfl rfl (zl rfl) (Nat.le_refl _) (Or.inr (Or.inr ⟨zt rfl, rfl, zt rfl⟩)) ?_
                                  refine s_isOne (by omega) R.mn h5 ?_
                                  rw [if_pos (inN_io ha (by omega))]
                                  refine r_if_ne (fun c_20 => ?_) (fun c_20 => ?_)
                                  · have c_20 := (not_congr (n_eq (a := 1) (b := 0) rfl rfl (by omega) (by omega))).mp c_20
                                    refine E_go 2 rfl ?_
                                    refine r_aload_n rfl ?_
                                    refine r_getA (q := 65) (by decide) rfl rfl (by decide) ?_
                                    refine r_iload_n rfl ?_
                                    refine r_iaload (by decide) rfl (by decide) (ixE rfl (show a < 5 by omega) (by decide)) ((R.ki ha).trans ec) ?_
                                    refine r_istore_n (ls' := [_, _, _, _]) (zt rfl) rfl ?_
                                    refine r_nil ?_
                                    refine E_go 3 rfl ?_
                                    refine r_iload_n rfl ?_
                                    refine r_iconst ?_
                                    refine r_icmp_eq (fun c_35 => ?_) (fun c_35 => ?_)
                                    · exact absurd c_35 (by decide)
                                    · refine r_iload_n rfl ?_
                                      refine r_iload_n rfl ?_
                                      refine r_icmp_eq (fun c_40 => ?_) (fun c_40 => ?_)
                                      · have c_40 := (n_eq (a := 2) (b := k) rfl rfl (by omega) (by omega)).mp c_40
                                        refine E_go 4 rfl ?_
                                        refine r_iload_n rfl ?_
                                        refine r_iload_n rfl ?_
                                        refine r_icmp_ne (fun c_53 => ?_) (fun c_53 => ?_)
                                        · have c_53 := (not_congr (n_eq (a := 2) (b := k) rfl rfl (by omega) (by omega))).mp c_53
                                          refine E_go 5 rfl ?_
                                          refine r_bipush ?_
                                          refine r_nil ?_
                                          refine E_go 6 rfl ?_
                                          refine r_iret rfl trivial ?_
                                          first
                                          | (exfalso; omega)
                                          | exact hQ _ _ _ R.rel
                                        · have c_53 := (n_eq (a := 2) (b := k) rfl rfl (by omega) (by omega)).mp c_53
                                          refine r_aload_n rfl ?_
                                          refine r_getA (q := 66) (by decide) rfl rfl (by decide) ?_
                                          refine r_iconst ?_
                                          refine r_iload_n rfl ?_
                                          refine r_imul ?_
                                          refine r_iaload (by decide) rfl (by decide) (ixE (n_mul (a := 3) (b := a) rfl rfl) (show (3 * a) < 15 by omega) (by decide)) (R.nu ha) ?_
                                          refine r_goto ?_
                                          refine E_go 6 rfl ?_
                                          refine r_iret rfl trivial ?_
                                          first
                                          | (exfalso; omega)
                                          | exact hQ _ _ _ R.rel
                                      · have c_40 := (not_congr (n_eq (a := 2) (b := k) rfl rfl (by omega) (by omega))).mp c_40
                                        refine r_iload_n rfl ?_
                                        refine r_static (vs := [_]) (by decide) (zl rfl) rfl rfl (zl rfl) (Nat.le_refl _) rfl ?_
                                        refine M_go (ls := [_]) (ml := 1) rfl rfl rfl (zl rfl) rfl ?_
                                        refine r_iload_n rfl ?_
                                        refine r_if_ne (fun c_44_1 => ?_) (fun c_44_1 => ?_)
                                        · have c_44_1 := (not_congr (n_eq (a := 2) (b := 0) rfl rfl (by omega) (by omega))).mp c_44_1
                                          refine E_go 1 rfl ?_
                                          refine r_iload_n rfl ?_
                                          refine r_iconst ?_
                                          refine r_icmp_ne (fun c_44_10 => ?_) (fun c_44_10 => ?_)
                                          · have c_44_10 := (not_congr (n_eq (a := 2) (b := 3) rfl rfl (by omega) (by omega))).mp c_44_10
                                            refine E_go 2 rfl ?_
                                            refine r_iload_n rfl ?_
                                            refine r_iconst ?_
                                            refine r_icmp_ne (fun c_44_19 => ?_) (fun c_44_19 => ?_)
                                            · have c_44_19 := (not_congr (n_eq (a := 2) (b := 4) rfl rfl (by omega) (by omega))).mp c_44_19
                                              refine E_go 3 rfl ?_
                                              refine r_iconst ?_
                                              refine r_nil ?_
                                              refine E_go 4 rfl ?_
                                              refine r_iret rfl trivial ?_
                                              refine r_istore_n (ls' := [_, _, _, _]) (zt rfl) rfl ?_
                                              refine r_goto ?_
                                              refine E_go 3 rfl ?_
                                              refine r_iload_n rfl ?_
                                              refine r_iconst ?_
                                              refine r_icmp_eq (fun c_35 => ?_) (fun c_35 => ?_)
                                              · exact absurd c_35 (by decide)
                                              · refine r_iload_n rfl ?_
                                                refine r_iload_n rfl ?_
                                                refine r_icmp_eq (fun c_40 => ?_) (fun c_40 => ?_)
                                                · have c_40 := (n_eq (a := 0) (b := k) rfl rfl (by omega) (by omega)).mp c_40
                                                  refine E_go 4 rfl ?_
                                                  refine r_iload_n rfl ?_
                                                  refine r_iload_n rfl ?_
                                                  refine r_icmp_ne (fun c_53 => ?_) (fun c_53 => ?_)
                                                  · have c_53 := (not_congr (n_eq (a := 0) (b := k) rfl rfl (by omega) (by omega))).mp c_53
                                                    refine E_go 5 rfl ?_
                                                    refine r_bipush ?_
                                                    refine r_nil ?_
                                                    refine E_go 6 rfl ?_
                                                    refine r_iret rfl trivial ?_
                                                    first
                                                    | (exfalso; omega)
                                                    | exact hQ _ _ _ R.rel
                                                  · have c_53 := (n_eq (a := 0) (b := k) rfl rfl (by omega) (by omega)).mp c_53
                                                    refine r_aload_n rfl ?_
                                                    refine r_getA (q := 66) (by decide) rfl rfl (by decide) ?_
                                                    refine r_iconst ?_
                                                    refine r_iload_n rfl ?_
                                                    refine r_imul ?_
                                                    refine r_iaload (by decide) rfl (by decide) (ixE (n_mul (a := 3) (b := a) rfl rfl) (show (3 * a) < 15 by omega) (by decide)) (R.nu ha) ?_
                                                    refine r_goto ?_
                                                    refine E_go 6 rfl ?_
                                                    refine r_iret rfl trivial ?_
                                                    first
                                                    | (exfalso; omega)
                                                    | exact hQ _ _ _ R.rel
                                                · have c_40 := (not_congr (n_eq (a := 0) (b := k) rfl rfl (by omega) (by omega))).mp c_40
                                                  refine r_iload_n rfl ?_
                                                  refine r_static (vs := [_]) (by decide) (zl rfl) rfl rfl (zl rfl) (Nat.le_refl _) rfl ?_
                                                  refine M_go (ls := [_]) (ml := 1) rfl rfl rfl (zl rfl) rfl ?_
                                                  refine r_iload_n rfl ?_
                                                  refine r_if_ne (fun c_44_1 => ?_) (fun c_44_1 => ?_)
                                                  · have c_44_1 := (not_congr (n_eq (a := 0) (b := 0) rfl rfl (by omega) (by omega))).mp c_44_1
                                                    omega
                                                  · have c_44_1 := (n_eq (a := 0) (b := 0) rfl rfl (by omega) (by omega)).mp c_44_1
                                                    refine r_iconst ?_
                                                    refine r_goto ?_
                                                    refine E_go 4 rfl ?_
                                                    refine r_iret rfl trivial ?_
                                                    refine r_istore_n (ls' := [_, _, _, _]) (zt rfl) rfl ?_
                                                    refine r_goto ?_
                                                    refine E_go 3 rfl ?_
                                                    refine r_iload_n rfl ?_
                                                    refine r_iconst ?_
                                                    refine r_icmp_eq (fun c_35 => ?_) (fun c_35 => ?_)
                                                    · refine E_go 4 rfl ?_
                                                      refine r_iload_n rfl ?_
                                                      refine r_iload_n rfl ?_
                                                      refine r_icmp_ne (fun c_53 => ?_) (fun c_53 => ?_)
                                                      · refine E_go 5 rfl ?_
                                                        refine r_bipush ?_
                                                        refine r_nil ?_
                                                        refine E_go 6 rfl ?_
                                                        refine r_iret rfl trivial ?_
                                                        first
                                                        | (exfalso; omega)
                                                        | exact hQ _ _ _ R.rel
                                                      · exact absurd c_53.symm (io_m1 (by omega))
                                                    · exact absurd rfl c_35
                                            · have c_44_19 := (n_eq (a := 2) (b := 4) rfl rfl (by omega) (by omega)).mp c_44_19
                                              omega
                                          · have c_44_10 := (n_eq (a := 2) (b := 3) rfl rfl (by omega) (by omega)).mp c_44_10
                                            omega
                                        · have c_44_1 := (n_eq (a := 2) (b := 0) rfl rfl (by omega) (by omega)).mp c_44_1
                                          omega
                                  · have c_20 := (n_eq (a := 1) (b := 0) rfl rfl (by omega) (by omega)).mp c_20
                                    omega
                                · have c_9 := (n_eq (a := 1) (b := 0) rfl rfl (by omega) (by omega)).mp c_9
                                  omega
                    · have c_34_22 := (n_eq (a := 2) (b := k) rfl rfl (by omega) (by omega)).mp c_34_22
                      refine r_iconst ?_
                      refine r_iret rfl (by first | exact Or.inl rfl | exact Or.inr rfl) ?_
                      refine r_if_eq (fun c_37 => ?_) (fun c_37 => ?_)
                      · have c_37 := (n_eq (a := 1) (b := 0) rfl rfl (by omega) (by omega)).mp c_37
                        omega
                      · have c_37 := (not_congr (n_eq (a := 1) (b := 0) rfl rfl (by omega) (by omega))).mp c_37
                        refine r_aload_n rfl ?_
                        refine r_getA (q := 1) (by decide) rfl rfl (by decide) ?_
                        refine r_getA (q := 3) (by decide) rfl rfl (by decide) ?_
                        refine r_iload_n rfl ?_
                        refine r_iaload (by decide) rfl (by decide) (ixE rfl (show a < 5 by omega) (by decide)) rfl ?_
                        refine r_goto ?_
                        refine E_go 5 rfl ?_
                        refine r_iret rfl trivial ?_
                        refine M_go (ls := [_, _, _, _]) (ml := 4) rfl rfl rfl (zl rfl) rfl ?_
                        refine r_iload_n rfl ?_
                        refine r_i2l ?_
                        refine r_lconst ?_
                        refine r_ldc2_w ?_
                        refine r_static (vs := [_, _, _]) (by decide) (zl rfl) rfl rfl (zl rfl) (Nat.le_refl _) rfl ?_
                        refine s_in0 (by omega) (x := (io k)) (k := 6) (Int32.toInt_toInt64 _) i64_0 rfl ?_
                        rw [if_pos (inN_io hk (by omega))]
                        refine r_if_ne (fun c_9 => ?_) (fun c_9 => ?_)
                        · have c_9 := (not_congr (n_eq (a := 1) (b := 0) rfl rfl (by omega) (by omega))).mp c_9
                          refine E_go 1 rfl ?_
                          refine r_aload_n rfl ?_
                          refine r_iload_n rfl ?_
                          refine r_virtual (vs := []) (as := [_]) (by decide) (zl rfl) rfl rfl (zl rfl) (Nat.le_refl _) (Or.inr (Or.inr ⟨zt rfl, rfl, zt rfl⟩)) ?_
                          refine s_isOne (by omega) R.mn h5 ?_
                          rw [if_pos (inN_io ha (by omega))]
                          refine r_if_ne (fun c_20 => ?_) (fun c_20 => ?_)
                          · have c_20 := (not_congr (n_eq (a := 1) (b := 0) rfl rfl (by omega) (by omega))).mp c_20
                            refine E_go 2 rfl ?_
                            refine r_aload_n rfl ?_
                            refine r_getA (q := 65) (by decide) rfl rfl (by decide) ?_
                            refine r_iload_n rfl ?_
                            refine r_iaload (by decide) rfl (by decide) (ixE rfl (show a < 5 by omega) (by decide)) ((R.ki ha).trans ec) ?_
                            refine r_istore_n (ls' := [_, _, _, _]) (zt rfl) rfl ?_
                            refine r_nil ?_
                            refine E_go 3 rfl ?_
                            refine r_iload_n rfl ?_
                            refine r_iconst ?_
                            refine r_icmp_eq (fun c_35 => ?_) (fun c_35 => ?_)
                            · exact absurd c_35 (by decide)
                            · refine r_iload_n rfl ?_
                              refine r_iload_n rfl ?_
                              refine r_icmp_eq (fun c_40 => ?_) (fun c_40 => ?_)
                              · have c_40 := (n_eq (a := 2) (b := k) rfl rfl (by omega) (by omega)).mp c_40
                                refine E_go 4 rfl ?_
                                refine r_iload_n rfl ?_
                                refine r_iload_n rfl ?_
                                refine r_icmp_ne (fun c_53 => ?_) (fun c_53 => ?_)
                                · have c_53 := (not_congr (n_eq (a := 2) (b := k) rfl rfl (by omega) (by omega))).mp c_53
                                  refine E_go 5 rfl ?_
                                  refine r_bipush ?_
                                  refine r_nil ?_
                                  refine E_go 6 rfl ?_
                                  refine r_iret rfl trivial ?_
                                  first
                                  | (exfalso; omega)
                                  | exact hQ _ _ _ R.rel
                                · have c_53 := (n_eq (a := 2) (b := k) rfl rfl (by omega) (by omega)).mp c_53
                                  refine r_aload_n rfl ?_
                                  refine r_getA (q := 66) (by decide) rfl rfl (by decide) ?_
                                  refine r_iconst ?_
                                  refine r_iload_n rfl ?_
                                  refine r_imul ?_
                                  refine r_iaload (by decide) rfl (by decide) (ixE (n_mul (a := 3) (b := a) rfl rfl) (show (3 * a) < 15 by omega) (by decide)) (R.nu ha) ?_
                                  refine r_goto ?_
                                  refine E_go 6 rfl ?_
                                  refine r_iret rfl trivial ?_
                                  first
                                  | (exfalso; omega)
                                  | exact hQ _ _ _ R.rel
                              · have c_40 := (not_congr (n_eq (a := 2) (b := k) rfl rfl (by omega) (by omega))).mp c_40
                                refine r_iload_n rfl ?_
                                refine r_static (vs := [_]) (by decide) (zl rfl) rfl rfl (zl rfl) (Nat.le_refl _) rfl ?_
                                refine M_go (ls := [_]) (ml := 1) rfl rfl rfl (zl rfl) rfl ?_
                                refine r_iload_n rfl ?_
                                refine r_if_ne (fun c_44_1 => ?_) (fun c_44_1 => ?_)
                                · have c_44_1 := (not_congr (n_eq (a := 2) (b := 0) rfl rfl (by omega) (by omega))).mp c_44_1
                                  refine E_go 1 rfl ?_
                                  refine r_iload_n rfl ?_
                                  refine r_iconst ?_
                                  refine r_icmp_ne (fun c_44_10 => ?_) (fun c_44_10 => ?_)
                                  · have c_44_10 := (not_congr (n_eq (a := 2) (b := 3) rfl rfl (by omega) (by omega))).mp c_44_10
                                    refine E_go 2 rfl ?_
                                    refine r_iload_n rfl ?_
                                    refine r_iconst ?_
                                    refine r_icmp_ne (fun c_44_19 => ?_) (fun c_44_19 => ?_)
                                    · have c_44_19 := (not_congr (n_eq (a := 2) (b := 4) rfl rfl (by omega) (by omega))).mp c_44_19
                                      refine E_go 3 rfl ?_
                                      refine r_iconst ?_
                                      refine r_nil ?_
                                      refine E_go 4 rfl ?_
                                      refine r_iret rfl trivial ?_
                                      refine r_istore_n (ls' := [_, _, _, _]) (zt rfl) rfl ?_
                                      refine r_goto ?_
                                      refine E_go 3 rfl ?_
                                      refine r_iload_n rfl ?_
                                      refine r_iconst ?_
                                      refine r_icmp_eq (fun c_35 => ?_) (fun c_35 => ?_)
                                      · exact absurd c_35 (by decide)
                                      · refine r_iload_n rfl ?_
                                        refine r_iload_n rfl ?_
                                        refine r_icmp_eq (fun c_40 => ?_) (fun c_40 => ?_)
                                        · have c_40 := (n_eq (a := 0) (b := k) rfl rfl (by omega) (by omega)).mp c_40
                                          refine E_go 4 rfl ?_
                                          refine r_iload_n rfl ?_
                                          refine r_iload_n rfl ?_
                                          refine r_icmp_ne (fun c_53 => ?_) (fun c_53 => ?_)
                                          · have c_53 := (not_congr (n_eq (a := 0) (b := k) rfl rfl (by omega) (by omega))).mp c_53
                                            refine E_go 5 rfl ?_
                                            refine r_bipush ?_
                                            refine r_nil ?_
                                            refine E_go 6 rfl ?_
                                            refine r_iret rfl trivial ?_
                                            first
                                            | (exfalso; omega)
                                            | exact hQ _ _ _ R.rel
                                          · have c_53 := (n_eq (a := 0) (b := k) rfl rfl (by omega) (by omega)).mp c_53
                                            refine r_aload_n rfl ?_
                                            refine r_getA (q := 66) (by decide) rfl rfl (by decide) ?_
                                            refine r_iconst ?_
                                            refine r_iload_n rfl ?_
                                            refine r_imul ?_
                                            refine r_iaload (by decide) rfl (by decide) (ixE (n_mul (a := 3) (b := a) rfl rfl) (show (3 * a) < 15 by omega) (by decide)) (R.nu ha) ?_
                                            refine r_goto ?_
                                            refine E_go 6 rfl ?_
                                            refine r_iret rfl trivial ?_
                                            first
                                            | (exfalso; omega)
                                            | exact hQ _ _ _ R.rel
                                        · have c_40 := (not_congr (n_eq (a := 0) (b := k) rfl rfl (by omega) (by omega))).mp c_40
                                          refine r_iload_n rfl ?_
                                          refine r_static (vs := [_]) (by decide) (zl rfl) rfl rfl (zl rfl) (Nat.le_refl _) rfl ?_
                                          refine M_go (ls := [_]) (ml := 1) rfl rfl rfl (zl rfl) rfl ?_
                                          refine r_iload_n rfl ?_
                                          refine r_if_ne (fun c_44_1 => ?_) (fun c_44_1 => ?_)
                                          · have c_44_1 := (not_congr (n_eq (a := 0) (b := 0) rfl rfl (by omega) (by omega))).mp c_44_1
                                            omega
                                          · have c_44_1 := (n_eq (a := 0) (b := 0) rfl rfl (by omega) (by omega)).mp c_44_1
                                            refine r_iconst ?_
                                            refine r_goto ?_
                                            refine E_go 4 rfl ?_
                                            refine r_iret rfl trivial ?_
                                            refine r_istore_n (ls' := [_, _, _, _]) (zt rfl) rfl ?_
                                            refine r_goto ?_
                                            refine E_go 3 rfl ?_
                                            refine r_iload_n rfl ?_
                                            refine r_iconst ?_
                                            refine r_icmp_eq (fun c_35 => ?_) (fun c_35 => ?_)
                                            · refine E_go 4 rfl ?_
                                              refine r_iload_n rfl ?_
                                              refine r_iload_n rfl ?_
                                              refine r_icmp_ne (fun c_53 => ?_) (fun c_53 => ?_)
                                              · refine E_go 5 rfl ?_
                                                refine r_bipush ?_
                                                refine r_nil ?_
                                                refine E_go 6 rfl ?_
                                                refine r_iret rfl trivial ?_
                                                first
                                                | (exfalso; omega)
                                                | exact hQ _ _ _ R.rel
                                              · exact absurd c_53.symm (io_m1 (by omega))
                                            · exact absurd rfl c_35
                                    · have c_44_19 := (n_eq (a := 2) (b := 4) rfl rfl (by omega) (by omega)).mp c_44_19
                                      omega
                                  · have c_44_10 := (n_eq (a := 2) (b := 3) rfl rfl (by omega) (by omega)).mp c_44_10
                                    omega
                                · have c_44_1 := (n_eq (a := 2) (b := 0) rfl rfl (by omega) (by omega)).mp c_44_1
                                  omega
                          · have c_20 := (n_eq (a := 1) (b := 0) rfl rfl (by omega) (by omega)).mp c_20
                            omega
                        · have c_9 := (n_eq (a := 1) (b := 0) rfl rfl (by omega) (by omega)).mp c_9
                          omega
            · have c_18 := (n_eq (a := 1) (b := 0) rfl rfl (by omega) (by omega)).mp c_18
              omega
          · have c_7 := (not_congr (n_lt (a := k) (b := 6) rfl rfl (by omega) (by omega))).mp c_7
            omega
      · refine M_go (ls := [_, _, _]) (ml := 3) rfl rfl rfl (zl rfl) rfl ?_
        refine r_iload_n rfl ?_
        refine r_if_lt (fun c_1 => ?_) (fun c_1 => ?_)
        · have c_1 := (n_lt (a := k) (b := 0) rfl rfl (by omega) (by omega)).mp c_1
          omega
        · have c_1 := (not_congr (n_lt (a := k) (b := 0) rfl rfl (by omega) (by omega))).mp c_1
          refine r_iload_n rfl ?_
          refine r_bipush ?_
          refine r_icmp_lt (fun c_7 => ?_) (fun c_7 => ?_)
          · have c_7 := (n_lt (a := k) (b := 6) rfl rfl (by omega) (by omega)).mp c_7
            refine E_go 2 rfl ?_
            refine r_aload_n rfl ?_
            refine r_iload_n rfl ?_
            refine r_virtual (vs := []) (as := [_]) (by decide) (zl rfl) rfl rfl (zl rfl) (Nat.le_refl _) (Or.inr (Or.inr ⟨zt rfl, rfl, zt rfl⟩)) ?_
            refine s_isAunt (by omega) R.cn h5 ?_
            rw [if_pos (inN_io ha (by omega))]
            refine r_if_ne (fun c_18 => ?_) (fun c_18 => ?_)
            · have c_18 := (not_congr (n_eq (a := 1) (b := 0) rfl rfl (by omega) (by omega))).mp c_18
              refine E_go 3 rfl ?_
              refine r_aload_n rfl ?_
              refine r_getA (q := 1) (by decide) rfl rfl (by decide) ?_
              refine r_getA (q := 2) (by decide) rfl rfl (by decide) ?_
              refine r_iload_n rfl ?_
              refine r_iaload (by decide) rfl (by decide) (ixE rfl (show a < 5 by omega) (by decide)) ec ?_
              refine r_iload_n rfl ?_
              refine r_static (vs := [_, _]) (by decide) (zl rfl) rfl rfl (zl rfl) (Nat.le_refl _) rfl ?_
              refine M_go (ls := [_, _, _, _]) (ml := 4) rfl rfl rfl (zl rfl) rfl ?_
              refine r_iload_n rfl ?_
              refine r_istore_n (ls' := [_, _, _, _]) (zt rfl) rfl ?_
              refine r_iconst ?_
              refine r_istore_n (ls' := [_, _, _, _]) (zt rfl) rfl ?_
              refine r_nil ?_
              refine E_go 1 rfl ?_
              refine r_iload_n rfl ?_
              refine r_bipush ?_
              refine r_icmp_ge (fun c_34_7 => ?_) (fun c_34_7 => ?_)
              · have c_34_7 := (n_le (a := 6) (b := 0) rfl rfl (by omega) (by omega)).mp c_34_7
                omega
              · have c_34_7 := (not_congr (n_le (a := 6) (b := 0) rfl rfl (by omega) (by omega))).mp c_34_7
                refine r_iload_n rfl ?_
                refine r_if_lt (fun c_34_11 => ?_) (fun c_34_11 => ?_)
                · have c_34_11 := (n_lt (a := 3) (b := 0) rfl rfl (by omega) (by omega)).mp c_34_11
                  omega
                · have c_34_11 := (not_congr (n_lt (a := 3) (b := 0) rfl rfl (by omega) (by omega))).mp c_34_11
                  refine r_iload_n rfl ?_
                  refine r_bipush ?_
                  refine r_icmp_ge (fun c_34_17 => ?_) (fun c_34_17 => ?_)
                  · have c_34_17 := (n_le (a := 6) (b := 3) rfl rfl (by omega) (by omega)).mp c_34_17
                    omega
                  · have c_34_17 := (not_congr (n_le (a := 6) (b := 3) rfl rfl (by omega) (by omega))).mp c_34_17
                    refine r_iload_n rfl ?_
                    refine r_iload_n rfl ?_
                    refine r_icmp_ne (fun c_34_22 => ?_) (fun c_34_22 => ?_)
                    · have c_34_22 := (not_congr (n_eq (a := 3) (b := k) rfl rfl (by omega) (by omega))).mp c_34_22
                      refine E_go 2 rfl ?_
                      refine r_getstatic3 rfl ?_
                      refine r_iload_n rfl ?_
                      refine r_ialoadK rfl (vp_io (a := 3) (by omega) (by omega)) ?_
                      refine r_istore_n (ls' := [_, _, _, _]) (zt rfl) rfl ?_
                      refine r_iincN (y := io 1) (ls' := [_, _, _, _]) rfl (zt rfl) rfl rfl ?_
                      refine r_goto ?_
                      refine E_go 1 rfl ?_
                      refine r_iload_n rfl ?_
                      refine r_bipush ?_
                      refine r_icmp_ge (fun c_34_7 => ?_) (fun c_34_7 => ?_)
                      · have c_34_7 := (n_le (a := 6) (b := 1) rfl rfl (by omega) (by omega)).mp c_34_7
                        omega
                      · have c_34_7 := (not_congr (n_le (a := 6) (b := 1) rfl rfl (by omega) (by omega))).mp c_34_7
                        refine r_iload_n rfl ?_
                        refine r_if_lt (fun c_34_11 => ?_) (fun c_34_11 => ?_)
                        · have c_34_11 := (n_lt (a := 1) (b := 0) rfl rfl (by omega) (by omega)).mp c_34_11
                          omega
                        · have c_34_11 := (not_congr (n_lt (a := 1) (b := 0) rfl rfl (by omega) (by omega))).mp c_34_11
                          refine r_iload_n rfl ?_
                          refine r_bipush ?_
                          refine r_icmp_ge (fun c_34_17 => ?_) (fun c_34_17 => ?_)
                          · have c_34_17 := (n_le (a := 6) (b := 1) rfl rfl (by omega) (by omega)).mp c_34_17
                            omega
                          · have c_34_17 := (not_congr (n_le (a := 6) (b := 1) rfl rfl (by omega) (by omega))).mp c_34_17
                            refine r_iload_n rfl ?_
                            refine r_iload_n rfl ?_
                            refine r_icmp_ne (fun c_34_22 => ?_) (fun c_34_22 => ?_)
                            · have c_34_22 := (not_congr (n_eq (a := 1) (b := k) rfl rfl (by omega) (by omega))).mp c_34_22
                              refine E_go 2 rfl ?_
                              refine r_getstatic3 rfl ?_
                              refine r_iload_n rfl ?_
                              refine r_ialoadK rfl (vp_io (a := 1) (by omega) (by omega)) ?_
                              refine r_istore_n (ls' := [_, _, _, _]) (zt rfl) rfl ?_
                              refine r_iincN (y := io 2) (ls' := [_, _, _, _]) rfl (zt rfl) rfl rfl ?_
                              refine r_goto ?_
                              refine E_go 1 rfl ?_
                              refine r_iload_n rfl ?_
                              refine r_bipush ?_
                              refine r_icmp_ge (fun c_34_7 => ?_) (fun c_34_7 => ?_)
                              · have c_34_7 := (n_le (a := 6) (b := 2) rfl rfl (by omega) (by omega)).mp c_34_7
                                omega
                              · have c_34_7 := (not_congr (n_le (a := 6) (b := 2) rfl rfl (by omega) (by omega))).mp c_34_7
                                refine r_iload_n rfl ?_
                                refine r_if_lt (fun c_34_11 => ?_) (fun c_34_11 => ?_)
                                · have c_34_11 := (n_lt (a := 0) (b := 0) rfl rfl (by omega) (by omega)).mp c_34_11
                                  omega
                                · have c_34_11 := (not_congr (n_lt (a := 0) (b := 0) rfl rfl (by omega) (by omega))).mp c_34_11
                                  refine r_iload_n rfl ?_
                                  refine r_bipush ?_
                                  refine r_icmp_ge (fun c_34_17 => ?_) (fun c_34_17 => ?_)
                                  · have c_34_17 := (n_le (a := 6) (b := 0) rfl rfl (by omega) (by omega)).mp c_34_17
                                    omega
                                  · have c_34_17 := (not_congr (n_le (a := 6) (b := 0) rfl rfl (by omega) (by omega))).mp c_34_17
                                    refine r_iload_n rfl ?_
                                    refine r_iload_n rfl ?_
                                    refine r_icmp_ne (fun c_34_22 => ?_) (fun c_34_22 => ?_)
                                    · have c_34_22 := (not_congr (n_eq (a := 0) (b := k) rfl rfl (by omega) (by omega))).mp c_34_22
                                      refine E_go 2 rfl ?_
                                      refine r_getstatic3 rfl ?_
                                      refine r_iload_n rfl ?_
                                      refine r_ialoadK rfl (vp_io (a := 0) (by omega) (by omega)) ?_
                                      refine r_istore_n (ls' := [_, _, _, _]) (zt rfl) rfl ?_
                                      refine r_iincN (y := io 3) (ls' := [_, _, _, _]) rfl (zt rfl) rfl rfl ?_
                                      refine r_goto ?_
                                      refine E_go 1 rfl ?_
                                      refine r_iload_n rfl ?_
                                      refine r_bipush ?_
                                      refine r_icmp_ge (fun c_34_7 => ?_) (fun c_34_7 => ?_)
                                      · have c_34_7 := (n_le (a := 6) (b := 3) rfl rfl (by omega) (by omega)).mp c_34_7
                                        omega
                                      · have c_34_7 := (not_congr (n_le (a := 6) (b := 3) rfl rfl (by omega) (by omega))).mp c_34_7
                                        refine r_iload_n rfl ?_
                                        refine r_if_lt (fun c_34_11 => ?_) (fun c_34_11 => ?_)
                                        · refine E_go 3 rfl ?_
                                          refine r_iconst ?_
                                          refine r_iret rfl (by first | exact Or.inl rfl | exact Or.inr rfl) ?_
                                          refine r_if_eq (fun c_37 => ?_) (fun c_37 => ?_)
                                          · have c_37 := (n_eq (a := 0) (b := 0) rfl rfl (by omega) (by omega)).mp c_37
                                            refine E_go 4 rfl ?_
                                            refine r_bipush ?_
                                            refine r_nil ?_
                                            refine E_go 5 rfl ?_
                                            refine r_iret rfl trivial ?_
                                            refine M_go (ls := [_, _, _, _]) (ml := 4) rfl rfl rfl (zl rfl) rfl ?_
                                            refine r_iload_n rfl ?_
                                            refine r_i2l ?_
                                            refine r_lconst ?_
                                            refine r_ldc2_w ?_
                                            refine r_static (vs := [_, _, _]) (by decide) (zl rfl) rfl rfl (zl rfl) (Nat.le_refl _) rfl ?_
                                            refine s_in0 (by omega) (x := (io k)) (k := 6) (Int32.toInt_toInt64 _) i64_0 rfl ?_
                                            rw [if_pos (inN_io hk (by omega))]
                                            refine r_if_ne (fun c_9 => ?_) (fun c_9 => ?_)
                                            · have c_9 := (not_congr (n_eq (a := 1) (b := 0) rfl rfl (by omega) (by omega))).mp c_9
                                              refine E_go 1 rfl ?_
                                              refine r_aload_n rfl ?_
                                              refine r_iload_n rfl ?_
                                              refine r_virtual (vs := []) (as := [_]) (by decide) (zl rfl) rfl rfl (zl rfl) (Nat.le_refl _) (Or.inr (Or.inr ⟨zt rfl, rfl, zt rfl⟩)) ?_
                                              refine s_isOne (by omega) R.mn h5 ?_
                                              rw [if_pos (inN_io ha (by omega))]
                                              refine r_if_ne (fun c_20 => ?_) (fun c_20 => ?_)
                                              · have c_20 := (not_congr (n_eq (a := 1) (b := 0) rfl rfl (by omega) (by omega))).mp c_20
                                                refine E_go 2 rfl ?_
                                                refine r_aload_n rfl ?_
                                                refine r_getA (q := 65) (by decide) rfl rfl (by decide) ?_
                                                refine r_iload_n rfl ?_
                                                refine r_iaload (by decide) rfl (by decide) (ixE rfl (show a < 5 by omega) (by decide)) ((R.ki ha).trans ec) ?_
                                                refine r_istore_n (ls' := [_, _, _, _]) (zt rfl) rfl ?_
                                                refine r_nil ?_
                                                refine E_go 3 rfl ?_
                                                refine r_iload_n rfl ?_
                                                refine r_iconst ?_
                                                refine r_icmp_eq (fun c_35 => ?_) (fun c_35 => ?_)
                                                · exact absurd c_35 (by decide)
                                                · refine r_iload_n rfl ?_
                                                  refine r_iload_n rfl ?_
                                                  refine r_icmp_eq (fun c_40 => ?_) (fun c_40 => ?_)
                                                  · have c_40 := (n_eq (a := 3) (b := k) rfl rfl (by omega) (by omega)).mp c_40
                                                    refine E_go 4 rfl ?_
                                                    refine r_iload_n rfl ?_
                                                    refine r_iload_n rfl ?_
                                                    refine r_icmp_ne (fun c_53 => ?_) (fun c_53 => ?_)
                                                    · have c_53 := (not_congr (n_eq (a := 3) (b := k) rfl rfl (by omega) (by omega))).mp c_53
                                                      refine E_go 5 rfl ?_
                                                      refine r_bipush ?_
                                                      refine r_nil ?_
                                                      refine E_go 6 rfl ?_
                                                      refine r_iret rfl trivial ?_
                                                      first
                                                      | (exfalso; omega)
                                                      | exact hQ _ _ _ R.rel
                                                    · have c_53 := (n_eq (a := 3) (b := k) rfl rfl (by omega) (by omega)).mp c_53
                                                      refine r_aload_n rfl ?_
                                                      refine r_getA (q := 66) (by decide) rfl rfl (by decide) ?_
                                                      refine r_iconst ?_
                                                      refine r_iload_n rfl ?_
                                                      refine r_imul ?_
                                                      refine r_iaload (by decide) rfl (by decide) (ixE (n_mul (a := 3) (b := a) rfl rfl) (show (3 * a) < 15 by omega) (by decide)) (R.nu ha) ?_
                                                      refine r_goto ?_
                                                      refine E_go 6 rfl ?_
                                                      refine r_iret rfl trivial ?_
                                                      first
                                                      | (exfalso; omega)
                                                      | exact hQ _ _ _ R.rel
                                                  · have c_40 := (not_congr (n_eq (a := 3) (b := k) rfl rfl (by omega) (by omega))).mp c_40
                                                    refine r_iload_n rfl ?_
                                                    refine r_static (vs := [_]) (by decide) (zl rfl) rfl rfl (zl rfl) (Nat.le_refl _) rfl ?_
                                                    refine M_go (ls := [_]) (ml := 1) rfl rfl rfl (zl rfl) rfl ?_
                                                    refine r_iload_n rfl ?_
                                                    refine r_if_ne (fun c_44_1 => ?_) (fun c_44_1 => ?_)
                                                    · have c_44_1 := (not_congr (n_eq (a := 3) (b := 0) rfl rfl (by omega) (by omega))).mp c_44_1
                                                      refine E_go 1 rfl ?_
                                                      refine r_iload_n rfl ?_
                                                      refine r_iconst ?_
                                                      refine r_icmp_ne (fun c_44_10 => ?_) (fun c_44_10 => ?_)
                                                      · have c_44_10 := (not_congr (n_eq (a := 3) (b := 3) rfl rfl (by omega) (by omega))).mp c_44_10
                                                        omega
                                                      · have c_44_10 := (n_eq (a := 3) (b := 3) rfl rfl (by omega) (by omega)).mp c_44_10
                                                        refine r_iconst ?_
                                                        refine r_goto ?_
                                                        refine E_go 4 rfl ?_
                                                        refine r_iret rfl trivial ?_
                                                        refine r_istore_n (ls' := [_, _, _, _]) (zt rfl) rfl ?_
                                                        refine r_goto ?_
                                                        refine E_go 3 rfl ?_
                                                        refine r_iload_n rfl ?_
                                                        refine r_iconst ?_
                                                        refine r_icmp_eq (fun c_35 => ?_) (fun c_35 => ?_)
                                                        · exact absurd c_35 (by decide)
                                                        · refine r_iload_n rfl ?_
                                                          refine r_iload_n rfl ?_
                                                          refine r_icmp_eq (fun c_40 => ?_) (fun c_40 => ?_)
                                                          · have c_40 := (n_eq (a := 1) (b := k) rfl rfl (by omega) (by omega)).mp c_40
                                                            refine E_go 4 rfl ?_
                                                            refine r_iload_n rfl ?_
                                                            refine r_iload_n rfl ?_
                                                            refine r_icmp_ne (fun c_53 => ?_) (fun c_53 => ?_)
                                                            · have c_53 := (not_congr (n_eq (a := 1) (b := k) rfl rfl (by omega) (by omega))).mp c_53
                                                              refine E_go 5 rfl ?_
                                                              refine r_bipush ?_
                                                              refine r_nil ?_
                                                              refine E_go 6 rfl ?_
                                                              refine r_iret rfl trivial ?_
                                                              first
                                                              | (exfalso; omega)
                                                              | exact hQ _ _ _ R.rel
                                                            · have c_53 := (n_eq (a := 1) (b := k) rfl rfl (by omega) (by omega)).mp c_53
                                                              refine r_aload_n rfl ?_
                                                              refine r_getA (q := 66) (by decide) rfl rfl (by decide) ?_
                                                              refine r_iconst ?_
                                                              refine r_iload_n rfl ?_
                                                              refine r_imul ?_
                                                              refine r_iaload (by decide) rfl (by decide) (ixE (n_mul (a := 3) (b := a) rfl rfl) (show (3 * a) < 15 by omega) (by decide)) (R.nu ha) ?_
                                                              refine r_goto ?_
                                                              refine E_go 6 rfl ?_
                                                              refine r_iret rfl trivial ?_
                                                              first
                                                              | (exfalso; omega)
                                                              | exact hQ _ _ _ R.rel
                                                          · have c_40 := (not_congr (n_eq (a := 1) (b := k) rfl rfl (by omega) (by omega))).mp c_40
                                                            refine r_iload_n rfl ?_
                                                            refine r_static (vs := [_]) (by decide) (zl rfl) rfl rfl (zl rfl) (Nat.le_refl _) rfl ?_
                                                            refine M_go (ls := [_]) (ml := 1) rfl rfl rfl (zl rfl) rfl ?_
                                                            refine r_iload_n rfl ?_
                                                            refine r_if_ne (fun c_44_1 => ?_) (fun c_44_1 => ?_)
                                                            · have c_44_1 := (not_congr (n_eq (a := 1) (b := 0) rfl rfl (by omega) (by omega))).mp c_44_1
                                                              refine E_go 1 rfl ?_
                                                              refine r_iload_n rfl ?_
                                                              refine r_iconst ?_
                                                              refine r_icmp_ne (fun c_44_10 => ?_) (fun c_44_10 => ?_)
                                                              · have c_44_10 := (not_congr (n_eq (a := 1) (b := 3) rfl rfl (by omega) (by omega))).mp c_44_10
                                                                refine E_go 2 rfl ?_
                                                                refine r_iload_n rfl ?_
                                                                refine r_iconst ?_
                                                                refine r_icmp_ne (fun c_44_19 => ?_) (fun c_44_19 => ?_)
                                                                · have c_44_19 := (not_congr (n_eq (a := 1) (b := 4) rfl rfl (by omega) (by omega))).mp c_44_19
                                                                  refine E_go 3 rfl ?_
                                                                  refine r_iconst ?_
                                                                  refine r_nil ?_
                                                                  refine E_go 4 rfl ?_
                                                                  refine r_iret rfl trivial ?_
                                                                  refine r_istore_n (ls' := [_, _, _, _]) (zt rfl) rfl ?_
                                                                  refine r_goto ?_
                                                                  refine E_go 3 rfl ?_
                                                                  refine r_iload_n rfl ?_
                                                                  refine r_iconst ?_
                                                                  refine r_icmp_eq (fun c_35 => ?_) (fun c_35 => ?_)
                                                                  · exact absurd c_35 (by decide)
                                                                  · refine r_iload_n rfl ?_
                                                                    refine r_iload_n rfl ?_
                                                                    refine r_icmp_eq (fun c_40 => ?_) (fun c_40 => ?_)
                                                                    · have c_40 := (n_eq (a := 0) (b := k) rfl rfl (by omega) (by omega)).mp c_40
                                                                      refine E_go 4 rfl ?_
                                                                      refine r_iload_n rfl ?_
                                                                      refine r_iload_n rfl ?_
                                                                      refine r_icmp_ne (fun c_53 => ?_) (fun c_53 => ?_)
                                                                      · have c_53 := (not_congr (n_eq (a := 0) (b := k) rfl rfl (by omega) (by omega))).mp c_53
                                                                        refine E_go 5 rfl ?_
                                                                        refine r_bipush ?_
                                                                        refine r_nil ?_
                                                                        refine E_go 6 rfl ?_
                                                                        refine r_iret rfl trivial ?_
                                                                        first
                                                                        | (exfalso; omega)
                                                                        | exact hQ _ _ _ R.rel
                                                                      · have c_53 := (n_eq (a := 0) (b := k) rfl rfl (by omega) (by omega)).mp c_53
                                                                        refine r_aload_n rfl ?_
                                                                        refine r_getA (q := 66) (by decide) rfl rfl (by decide) ?_
                                                                        refine r_iconst ?_
                                                                        refine r_iload_n rfl ?_
                                                                        refine r_imul ?_
                                                                        refine r_iaload (by decide) rfl (by decide) (ixE (n_mul (a := 3) (b := a) rfl rfl) (show (3 * a) < 15 by omega) (by decide)) (R.nu ha) ?_
                                                                        refine r_goto ?_
                                                                        refine E_go 6 rfl ?_
                                                                        refine r_iret rfl trivial ?_
                                                                        first
                                                                        | (exfalso; omega)
                                                                        | exact hQ _ _ _ R.rel
                                                                    · have c_40 := (not_congr (n_eq (a := 0) (b := k) rfl rfl (by omega) (by omega))).mp c_40
                                                                      refine r_iload_n rfl ?_
                                                                      refine r_static (vs := [_]) (by decide) (zl rfl) rfl rfl (zl rfl) (Nat.le_refl _) rfl ?_
                                                                      refine M_go (ls := [_]) (ml := 1) rfl rfl rfl (zl rfl) rfl ?_
                                                                      refine r_iload_n rfl ?_
                                                                      refine r_if_ne (fun c_44_1 => ?_) (fun c_44_1 => ?_)
                                                                      · have c_44_1 := (not_congr (n_eq (a := 0) (b := 0) rfl rfl (by omega) (by omega))).mp c_44_1
                                                                        omega
                                                                      · have c_44_1 := (n_eq (a := 0) (b := 0) rfl rfl (by omega) (by omega)).mp c_44_1
                                                                        refine r_iconst ?_
                                                                        refine r_goto ?_
                                                                        refine E_go 4 rfl ?_
                                                                        refine r_iret rfl trivial ?_
                                                                        refine r_istore_n (ls' := [_, _, _, _]) (zt rfl) rfl ?_
                                                                        refine r_goto ?_
                                                                        refine E_go 3 rfl ?_
                                                                        refine r_iload_n rfl ?_
                                                                        refine r_iconst ?_
                                                                        refine r_icmp_eq (fun c_35 => ?_) (fun c_35 => ?_)
                                                                        · refine E_go 4 rfl ?_
                                                                          refine r_iload_n rfl ?_
                                                                          refine r_iload_n rfl ?_
                                                                          refine r_icmp_ne (fun c_53 => ?_) (fun c_53 => ?_)
                                                                          · refine E_go 5 rfl ?_
                                                                            refine r_bipush ?_
                                                                            refine r_nil ?_
                                                                            refine E_go 6 rfl ?_
                                                                            refine r_iret rfl trivial ?_
                                                                            first
                                                                            | (exfalso; omega)
                                                                            | exact hQ _ _ _ R.rel
                                                                          · exact absurd c_53.symm (io_m1 (by omega))
                                                                        · exact absurd rfl c_35
                                                                · have c_44_19 := (n_eq (a := 1) (b := 4) rfl rfl (by omega) (by omega)).mp c_44_19
                                                                  omega
                                                              · have c_44_10 := (n_eq (a := 1) (b := 3) rfl rfl (by omega) (by omega)).mp c_44_10
                                                                omega
                                                            · have c_44_1 := (n_eq (a := 1) (b := 0) rfl rfl (by omega) (by omega)).mp c_44_1
                                                              omega
                                                    · have c_44_1 := (n_eq (a := 3) (b := 0) rfl rfl (by omega) (by omega)).mp c_44_1
                                                      omega
                                              · have c_20 := (n_eq (a := 1) (b := 0) rfl rfl (by omega) (by omega)).mp c_20
                                                omega
                                            · have c_9 := (n_eq (a := 1) (b := 0) rfl rfl (by omega) (by omega)).mp c_9
                                              omega
                                          · have c_37 := (not_congr (n_eq (a := 0) (b := 0) rfl rfl (by omega) (by omega))).mp c_37
                                            omega
                                        · exact absurd (by decide) c_34_11
                                    · have c_34_22 := (n_eq (a := 0) (b := k) rfl rfl (by omega) (by omega)).mp c_34_22
                                      refine r_iconst ?_
                                      refine r_iret rfl (by first | exact Or.inl rfl | exact Or.inr rfl) ?_
                                      refine r_if_eq (fun c_37 => ?_) (fun c_37 => ?_)
                                      · have c_37 := (n_eq (a := 1) (b := 0) rfl rfl (by omega) (by omega)).mp c_37
                                        omega
                                      · have c_37 := (not_congr (n_eq (a := 1) (b := 0) rfl rfl (by omega) (by omega))).mp c_37
                                        refine r_aload_n rfl ?_
                                        refine r_getA (q := 1) (by decide) rfl rfl (by decide) ?_
                                        refine r_getA (q := 3) (by decide) rfl rfl (by decide) ?_
                                        refine r_iload_n rfl ?_
                                        refine r_iaload (by decide) rfl (by decide) (ixE rfl (show a < 5 by omega) (by decide)) rfl ?_
                                        refine r_goto ?_
                                        refine E_go 5 rfl ?_
                                        refine r_iret rfl trivial ?_
                                        refine M_go (ls := [_, _, _, _]) (ml := 4) rfl rfl rfl (zl rfl) rfl ?_
                                        refine r_iload_n rfl ?_
                                        refine r_i2l ?_
                                        refine r_lconst ?_
                                        refine r_ldc2_w ?_
                                        refine r_static (vs := [_, _, _]) (by decide) (zl rfl) rfl rfl (zl rfl) (Nat.le_refl _) rfl ?_
                                        refine s_in0 (by omega) (x := (io k)) (k := 6) (Int32.toInt_toInt64 _) i64_0 rfl ?_
                                        rw [if_pos (inN_io hk (by omega))]
                                        refine r_if_ne (fun c_9 => ?_) (fun c_9 => ?_)
                                        · have c_9 := (not_congr (n_eq (a := 1) (b := 0) rfl rfl (by omega) (by omega))).mp c_9
                                          refine E_go 1 rfl ?_
                                          refine r_aload_n rfl ?_
                                          refine r_iload_n rfl ?_
                                          refine r_virtual (vs := []) (as := [_]) (by decide) (zl rfl) rfl rfl (zl rfl) (Nat.le_refl _) (Or.inr (Or.inr ⟨zt rfl, rfl, zt rfl⟩)) ?_
                                          refine s_isOne (by omega) R.mn h5 ?_
                                          rw [if_pos (inN_io ha (by omega))]
                                          refine r_if_ne (fun c_20 => ?_) (fun c_20 => ?_)
                                          · have c_20 := (not_congr (n_eq (a := 1) (b := 0) rfl rfl (by omega) (by omega))).mp c_20
                                            refine E_go 2 rfl ?_
                                            refine r_aload_n rfl ?_
                                            refine r_getA (q := 65) (by decide) rfl rfl (by decide) ?_
                                            refine r_iload_n rfl ?_
                                            refine r_iaload (by decide) rfl (by decide) (ixE rfl (show a < 5 by omega) (by decide)) ((R.ki ha).trans ec) ?_
                                            refine r_istore_n (ls' := [_, _, _, _]) (zt rfl) rfl ?_
                                            refine r_nil ?_
                                            refine E_go 3 rfl ?_
                                            refine r_iload_n rfl ?_
                                            refine r_iconst ?_
                                            refine r_icmp_eq (fun c_35 => ?_) (fun c_35 => ?_)
                                            · exact absurd c_35 (by decide)
                                            · refine r_iload_n rfl ?_
                                              refine r_iload_n rfl ?_
                                              refine r_icmp_eq (fun c_40 => ?_) (fun c_40 => ?_)
                                              · have c_40 := (n_eq (a := 3) (b := k) rfl rfl (by omega) (by omega)).mp c_40
                                                refine E_go 4 rfl ?_
                                                refine r_iload_n rfl ?_
                                                refine r_iload_n rfl ?_
                                                refine r_icmp_ne (fun c_53 => ?_) (fun c_53 => ?_)
                                                · have c_53 := (not_congr (n_eq (a := 3) (b := k) rfl rfl (by omega) (by omega))).mp c_53
                                                  refine E_go 5 rfl ?_
                                                  refine r_bipush ?_
                                                  refine r_nil ?_
                                                  refine E_go 6 rfl ?_
                                                  refine r_iret rfl trivial ?_
                                                  first
                                                  | (exfalso; omega)
                                                  | exact hQ _ _ _ R.rel
                                                · have c_53 := (n_eq (a := 3) (b := k) rfl rfl (by omega) (by omega)).mp c_53
                                                  refine r_aload_n rfl ?_
                                                  refine r_getA (q := 66) (by decide) rfl rfl (by decide) ?_
                                                  refine r_iconst ?_
                                                  refine r_iload_n rfl ?_
                                                  refine r_imul ?_
                                                  refine r_iaload (by decide) rfl (by decide) (ixE (n_mul (a := 3) (b := a) rfl rfl) (show (3 * a) < 15 by omega) (by decide)) (R.nu ha) ?_
                                                  refine r_goto ?_
                                                  refine E_go 6 rfl ?_
                                                  refine r_iret rfl trivial ?_
                                                  first
                                                  | (exfalso; omega)
                                                  | exact hQ _ _ _ R.rel
                                              · have c_40 := (not_congr (n_eq (a := 3) (b := k) rfl rfl (by omega) (by omega))).mp c_40
                                                refine r_iload_n rfl ?_
                                                refine r_static (vs := [_]) (by decide) (zl rfl) rfl rfl (zl rfl) (Nat.le_refl _) rfl ?_
                                                refine M_go (ls := [_]) (ml := 1) rfl rfl rfl (zl rfl) rfl ?_
                                                refine r_iload_n rfl ?_
                                                refine r_if_ne (fun c_44_1 => ?_) (fun c_44_1 => ?_)
                                                · have c_44_1 := (not_congr (n_eq (a := 3) (b := 0) rfl rfl (by omega) (by omega))).mp c_44_1
                                                  refine E_go 1 rfl ?_
                                                  refine r_iload_n rfl ?_
                                                  refine r_iconst ?_
                                                  refine r_icmp_ne (fun c_44_10 => ?_) (fun c_44_10 => ?_)
                                                  · have c_44_10 := (not_congr (n_eq (a := 3) (b := 3) rfl rfl (by omega) (by omega))).mp c_44_10
                                                    omega
                                                  · have c_44_10 := (n_eq (a := 3) (b := 3) rfl rfl (by omega) (by omega)).mp c_44_10
                                                    refine r_iconst ?_
                                                    refine r_goto ?_
                                                    refine E_go 4 rfl ?_
                                                    refine r_iret rfl trivial ?_
                                                    refine r_istore_n (ls' := [_, _, _, _]) (zt rfl) rfl ?_
                                                    refine r_goto ?_
                                                    refine E_go 3 rfl ?_
                                                    refine r_iload_n rfl ?_
                                                    refine r_iconst ?_
                                                    refine r_icmp_eq (fun c_35 => ?_) (fun c_35 => ?_)
                                                    · exact absurd c_35 (by decide)
                                                    · refine r_iload_n rfl ?_
                                                      refine r_iload_n rfl ?_
                                                      refine r_icmp_eq (fun c_40 => ?_) (fun c_40 => ?_)
                                                      · have c_40 := (n_eq (a := 1) (b := k) rfl rfl (by omega) (by omega)).mp c_40
                                                        refine E_go 4 rfl ?_
                                                        refine r_iload_n rfl ?_
                                                        refine r_iload_n rfl ?_
                                                        refine r_icmp_ne (fun c_53 => ?_) (fun c_53 => ?_)
                                                        · have c_53 := (not_congr (n_eq (a := 1) (b := k) rfl rfl (by omega) (by omega))).mp c_53
                                                          refine E_go 5 rfl ?_
                                                          refine r_bipush ?_
                                                          refine r_nil ?_
                                                          refine E_go 6 rfl ?_
                                                          refine r_iret rfl trivial ?_
                                                          first
                                                          | (exfalso; omega)
                                                          | exact hQ _ _ _ R.rel
                                                        · have c_53 := (n_eq (a := 1) (b := k) rfl rfl (by omega) (by omega)).mp c_53
                                                          refine r_aload_n rfl ?_
                                                          refine r_getA (q := 66) (by decide) rfl rfl (by decide) ?_
                                                          refine r_iconst ?_
                                                          refine r_iload_n rfl ?_
                                                          refine r_imul ?_
                                                          refine r_iaload (by decide) rfl (by decide) (ixE (n_mul (a := 3) (b := a) rfl rfl) (show (3 * a) < 15 by omega) (by decide)) (R.nu ha) ?_
                                                          refine r_goto ?_
                                                          refine E_go 6 rfl ?_
                                                          refine r_iret rfl trivial ?_
                                                          first
                                                          | (exfalso; omega)
                                                          | exact hQ _ _ _ R.rel
                                                      · have c_40 := (not_congr (n_eq (a := 1) (b := k) rfl rfl (by omega) (by omega))).mp c_40
                                                        refine r_iload_n rfl ?_
                                                        refine r_static (vs := [_]) (by decide) (zl rfl) rfl rfl (zl rfl) (Nat.le_refl _) rfl ?_
                                                        refine M_go (ls := [_]) (ml := 1) rfl rfl rfl (zl rfl) rfl ?_
                                                        refine r_iload_n rfl ?_
                                                        refine r_if_ne (fun c_44_1 => ?_) (fun c_44_1 => ?_)
                                                        · have c_44_1 := (not_congr (n_eq (a := 1) (b := 0) rfl rfl (by omega) (by omega))).mp c_44_1
                                                          refine E_go 1 rfl ?_
                                                          refine r_iload_n rfl ?_
                                                          refine r_iconst ?_
                                                          refine r_icmp_ne (fun c_44_10 => ?_) (fun c_44_10 => ?_)
                                                          · have c_44_10 := (not_congr (n_eq (a := 1) (b := 3) rfl rfl (by omega) (by omega))).mp c_44_10
                                                            refine E_go 2 rfl ?_
                                                            refine r_iload_n rfl ?_
                                                            refine r_iconst ?_
                                                            refine r_icmp_ne (fun c_44_19 => ?_) (fun c_44_19 => ?_)
                                                            · have c_44_19 := (not_congr (n_eq (a := 1) (b := 4) rfl rfl (by omega) (by omega))).mp c_44_19
                                                              refine E_go 3 rfl ?_
                                                              refine r_iconst ?_
                                                              refine r_nil ?_
                                                              refine E_go 4 rfl ?_
                                                              refine r_iret rfl trivial ?_
                                                              refine r_istore_n (ls' := [_, _, _, _]) (zt rfl) rfl ?_
                                                              refine r_goto ?_
                                                              refine E_go 3 rfl ?_
                                                              refine r_iload_n rfl ?_
                                                              refine r_iconst ?_
                                                              refine r_icmp_eq (fun c_35 => ?_) (fun c_35 => ?_)
                                                              · exact absurd c_35 (by decide)
                                                              · refine r_iload_n rfl ?_
                                                                refine r_iload_n rfl ?_
                                                                refine r_icmp_eq (fun c_40 => ?_) (fun c_40 => ?_)
                                                                · have c_40 := (n_eq (a := 0) (b := k) rfl rfl (by omega) (by omega)).mp c_40
                                                                  refine E_go 4 rfl ?_
                                                                  refine r_iload_n rfl ?_
                                                                  refine r_iload_n rfl ?_
                                                                  refine r_icmp_ne (fun c_53 => ?_) (fun c_53 => ?_)
                                                                  · have c_53 := (not_congr (n_eq (a := 0) (b := k) rfl rfl (by omega) (by omega))).mp c_53
                                                                    refine E_go 5 rfl ?_
                                                                    refine r_bipush ?_
                                                                    refine r_nil ?_
                                                                    refine E_go 6 rfl ?_
                                                                    refine r_iret rfl trivial ?_
                                                                    first
                                                                    | (exfalso; omega)
                                                                    | exact hQ _ _ _ R.rel
                                                                  · have c_53 := (n_eq (a := 0) (b := k) rfl rfl (by omega) (by omega)).mp c_53
                                                                    refine r_aload_n rfl ?_
                                                                    refine r_getA (q := 66) (by decide) rfl rfl (by decide) ?_
                                                                    refine r_iconst ?_
                                                                    refine r_iload_n rfl ?_
                                                                    refine r_imul ?_
                                                                    refine r_iaload (by decide) rfl (by decide) (ixE (n_mul (a := 3) (b := a) rfl rfl) (show (3 * a) < 15 by omega) (by decide)) (R.nu ha) ?_
                                                                    refine r_goto ?_
                                                                    refine E_go 6 rfl ?_
                                                                    refine r_iret rfl trivial ?_
                                                                    first
                                                                    | (exfalso; omega)
                                                                    | exact hQ _ _ _ R.rel
                                                                · have c_40 := (not_congr (n_eq (a := 0) (b := k) rfl rfl (by omega) (by omega))).mp c_40
                                                                  refine r_iload_n rfl ?_
                                                                  refine r_static (vs := [_]) (by decide) (zl rfl) rfl rfl (zl rfl) (Nat.le_refl _) rfl ?_
                                                                  refine M_go (ls := [_]) (ml := 1) rfl rfl rfl (zl rfl) rfl ?_
                                                                  refine r_iload_n rfl ?_
                                                                  refine r_if_ne (fun c_44_1 => ?_) (fun c_44_1 => ?_)
                                                                  · have c_44_1 := (not_congr (n_eq (a := 0) (b := 0) rfl rfl (by omega) (by omega))).mp c_44_1
                                                                    omega
                                                                  · have c_44_1 := (n_eq (a := 0) (b := 0) rfl rfl (by omega) (by omega)).mp c_44_1
                                                                    refine r_iconst ?_
                                                                    refine r_goto ?_
                                                                    refine E_go 4 rfl ?_
                                                                    refine r_iret rfl trivial ?_
                                                                    refine r_istore_n (ls' := [_, _, _, _]) (zt rfl) rfl ?_
                                                                    refine r_goto ?_
                                                                    refine E_go 3 rfl ?_
                                                                    refine r_iload_n rfl ?_
                                                                    refine r_iconst ?_
                                                                    refine r_icmp_eq (fun c_35 => ?_) (fun c_35 => ?_)
                                                                    · refine E_go 4 rfl ?_
                                                                      refine r_iload_n rfl ?_
                                                                      refine r_iload_n rfl ?_
                                                                      refine r_icmp_ne (fun c_53 => ?_) (fun c_53 => ?_)
                                                                      · refine E_go 5 rfl ?_
                                                                        refine r_bipush ?_
                                                                        refine r_nil ?_
                                                                        refine E_go 6 rfl ?_
                                                                        refine r_iret rfl trivial ?_
                                                                        first
                                                                        | (exfalso; omega)
                                                                        | exact hQ _ _ _ R.rel
                                                                      · exact absurd c_53.symm (io_m1 (by omega))
                                                                    · exact absurd rfl c_35
                                                            · have c_44_19 := (n_eq (a := 1) (b := 4) rfl rfl (by omega) (by omega)).mp c_44_19
                                                              omega
                                                          · have c_44_10 := (n_eq (a := 1) (b := 3) rfl rfl (by omega) (by omega)).mp c_44_10
                                                            omega
                                                        · have c_44_1 := (n_eq (a := 1) (b := 0) rfl rfl (by omega) (by omega)).mp c_44_1
                                                          omega
                                                · have c_44_1 := (n_eq (a := 3) (b := 0) rfl rfl (by omega) (by omega)).mp c_44_1
                                                  omega
                                          · have c_20 := (n_eq (a := 1) (b := 0) rfl rfl (by omega) (by omega)).mp c_20
                                            omega
                                        · have c_9 := (n_eq (a := 1) (b := 0) rfl rfl (by omega) (by omega)).mp c_9
                                          omega
                            · have c_34_22 := (n_eq (a := 1) (b := k) rfl rfl (by omega) (by omega)).mp c_34_22
                              refine r_iconst ?_
                              refine r_iret rfl (by first | exact Or.inl rfl | exact Or.inr rfl) ?_
                              refine r_if_eq (fun c_37 => ?_) (fun c_37 => ?_)
                              · have c_37 := (n_eq (a := 1) (b := 0) rfl rfl (by omega) (by omega)).mp c_37
                                omega
                              · have c_37 := (not_congr (n_eq (a := 1) (b := 0) rfl rfl (by omega) (by omega))).mp c_37
                                refine r_aload_n rfl ?_
                                refine r_getA (q := 1) (by decide) rfl rfl (by decide) ?_
                                refine r_getA (q := 3) (by decide) rfl rfl (by decide) ?_
                                refine r_iload_n rfl ?_
                                refine r_iaload (by decide) rfl (by decide) (ixE rfl (show a < 5 by omega) (by decide)) rfl ?_
                                refine r_goto ?_
                                refine E_go 5 rfl ?_
                                refine r_iret rfl trivial ?_
                                refine M_go (ls := [_, _, _, _]) (ml := 4) rfl rfl rfl (zl rfl) rfl ?_
                                refine r_iload_n rfl ?_
                                refine r_i2l ?_
                                refine r_lconst ?_
                                refine r_ldc2_w ?_
                                refine r_static (vs := [_, _, _]) (by decide) (zl rfl) rfl rfl (zl rfl) (Nat.le_refl _) rfl ?_
                                refine s_in0 (by omega) (x := (io k)) (k := 6) (Int32.toInt_toInt64 _) i64_0 rfl ?_
                                rw [if_pos (inN_io hk (by omega))]
                                refine r_if_ne (fun c_9 => ?_) (fun c_9 => ?_)
                                · have c_9 := (not_congr (n_eq (a := 1) (b := 0) rfl rfl (by omega) (by omega))).mp c_9
                                  refine E_go 1 rfl ?_
                                  refine r_aload_n rfl ?_
                                  refine r_iload_n rfl ?_
                                  refine r_virtual (vs := []) (as := [_]) (by decide) (zl rfl) rfl rfl (zl rfl) (Nat.le_refl _) (Or.inr (Or.inr ⟨zt rfl, rfl, zt rfl⟩)) ?_
                                  refine s_isOne (by omega) R.mn h5 ?_
                                  rw [if_pos (inN_io ha (by omega))]
                                  refine r_if_ne (fun c_20 => ?_) (fun c_20 => ?_)
                                  · have c_20 := (not_congr (n_eq (a := 1) (b := 0) rfl rfl (by omega) (by omega))).mp c_20
                                    refine E_go 2 rfl ?_
                                    refine r_aload_n rfl ?_
                                    refine r_getA (q := 65) (by decide) rfl rfl (by decide) ?_
                                    refine r_iload_n rfl ?_
                                    refine r_iaload (by decide) rfl (by decide) (ixE rfl (show a < 5 by omega) (by decide)) ((R.ki ha).trans ec) ?_
                                    refine r_istore_n (ls' := [_, _, _, _]) (zt rfl) rfl ?_
                                    refine r_nil ?_
                                    refine E_go 3 rfl ?_
                                    refine r_iload_n rfl ?_
                                    refine r_iconst ?_
                                    refine r_icmp_eq (fun c_35 => ?_) (fun c_35 => ?_)
                                    · exact absurd c_35 (by decide)
                                    · refine r_iload_n rfl ?_
                                      refine r_iload_n rfl ?_
                                      refine r_icmp_eq (fun c_40 => ?_) (fun c_40 => ?_)
                                      · have c_40 := (n_eq (a := 3) (b := k) rfl rfl (by omega) (by omega)).mp c_40
                                        refine E_go 4 rfl ?_
                                        refine r_iload_n rfl ?_
                                        refine r_iload_n rfl ?_
                                        refine r_icmp_ne (fun c_53 => ?_) (fun c_53 => ?_)
                                        · have c_53 := (not_congr (n_eq (a := 3) (b := k) rfl rfl (by omega) (by omega))).mp c_53
                                          refine E_go 5 rfl ?_
                                          refine r_bipush ?_
                                          refine r_nil ?_
                                          refine E_go 6 rfl ?_
                                          refine r_iret rfl trivial ?_
                                          first
                                          | (exfalso; omega)
                                          | exact hQ _ _ _ R.rel
                                        · have c_53 := (n_eq (a := 3) (b := k) rfl rfl (by omega) (by omega)).mp c_53
                                          refine r_aload_n rfl ?_
                                          refine r_getA (q := 66) (by decide) rfl rfl (by decide) ?_
                                          refine r_iconst ?_
                                          refine r_iload_n rfl ?_
                                          refine r_imul ?_
                                          refine r_iaload (by decide) rfl (by decide) (ixE (n_mul (a := 3) (b := a) rfl rfl) (show (3 * a) < 15 by omega) (by decide)) (R.nu ha) ?_
                                          refine r_goto ?_
                                          refine E_go 6 rfl ?_
                                          refine r_iret rfl trivial ?_
                                          first
                                          | (exfalso; omega)
                                          | exact hQ _ _ _ R.rel
                                      · have c_40 := (not_congr (n_eq (a := 3) (b := k) rfl rfl (by omega) (by omega))).mp c_40
                                        refine r_iload_n rfl ?_
                                        refine r_static (vs := [_]) (by decide) (zl rfl) rfl rfl (zl rfl) (Nat.le_refl _) rfl ?_
                                        refine M_go (ls := [_]) (ml := 1) rfl rfl rfl (zl rfl) rfl ?_
                                        refine r_iload_n rfl ?_
                                        refine r_if_ne (fun c_44_1 => ?_) (fun c_44_1 => ?_)
                                        · have c_44_1 := (not_congr (n_eq (a := 3) (b := 0) rfl rfl (by omega) (by omega))).mp c_44_1
                                          refine E_go 1 rfl ?_
                                          refine r_iload_n rfl ?_
                                          refine r_iconst ?_
                                          refine r_icmp_ne (fun c_44_10 => ?_) (fun c_44_10 => ?_)
                                          · have c_44_10 := (not_congr (n_eq (a := 3) (b := 3) rfl rfl (by omega) (by omega))).mp c_44_10
                                            omega
                                          · have c_44_10 := (n_eq (a := 3) (b := 3) rfl rfl (by omega) (by omega)).mp c_44_10
                                            refine r_iconst ?_
                                            refine r_goto ?_
                                            refine E_go 4 rfl ?_
                                            refine r_iret rfl trivial ?_
                                            refine r_istore_n (ls' := [_, _, _, _]) (zt rfl) rfl ?_
                                            refine r_goto ?_
                                            refine E_go 3 rfl ?_
                                            refine r_iload_n rfl ?_
                                            refine r_iconst ?_
                                            refine r_icmp_eq (fun c_35 => ?_) (fun c_35 => ?_)
                                            · exact absurd c_35 (by decide)
                                            · refine r_iload_n rfl ?_
                                              refine r_iload_n rfl ?_
                                              refine r_icmp_eq (fun c_40 => ?_) (fun c_40 => ?_)
                                              · have c_40 := (n_eq (a := 1) (b := k) rfl rfl (by omega) (by omega)).mp c_40
                                                refine E_go 4 rfl ?_
                                                refine r_iload_n rfl ?_
                                                refine r_iload_n rfl ?_
                                                refine r_icmp_ne (fun c_53 => ?_) (fun c_53 => ?_)
                                                · have c_53 := (not_congr (n_eq (a := 1) (b := k) rfl rfl (by omega) (by omega))).mp c_53
                                                  refine E_go 5 rfl ?_
                                                  refine r_bipush ?_
                                                  refine r_nil ?_
                                                  refine E_go 6 rfl ?_
                                                  refine r_iret rfl trivial ?_
                                                  first
                                                  | (exfalso; omega)
                                                  | exact hQ _ _ _ R.rel
                                                · have c_53 := (n_eq (a := 1) (b := k) rfl rfl (by omega) (by omega)).mp c_53
                                                  refine r_aload_n rfl ?_
                                                  refine r_getA (q := 66) (by decide) rfl rfl (by decide) ?_
                                                  refine r_iconst ?_
                                                  refine r_iload_n rfl ?_
                                                  refine r_imul ?_
                                                  refine r_iaload (by decide) rfl (by decide) (ixE (n_mul (a := 3) (b := a) rfl rfl) (show (3 * a) < 15 by omega) (by decide)) (R.nu ha) ?_
                                                  refine r_goto ?_
                                                  refine E_go 6 rfl ?_
                                                  refine r_iret rfl trivial ?_
                                                  first
                                                  | (exfalso; omega)
                                                  | exact hQ _ _ _ R.rel
                                              · have c_40 := (not_congr (n_eq (a := 1) (b := k) rfl rfl (by omega) (by omega))).mp c_40
                                                refine r_iload_n rfl ?_
                                                refine r_static (vs := [_]) (by decide) (zl rfl) rfl rfl (zl rfl) (Nat.le_refl _) rfl ?_
                                                refine M_go (ls := [_]) (ml := 1) rfl rfl rfl (zl rfl) rfl ?_
                                                refine r_iload_n rfl ?_
                                                refine r_if_ne (fun c_44_1 => ?_) (fun c_44_1 => ?_)
                                                · have c_44_1 := (not_congr (n_eq (a := 1) (b := 0) rfl rfl (by omega) (by omega))).mp c_44_1
                                                  refine E_go 1 rfl ?_
                                                  refine r_iload_n rfl ?_
                                                  refine r_iconst ?_
                                                  refine r_icmp_ne (fun c_44_10 => ?_) (fun c_44_10 => ?_)
                                                  · have c_44_10 := (not_congr (n_eq (a := 1) (b := 3) rfl rfl (by omega) (by omega))).mp c_44_10
                                                    refine E_go 2 rfl ?_
                                                    refine r_iload_n rfl ?_
                                                    refine r_iconst ?_
                                                    refine r_icmp_ne (fun c_44_19 => ?_) (fun c_44_19 => ?_)
                                                    · have c_44_19 := (not_congr (n_eq (a := 1) (b := 4) rfl rfl (by omega) (by omega))).mp c_44_19
                                                      refine E_go 3 rfl ?_
                                                      refine r_iconst ?_
                                                      refine r_nil ?_
                                                      refine E_go 4 rfl ?_
                                                      refine r_iret rfl trivial ?_
                                                      refine r_istore_n (ls' := [_, _, _, _]) (zt rfl) rfl ?_
                                                      refine r_goto ?_
                                                      refine E_go 3 rfl ?_
                                                      refine r_iload_n rfl ?_
                                                      refine r_iconst ?_
                                                      refine r_icmp_eq (fun c_35 => ?_) (fun c_35 => ?_)
                                                      · exact absurd c_35 (by decide)
                                                      · refine r_iload_n rfl ?_
                                                        refine r_iload_n rfl ?_
                                                        refine r_icmp_eq (fun c_40 => ?_) (fun c_40 => ?_)
                                                        · have c_40 := (n_eq (a := 0) (b := k) rfl rfl (by omega) (by omega)).mp c_40
                                                          refine E_go 4 rfl ?_
                                                          refine r_iload_n rfl ?_
                                                          refine r_iload_n rfl ?_
                                                          refine r_icmp_ne (fun c_53 => ?_) (fun c_53 => ?_)
                                                          · have c_53 := (not_congr (n_eq (a := 0) (b := k) rfl rfl (by omega) (by omega))).mp c_53
                                                            refine E_go 5 rfl ?_
                                                            refine r_bipush ?_
                                                            refine r_nil ?_
                                                            refine E_go 6 rfl ?_
                                                            refine r_iret rfl trivial ?_
                                                            first
                                                            | (exfalso; omega)
                                                            | exact hQ _ _ _ R.rel
                                                          · have c_53 := (n_eq (a := 0) (b := k) rfl rfl (by omega) (by omega)).mp c_53
                                                            refine r_aload_n rfl ?_
                                                            refine r_getA (q := 66) (by decide) rfl rfl (by decide) ?_
                                                            refine r_iconst ?_
                                                            refine r_iload_n rfl ?_
                                                            refine r_imul ?_
                                                            refine r_iaload (by decide) rfl (by decide) (ixE (n_mul (a := 3) (b := a) rfl rfl) (show (3 * a) < 15 by omega) (by decide)) (R.nu ha) ?_
                                                            refine r_goto ?_
                                                            refine E_go 6 rfl ?_
                                                            refine r_iret rfl trivial ?_
                                                            first
                                                            | (exfalso; omega)
                                                            | exact hQ _ _ _ R.rel
                                                        · have c_40 := (not_congr (n_eq (a := 0) (b := k) rfl rfl (by omega) (by omega))).mp c_40
                                                          refine r_iload_n rfl ?_
                                                          refine r_static (vs := [_]) (by decide) (zl rfl) rfl rfl (zl rfl) (Nat.le_refl _) rfl ?_
                                                          refine M_go (ls := [_]) (ml := 1) rfl rfl rfl (zl rfl) rfl ?_
                                                          refine r_iload_n rfl ?_
                                                          refine r_if_ne (fun c_44_1 => ?_) (fun c_44_1 => ?_)
                                                          · have c_44_1 := (not_congr (n_eq (a := 0) (b := 0) rfl rfl (by omega) (by omega))).mp c_44_1
                                                            omega
                                                          · have c_44_1 := (n_eq (a := 0) (b := 0) rfl rfl (by omega) (by omega)).mp c_44_1
                                                            refine r_iconst ?_
                                                            refine r_goto ?_
                                                            refine E_go 4 rfl ?_
                                                            refine r_iret rfl trivial ?_
                                                            refine r_istore_n (ls' := [_, _, _, _]) (zt rfl) rfl ?_
                                                            refine r_goto ?_
                                                            refine E_go 3 rfl ?_
                                                            refine r_iload_n rfl ?_
                                                            refine r_iconst ?_
                                                            refine r_icmp_eq (fun c_35 => ?_) (fun c_35 => ?_)
                                                            · refine E_go 4 rfl ?_
                                                              refine r_iload_n rfl ?_
                                                              refine r_iload_n rfl ?_
                                                              refine r_icmp_ne (fun c_53 => ?_) (fun c_53 => ?_)
                                                              · refine E_go 5 rfl ?_
                                                                refine r_bipush ?_
                                                                refine r_nil ?_
                                                                refine E_go 6 rfl ?_
                                                                refine r_iret rfl trivial ?_
                                                                first
                                                                | (exfalso; omega)
                                                                | exact hQ _ _ _ R.rel
                                                              · exact absurd c_53.symm (io_m1 (by omega))
                                                            · exact absurd rfl c_35
                                                    · have c_44_19 := (n_eq (a := 1) (b := 4) rfl rfl (by omega) (by omega)).mp c_44_19
                                                      omega
                                                  · have c_44_10 := (n_eq (a := 1) (b := 3) rfl rfl (by omega) (by omega)).mp c_44_10
                                                    omega
                                                · have c_44_1 := (n_eq (a := 1) (b := 0) rfl rfl (by omega) (by omega)).mp c_44_1
                                                  omega
                                        · have c_44_1 := (n_eq (a := 3) (b := 0) rfl rfl (by omega) (by omega)).mp c_44_1
                                          omega
                                  · have c_20 := (n_eq (a := 1) (b := 0) rfl rfl (by omega) (by omega)).mp c_20
                                    omega
                                · have c_9 := (n_eq (a := 1) (b := 0) rfl rfl (by omega) (by omega)).mp c_9
                                  omega
                    · have c_34_22 := (n_eq (a := 3) (b := k) rfl rfl (by omega) (by omega)).mp c_34_22
                      refine r_iconst ?_
                      refine r_iret rfl (by first | exact Or.inl rfl | exact Or.inr rfl) ?_
                      refine r_if_eq (fun c_37 => ?_) (fun c_37 => ?_)
                      · have c_37 := (n_eq (a := 1) (b := 0) rfl rfl (by omega) (by omega)).mp c_37
                        omega
                      · have c_37 := (not_congr (n_eq (a := 1) (b := 0) rfl rfl (by omega) (by omega))).mp c_37
                        refine r_aload_n rfl ?_
                        refine r_getA (q := 1) (by decide) rfl rfl (by decide) ?_
                        refine r_getA (q := 3) (by decide) rfl rfl (by decide) ?_
                        refine r_iload_n rfl ?_
                        refine r_iaload (by decide) rfl (by decide) (ixE rfl (show a < 5 by omega) (by decide)) rfl ?_
                        refine r_goto ?_
                        refine E_go 5 rfl ?_
                        refine r_iret rfl trivial ?_
                        refine M_go (ls := [_, _, _, _]) (ml := 4) rfl rfl rfl (zl rfl) rfl ?_
                        refine r_iload_n rfl ?_
                        refine r_i2l ?_
                        refine r_lconst ?_
                        refine r_ldc2_w ?_
                        refine r_static (vs := [_, _, _]) (by decide) (zl rfl) rfl rfl (zl rfl) (Nat.le_refl _) rfl ?_
                        refine s_in0 (by omega) (x := (io k)) (k := 6) (Int32.toInt_toInt64 _) i64_0 rfl ?_
                        rw [if_pos (inN_io hk (by omega))]
                        refine r_if_ne (fun c_9 => ?_) (fun c_9 => ?_)
                        · have c_9 := (not_congr (n_eq (a := 1) (b := 0) rfl rfl (by omega) (by omega))).mp c_9
                          refine E_go 1 rfl ?_
                          refine r_aload_n rfl ?_
                          refine r_iload_n rfl ?_
                          refine r_virtual (vs := []) (as := [_]) (by decide) (zl rfl) rfl rfl (zl rfl) (Nat.le_refl _) (Or.inr (Or.inr ⟨zt rfl, rfl, zt rfl⟩)) ?_
                          refine s_isOne (by omega) R.mn h5 ?_
                          rw [if_pos (inN_io ha (by omega))]
                          refine r_if_ne (fun c_20 => ?_) (fun c_20 => ?_)
                          · have c_20 := (not_congr (n_eq (a := 1) (b := 0) rfl rfl (by omega) (by omega))).mp c_20
                            refine E_go 2 rfl ?_
                            refine r_aload_n rfl ?_
                            refine r_getA (q := 65) (by decide) rfl rfl (by decide) ?_
                            refine r_iload_n rfl ?_
                            refine r_iaload (by decide) rfl (by decide) (ixE rfl (show a < 5 by omega) (by decide)) ((R.ki ha).trans ec) ?_
                            refine r_istore_n (ls' := [_, _, _, _]) (zt rfl) rfl ?_
                            refine r_nil ?_
                            refine E_go 3 rfl ?_
                            refine r_iload_n rfl ?_
                            refine r_iconst ?_
                            refine r_icmp_eq (fun c_35 => ?_) (fun c_35 => ?_)
                            · exact absurd c_35 (by decide)
                            · refine r_iload_n rfl ?_
                              refine r_iload_n rfl ?_
                              refine r_icmp_eq (fun c_40 => ?_) (fun c_40 => ?_)
                              · have c_40 := (n_eq (a := 3) (b := k) rfl rfl (by omega) (by omega)).mp c_40
                                refine E_go 4 rfl ?_
                                refine r_iload_n rfl ?_
                                refine r_iload_n rfl ?_
                                refine r_icmp_ne (fun c_53 => ?_) (fun c_53 => ?_)
                                · have c_53 := (not_congr (n_eq (a := 3) (b := k) rfl rfl (by omega) (by omega))).mp c_53
                                  refine E_go 5 rfl ?_
                                  refine r_bipush ?_
                                  refine r_nil ?_
                                  refine E_go 6 rfl ?_
                                  refine r_iret rfl trivial ?_
                                  first
                                  | (exfalso; omega)
                                  | exact hQ _ _ _ R.rel
                                · have c_53 := (n_eq (a := 3) (b := k) rfl rfl (by omega) (by omega)).mp c_53
                                  refine r_aload_n rfl ?_
                                  refine r_getA (q := 66) (by decide) rfl rfl (by decide) ?_
                                  refine r_iconst ?_
                                  refine r_iload_n rfl ?_
                                  refine r_imul ?_
                                  refine r_iaload (by decide) rfl (by decide) (ixE (n_mul (a := 3) (b := a) rfl rfl) (show (3 * a) < 15 by omega) (by decide)) (R.nu ha) ?_
                                  refine r_goto ?_
                                  refine E_go 6 rfl ?_
                                  refine r_iret rfl trivial ?_
                                  first
                                  | (exfalso; omega)
                                  | exact hQ _ _ _ R.rel
                              · have c_40 := (not_congr (n_eq (a := 3) (b := k) rfl rfl (by omega) (by omega))).mp c_40
                                refine r_iload_n rfl ?_
                                refine r_static (vs := [_]) (by decide) (zl rfl) rfl rfl (zl rfl) (Nat.le_refl _) rfl ?_
                                refine M_go (ls := [_]) (ml := 1) rfl rfl rfl (zl rfl) rfl ?_
                                refine r_iload_n rfl ?_
                                refine r_if_ne (fun c_44_1 => ?_) (fun c_44_1 => ?_)
                                · have c_44_1 := (not_congr (n_eq (a := 3) (b := 0) rfl rfl (by omega) (by omega))).mp c_44_1
                                  refine E_go 1 rfl ?_
                                  refine r_iload_n rfl ?_
                                  refine r_iconst ?_
                                  refine r_icmp_ne (fun c_44_10 => ?_) (fun c_44_10 => ?_)
                                  · have c_44_10 := (not_congr (n_eq (a := 3) (b := 3) rfl rfl (by omega) (by omega))).mp c_44_10
                                    omega
                                  · have c_44_10 := (n_eq (a := 3) (b := 3) rfl rfl (by omega) (by omega)).mp c_44_10
                                    refine r_iconst ?_
                                    refine r_goto ?_
                                    refine E_go 4 rfl ?_
                                    refine r_iret rfl trivial ?_
                                    refine r_istore_n (ls' := [_, _, _, _]) (zt rfl) rfl ?_
                                    refine r_goto ?_
                                    refine E_go 3 rfl ?_
                                    refine r_iload_n rfl ?_
                                    refine r_iconst ?_
                                    refine r_icmp_eq (fun c_35 => ?_) (fun c_35 => ?_)
                                    · exact absurd c_35 (by decide)
                                    · refine r_iload_n rfl ?_
                                      refine r_iload_n rfl ?_
                                      refine r_icmp_eq (fun c_40 => ?_) (fun c_40 => ?_)
                                      · have c_40 := (n_eq (a := 1) (b := k) rfl rfl (by omega) (by omega)).mp c_40
                                        refine E_go 4 rfl ?_
                                        refine r_iload_n rfl ?_
                                        refine r_iload_n rfl ?_
                                        refine r_icmp_ne (fun c_53 => ?_) (fun c_53 => ?_)
                                        · have c_53 := (not_congr (n_eq (a := 1) (b := k) rfl rfl (by omega) (by omega))).mp c_53
                                          refine E_go 5 rfl ?_
                                          refine r_bipush ?_
                                          refine r_nil ?_
                                          refine E_go 6 rfl ?_
                                          refine r_iret rfl trivial ?_
                                          first
                                          | (exfalso; omega)
                                          | exact hQ _ _ _ R.rel
                                        · have c_53 := (n_eq (a := 1) (b := k) rfl rfl (by omega) (by omega)).mp c_53
                                          refine r_aload_n rfl ?_
                                          refine r_getA (q := 66) (by decide) rfl rfl (by decide) ?_
                                          refine r_iconst ?_
                                          refine r_iload_n rfl ?_
                                          refine r_imul ?_
                                          refine r_iaload (by decide) rfl (by decide) (ixE (n_mul (a := 3) (b := a) rfl rfl) (show (3 * a) < 15 by omega) (by decide)) (R.nu ha) ?_
                                          refine r_goto ?_
                                          refine E_go 6 rfl ?_
                                          refine r_iret rfl trivial ?_
                                          first
                                          | (exfalso; omega)
                                          | exact hQ _ _ _ R.rel
                                      · have c_40 := (not_congr (n_eq (a := 1) (b := k) rfl rfl (by omega) (by omega))).mp c_40
                                        refine r_iload_n rfl ?_
                                        refine r_static (vs := [_]) (by decide) (zl rfl) rfl rfl (zl rfl) (Nat.le_refl _) rfl ?_
                                        refine M_go (ls := [_]) (ml := 1) rfl rfl rfl (zl rfl) rfl ?_
                                        refine r_iload_n rfl ?_
                                        refine r_if_ne (fun c_44_1 => ?_) (fun c_44_1 => ?_)
                                        · have c_44_1 := (not_congr (n_eq (a := 1) (b := 0) rfl rfl (by omega) (by omega))).mp c_44_1
                                          refine E_go 1 rfl ?_
                                          refine r_iload_n rfl ?_
                                          refine r_iconst ?_
                                          refine r_icmp_ne (fun c_44_10 => ?_) (fun c_44_10 => ?_)
                                          · have c_44_10 := (not_congr (n_eq (a := 1) (b := 3) rfl rfl (by omega) (by omega))).mp c_44_10
                                            refine E_go 2 rfl ?_
                                            refine r_iload_n rfl ?_
                                            refine r_iconst ?_
                                            refine r_icmp_ne (fun c_44_19 => ?_) (fun c_44_19 => ?_)
                                            · have c_44_19 := (not_congr (n_eq (a := 1) (b := 4) rfl rfl (by omega) (by omega))).mp c_44_19
                                              refine E_go 3 rfl ?_
                                              refine r_iconst ?_
                                              refine r_nil ?_
                                              refine E_go 4 rfl ?_
                                              refine r_iret rfl trivial ?_
                                              refine r_istore_n (ls' := [_, _, _, _]) (zt rfl) rfl ?_
                                              refine r_goto ?_
                                              refine E_go 3 rfl ?_
                                              refine r_iload_n rfl ?_
                                              refine r_iconst ?_
                                              refine r_icmp_eq (fun c_35 => ?_) (fun c_35 => ?_)
                                              · exact absurd c_35 (by decide)
                                              · refine r_iload_n rfl ?_
                                                refine r_iload_n rfl ?_
                                                refine r_icmp_eq (fun c_40 => ?_) (fun c_40 => ?_)
                                                · have c_40 := (n_eq (a := 0) (b := k) rfl rfl (by omega) (by omega)).mp c_40
                                                  refine E_go 4 rfl ?_
                                                  refine r_iload_n rfl ?_
                                                  refine r_iload_n rfl ?_
                                                  refine r_icmp_ne (fun c_53 => ?_) (fun c_53 => ?_)
                                                  · have c_53 := (not_congr (n_eq (a := 0) (b := k) rfl rfl (by omega) (by omega))).mp c_53
                                                    refine E_go 5 rfl ?_
                                                    refine r_bipush ?_
                                                    refine r_nil ?_
                                                    refine E_go 6 rfl ?_
                                                    refine r_iret rfl trivial ?_
                                                    first
                                                    | (exfalso; omega)
                                                    | exact hQ _ _ _ R.rel
                                                  · have c_53 := (n_eq (a := 0) (b := k) rfl rfl (by omega) (by omega)).mp c_53
                                                    refine r_aload_n rfl ?_
                                                    refine r_getA (q := 66) (by decide) rfl rfl (by decide) ?_
                                                    refine r_iconst ?_
                                                    refine r_iload_n rfl ?_
                                                    refine r_imul ?_
                                                    refine r_iaload (by decide) rfl (by decide) (ixE (n_mul (a := 3) (b := a) rfl rfl) (show (3 * a) < 15 by omega) (by decide)) (R.nu ha) ?_
                                                    refine r_goto ?_
                                                    refine E_go 6 rfl ?_
                                                    refine r_iret rfl trivial ?_
                                                    first
                                                    | (exfalso; omega)
                                                    | exact hQ _ _ _ R.rel
                                                · have c_40 := (not_congr (n_eq (a := 0) (b := k) rfl rfl (by omega) (by omega))).mp c_40
                                                  refine r_iload_n rfl ?_
                                                  refine r_static (vs := [_]) (by decide) (zl rfl) rfl rfl (zl rfl) (Nat.le_refl _) rfl ?_
                                                  refine M_go (ls := [_]) (ml := 1) rfl rfl rfl (zl rfl) rfl ?_
                                                  refine r_iload_n rfl ?_
                                                  refine r_if_ne (fun c_44_1 => ?_) (fun c_44_1 => ?_)
                                                  · have c_44_1 := (not_congr (n_eq (a := 0) (b := 0) rfl rfl (by omega) (by omega))).mp c_44_1
                                                    omega
                                                  · have c_44_1 := (n_eq (a := 0) (b := 0) rfl rfl (by omega) (by omega)).mp c_44_1
                                                    refine r_iconst ?_
                                                    refine r_goto ?_
                                                    refine E_go 4 rfl ?_
                                                    refine r_iret rfl trivial ?_
                                                    refine r_istore_n (ls' := [_, _, _, _]) (zt rfl) rfl ?_
                                                    refine r_goto ?_
                                                    refine E_go 3 rfl ?_
                                                    refine r_iload_n rfl ?_
                                                    refine r_iconst ?_
                                                    refine r_icmp_eq (fun c_35 => ?_) (fun c_35 => ?_)
                                                    · refine E_go 4 rfl ?_
                                                      refine r_iload_n rfl ?_
                                                      refine r_iload_n rfl ?_
                                                      refine r_icmp_ne (fun c_53 => ?_) (fun c_53 => ?_)
                                                      · refine E_go 5 rfl ?_
                                                        refine r_bipush ?_
                                                        refine r_nil ?_
                                                        refine E_go 6 rfl ?_
                                                        refine r_iret rfl trivial ?_
                                                        first
                                                        | (exfalso; omega)
                                                        | exact hQ _ _ _ R.rel
                                                      · exact absurd c_53.symm (io_m1 (by omega))
                                                    · exact absurd rfl c_35
                                            · have c_44_19 := (n_eq (a := 1) (b := 4) rfl rfl (by omega) (by omega)).mp c_44_19
                                              omega
                                          · have c_44_10 := (n_eq (a := 1) (b := 3) rfl rfl (by omega) (by omega)).mp c_44_10
                                            omega
                                        · have c_44_1 := (n_eq (a := 1) (b := 0) rfl rfl (by omega) (by omega)).mp c_44_1
                                          omega
                                · have c_44_1 := (n_eq (a := 3) (b := 0) rfl rfl (by omega) (by omega)).mp c_44_1
                                  omega
                          · have c_20 := (n_eq (a := 1) (b := 0) rfl rfl (by omega) (by omega)).mp c_20
                            omega
                        · have c_9 := (n_eq (a := 1) (b := 0) rfl rfl (by omega) (by omega)).mp c_9
                          omega
            · have c_18 := (n_eq (a := 1) (b := 0) rfl rfl (by omega) (by omega)).mp c_18
              omega
          · have c_7 := (not_congr (n_lt (a := k) (b := 6) rfl rfl (by omega) (by omega))).mp c_7
            omega
      · refine M_go (ls := [_, _, _]) (ml := 3) rfl rfl rfl (zl rfl) rfl ?_
        refine r_iload_n rfl ?_
        refine r_if_lt (fun c_1 => ?_) (fun c_1 => ?_)
        · have c_1 := (n_lt (a := k) (b := 0) rfl rfl (by omega) (by omega)).mp c_1
          omega
        · have c_1 := (not_congr (n_lt (a := k) (b := 0) rfl rfl (by omega) (by omega))).mp c_1
          refine r_iload_n rfl ?_
          refine r_bipush ?_
          refine r_icmp_lt (fun c_7 => ?_) (fun c_7 => ?_)
          · have c_7 := (n_lt (a := k) (b := 6) rfl rfl (by omega) (by omega)).mp c_7
            refine E_go 2 rfl ?_
            refine r_aload_n rfl ?_
            refine r_iload_n rfl ?_
            refine r_virtual (vs := []) (as := [_]) (by decide) (zl rfl) rfl rfl (zl rfl) (Nat.le_refl _) (Or.inr (Or.inr ⟨zt rfl, rfl, zt rfl⟩)) ?_
            refine s_isAunt (by omega) R.cn h5 ?_
            rw [if_pos (inN_io ha (by omega))]
            refine r_if_ne (fun c_18 => ?_) (fun c_18 => ?_)
            · have c_18 := (not_congr (n_eq (a := 1) (b := 0) rfl rfl (by omega) (by omega))).mp c_18
              refine E_go 3 rfl ?_
              refine r_aload_n rfl ?_
              refine r_getA (q := 1) (by decide) rfl rfl (by decide) ?_
              refine r_getA (q := 2) (by decide) rfl rfl (by decide) ?_
              refine r_iload_n rfl ?_
              refine r_iaload (by decide) rfl (by decide) (ixE rfl (show a < 5 by omega) (by decide)) ec ?_
              refine r_iload_n rfl ?_
              refine r_static (vs := [_, _]) (by decide) (zl rfl) rfl rfl (zl rfl) (Nat.le_refl _) rfl ?_
              refine M_go (ls := [_, _, _, _]) (ml := 4) rfl rfl rfl (zl rfl) rfl ?_
              refine r_iload_n rfl ?_
              refine r_istore_n (ls' := [_, _, _, _]) (zt rfl) rfl ?_
              refine r_iconst ?_
              refine r_istore_n (ls' := [_, _, _, _]) (zt rfl) rfl ?_
              refine r_nil ?_
              refine E_go 1 rfl ?_
              refine r_iload_n rfl ?_
              refine r_bipush ?_
              refine r_icmp_ge (fun c_34_7 => ?_) (fun c_34_7 => ?_)
              · have c_34_7 := (n_le (a := 6) (b := 0) rfl rfl (by omega) (by omega)).mp c_34_7
                omega
              · have c_34_7 := (not_congr (n_le (a := 6) (b := 0) rfl rfl (by omega) (by omega))).mp c_34_7
                refine r_iload_n rfl ?_
                refine r_if_lt (fun c_34_11 => ?_) (fun c_34_11 => ?_)
                · have c_34_11 := (n_lt (a := 4) (b := 0) rfl rfl (by omega) (by omega)).mp c_34_11
                  omega
                · have c_34_11 := (not_congr (n_lt (a := 4) (b := 0) rfl rfl (by omega) (by omega))).mp c_34_11
                  refine r_iload_n rfl ?_
                  refine r_bipush ?_
                  refine r_icmp_ge (fun c_34_17 => ?_) (fun c_34_17 => ?_)
                  · have c_34_17 := (n_le (a := 6) (b := 4) rfl rfl (by omega) (by omega)).mp c_34_17
                    omega
                  · have c_34_17 := (not_congr (n_le (a := 6) (b := 4) rfl rfl (by omega) (by omega))).mp c_34_17
                    refine r_iload_n rfl ?_
                    refine r_iload_n rfl ?_
                    refine r_icmp_ne (fun c_34_22 => ?_) (fun c_34_22 => ?_)
                    · have c_34_22 := (not_congr (n_eq (a := 4) (b := k) rfl rfl (by omega) (by omega))).mp c_34_22
                      refine E_go 2 rfl ?_
                      refine r_getstatic3 rfl ?_
                      refine r_iload_n rfl ?_
                      refine r_ialoadK rfl (vp_io (a := 4) (by omega) (by omega)) ?_
                      refine r_istore_n (ls' := [_, _, _, _]) (zt rfl) rfl ?_
                      refine r_iincN (y := io 1) (ls' := [_, _, _, _]) rfl (zt rfl) rfl rfl ?_
                      refine r_goto ?_
                      refine E_go 1 rfl ?_
                      refine r_iload_n rfl ?_
                      refine r_bipush ?_
                      refine r_icmp_ge (fun c_34_7 => ?_) (fun c_34_7 => ?_)
                      · have c_34_7 := (n_le (a := 6) (b := 1) rfl rfl (by omega) (by omega)).mp c_34_7
                        omega
                      · have c_34_7 := (not_congr (n_le (a := 6) (b := 1) rfl rfl (by omega) (by omega))).mp c_34_7
                        refine r_iload_n rfl ?_
                        refine r_if_lt (fun c_34_11 => ?_) (fun c_34_11 => ?_)
                        · have c_34_11 := (n_lt (a := 2) (b := 0) rfl rfl (by omega) (by omega)).mp c_34_11
                          omega
                        · have c_34_11 := (not_congr (n_lt (a := 2) (b := 0) rfl rfl (by omega) (by omega))).mp c_34_11
                          refine r_iload_n rfl ?_
                          refine r_bipush ?_
                          refine r_icmp_ge (fun c_34_17 => ?_) (fun c_34_17 => ?_)
                          · have c_34_17 := (n_le (a := 6) (b := 2) rfl rfl (by omega) (by omega)).mp c_34_17
                            omega
                          · have c_34_17 := (not_congr (n_le (a := 6) (b := 2) rfl rfl (by omega) (by omega))).mp c_34_17
                            refine r_iload_n rfl ?_
                            refine r_iload_n rfl ?_
                            refine r_icmp_ne (fun c_34_22 => ?_) (fun c_34_22 => ?_)
                            · have c_34_22 := (not_congr (n_eq (a := 2) (b := k) rfl rfl (by omega) (by omega))).mp c_34_22
                              refine E_go 2 rfl ?_
                              refine r_getstatic3 rfl ?_
                              refine r_iload_n rfl ?_
                              refine r_ialoadK rfl (vp_io (a := 2) (by omega) (by omega)) ?_
                              refine r_istore_n (ls' := [_, _, _, _]) (zt rfl) rfl ?_
                              refine r_iincN (y := io 2) (ls' := [_, _, _, _]) rfl (zt rfl) rfl rfl ?_
                              refine r_goto ?_
                              refine E_go 1 rfl ?_
                              refine r_iload_n rfl ?_
                              refine r_bipush ?_
                              refine r_icmp_ge (fun c_34_7 => ?_) (fun c_34_7 => ?_)
                              · have c_34_7 := (n_le (a := 6) (b := 2) rfl rfl (by omega) (by omega)).mp c_34_7
                                omega
                              · have c_34_7 := (not_congr (n_le (a := 6) (b := 2) rfl rfl (by omega) (by omega))).mp c_34_7
                                refine r_iload_n rfl ?_
                                refine r_if_lt (fun c_34_11 => ?_) (fun c_34_11 => ?_)
                                · have c_34_11 := (n_lt (a := 0) (b := 0) rfl rfl (by omega) (by omega)).mp c_34_11
                                  omega
                                · have c_34_11 := (not_congr (n_lt (a := 0) (b := 0) rfl rfl (by omega) (by omega))).mp c_34_11
                                  refine r_iload_n rfl ?_
                                  refine r_bipush ?_
                                  refine r_icmp_ge (fun c_34_17 => ?_) (fun c_34_17 => ?_)
                                  · have c_34_17 := (n_le (a := 6) (b := 0) rfl rfl (by omega) (by omega)).mp c_34_17
                                    omega
                                  · have c_34_17 := (not_congr (n_le (a := 6) (b := 0) rfl rfl (by omega) (by omega))).mp c_34_17
                                    refine r_iload_n rfl ?_
                                    refine r_iload_n rfl ?_
                                    refine r_icmp_ne (fun c_34_22 => ?_) (fun c_34_22 => ?_)
                                    · have c_34_22 := (not_congr (n_eq (a := 0) (b := k) rfl rfl (by omega) (by omega))).mp c_34_22
                                      refine E_go 2 rfl ?_
                                      refine r_getstatic3 rfl ?_
                                      refine r_iload_n rfl ?_
                                      refine r_ialoadK rfl (vp_io (a := 0) (by omega) (by omega)) ?_
                                      refine r_istore_n (ls' := [_, _, _, _]) (zt rfl) rfl ?_
                                      refine r_iincN (y := io 3) (ls' := [_, _, _, _]) rfl (zt rfl) rfl rfl ?_
                                      refine r_goto ?_
                                      refine E_go 1 rfl ?_
                                      refine r_iload_n rfl ?_
                                      refine r_bipush ?_
                                      refine r_icmp_ge (fun c_34_7 => ?_) (fun c_34_7 => ?_)
                                      · have c_34_7 := (n_le (a := 6) (b := 3) rfl rfl (by omega) (by omega)).mp c_34_7
                                        omega
                                      · have c_34_7 := (not_congr (n_le (a := 6) (b := 3) rfl rfl (by omega) (by omega))).mp c_34_7
                                        refine r_iload_n rfl ?_
                                        refine r_if_lt (fun c_34_11 => ?_) (fun c_34_11 => ?_)
                                        · refine E_go 3 rfl ?_
                                          refine r_iconst ?_
                                          refine r_iret rfl (by first | exact Or.inl rfl | exact Or.inr rfl) ?_
                                          refine r_if_eq (fun c_37 => ?_) (fun c_37 => ?_)
                                          · have c_37 := (n_eq (a := 0) (b := 0) rfl rfl (by omega) (by omega)).mp c_37
                                            refine E_go 4 rfl ?_
                                            refine r_bipush ?_
                                            refine r_nil ?_
                                            refine E_go 5 rfl ?_
                                            refine r_iret rfl trivial ?_
                                            refine M_go (ls := [_, _, _, _]) (ml := 4) rfl rfl rfl (zl rfl) rfl ?_
                                            refine r_iload_n rfl ?_
                                            refine r_i2l ?_
                                            refine r_lconst ?_
                                            refine r_ldc2_w ?_
                                            refine r_static (vs := [_, _, _]) (by decide) (zl rfl) rfl rfl (zl rfl) (Nat.le_refl _) rfl ?_
                                            refine s_in0 (by omega) (x := (io k)) (k := 6) (Int32.toInt_toInt64 _) i64_0 rfl ?_
                                            rw [if_pos (inN_io hk (by omega))]
                                            refine r_if_ne (fun c_9 => ?_) (fun c_9 => ?_)
                                            · have c_9 := (not_congr (n_eq (a := 1) (b := 0) rfl rfl (by omega) (by omega))).mp c_9
                                              refine E_go 1 rfl ?_
                                              refine r_aload_n rfl ?_
                                              refine r_iload_n rfl ?_
                                              refine r_virtual (vs := []) (as := [_]) (by decide) (zl rfl) rfl rfl (zl rfl) (Nat.le_refl _) (Or.inr (Or.inr ⟨zt rfl, rfl, zt rfl⟩)) ?_
                                              refine s_isOne (by omega) R.mn h5 ?_
                                              rw [if_pos (inN_io ha (by omega))]
                                              refine r_if_ne (fun c_20 => ?_) (fun c_20 => ?_)
                                              · have c_20 := (not_congr (n_eq (a := 1) (b := 0) rfl rfl (by omega) (by omega))).mp c_20
                                                refine E_go 2 rfl ?_
                                                refine r_aload_n rfl ?_
                                                refine r_getA (q := 65) (by decide) rfl rfl (by decide) ?_
                                                refine r_iload_n rfl ?_
                                                refine r_iaload (by decide) rfl (by decide) (ixE rfl (show a < 5 by omega) (by decide)) ((R.ki ha).trans ec) ?_
                                                refine r_istore_n (ls' := [_, _, _, _]) (zt rfl) rfl ?_
                                                refine r_nil ?_
                                                refine E_go 3 rfl ?_
                                                refine r_iload_n rfl ?_
                                                refine r_iconst ?_
                                                refine r_icmp_eq (fun c_35 => ?_) (fun c_35 => ?_)
                                                · exact absurd c_35 (by decide)
                                                · refine r_iload_n rfl ?_
                                                  refine r_iload_n rfl ?_
                                                  refine r_icmp_eq (fun c_40 => ?_) (fun c_40 => ?_)
                                                  · have c_40 := (n_eq (a := 4) (b := k) rfl rfl (by omega) (by omega)).mp c_40
                                                    refine E_go 4 rfl ?_
                                                    refine r_iload_n rfl ?_
                                                    refine r_iload_n rfl ?_
                                                    refine r_icmp_ne (fun c_53 => ?_) (fun c_53 => ?_)
                                                    · have c_53 := (not_congr (n_eq (a := 4) (b := k) rfl rfl (by omega) (by omega))).mp c_53
                                                      refine E_go 5 rfl ?_
                                                      refine r_bipush ?_
                                                      refine r_nil ?_
                                                      refine E_go 6 rfl ?_
                                                      refine r_iret rfl trivial ?_
                                                      first
                                                      | (exfalso; omega)
                                                      | exact hQ _ _ _ R.rel
                                                    · have c_53 := (n_eq (a := 4) (b := k) rfl rfl (by omega) (by omega)).mp c_53
                                                      refine r_aload_n rfl ?_
                                                      refine r_getA (q := 66) (by decide) rfl rfl (by decide) ?_
                                                      refine r_iconst ?_
                                                      refine r_iload_n rfl ?_
                                                      refine r_imul ?_
                                                      refine r_iaload (by decide) rfl (by decide) (ixE (n_mul (a := 3) (b := a) rfl rfl) (show (3 * a) < 15 by omega) (by decide)) (R.nu ha) ?_
                                                      refine r_goto ?_
                                                      refine E_go 6 rfl ?_
                                                      refine r_iret rfl trivial ?_
                                                      first
                                                      | (exfalso; omega)
                                                      | exact hQ _ _ _ R.rel
                                                  · have c_40 := (not_congr (n_eq (a := 4) (b := k) rfl rfl (by omega) (by omega))).mp c_40
                                                    refine r_iload_n rfl ?_
                                                    refine r_static (vs := [_]) (by decide) (zl rfl) rfl rfl (zl rfl) (Nat.le_refl _) rfl ?_
                                                    refine M_go (ls := [_]) (ml := 1) rfl rfl rfl (zl rfl) rfl ?_
                                                    refine r_iload_n rfl ?_
                                                    refine r_if_ne (fun c_44_1 => ?_) (fun c_44_1 => ?_)
                                                    · have c_44_1 := (not_congr (n_eq (a := 4) (b := 0) rfl rfl (by omega) (by omega))).mp c_44_1
                                                      refine E_go 1 rfl ?_
                                                      refine r_iload_n rfl ?_
                                                      refine r_iconst ?_
                                                      refine r_icmp_ne (fun c_44_10 => ?_) (fun c_44_10 => ?_)
                                                      · have c_44_10 := (not_congr (n_eq (a := 4) (b := 3) rfl rfl (by omega) (by omega))).mp c_44_10
                                                        refine E_go 2 rfl ?_
                                                        refine r_iload_n rfl ?_
                                                        refine r_iconst ?_
                                                        refine r_icmp_ne (fun c_44_19 => ?_) (fun c_44_19 => ?_)
                                                        · have c_44_19 := (not_congr (n_eq (a := 4) (b := 4) rfl rfl (by omega) (by omega))).mp c_44_19
                                                          omega
                                                        · have c_44_19 := (n_eq (a := 4) (b := 4) rfl rfl (by omega) (by omega)).mp c_44_19
                                                          refine r_iconst ?_
                                                          refine r_goto ?_
                                                          refine E_go 4 rfl ?_
                                                          refine r_iret rfl trivial ?_
                                                          refine r_istore_n (ls' := [_, _, _, _]) (zt rfl) rfl ?_
                                                          refine r_goto ?_
                                                          refine E_go 3 rfl ?_
                                                          refine r_iload_n rfl ?_
                                                          refine r_iconst ?_
                                                          refine r_icmp_eq (fun c_35 => ?_) (fun c_35 => ?_)
                                                          · exact absurd c_35 (by decide)
                                                          · refine r_iload_n rfl ?_
                                                            refine r_iload_n rfl ?_
                                                            refine r_icmp_eq (fun c_40 => ?_) (fun c_40 => ?_)
                                                            · have c_40 := (n_eq (a := 2) (b := k) rfl rfl (by omega) (by omega)).mp c_40
                                                              refine E_go 4 rfl ?_
                                                              refine r_iload_n rfl ?_
                                                              refine r_iload_n rfl ?_
                                                              refine r_icmp_ne (fun c_53 => ?_) (fun c_53 => ?_)
                                                              · have c_53 := (not_congr (n_eq (a := 2) (b := k) rfl rfl (by omega) (by omega))).mp c_53
                                                                refine E_go 5 rfl ?_
                                                                refine r_bipush ?_
                                                                refine r_nil ?_
                                                                refine E_go 6 rfl ?_
                                                                refine r_iret rfl trivial ?_
                                                                first
                                                                | (exfalso; omega)
                                                                | exact hQ _ _ _ R.rel
                                                              · have c_53 := (n_eq (a := 2) (b := k) rfl rfl (by omega) (by omega)).mp c_53
                                                                refine r_aload_n rfl ?_
                                                                refine r_getA (q := 66) (by decide) rfl rfl (by decide) ?_
                                                                refine r_iconst ?_
                                                                refine r_iload_n rfl ?_
                                                                refine r_imul ?_
                                                                refine r_iaload (by decide) rfl (by decide) (ixE (n_mul (a := 3) (b := a) rfl rfl) (show (3 * a) < 15 by omega) (by decide)) (R.nu ha) ?_
                                                                refine r_goto ?_
                                                                refine E_go 6 rfl ?_
                                                                refine r_iret rfl trivial ?_
                                                                first
                                                                | (exfalso; omega)
                                                                | exact hQ _ _ _ R.rel
                                                            · have c_40 := (not_congr (n_eq (a := 2) (b := k) rfl rfl (by omega) (by omega))).mp c_40
                                                              refine r_iload_n rfl ?_
                                                              refine r_static (vs := [_]) (by decide) (zl rfl) rfl rfl (zl rfl) (Nat.le_refl _) rfl ?_
                                                              refine M_go (ls := [_]) (ml := 1) rfl rfl rfl (zl rfl) rfl ?_
                                                              refine r_iload_n rfl ?_
                                                              refine r_if_ne (fun c_44_1 => ?_) (fun c_44_1 => ?_)
                                                              · have c_44_1 := (not_congr (n_eq (a := 2) (b := 0) rfl rfl (by omega) (by omega))).mp c_44_1
                                                                refine E_go 1 rfl ?_
                                                                refine r_iload_n rfl ?_
                                                                refine r_iconst ?_
                                                                refine r_icmp_ne (fun c_44_10 => ?_) (fun c_44_10 => ?_)
                                                                · have c_44_10 := (not_congr (n_eq (a := 2) (b := 3) rfl rfl (by omega) (by omega))).mp c_44_10
                                                                  refine E_go 2 rfl ?_
                                                                  refine r_iload_n rfl ?_
                                                                  refine r_iconst ?_
                                                                  refine r_icmp_ne (fun c_44_19 => ?_) (fun c_44_19 => ?_)
                                                                  · have c_44_19 := (not_congr (n_eq (a := 2) (b := 4) rfl rfl (by omega) (by omega))).mp c_44_19
                                                                    refine E_go 3 rfl ?_
                                                                    refine r_iconst ?_
                                                                    refine r_nil ?_
                                                                    refine E_go 4 rfl ?_
                                                                    refine r_iret rfl trivial ?_
                                                                    refine r_istore_n (ls' := [_, _, _, _]) (zt rfl) rfl ?_
                                                                    refine r_goto ?_
                                                                    refine E_go 3 rfl ?_
                                                                    refine r_iload_n rfl ?_
                                                                    refine r_iconst ?_
                                                                    refine r_icmp_eq (fun c_35 => ?_) (fun c_35 => ?_)
                                                                    · exact absurd c_35 (by decide)
                                                                    · refine r_iload_n rfl ?_
                                                                      refine r_iload_n rfl ?_
                                                                      refine r_icmp_eq (fun c_40 => ?_) (fun c_40 => ?_)
                                                                      · have c_40 := (n_eq (a := 0) (b := k) rfl rfl (by omega) (by omega)).mp c_40
                                                                        refine E_go 4 rfl ?_
                                                                        refine r_iload_n rfl ?_
                                                                        refine r_iload_n rfl ?_
                                                                        refine r_icmp_ne (fun c_53 => ?_) (fun c_53 => ?_)
                                                                        · have c_53 := (not_congr (n_eq (a := 0) (b := k) rfl rfl (by omega) (by omega))).mp c_53
                                                                          refine E_go 5 rfl ?_
                                                                          refine r_bipush ?_
                                                                          refine r_nil ?_
                                                                          refine E_go 6 rfl ?_
                                                                          refine r_iret rfl trivial ?_
                                                                          first
                                                                          | (exfalso; omega)
                                                                          | exact hQ _ _ _ R.rel
                                                                        · have c_53 := (n_eq (a := 0) (b := k) rfl rfl (by omega) (by omega)).mp c_53
                                                                          refine r_aload_n rfl ?_
                                                                          refine r_getA (q := 66) (by decide) rfl rfl (by decide) ?_
                                                                          refine r_iconst ?_
                                                                          refine r_iload_n rfl ?_
                                                                          refine r_imul ?_
                                                                          refine r_iaload (by decide) rfl (by decide) (ixE (n_mul (a := 3) (b := a) rfl rfl) (show (3 * a) < 15 by omega) (by decide)) (R.nu ha) ?_
                                                                          refine r_goto ?_
                                                                          refine E_go 6 rfl ?_
                                                                          refine r_iret rfl trivial ?_
                                                                          first
                                                                          | (exfalso; omega)
                                                                          | exact hQ _ _ _ R.rel
                                                                      · have c_40 := (not_congr (n_eq (a := 0) (b := k) rfl rfl (by omega) (by omega))).mp c_40
                                                                        refine r_iload_n rfl ?_
                                                                        refine r_static (vs := [_]) (by decide) (zl rfl) rfl rfl (zl rfl) (Nat.le_refl _) rfl ?_
                                                                        refine M_go (ls := [_]) (ml := 1) rfl rfl rfl (zl rfl) rfl ?_
                                                                        refine r_iload_n rfl ?_
                                                                        refine r_if_ne (fun c_44_1 => ?_) (fun c_44_1 => ?_)
                                                                        · have c_44_1 := (not_congr (n_eq (a := 0) (b := 0) rfl rfl (by omega) (by omega))).mp c_44_1
                                                                          omega
                                                                        · have c_44_1 := (n_eq (a := 0) (b := 0) rfl rfl (by omega) (by omega)).mp c_44_1
                                                                          refine r_iconst ?_
                                                                          refine r_goto ?_
                                                                          refine E_go 4 rfl ?_
                                                                          refine r_iret rfl trivial ?_
                                                                          refine r_istore_n (ls' := [_, _, _, _]) (zt rfl) rfl ?_
                                                                          refine r_goto ?_
                                                                          refine E_go 3 rfl ?_
                                                                          refine r_iload_n rfl ?_
                                                                          refine r_iconst ?_
                                                                          refine r_icmp_eq (fun c_35 => ?_) (fun c_35 => ?_)
                                                                          · refine E_go 4 rfl ?_
                                                                            refine r_iload_n rfl ?_
                                                                            refine r_iload_n rfl ?_
                                                                            refine r_icmp_ne (fun c_53 => ?_) (fun c_53 => ?_)
                                                                            · refine E_go 5 rfl ?_
                                                                              refine r_bipush ?_
                                                                              refine r_nil ?_
                                                                              refine E_go 6 rfl ?_
                                                                              refine r_iret rfl trivial ?_
                                                                              first
                                                                              | (exfalso; omega)
                                                                              | exact hQ _ _ _ R.rel
                                                                            · exact absurd c_53.symm (io_m1 (by omega))
                                                                          · exact absurd rfl c_35
                                                                  · have c_44_19 := (n_eq (a := 2) (b := 4) rfl rfl (by omega) (by omega)).mp c_44_19
                                                                    omega
                                                                · have c_44_10 := (n_eq (a := 2) (b := 3) rfl rfl (by omega) (by omega)).mp c_44_10
                                                                  omega
                                                              · have c_44_1 := (n_eq (a := 2) (b := 0) rfl rfl (by omega) (by omega)).mp c_44_1
                                                                omega
                                                      · have c_44_10 := (n_eq (a := 4) (b := 3) rfl rfl (by omega) (by omega)).mp c_44_10
                                                        omega
                                                    · have c_44_1 := (n_eq (a := 4) (b := 0) rfl rfl (by omega) (by omega)).mp c_44_1
                                                      omega
                                              · have c_20 := (n_eq (a := 1) (b := 0) rfl rfl (by omega) (by omega)).mp c_20
                                                omega
                                            · have c_9 := (n_eq (a := 1) (b := 0) rfl rfl (by omega) (by omega)).mp c_9
                                              omega
                                          · have c_37 := (not_congr (n_eq (a := 0) (b := 0) rfl rfl (by omega) (by omega))).mp c_37
                                            omega
                                        · exact absurd (by decide) c_34_11
                                    · have c_34_22 := (n_eq (a := 0) (b := k) rfl rfl (by omega) (by omega)).mp c_34_22
                                      refine r_iconst ?_
                                      refine r_iret rfl (by first | exact Or.inl rfl | exact Or.inr rfl) ?_
                                      refine r_if_eq (fun c_37 => ?_) (fun c_37 => ?_)
                                      · have c_37 := (n_eq (a := 1) (b := 0) rfl rfl (by omega) (by omega)).mp c_37
                                        omega
                                      · have c_37 := (not_congr (n_eq (a := 1) (b := 0) rfl rfl (by omega) (by omega))).mp c_37
                                        refine r_aload_n rfl ?_
                                        refine r_getA (q := 1) (by decide) rfl rfl (by decide) ?_
                                        refine r_getA (q := 3) (by decide) rfl rfl (by decide) ?_
                                        refine r_iload_n rfl ?_
                                        refine r_iaload (by decide) rfl (by decide) (ixE rfl (show a < 5 by omega) (by decide)) rfl ?_
                                        refine r_goto ?_
                                        refine E_go 5 rfl ?_
                                        refine r_iret rfl trivial ?_
                                        refine M_go (ls := [_, _, _, _]) (ml := 4) rfl rfl rfl (zl rfl) rfl ?_
                                        refine r_iload_n rfl ?_
                                        refine r_i2l ?_
                                        refine r_lconst ?_
                                        refine r_ldc2_w ?_
                                        refine r_static (vs := [_, _, _]) (by decide) (zl rfl) rfl rfl (zl rfl) (Nat.le_refl _) rfl ?_
                                        refine s_in0 (by omega) (x := (io k)) (k := 6) (Int32.toInt_toInt64 _) i64_0 rfl ?_
                                        rw [if_pos (inN_io hk (by omega))]
                                        refine r_if_ne (fun c_9 => ?_) (fun c_9 => ?_)
                                        · have c_9 := (not_congr (n_eq (a := 1) (b := 0) rfl rfl (by omega) (by omega))).mp c_9
                                          refine E_go 1 rfl ?_
                                          refine r_aload_n rfl ?_
                                          refine r_iload_n rfl ?_
                                          refine r_virtual (vs := []) (as := [_]) (by decide) (zl rfl) rfl rfl (zl rfl) (Nat.le_refl _) (Or.inr (Or.inr ⟨zt rfl, rfl, zt rfl⟩)) ?_
                                          refine s_isOne (by omega) R.mn h5 ?_
                                          rw [if_pos (inN_io ha (by omega))]
                                          refine r_if_ne (fun c_20 => ?_) (fun c_20 => ?_)
                                          · have c_20 := (not_congr (n_eq (a := 1) (b := 0) rfl rfl (by omega) (by omega))).mp c_20
                                            refine E_go 2 rfl ?_
                                            refine r_aload_n rfl ?_
                                            refine r_getA (q := 65) (by decide) rfl rfl (by decide) ?_
                                            refine r_iload_n rfl ?_
                                            refine r_iaload (by decide) rfl (by decide) (ixE rfl (show a < 5 by omega) (by decide)) ((R.ki ha).trans ec) ?_
                                            refine r_istore_n (ls' := [_, _, _, _]) (zt rfl) rfl ?_
                                            refine r_nil ?_
                                            refine E_go 3 rfl ?_
                                            refine r_iload_n rfl ?_
                                            refine r_iconst ?_
                                            refine r_icmp_eq (fun c_35 => ?_) (fun c_35 => ?_)
                                            · exact absurd c_35 (by decide)
                                            · refine r_iload_n rfl ?_
                                              refine r_iload_n rfl ?_
                                              refine r_icmp_eq (fun c_40 => ?_) (fun c_40 => ?_)
                                              · have c_40 := (n_eq (a := 4) (b := k) rfl rfl (by omega) (by omega)).mp c_40
                                                refine E_go 4 rfl ?_
                                                refine r_iload_n rfl ?_
                                                refine r_iload_n rfl ?_
                                                refine r_icmp_ne (fun c_53 => ?_) (fun c_53 => ?_)
                                                · have c_53 := (not_congr (n_eq (a := 4) (b := k) rfl rfl (by omega) (by omega))).mp c_53
                                                  refine E_go 5 rfl ?_
                                                  refine r_bipush ?_
                                                  refine r_nil ?_
                                                  refine E_go 6 rfl ?_
                                                  refine r_iret rfl trivial ?_
                                                  first
                                                  | (exfalso; omega)
                                                  | exact hQ _ _ _ R.rel
                                                · have c_53 := (n_eq (a := 4) (b := k) rfl rfl (by omega) (by omega)).mp c_53
                                                  refine r_aload_n rfl ?_
                                                  refine r_getA (q := 66) (by decide) rfl rfl (by decide) ?_
                                                  refine r_iconst ?_
                                                  refine r_iload_n rfl ?_
                                                  refine r_imul ?_
                                                  refine r_iaload (by decide) rfl (by decide) (ixE (n_mul (a := 3) (b := a) rfl rfl) (show (3 * a) < 15 by omega) (by decide)) (R.nu ha) ?_
                                                  refine r_goto ?_
                                                  refine E_go 6 rfl ?_
                                                  refine r_iret rfl trivial ?_
                                                  first
                                                  | (exfalso; omega)
                                                  | exact hQ _ _ _ R.rel
                                              · have c_40 := (not_congr (n_eq (a := 4) (b := k) rfl rfl (by omega) (by omega))).mp c_40
                                                refine r_iload_n rfl ?_
                                                refine r_static (vs := [_]) (by decide) (zl rfl) rfl rfl (zl rfl) (Nat.le_refl _) rfl ?_
                                                refine M_go (ls := [_]) (ml := 1) rfl rfl rfl (zl rfl) rfl ?_
                                                refine r_iload_n rfl ?_
                                                refine r_if_ne (fun c_44_1 => ?_) (fun c_44_1 => ?_)
                                                · have c_44_1 := (not_congr (n_eq (a := 4) (b := 0) rfl rfl (by omega) (by omega))).mp c_44_1
                                                  refine E_go 1 rfl ?_
                                                  refine r_iload_n rfl ?_
                                                  refine r_iconst ?_
                                                  refine r_icmp_ne (fun c_44_10 => ?_) (fun c_44_10 => ?_)
                                                  · have c_44_10 := (not_congr (n_eq (a := 4) (b := 3) rfl rfl (by omega) (by omega))).mp c_44_10
                                                    refine E_go 2 rfl ?_
                                                    refine r_iload_n rfl ?_
                                                    refine r_iconst ?_
                                                    refine r_icmp_ne (fun c_44_19 => ?_) (fun c_44_19 => ?_)
                                                    · have c_44_19 := (not_congr (n_eq (a := 4) (b := 4) rfl rfl (by omega) (by omega))).mp c_44_19
                                                      omega
                                                    · have c_44_19 := (n_eq (a := 4) (b := 4) rfl rfl (by omega) (by omega)).mp c_44_19
                                                      refine r_iconst ?_
                                                      refine r_goto ?_
                                                      refine E_go 4 rfl ?_
                                                      refine r_iret rfl trivial ?_
                                                      refine r_istore_n (ls' := [_, _, _, _]) (zt rfl) rfl ?_
                                                      refine r_goto ?_
                                                      refine E_go 3 rfl ?_
                                                      refine r_iload_n rfl ?_
                                                      refine r_iconst ?_
                                                      refine r_icmp_eq (fun c_35 => ?_) (fun c_35 => ?_)
                                                      · exact absurd c_35 (by decide)
                                                      · refine r_iload_n rfl ?_
                                                        refine r_iload_n rfl ?_
                                                        refine r_icmp_eq (fun c_40 => ?_) (fun c_40 => ?_)
                                                        · have c_40 := (n_eq (a := 2) (b := k) rfl rfl (by omega) (by omega)).mp c_40
                                                          refine E_go 4 rfl ?_
                                                          refine r_iload_n rfl ?_
                                                          refine r_iload_n rfl ?_
                                                          refine r_icmp_ne (fun c_53 => ?_) (fun c_53 => ?_)
                                                          · have c_53 := (not_congr (n_eq (a := 2) (b := k) rfl rfl (by omega) (by omega))).mp c_53
                                                            refine E_go 5 rfl ?_
                                                            refine r_bipush ?_
                                                            refine r_nil ?_
                                                            refine E_go 6 rfl ?_
                                                            refine r_iret rfl trivial ?_
                                                            first
                                                            | (exfalso; omega)
                                                            | exact hQ _ _ _ R.rel
                                                          · have c_53 := (n_eq (a := 2) (b := k) rfl rfl (by omega) (by omega)).mp c_53
                                                            refine r_aload_n rfl ?_
                                                            refine r_getA (q := 66) (by decide) rfl rfl (by decide) ?_
                                                            refine r_iconst ?_
                                                            refine r_iload_n rfl ?_
                                                            refine r_imul ?_
                                                            refine r_iaload (by decide) rfl (by decide) (ixE (n_mul (a := 3) (b := a) rfl rfl) (show (3 * a) < 15 by omega) (by decide)) (R.nu ha) ?_
                                                            refine r_goto ?_
                                                            refine E_go 6 rfl ?_
                                                            refine r_iret rfl trivial ?_
                                                            first
                                                            | (exfalso; omega)
                                                            | exact hQ _ _ _ R.rel
                                                        · have c_40 := (not_congr (n_eq (a := 2) (b := k) rfl rfl (by omega) (by omega))).mp c_40
                                                          refine r_iload_n rfl ?_
                                                          refine r_static (vs := [_]) (by decide) (zl rfl) rfl rfl (zl rfl) (Nat.le_refl _) rfl ?_
                                                          refine M_go (ls := [_]) (ml := 1) rfl rfl rfl (zl rfl) rfl ?_
                                                          refine r_iload_n rfl ?_
                                                          refine r_if_ne (fun c_44_1 => ?_) (fun c_44_1 => ?_)
                                                          · have c_44_1 := (not_congr (n_eq (a := 2) (b := 0) rfl rfl (by omega) (by omega))).mp c_44_1
                                                            refine E_go 1 rfl ?_
                                                            refine r_iload_n rfl ?_
                                                            refine r_iconst ?_
                                                            refine r_icmp_ne (fun c_44_10 => ?_) (fun c_44_10 => ?_)
                                                            · have c_44_10 := (not_congr (n_eq (a := 2) (b := 3) rfl rfl (by omega) (by omega))).mp c_44_10
                                                              refine E_go 2 rfl ?_
                                                              refine r_iload_n rfl ?_
                                                              refine r_iconst ?_
                                                              refine r_icmp_ne (fun c_44_19 => ?_) (fun c_44_19 => ?_)
                                                              · have c_44_19 := (not_congr (n_eq (a := 2) (b := 4) rfl rfl (by omega) (by omega))).mp c_44_19
                                                                refine E_go 3 rfl ?_
                                                                refine r_iconst ?_
                                                                refine r_nil ?_
                                                                refine E_go 4 rfl ?_
                                                                refine r_iret rfl trivial ?_
                                                                refine r_istore_n (ls' := [_, _, _, _]) (zt rfl) rfl ?_
                                                                refine r_goto ?_
                                                                refine E_go 3 rfl ?_
                                                                refine r_iload_n rfl ?_
                                                                refine r_iconst ?_
                                                                refine r_icmp_eq (fun c_35 => ?_) (fun c_35 => ?_)
                                                                · exact absurd c_35 (by decide)
                                                                · refine r_iload_n rfl ?_
                                                                  refine r_iload_n rfl ?_
                                                                  refine r_icmp_eq (fun c_40 => ?_) (fun c_40 => ?_)
                                                                  · have c_40 := (n_eq (a := 0) (b := k) rfl rfl (by omega) (by omega)).mp c_40
                                                                    refine E_go 4 rfl ?_
                                                                    refine r_iload_n rfl ?_
                                                                    refine r_iload_n rfl ?_
                                                                    refine r_icmp_ne (fun c_53 => ?_) (fun c_53 => ?_)
                                                                    · have c_53 := (not_congr (n_eq (a := 0) (b := k) rfl rfl (by omega) (by omega))).mp c_53
                                                                      refine E_go 5 rfl ?_
                                                                      refine r_bipush ?_
                                                                      refine r_nil ?_
                                                                      refine E_go 6 rfl ?_
                                                                      refine r_iret rfl trivial ?_
                                                                      first
                                                                      | (exfalso; omega)
                                                                      | exact hQ _ _ _ R.rel
                                                                    · have c_53 := (n_eq (a := 0) (b := k) rfl rfl (by omega) (by omega)).mp c_53
                                                                      refine r_aload_n rfl ?_
                                                                      refine r_getA (q := 66) (by decide) rfl rfl (by decide) ?_
                                                                      refine r_iconst ?_
                                                                      refine r_iload_n rfl ?_
                                                                      refine r_imul ?_
                                                                      refine r_iaload (by decide) rfl (by decide) (ixE (n_mul (a := 3) (b := a) rfl rfl) (show (3 * a) < 15 by omega) (by decide)) (R.nu ha) ?_
                                                                      refine r_goto ?_
                                                                      refine E_go 6 rfl ?_
                                                                      refine r_iret rfl trivial ?_
                                                                      first
                                                                      | (exfalso; omega)
                                                                      | exact hQ _ _ _ R.rel
                                                                  · have c_40 := (not_congr (n_eq (a := 0) (b := k) rfl rfl (by omega) (by omega))).mp c_40
                                                                    refine r_iload_n rfl ?_
                                                                    refine r_static (vs := [_]) (by decide) (zl rfl) rfl rfl (zl rfl) (Nat.le_refl _) rfl ?_
                                                                    refine M_go (ls := [_]) (ml := 1) rfl rfl rfl (zl rfl) rfl ?_
                                                                    refine r_iload_n rfl ?_
                                                                    refine r_if_ne (fun c_44_1 => ?_) (fun c_44_1 => ?_)
                                                                    · have c_44_1 := (not_congr (n_eq (a := 0) (b := 0) rfl rfl (by omega) (by omega))).mp c_44_1
                                                                      omega
                                                                    · have c_44_1 := (n_eq (a := 0) (b := 0) rfl rfl (by omega) (by omega)).mp c_44_1
                                                                      refine r_iconst ?_
                                                                      refine r_goto ?_
                                                                      refine E_go 4 rfl ?_
                                                                      refine r_iret rfl trivial ?_
                                                                      refine r_istore_n (ls' := [_, _, _, _]) (zt rfl) rfl ?_
                                                                      refine r_goto ?_
                                                                      refine E_go 3 rfl ?_
                                                                      refine r_iload_n rfl ?_
                                                                      refine r_iconst ?_
                                                                      refine r_icmp_eq (fun c_35 => ?_) (fun c_35 => ?_)
                                                                      · refine E_go 4 rfl ?_
                                                                        refine r_iload_n rfl ?_
                                                                        refine r_iload_n rfl ?_
                                                                        refine r_icmp_ne (fun c_53 => ?_) (fun c_53 => ?_)
                                                                        · refine E_go 5 rfl ?_
                                                                          refine r_bipush ?_
                                                                          refine r_nil ?_
                                                                          refine E_go 6 rfl ?_
                                                                          refine r_iret rfl trivial ?_
                                                                          first
                                                                          | (exfalso; omega)
                                                                          | exact hQ _ _ _ R.rel
                                                                        · exact absurd c_53.symm (io_m1 (by omega))
                                                                      · exact absurd rfl c_35
                                                              · have c_44_19 := (n_eq (a := 2) (b := 4) rfl rfl (by omega) (by omega)).mp c_44_19
                                                                omega
                                                            · have c_44_10 := (n_eq (a := 2) (b := 3) rfl rfl (by omega) (by omega)).mp c_44_10
                                                              omega
                                                          · have c_44_1 := (n_eq (a := 2) (b := 0) rfl rfl (by omega) (by omega)).mp c_44_1
                                                            omega
                                                  · have c_44_10 := (n_eq (a := 4) (b := 3) rfl rfl (by omega) (by omega)).mp c_44_10
                                                    omega
                                                · have c_44_1 := (n_eq (a := 4) (b := 0) rfl rfl (by omega) (by omega)).mp c_44_1
                                                  omega
                                          · have c_20 := (n_eq (a := 1) (b := 0) rfl rfl (by omega) (by omega)).mp c_20
                                            omega
                                        · have c_9 := (n_eq (a := 1) (b := 0) rfl rfl (by omega) (by omega)).mp c_9
                                          omega
                            · have c_34_22 := (n_eq (a := 2) (b := k) rfl rfl (by omega) (by omega)).mp c_34_22
                              refine r_iconst ?_
                              refine r_iret rfl (by first | exact Or.inl rfl | exact Or.inr rfl) ?_
                              refine r_if_eq (fun c_37 => ?_) (fun c_37 => ?_)
                              · have c_37 := (n_eq (a := 1) (b := 0) rfl rfl (by omega) (by omega)).mp c_37
                                omega
                              · have c_37 := (not_congr (n_eq (a := 1) (b := 0) rfl rfl (by omega) (by omega))).mp c_37
                                refine r_aload_n rfl ?_
                                refine r_getA (q := 1) (by decide) rfl rfl (by decide) ?_
                                refine r_getA (q := 3) (by decide) rfl rfl (by decide) ?_
                                refine r_iload_n rfl ?_
                                refine r_iaload (by decide) rfl (by decide) (ixE rfl (show a < 5 by omega) (by decide)) rfl ?_
                                refine r_goto ?_
                                refine E_go 5 rfl ?_
                                refine r_iret rfl trivial ?_
                                refine M_go (ls := [_, _, _, _]) (ml := 4) rfl rfl rfl (zl rfl) rfl ?_
                                refine r_iload_n rfl ?_
                                refine r_i2l ?_
                                refine r_lconst ?_
                                refine r_ldc2_w ?_
                                refine r_static (vs := [_, _, _]) (by decide) (zl rfl) rfl rfl (zl rfl) (Nat.le_refl _) rfl ?_
                                refine s_in0 (by omega) (x := (io k)) (k := 6) (Int32.toInt_toInt64 _) i64_0 rfl ?_
                                rw [if_pos (inN_io hk (by omega))]
                                refine r_if_ne (fun c_9 => ?_) (fun c_9 => ?_)
                                · have c_9 := (not_congr (n_eq (a := 1) (b := 0) rfl rfl (by omega) (by omega))).mp c_9
                                  refine E_go 1 rfl ?_
                                  refine r_aload_n rfl ?_
                                  refine r_iload_n rfl ?_
                                  refine r_virtual (vs := []) (as := [_]) (by decide) (zl rfl) rfl rfl (zl rfl) (Nat.le_refl _) (Or.inr (Or.inr ⟨zt rfl, rfl, zt rfl⟩)) ?_
                                  refine s_isOne (by omega) R.mn h5 ?_
                                  rw [if_pos (inN_io ha (by omega))]
                                  refine r_if_ne (fun c_20 => ?_) (fun c_20 => ?_)
                                  · have c_20 := (not_congr (n_eq (a := 1) (b := 0) rfl rfl (by omega) (by omega))).mp c_20
                                    refine E_go 2 rfl ?_
                                    refine r_aload_n rfl ?_
                                    refine r_getA (q := 65) (by decide) rfl rfl (by decide) ?_
                                    refine r_iload_n rfl ?_
                                    refine r_iaload (by decide) rfl (by decide) (ixE rfl (show a < 5 by omega) (by decide)) ((R.ki ha).trans ec) ?_
                                    refine r_istore_n (ls' := [_, _, _, _]) (zt rfl) rfl ?_
                                    refine r_nil ?_
                                    refine E_go 3 rfl ?_
                                    refine r_iload_n rfl ?_
                                    refine r_iconst ?_
                                    refine r_icmp_eq (fun c_35 => ?_) (fun c_35 => ?_)
                                    · exact absurd c_35 (by decide)
                                    · refine r_iload_n rfl ?_
                                      refine r_iload_n rfl ?_
                                      refine r_icmp_eq (fun c_40 => ?_) (fun c_40 => ?_)
                                      · have c_40 := (n_eq (a := 4) (b := k) rfl rfl (by omega) (by omega)).mp c_40
                                        refine E_go 4 rfl ?_
                                        refine r_iload_n rfl ?_
                                        refine r_iload_n rfl ?_
                                        refine r_icmp_ne (fun c_53 => ?_) (fun c_53 => ?_)
                                        · have c_53 := (not_congr (n_eq (a := 4) (b := k) rfl rfl (by omega) (by omega))).mp c_53
                                          refine E_go 5 rfl ?_
                                          refine r_bipush ?_
                                          refine r_nil ?_
                                          refine E_go 6 rfl ?_
                                          refine r_iret rfl trivial ?_
                                          first
                                          | (exfalso; omega)
                                          | exact hQ _ _ _ R.rel
                                        · have c_53 := (n_eq (a := 4) (b := k) rfl rfl (by omega) (by omega)).mp c_53
                                          refine r_aload_n rfl ?_
                                          refine r_getA (q := 66) (by decide) rfl rfl (by decide) ?_
                                          refine r_iconst ?_
                                          refine r_iload_n rfl ?_
                                          refine r_imul ?_
                                          refine r_iaload (by decide) rfl (by decide) (ixE (n_mul (a := 3) (b := a) rfl rfl) (show (3 * a) < 15 by omega) (by decide)) (R.nu ha) ?_
                                          refine r_goto ?_
                                          refine E_go 6 rfl ?_
                                          refine r_iret rfl trivial ?_
                                          first
                                          | (exfalso; omega)
                                          | exact hQ _ _ _ R.rel
                                      · have c_40 := (not_congr (n_eq (a := 4) (b := k) rfl rfl (by omega) (by omega))).mp c_40
                                        refine r_iload_n rfl ?_
                                        refine r_static (vs := [_]) (by decide) (zl rfl) rfl rfl (zl rfl) (Nat.le_refl _) rfl ?_
                                        refine M_go (ls := [_]) (ml := 1) rfl rfl rfl (zl rfl) rfl ?_
                                        refine r_iload_n rfl ?_
                                        refine r_if_ne (fun c_44_1 => ?_) (fun c_44_1 => ?_)
                                        · have c_44_1 := (not_congr (n_eq (a := 4) (b := 0) rfl rfl (by omega) (by omega))).mp c_44_1
                                          refine E_go 1 rfl ?_
                                          refine r_iload_n rfl ?_
                                          refine r_iconst ?_
                                          refine r_icmp_ne (fun c_44_10 => ?_) (fun c_44_10 => ?_)
                                          · have c_44_10 := (not_congr (n_eq (a := 4) (b := 3) rfl rfl (by omega) (by omega))).mp c_44_10
                                            refine E_go 2 rfl ?_
                                            refine r_iload_n rfl ?_
                                            refine r_iconst ?_
                                            refine r_icmp_ne (fun c_44_19 => ?_) (fun c_44_19 => ?_)
                                            · have c_44_19 := (not_congr (n_eq (a := 4) (b := 4) rfl rfl (by omega) (by omega))).mp c_44_19
                                              omega
                                            · have c_44_19 := (n_eq (a := 4) (b := 4) rfl rfl (by omega) (by omega)).mp c_44_19
                                              refine r_iconst ?_
                                              refine r_goto ?_
                                              refine E_go 4 rfl ?_
                                              refine r_iret rfl trivial ?_
                                              refine r_istore_n (ls' := [_, _, _, _]) (zt rfl) rfl ?_
                                              refine r_goto ?_
                                              refine E_go 3 rfl ?_
                                              refine r_iload_n rfl ?_
                                              refine r_iconst ?_
                                              refine r_icmp_eq (fun c_35 => ?_) (fun c_35 => ?_)
                                              · exact absurd c_35 (by decide)
                                              · refine r_iload_n rfl ?_
                                                refine r_iload_n rfl ?_
                                                refine r_icmp_eq (fun c_40 => ?_) (fun c_40 => ?_)
                                                · have c_40 := (n_eq (a := 2) (b := k) rfl rfl (by omega) (by omega)).mp c_40
                                                  refine E_go 4 rfl ?_
                                                  refine r_iload_n rfl ?_
                                                  refine r_iload_n rfl ?_
                                                  refine r_icmp_ne (fun c_53 => ?_) (fun c_53 => ?_)
                                                  · have c_53 := (not_congr (n_eq (a := 2) (b := k) rfl rfl (by omega) (by omega))).mp c_53
                                                    refine E_go 5 rfl ?_
                                                    refine r_bipush ?_
                                                    refine r_nil ?_
                                                    refine E_go 6 rfl ?_
                                                    refine r_iret rfl trivial ?_
                                                    first
                                                    | (exfalso; omega)
                                                    | exact hQ _ _ _ R.rel
                                                  · have c_53 := (n_eq (a := 2) (b := k) rfl rfl (by omega) (by omega)).mp c_53
                                                    refine r_aload_n rfl ?_
                                                    refine r_getA (q := 66) (by decide) rfl rfl (by decide) ?_
                                                    refine r_iconst ?_
                                                    refine r_iload_n rfl ?_
                                                    refine r_imul ?_
                                                    refine r_iaload (by decide) rfl (by decide) (ixE (n_mul (a := 3) (b := a) rfl rfl) (show (3 * a) < 15 by omega) (by decide)) (R.nu ha) ?_
                                                    refine r_goto ?_
                                                    refine E_go 6 rfl ?_
                                                    refine r_iret rfl trivial ?_
                                                    first
                                                    | (exfalso; omega)
                                                    | exact hQ _ _ _ R.rel
                                                · have c_40 := (not_congr (n_eq (a := 2) (b := k) rfl rfl (by omega) (by omega))).mp c_40
                                                  refine r_iload_n rfl ?_
                                                  refine r_static (vs := [_]) (by decide) (zl rfl) rfl rfl (zl rfl) (Nat.le_refl _) rfl ?_
                                                  refine M_go (ls := [_]) (ml := 1) rfl rfl rfl (zl rfl) rfl ?_
                                                  refine r_iload_n rfl ?_
                                                  refine r_if_ne (fun c_44_1 => ?_) (fun c_44_1 => ?_)
                                                  · have c_44_1 := (not_congr (n_eq (a := 2) (b := 0) rfl rfl (by omega) (by omega))).mp c_44_1
                                                    refine E_go 1 rfl ?_
                                                    refine r_iload_n rfl ?_
                                                    refine r_iconst ?_
                                                    refine r_icmp_ne (fun c_44_10 => ?_) (fun c_44_10 => ?_)
                                                    · have c_44_10 := (not_congr (n_eq (a := 2) (b := 3) rfl rfl (by omega) (by omega))).mp c_44_10
                                                      refine E_go 2 rfl ?_
                                                      refine r_iload_n rfl ?_
                                                      refine r_iconst ?_
                                                      refine r_icmp_ne (fun c_44_19 => ?_) (fun c_44_19 => ?_)
                                                      · have c_44_19 := (not_congr (n_eq (a := 2) (b := 4) rfl rfl (by omega) (by omega))).mp c_44_19
                                                        refine E_go 3 rfl ?_
                                                        refine r_iconst ?_
                                                        refine r_nil ?_
                                                        refine E_go 4 rfl ?_
                                                        refine r_iret rfl trivial ?_
                                                        refine r_istore_n (ls' := [_, _, _, _]) (zt rfl) rfl ?_
                                                        refine r_goto ?_
                                                        refine E_go 3 rfl ?_
                                                        refine r_iload_n rfl ?_
                                                        refine r_iconst ?_
                                                        refine r_icmp_eq (fun c_35 => ?_) (fun c_35 => ?_)
                                                        · exact absurd c_35 (by decide)
                                                        · refine r_iload_n rfl ?_
                                                          refine r_iload_n rfl ?_
                                                          refine r_icmp_eq (fun c_40 => ?_) (fun c_40 => ?_)
                                                          · have c_40 := (n_eq (a := 0) (b := k) rfl rfl (by omega) (by omega)).mp c_40
                                                            refine E_go 4 rfl ?_
                                                            refine r_iload_n rfl ?_
                                                            refine r_iload_n rfl ?_
                                                            refine r_icmp_ne (fun c_53 => ?_) (fun c_53 => ?_)
                                                            · have c_53 := (not_congr (n_eq (a := 0) (b := k) rfl rfl (by omega) (by omega))).mp c_53
                                                              refine E_go 5 rfl ?_
                                                              refine r_bipush ?_
                                                              refine r_nil ?_
                                                              refine E_go 6 rfl ?_
                                                              refine r_iret rfl trivial ?_
                                                              first
                                                              | (exfalso; omega)
                                                              | exact hQ _ _ _ R.rel
                                                            · have c_53 := (n_eq (a := 0) (b := k) rfl rfl (by omega) (by omega)).mp c_53
                                                              refine r_aload_n rfl ?_
                                                              refine r_getA (q := 66) (by decide) rfl rfl (by decide) ?_
                                                              refine r_iconst ?_
                                                              refine r_iload_n rfl ?_
                                                              refine r_imul ?_
                                                              refine r_iaload (by decide) rfl (by decide) (ixE (n_mul (a := 3) (b := a) rfl rfl) (show (3 * a) < 15 by omega) (by decide)) (R.nu ha) ?_
                                                              refine r_goto ?_
                                                              refine E_go 6 rfl ?_
                                                              refine r_iret rfl trivial ?_
                                                              first
                                                              | (exfalso; omega)
                                                              | exact hQ _ _ _ R.rel
                                                          · have c_40 := (not_congr (n_eq (a := 0) (b := k) rfl rfl (by omega) (by omega))).mp c_40
                                                            refine r_iload_n rfl ?_
                                                            refine r_static (vs := [_]) (by decide) (zl rfl) rfl rfl (zl rfl) (Nat.le_refl _) rfl ?_
                                                            refine M_go (ls := [_]) (ml := 1) rfl rfl rfl (zl rfl) rfl ?_
                                                            refine r_iload_n rfl ?_
                                                            refine r_if_ne (fun c_44_1 => ?_) (fun c_44_1 => ?_)
                                                            · have c_44_1 := (not_congr (n_eq (a := 0) (b := 0) rfl rfl (by omega) (by omega))).mp c_44_1
                                                              omega
                                                            · have c_44_1 := (n_eq (a := 0) (b := 0) rfl rfl (by omega) (by omega)).mp c_44_1
                                                              refine r_iconst ?_
                                                              refine r_goto ?_
                                                              refine E_go 4 rfl ?_
                                                              refine r_iret rfl trivial ?_
                                                              refine r_istore_n (ls' := [_, _, _, _]) (zt rfl) rfl ?_
                                                              refine r_goto ?_
                                                              refine E_go 3 rfl ?_
                                                              refine r_iload_n rfl ?_
                                                              refine r_iconst ?_
                                                              refine r_icmp_eq (fun c_35 => ?_) (fun c_35 => ?_)
                                                              · refine E_go 4 rfl ?_
                                                                refine r_iload_n rfl ?_
                                                                refine r_iload_n rfl ?_
                                                                refine r_icmp_ne (fun c_53 => ?_) (fun c_53 => ?_)
                                                                · refine E_go 5 rfl ?_
                                                                  refine r_bipush ?_
                                                                  refine r_nil ?_
                                                                  refine E_go 6 rfl ?_
                                                                  refine r_iret rfl trivial ?_
                                                                  first
                                                                  | (exfalso; omega)
                                                                  | exact hQ _ _ _ R.rel
                                                                · exact absurd c_53.symm (io_m1 (by omega))
                                                              · exact absurd rfl c_35
                                                      · have c_44_19 := (n_eq (a := 2) (b := 4) rfl rfl (by omega) (by omega)).mp c_44_19
                                                        omega
                                                    · have c_44_10 := (n_eq (a := 2) (b := 3) rfl rfl (by omega) (by omega)).mp c_44_10
                                                      omega
                                                  · have c_44_1 := (n_eq (a := 2) (b := 0) rfl rfl (by omega) (by omega)).mp c_44_1
                                                    omega
                                          · have c_44_10 := (n_eq (a := 4) (b := 3) rfl rfl (by omega) (by omega)).mp c_44_10
                                            omega
                                        · have c_44_1 := (n_eq (a := 4) (b := 0) rfl rfl (by omega) (by omega)).mp c_44_1
                                          omega
                                  · have c_20 := (n_eq (a := 1) (b := 0) rfl rfl (by omega) (by omega)).mp c_20
                                    omega
                                · have c_9 := (n_eq (a := 1) (b := 0) rfl rfl (by omega) (by omega)).mp c_9
                                  omega
                    · have c_34_22 := (n_eq (a := 4) (b := k) rfl rfl (by omega) (by omega)).mp c_34_22
                      refine r_iconst ?_
                      refine r_iret rfl (by first | exact Or.inl rfl | exact Or.inr rfl) ?_
                      refine r_if_eq (fun c_37 => ?_) (fun c_37 => ?_)
                      · have c_37 := (n_eq (a := 1) (b := 0) rfl rfl (by omega) (by omega)).mp c_37
                        omega
                      · have c_37 := (not_congr (n_eq (a := 1) (b := 0) rfl rfl (by omega) (by omega))).mp c_37
                        refine r_aload_n rfl ?_
                        refine r_getA (q := 1) (by decide) rfl rfl (by decide) ?_
                        refine r_getA (q := 3) (by decide) rfl rfl (by decide) ?_
                        refine r_iload_n rfl ?_
                        refine r_iaload (by decide) rfl (by decide) (ixE rfl (show a < 5 by omega) (by decide)) rfl ?_
                        refine r_goto ?_
                        refine E_go 5 rfl ?_
                        refine r_iret rfl trivial ?_
                        refine M_go (ls := [_, _, _, _]) (ml := 4) rfl rfl rfl (zl rfl) rfl ?_
                        refine r_iload_n rfl ?_
                        refine r_i2l ?_
                        refine r_lconst ?_
                        refine r_ldc2_w ?_
                        refine r_static (vs := [_, _, _]) (by decide) (zl rfl) rfl rfl (zl rfl) (Nat.le_refl _) rfl ?_
                        refine s_in0 (by omega) (x := (io k)) (k := 6) (Int32.toInt_toInt64 _) i64_0 rfl ?_
                        rw [if_pos (inN_io hk (by omega))]
                        refine r_if_ne (fun c_9 => ?_) (fun c_9 => ?_)
                        · have c_9 := (not_congr (n_eq (a := 1) (b := 0) rfl rfl (by omega) (by omega))).mp c_9
                          refine E_go 1 rfl ?_
                          refine r_aload_n rfl ?_
                          refine r_iload_n rfl ?_
                          refine r_virtual (vs := []) (as := [_]) (by decide) (zl rfl) rfl rfl (zl rfl) (Nat.le_refl _) (Or.inr (Or.inr ⟨zt rfl, rfl, zt rfl⟩)) ?_
                          refine s_isOne (by omega) R.mn h5 ?_
                          rw [if_pos (inN_io ha (by omega))]
                          refine r_if_ne (fun c_20 => ?_) (fun c_20 => ?_)
                          · have c_20 := (not_congr (n_eq (a := 1) (b := 0) rfl rfl (by omega) (by omega))).mp c_20
                            refine E_go 2 rfl ?_
                            refine r_aload_n rfl ?_
                            refine r_getA (q := 65) (by decide) rfl rfl (by decide) ?_
                            refine r_iload_n rfl ?_
                            refine r_iaload (by decide) rfl (by decide) (ixE rfl (show a < 5 by omega) (by decide)) ((R.ki ha).trans ec) ?_
                            refine r_istore_n (ls' := [_, _, _, _]) (zt rfl) rfl ?_
                            refine r_nil ?_
                            refine E_go 3 rfl ?_
                            refine r_iload_n rfl ?_
                            refine r_iconst ?_
                            refine r_icmp_eq (fun c_35 => ?_) (fun c_35 => ?_)
                            · exact absurd c_35 (by decide)
                            · refine r_iload_n rfl ?_
                              refine r_iload_n rfl ?_
                              refine r_icmp_eq (fun c_40 => ?_) (fun c_40 => ?_)
                              · have c_40 := (n_eq (a := 4) (b := k) rfl rfl (by omega) (by omega)).mp c_40
                                refine E_go 4 rfl ?_
                                refine r_iload_n rfl ?_
                                refine r_iload_n rfl ?_
                                refine r_icmp_ne (fun c_53 => ?_) (fun c_53 => ?_)
                                · have c_53 := (not_congr (n_eq (a := 4) (b := k) rfl rfl (by omega) (by omega))).mp c_53
                                  refine E_go 5 rfl ?_
                                  refine r_bipush ?_
                                  refine r_nil ?_
                                  refine E_go 6 rfl ?_
                                  refine r_iret rfl trivial ?_
                                  first
                                  | (exfalso; omega)
                                  | exact hQ _ _ _ R.rel
                                · have c_53 := (n_eq (a := 4) (b := k) rfl rfl (by omega) (by omega)).mp c_53
                                  refine r_aload_n rfl ?_
                                  refine r_getA (q := 66) (by decide) rfl rfl (by decide) ?_
                                  refine r_iconst ?_
                                  refine r_iload_n rfl ?_
                                  refine r_imul ?_
                                  refine r_iaload (by decide) rfl (by decide) (ixE (n_mul (a := 3) (b := a) rfl rfl) (show (3 * a) < 15 by omega) (by decide)) (R.nu ha) ?_
                                  refine r_goto ?_
                                  refine E_go 6 rfl ?_
                                  refine r_iret rfl trivial ?_
                                  first
                                  | (exfalso; omega)
                                  | exact hQ _ _ _ R.rel
                              · have c_40 := (not_congr (n_eq (a := 4) (b := k) rfl rfl (by omega) (by omega))).mp c_40
                                refine r_iload_n rfl ?_
                                refine r_static (vs := [_]) (by decide) (zl rfl) rfl rfl (zl rfl) (Nat.le_refl _) rfl ?_
                                refine M_go (ls := [_]) (ml := 1) rfl rfl rfl (zl rfl) rfl ?_
                                refine r_iload_n rfl ?_
                                refine r_if_ne (fun c_44_1 => ?_) (fun c_44_1 => ?_)
                                · have c_44_1 := (not_congr (n_eq (a := 4) (b := 0) rfl rfl (by omega) (by omega))).mp c_44_1
                                  refine E_go 1 rfl ?_
                                  refine r_iload_n rfl ?_
                                  refine r_iconst ?_
                                  refine r_icmp_ne (fun c_44_10 => ?_) (fun c_44_10 => ?_)
                                  · have c_44_10 := (not_congr (n_eq (a := 4) (b := 3) rfl rfl (by omega) (by omega))).mp c_44_10
                                    refine E_go 2 rfl ?_
                                    refine r_iload_n rfl ?_
                                    refine r_iconst ?_
                                    refine r_icmp_ne (fun c_44_19 => ?_) (fun c_44_19 => ?_)
                                    · have c_44_19 := (not_congr (n_eq (a := 4) (b := 4) rfl rfl (by omega) (by omega))).mp c_44_19
                                      omega
                                    · have c_44_19 := (n_eq (a := 4) (b := 4) rfl rfl (by omega) (by omega)).mp c_44_19
                                      refine r_iconst ?_
                                      refine r_goto ?_
                                      refine E_go 4 rfl ?_
                                      refine r_iret rfl trivial ?_
                                      refine r_istore_n (ls' := [_, _, _, _]) (zt rfl) rfl ?_
                                      refine r_goto ?_
                                      refine E_go 3 rfl ?_
                                      refine r_iload_n rfl ?_
                                      refine r_iconst ?_
                                      refine r_icmp_eq (fun c_35 => ?_) (fun c_35 => ?_)
                                      · exact absurd c_35 (by decide)
                                      · refine r_iload_n rfl ?_
                                        refine r_iload_n rfl ?_
                                        refine r_icmp_eq (fun c_40 => ?_) (fun c_40 => ?_)
                                        · have c_40 := (n_eq (a := 2) (b := k) rfl rfl (by omega) (by omega)).mp c_40
                                          refine E_go 4 rfl ?_
                                          refine r_iload_n rfl ?_
                                          refine r_iload_n rfl ?_
                                          refine r_icmp_ne (fun c_53 => ?_) (fun c_53 => ?_)
                                          · have c_53 := (not_congr (n_eq (a := 2) (b := k) rfl rfl (by omega) (by omega))).mp c_53
                                            refine E_go 5 rfl ?_
                                            refine r_bipush ?_
                                            refine r_nil ?_
                                            refine E_go 6 rfl ?_
                                            refine r_iret rfl trivial ?_
                                            first
                                            | (exfalso; omega)
                                            | exact hQ _ _ _ R.rel
                                          · have c_53 := (n_eq (a := 2) (b := k) rfl rfl (by omega) (by omega)).mp c_53
                                            refine r_aload_n rfl ?_
                                            refine r_getA (q := 66) (by decide) rfl rfl (by decide) ?_
                                            refine r_iconst ?_
                                            refine r_iload_n rfl ?_
                                            refine r_imul ?_
                                            refine r_iaload (by decide) rfl (by decide) (ixE (n_mul (a := 3) (b := a) rfl rfl) (show (3 * a) < 15 by omega) (by decide)) (R.nu ha) ?_
                                            refine r_goto ?_
                                            refine E_go 6 rfl ?_
                                            refine r_iret rfl trivial ?_
                                            first
                                            | (exfalso; omega)
                                            | exact hQ _ _ _ R.rel
                                        · have c_40 := (not_congr (n_eq (a := 2) (b := k) rfl rfl (by omega) (by omega))).mp c_40
                                          refine r_iload_n rfl ?_
                                          refine r_static (vs := [_]) (by decide) (zl rfl) rfl rfl (zl rfl) (Nat.le_refl _) rfl ?_
                                          refine M_go (ls := [_]) (ml := 1) rfl rfl rfl (zl rfl) rfl ?_
                                          refine r_iload_n rfl ?_
                                          refine r_if_ne (fun c_44_1 => ?_) (fun c_44_1 => ?_)
                                          · have c_44_1 := (not_congr (n_eq (a := 2) (b := 0) rfl rfl (by omega) (by omega))).mp c_44_1
                                            refine E_go 1 rfl ?_
                                            refine r_iload_n rfl ?_
                                            refine r_iconst ?_
                                            refine r_icmp_ne (fun c_44_10 => ?_) (fun c_44_10 => ?_)
                                            · have c_44_10 := (not_congr (n_eq (a := 2) (b := 3) rfl rfl (by omega) (by omega))).mp c_44_10
                                              refine E_go 2 rfl ?_
                                              refine r_iload_n rfl ?_
                                              refine r_iconst ?_
                                              refine r_icmp_ne (fun c_44_19 => ?_) (fun c_44_19 => ?_)
                                              · have c_44_19 := (not_congr (n_eq (a := 2) (b := 4) rfl rfl (by omega) (by omega))).mp c_44_19
                                                refine E_go 3 rfl ?_
                                                refine r_iconst ?_
                                                refine r_nil ?_
                                                refine E_go 4 rfl ?_
                                                refine r_iret rfl trivial ?_
                                                refine r_istore_n (ls' := [_, _, _, _]) (zt rfl) rfl ?_
                                                refine r_goto ?_
                                                refine E_go 3 rfl ?_
                                                refine r_iload_n rfl ?_
                                                refine r_iconst ?_
                                                refine r_icmp_eq (fun c_35 => ?_) (fun c_35 => ?_)
                                                · exact absurd c_35 (by decide)
                                                · refine r_iload_n rfl ?_
                                                  refine r_iload_n rfl ?_
                                                  refine r_icmp_eq (fun c_40 => ?_) (fun c_40 => ?_)
                                                  · have c_40 := (n_eq (a := 0) (b := k) rfl rfl (by omega) (by omega)).mp c_40
                                                    refine E_go 4 rfl ?_
                                                    refine r_iload_n rfl ?_
                                                    refine r_iload_n rfl ?_
                                                    refine r_icmp_ne (fun c_53 => ?_) (fun c_53 => ?_)
                                                    · have c_53 := (not_congr (n_eq (a := 0) (b := k) rfl rfl (by omega) (by omega))).mp c_53
                                                      refine E_go 5 rfl ?_
                                                      refine r_bipush ?_
                                                      refine r_nil ?_
                                                      refine E_go 6 rfl ?_
                                                      refine r_iret rfl trivial ?_
                                                      first
                                                      | (exfalso; omega)
                                                      | exact hQ _ _ _ R.rel
                                                    · have c_53 := (n_eq (a := 0) (b := k) rfl rfl (by omega) (by omega)).mp c_53
                                                      refine r_aload_n rfl ?_
                                                      refine r_getA (q := 66) (by decide) rfl rfl (by decide) ?_
                                                      refine r_iconst ?_
                                                      refine r_iload_n rfl ?_
                                                      refine r_imul ?_
                                                      refine r_iaload (by decide) rfl (by decide) (ixE (n_mul (a := 3) (b := a) rfl rfl) (show (3 * a) < 15 by omega) (by decide)) (R.nu ha) ?_
                                                      refine r_goto ?_
                                                      refine E_go 6 rfl ?_
                                                      refine r_iret rfl trivial ?_
                                                      first
                                                      | (exfalso; omega)
                                                      | exact hQ _ _ _ R.rel
                                                  · have c_40 := (not_congr (n_eq (a := 0) (b := k) rfl rfl (by omega) (by omega))).mp c_40
                                                    refine r_iload_n rfl ?_
                                                    refine r_static (vs := [_]) (by decide) (zl rfl) rfl rfl (zl rfl) (Nat.le_refl _) rfl ?_
                                                    refine M_go (ls := [_]) (ml := 1) rfl rfl rfl (zl rfl) rfl ?_
                                                    refine r_iload_n rfl ?_
                                                    refine r_if_ne (fun c_44_1 => ?_) (fun c_44_1 => ?_)
                                                    · have c_44_1 := (not_congr (n_eq (a := 0) (b := 0) rfl rfl (by omega) (by omega))).mp c_44_1
                                                      omega
                                                    · have c_44_1 := (n_eq (a := 0) (b := 0) rfl rfl (by omega) (by omega)).mp c_44_1
                                                      refine r_iconst ?_
                                                      refine r_goto ?_
                                                      refine E_go 4 rfl ?_
                                                      refine r_iret rfl trivial ?_
                                                      refine r_istore_n (ls' := [_, _, _, _]) (zt rfl) rfl ?_
                                                      refine r_goto ?_
                                                      refine E_go 3 rfl ?_
                                                      refine r_iload_n rfl ?_
                                                      refine r_iconst ?_
                                                      refine r_icmp_eq (fun c_35 => ?_) (fun c_35 => ?_)
                                                      · refine E_go 4 rfl ?_
                                                        refine r_iload_n rfl ?_
                                                        refine r_iload_n rfl ?_
                                                        refine r_icmp_ne (fun c_53 => ?_) (fun c_53 => ?_)
                                                        · refine E_go 5 rfl ?_
                                                          refine r_bipush ?_
                                                          refine r_nil ?_
                                                          refine E_go 6 rfl ?_
                                                          refine r_iret rfl trivial ?_
                                                          first
                                                          | (exfalso; omega)
                                                          | exact hQ _ _ _ R.rel
                                                        · exact absurd c_53.symm (io_m1 (by omega))
                                                      · exact absurd rfl c_35
                                              · have c_44_19 := (n_eq (a := 2) (b := 4) rfl rfl (by omega) (by omega)).mp c_44_19
                                                omega
                                            · have c_44_10 := (n_eq (a := 2) (b := 3) rfl rfl (by omega) (by omega)).mp c_44_10
                                              omega
                                          · have c_44_1 := (n_eq (a := 2) (b := 0) rfl rfl (by omega) (by omega)).mp c_44_1
                                            omega
                                  · have c_44_10 := (n_eq (a := 4) (b := 3) rfl rfl (by omega) (by omega)).mp c_44_10
                                    omega
                                · have c_44_1 := (n_eq (a := 4) (b := 0) rfl rfl (by omega) (by omega)).mp c_44_1
                                  omega
                          · have c_20 := (n_eq (a := 1) (b := 0) rfl rfl (by omega) (by omega)).mp c_20
                            omega
                        · have c_9 := (n_eq (a := 1) (b := 0) rfl rfl (by omega) (by omega)).mp c_9
                          omega
            · have c_18 := (n_eq (a := 1) (b := 0) rfl rfl (by omega) (by omega)).mp c_18
              omega
          · have c_7 := (not_congr (n_lt (a := k) (b := 6) rfl rfl (by omega) (by omega))).mp c_7
            omega
      · refine M_go (ls := [_, _, _]) (ml := 3) rfl rfl rfl (zl rfl) rfl ?_
        refine r_iload_n rfl ?_
        refine r_if_lt (fun c_1 => ?_) (fun c_1 => ?_)
        · have c_1 := (n_lt (a := k) (b := 0) rfl rfl (by omega) (by omega)).mp c_1
          omega
        · have c_1 := (not_congr (n_lt (a := k) (b := 0) rfl rfl (by omega) (by omega))).mp c_1
          refine r_iload_n rfl ?_
          refine r_bipush ?_
          refine r_icmp_lt (fun c_7 => ?_) (fun c_7 => ?_)
          · have c_7 := (n_lt (a := k) (b := 6) rfl rfl (by omega) (by omega)).mp c_7
            refine E_go 2 rfl ?_
            refine r_aload_n rfl ?_
            refine r_iload_n rfl ?_
            refine r_virtual (vs := []) (as := [_]) (by decide) (zl rfl) rfl rfl (zl rfl) (Nat.le_refl _) (Or.inr (Or.inr ⟨zt rfl, rfl, zt rfl⟩)) ?_
            refine s_isAunt (by omega) R.cn h5 ?_
            rw [if_pos (inN_io ha (by omega))]
            refine r_if_ne (fun c_18 => ?_) (fun c_18 => ?_)
            · have c_18 := (not_congr (n_eq (a := 1) (b := 0) rfl rfl (by omega) (by omega))).mp c_18
              refine E_go 3 rfl ?_
              refine r_aload_n rfl ?_
              refine r_getA (q := 1) (by decide) rfl rfl (by decide) ?_
              refine r_getA (q := 2) (by decide) rfl rfl (by decide) ?_
              refine r_iload_n rfl ?_
              refine r_iaload (by decide) rfl (by decide) (ixE rfl (show a < 5 by omega) (by decide)) ec ?_
              refine r_iload_n rfl ?_
              refine r_static (vs := [_, _]) (by decide) (zl rfl) rfl rfl (zl rfl) (Nat.le_refl _) rfl ?_
              refine M_go (ls := [_, _, _, _]) (ml := 4) rfl rfl rfl (zl rfl) rfl ?_
              refine r_iload_n rfl ?_
              refine r_istore_n (ls' := [_, _, _, _]) (zt rfl) rfl ?_
              refine r_iconst ?_
              refine r_istore_n (ls' := [_, _, _, _]) (zt rfl) rfl ?_
              refine r_nil ?_
              refine E_go 1 rfl ?_
              refine r_iload_n rfl ?_
              refine r_bipush ?_
              refine r_icmp_ge (fun c_34_7 => ?_) (fun c_34_7 => ?_)
              · have c_34_7 := (n_le (a := 6) (b := 0) rfl rfl (by omega) (by omega)).mp c_34_7
                omega
              · have c_34_7 := (not_congr (n_le (a := 6) (b := 0) rfl rfl (by omega) (by omega))).mp c_34_7
                refine r_iload_n rfl ?_
                refine r_if_lt (fun c_34_11 => ?_) (fun c_34_11 => ?_)
                · have c_34_11 := (n_lt (a := 5) (b := 0) rfl rfl (by omega) (by omega)).mp c_34_11
                  omega
                · have c_34_11 := (not_congr (n_lt (a := 5) (b := 0) rfl rfl (by omega) (by omega))).mp c_34_11
                  refine r_iload_n rfl ?_
                  refine r_bipush ?_
                  refine r_icmp_ge (fun c_34_17 => ?_) (fun c_34_17 => ?_)
                  · have c_34_17 := (n_le (a := 6) (b := 5) rfl rfl (by omega) (by omega)).mp c_34_17
                    omega
                  · have c_34_17 := (not_congr (n_le (a := 6) (b := 5) rfl rfl (by omega) (by omega))).mp c_34_17
                    refine r_iload_n rfl ?_
                    refine r_iload_n rfl ?_
                    refine r_icmp_ne (fun c_34_22 => ?_) (fun c_34_22 => ?_)
                    · have c_34_22 := (not_congr (n_eq (a := 5) (b := k) rfl rfl (by omega) (by omega))).mp c_34_22
                      refine E_go 2 rfl ?_
                      refine r_getstatic3 rfl ?_
                      refine r_iload_n rfl ?_
                      refine r_ialoadK rfl (vp_io (a := 5) (by omega) (by omega)) ?_
                      refine r_istore_n (ls' := [_, _, _, _]) (zt rfl) rfl ?_
                      refine r_iincN (y := io 1) (ls' := [_, _, _, _]) rfl (zt rfl) rfl rfl ?_
                      refine r_goto ?_
                      refine E_go 1 rfl ?_
                      refine r_iload_n rfl ?_
                      refine r_bipush ?_
                      refine r_icmp_ge (fun c_34_7 => ?_) (fun c_34_7 => ?_)
                      · have c_34_7 := (n_le (a := 6) (b := 1) rfl rfl (by omega) (by omega)).mp c_34_7
                        omega
                      · have c_34_7 := (not_congr (n_le (a := 6) (b := 1) rfl rfl (by omega) (by omega))).mp c_34_7
                        refine r_iload_n rfl ?_
                        refine r_if_lt (fun c_34_11 => ?_) (fun c_34_11 => ?_)
                        · have c_34_11 := (n_lt (a := 0) (b := 0) rfl rfl (by omega) (by omega)).mp c_34_11
                          omega
                        · have c_34_11 := (not_congr (n_lt (a := 0) (b := 0) rfl rfl (by omega) (by omega))).mp c_34_11
                          refine r_iload_n rfl ?_
                          refine r_bipush ?_
                          refine r_icmp_ge (fun c_34_17 => ?_) (fun c_34_17 => ?_)
                          · have c_34_17 := (n_le (a := 6) (b := 0) rfl rfl (by omega) (by omega)).mp c_34_17
                            omega
                          · have c_34_17 := (not_congr (n_le (a := 6) (b := 0) rfl rfl (by omega) (by omega))).mp c_34_17
                            refine r_iload_n rfl ?_
                            refine r_iload_n rfl ?_
                            refine r_icmp_ne (fun c_34_22 => ?_) (fun c_34_22 => ?_)
                            · have c_34_22 := (not_congr (n_eq (a := 0) (b := k) rfl rfl (by omega) (by omega))).mp c_34_22
                              refine E_go 2 rfl ?_
                              refine r_getstatic3 rfl ?_
                              refine r_iload_n rfl ?_
                              refine r_ialoadK rfl (vp_io (a := 0) (by omega) (by omega)) ?_
                              refine r_istore_n (ls' := [_, _, _, _]) (zt rfl) rfl ?_
                              refine r_iincN (y := io 2) (ls' := [_, _, _, _]) rfl (zt rfl) rfl rfl ?_
                              refine r_goto ?_
                              refine E_go 1 rfl ?_
                              refine r_iload_n rfl ?_
                              refine r_bipush ?_
                              refine r_icmp_ge (fun c_34_7 => ?_) (fun c_34_7 => ?_)
                              · have c_34_7 := (n_le (a := 6) (b := 2) rfl rfl (by omega) (by omega)).mp c_34_7
                                omega
                              · have c_34_7 := (not_congr (n_le (a := 6) (b := 2) rfl rfl (by omega) (by omega))).mp c_34_7
                                refine r_iload_n rfl ?_
                                refine r_if_lt (fun c_34_11 => ?_) (fun c_34_11 => ?_)
                                · refine E_go 3 rfl ?_
                                  refine r_iconst ?_
                                  refine r_iret rfl (by first | exact Or.inl rfl | exact Or.inr rfl) ?_
                                  refine r_if_eq (fun c_37 => ?_) (fun c_37 => ?_)
                                  · have c_37 := (n_eq (a := 0) (b := 0) rfl rfl (by omega) (by omega)).mp c_37
                                    refine E_go 4 rfl ?_
                                    refine r_bipush ?_
                                    refine r_nil ?_
                                    refine E_go 5 rfl ?_
                                    refine r_iret rfl trivial ?_
                                    refine M_go (ls := [_, _, _, _]) (ml := 4) rfl rfl rfl (zl rfl) rfl ?_
                                    refine r_iload_n rfl ?_
                                    refine r_i2l ?_
                                    refine r_lconst ?_
                                    refine r_ldc2_w ?_
                                    refine r_static (vs := [_, _, _]) (by decide) (zl rfl) rfl rfl (zl rfl) (Nat.le_refl _) rfl ?_
                                    refine s_in0 (by omega) (x := (io k)) (k := 6) (Int32.toInt_toInt64 _) i64_0 rfl ?_
                                    rw [if_pos (inN_io hk (by omega))]
                                    refine r_if_ne (fun c_9 => ?_) (fun c_9 => ?_)
                                    · have c_9 := (not_congr (n_eq (a := 1) (b := 0) rfl rfl (by omega) (by omega))).mp c_9
                                      refine E_go 1 rfl ?_
                                      refine r_aload_n rfl ?_
                                      refine r_iload_n rfl ?_
                                      refine r_virtual (vs := []) (as := [_]) (by decide) (zl rfl) rfl rfl (zl rfl) (Nat.le_refl _) (Or.inr (Or.inr ⟨zt rfl, rfl, zt rfl⟩)) ?_
                                      refine s_isOne (by omega) R.mn h5 ?_
                                      rw [if_pos (inN_io ha (by omega))]
                                      refine r_if_ne (fun c_20 => ?_) (fun c_20 => ?_)
                                      · have c_20 := (not_congr (n_eq (a := 1) (b := 0) rfl rfl (by omega) (by omega))).mp c_20
                                        refine E_go 2 rfl ?_
                                        refine r_aload_n rfl ?_
                                        refine r_getA (q := 65) (by decide) rfl rfl (by decide) ?_
                                        refine r_iload_n rfl ?_
                                        refine r_iaload (by decide) rfl (by decide) (ixE rfl (show a < 5 by omega) (by decide)) ((R.ki ha).trans ec) ?_
                                        refine r_istore_n (ls' := [_, _, _, _]) (zt rfl) rfl ?_
                                        refine r_nil ?_
                                        refine E_go 3 rfl ?_
                                        refine r_iload_n rfl ?_
                                        refine r_iconst ?_
                                        refine r_icmp_eq (fun c_35 => ?_) (fun c_35 => ?_)
                                        · exact absurd c_35 (by decide)
                                        · refine r_iload_n rfl ?_
                                          refine r_iload_n rfl ?_
                                          refine r_icmp_eq (fun c_40 => ?_) (fun c_40 => ?_)
                                          · have c_40 := (n_eq (a := 5) (b := k) rfl rfl (by omega) (by omega)).mp c_40
                                            refine E_go 4 rfl ?_
                                            refine r_iload_n rfl ?_
                                            refine r_iload_n rfl ?_
                                            refine r_icmp_ne (fun c_53 => ?_) (fun c_53 => ?_)
                                            · have c_53 := (not_congr (n_eq (a := 5) (b := k) rfl rfl (by omega) (by omega))).mp c_53
                                              refine E_go 5 rfl ?_
                                              refine r_bipush ?_
                                              refine r_nil ?_
                                              refine E_go 6 rfl ?_
                                              refine r_iret rfl trivial ?_
                                              first
                                              | (exfalso; omega)
                                              | exact hQ _ _ _ R.rel
                                            · have c_53 := (n_eq (a := 5) (b := k) rfl rfl (by omega) (by omega)).mp c_53
                                              refine r_aload_n rfl ?_
                                              refine r_getA (q := 66) (by decide) rfl rfl (by decide) ?_
                                              refine r_iconst ?_
                                              refine r_iload_n rfl ?_
                                              refine r_imul ?_
                                              refine r_iaload (by decide) rfl (by decide) (ixE (n_mul (a := 3) (b := a) rfl rfl) (show (3 * a) < 15 by omega) (by decide)) (R.nu ha) ?_
                                              refine r_goto ?_
                                              refine E_go 6 rfl ?_
                                              refine r_iret rfl trivial ?_
                                              first
                                              | (exfalso; omega)
                                              | exact hQ _ _ _ R.rel
                                          · have c_40 := (not_congr (n_eq (a := 5) (b := k) rfl rfl (by omega) (by omega))).mp c_40
                                            refine r_iload_n rfl ?_
                                            refine r_static (vs := [_]) (by decide) (zl rfl) rfl rfl (zl rfl) (Nat.le_refl _) rfl ?_
                                            refine M_go (ls := [_]) (ml := 1) rfl rfl rfl (zl rfl) rfl ?_
                                            refine r_iload_n rfl ?_
                                            refine r_if_ne (fun c_44_1 => ?_) (fun c_44_1 => ?_)
                                            · have c_44_1 := (not_congr (n_eq (a := 5) (b := 0) rfl rfl (by omega) (by omega))).mp c_44_1
                                              refine E_go 1 rfl ?_
                                              refine r_iload_n rfl ?_
                                              refine r_iconst ?_
                                              refine r_icmp_ne (fun c_44_10 => ?_) (fun c_44_10 => ?_)
                                              · have c_44_10 := (not_congr (n_eq (a := 5) (b := 3) rfl rfl (by omega) (by omega))).mp c_44_10
                                                refine E_go 2 rfl ?_
                                                refine r_iload_n rfl ?_
                                                refine r_iconst ?_
                                                refine r_icmp_ne (fun c_44_19 => ?_) (fun c_44_19 => ?_)
                                                · have c_44_19 := (not_congr (n_eq (a := 5) (b := 4) rfl rfl (by omega) (by omega))).mp c_44_19
                                                  refine E_go 3 rfl ?_
                                                  refine r_iconst ?_
                                                  refine r_nil ?_
                                                  refine E_go 4 rfl ?_
                                                  refine r_iret rfl trivial ?_
                                                  refine r_istore_n (ls' := [_, _, _, _]) (zt rfl) rfl ?_
                                                  refine r_goto ?_
                                                  refine E_go 3 rfl ?_
                                                  refine r_iload_n rfl ?_
                                                  refine r_iconst ?_
                                                  refine r_icmp_eq (fun c_35 => ?_) (fun c_35 => ?_)
                                                  · exact absurd c_35 (by decide)
                                                  · refine r_iload_n rfl ?_
                                                    refine r_iload_n rfl ?_
                                                    refine r_icmp_eq (fun c_40 => ?_) (fun c_40 => ?_)
                                                    · have c_40 := (n_eq (a := 0) (b := k) rfl rfl (by omega) (by omega)).mp c_40
                                                      refine E_go 4 rfl ?_
                                                      refine r_iload_n rfl ?_
                                                      refine r_iload_n rfl ?_
                                                      refine r_icmp_ne (fun c_53 => ?_) (fun c_53 => ?_)
                                                      · have c_53 := (not_congr (n_eq (a := 0) (b := k) rfl rfl (by omega) (by omega))).mp c_53
                                                        refine E_go 5 rfl ?_
                                                        refine r_bipush ?_
                                                        refine r_nil ?_
                                                        refine E_go 6 rfl ?_
                                                        refine r_iret rfl trivial ?_
                                                        first
                                                        | (exfalso; omega)
                                                        | exact hQ _ _ _ R.rel
                                                      · have c_53 := (n_eq (a := 0) (b := k) rfl rfl (by omega) (by omega)).mp c_53
                                                        refine r_aload_n rfl ?_
                                                        refine r_getA (q := 66) (by decide) rfl rfl (by decide) ?_
                                                        refine r_iconst ?_
                                                        refine r_iload_n rfl ?_
                                                        refine r_imul ?_
                                                        refine r_iaload (by decide) rfl (by decide) (ixE (n_mul (a := 3) (b := a) rfl rfl) (show (3 * a) < 15 by omega) (by decide)) (R.nu ha) ?_
                                                        refine r_goto ?_
                                                        refine E_go 6 rfl ?_
                                                        refine r_iret rfl trivial ?_
                                                        first
                                                        | (exfalso; omega)
                                                        | exact hQ _ _ _ R.rel
                                                    · have c_40 := (not_congr (n_eq (a := 0) (b := k) rfl rfl (by omega) (by omega))).mp c_40
                                                      refine r_iload_n rfl ?_
                                                      refine r_static (vs := [_]) (by decide) (zl rfl) rfl rfl (zl rfl) (Nat.le_refl _) rfl ?_
                                                      refine M_go (ls := [_]) (ml := 1) rfl rfl rfl (zl rfl) rfl ?_
                                                      refine r_iload_n rfl ?_
                                                      refine r_if_ne (fun c_44_1 => ?_) (fun c_44_1 => ?_)
                                                      · have c_44_1 := (not_congr (n_eq (a := 0) (b := 0) rfl rfl (by omega) (by omega))).mp c_44_1
                                                        omega
                                                      · have c_44_1 := (n_eq (a := 0) (b := 0) rfl rfl (by omega) (by omega)).mp c_44_1
                                                        refine r_iconst ?_
                                                        refine r_goto ?_
                                                        refine E_go 4 rfl ?_
                                                        refine r_iret rfl trivial ?_
                                                        refine r_istore_n (ls' := [_, _, _, _]) (zt rfl) rfl ?_
                                                        refine r_goto ?_
                                                        refine E_go 3 rfl ?_
                                                        refine r_iload_n rfl ?_
                                                        refine r_iconst ?_
                                                        refine r_icmp_eq (fun c_35 => ?_) (fun c_35 => ?_)
                                                        · refine E_go 4 rfl ?_
                                                          refine r_iload_n rfl ?_
                                                          refine r_iload_n rfl ?_
                                                          refine r_icmp_ne (fun c_53 => ?_) (fun c_53 => ?_)
                                                          · refine E_go 5 rfl ?_
                                                            refine r_bipush ?_
                                                            refine r_nil ?_
                                                            refine E_go 6 rfl ?_
                                                            refine r_iret rfl trivial ?_
                                                            first
                                                            | (exfalso; omega)
                                                            | exact hQ _ _ _ R.rel
                                                          · exact absurd c_53.symm (io_m1 (by omega))
                                                        · exact absurd rfl c_35
                                                · have c_44_19 := (n_eq (a := 5) (b := 4) rfl rfl (by omega) (by omega)).mp c_44_19
                                                  omega
                                              · have c_44_10 := (n_eq (a := 5) (b := 3) rfl rfl (by omega) (by omega)).mp c_44_10
                                                omega
                                            · have c_44_1 := (n_eq (a := 5) (b := 0) rfl rfl (by omega) (by omega)).mp c_44_1
                                              omega
                                      · have c_20 := (n_eq (a := 1) (b := 0) rfl rfl (by omega) (by omega)).mp c_20
                                        omega
                                    · have c_9 := (n_eq (a := 1) (b := 0) rfl rfl (by omega) (by omega)).mp c_9
                                      omega
                                  · have c_37 := (not_congr (n_eq (a := 0) (b := 0) rfl rfl (by omega) (by omega))).mp c_37
                                    omega
                                · exact absurd (by decide) c_34_11
                            · have c_34_22 := (n_eq (a := 0) (b := k) rfl rfl (by omega) (by omega)).mp c_34_22
                              refine r_iconst ?_
                              refine r_iret rfl (by first | exact Or.inl rfl | exact Or.inr rfl) ?_
                              refine r_if_eq (fun c_37 => ?_) (fun c_37 => ?_)
                              · have c_37 := (n_eq (a := 1) (b := 0) rfl rfl (by omega) (by omega)).mp c_37
                                omega
                              · have c_37 := (not_congr (n_eq (a := 1) (b := 0) rfl rfl (by omega) (by omega))).mp c_37
                                refine r_aload_n rfl ?_
                                refine r_getA (q := 1) (by decide) rfl rfl (by decide) ?_
                                refine r_getA (q := 3) (by decide) rfl rfl (by decide) ?_
                                refine r_iload_n rfl ?_
                                refine r_iaload (by decide) rfl (by decide) (ixE rfl (show a < 5 by omega) (by decide)) rfl ?_
                                refine r_goto ?_
                                refine E_go 5 rfl ?_
                                refine r_iret rfl trivial ?_
                                refine M_go (ls := [_, _, _, _]) (ml := 4) rfl rfl rfl (zl rfl) rfl ?_
                                refine r_iload_n rfl ?_
                                refine r_i2l ?_
                                refine r_lconst ?_
                                refine r_ldc2_w ?_
                                refine r_static (vs := [_, _, _]) (by decide) (zl rfl) rfl rfl (zl rfl) (Nat.le_refl _) rfl ?_
                                refine s_in0 (by omega) (x := (io k)) (k := 6) (Int32.toInt_toInt64 _) i64_0 rfl ?_
                                rw [if_pos (inN_io hk (by omega))]
                                refine r_if_ne (fun c_9 => ?_) (fun c_9 => ?_)
                                · have c_9 := (not_congr (n_eq (a := 1) (b := 0) rfl rfl (by omega) (by omega))).mp c_9
                                  refine E_go 1 rfl ?_
                                  refine r_aload_n rfl ?_
                                  refine r_iload_n rfl ?_
                                  refine r_virtual (vs := []) (as := [_]) (by decide) (zl rfl) rfl rfl (zl rfl) (Nat.le_refl _) (Or.inr (Or.inr ⟨zt rfl, rfl, zt rfl⟩)) ?_
                                  refine s_isOne (by omega) R.mn h5 ?_
                                  rw [if_pos (inN_io ha (by omega))]
                                  refine r_if_ne (fun c_20 => ?_) (fun c_20 => ?_)
                                  · have c_20 := (not_congr (n_eq (a := 1) (b := 0) rfl rfl (by omega) (by omega))).mp c_20
                                    refine E_go 2 rfl ?_
                                    refine r_aload_n rfl ?_
                                    refine r_getA (q := 65) (by decide) rfl rfl (by decide) ?_
                                    refine r_iload_n rfl ?_
                                    refine r_iaload (by decide) rfl (by decide) (ixE rfl (show a < 5 by omega) (by decide)) ((R.ki ha).trans ec) ?_
                                    refine r_istore_n (ls' := [_, _, _, _]) (zt rfl) rfl ?_
                                    refine r_nil ?_
                                    refine E_go 3 rfl ?_
                                    refine r_iload_n rfl ?_
                                    refine r_iconst ?_
                                    refine r_icmp_eq (fun c_35 => ?_) (fun c_35 => ?_)
                                    · exact absurd c_35 (by decide)
                                    · refine r_iload_n rfl ?_
                                      refine r_iload_n rfl ?_
                                      refine r_icmp_eq (fun c_40 => ?_) (fun c_40 => ?_)
                                      · have c_40 := (n_eq (a := 5) (b := k) rfl rfl (by omega) (by omega)).mp c_40
                                        refine E_go 4 rfl ?_
                                        refine r_iload_n rfl ?_
                                        refine r_iload_n rfl ?_
                                        refine r_icmp_ne (fun c_53 => ?_) (fun c_53 => ?_)
                                        · have c_53 := (not_congr (n_eq (a := 5) (b := k) rfl rfl (by omega) (by omega))).mp c_53
                                          refine E_go 5 rfl ?_
                                          refine r_bipush ?_
                                          refine r_nil ?_
                                          refine E_go 6 rfl ?_
                                          refine r_iret rfl trivial ?_
                                          first
                                          | (exfalso; omega)
                                          | exact hQ _ _ _ R.rel
                                        · have c_53 := (n_eq (a := 5) (b := k) rfl rfl (by omega) (by omega)).mp c_53
                                          refine r_aload_n rfl ?_
                                          refine r_getA (q := 66) (by decide) rfl rfl (by decide) ?_
                                          refine r_iconst ?_
                                          refine r_iload_n rfl ?_
                                          refine r_imul ?_
                                          refine r_iaload (by decide) rfl (by decide) (ixE (n_mul (a := 3) (b := a) rfl rfl) (show (3 * a) < 15 by omega) (by decide)) (R.nu ha) ?_
                                          refine r_goto ?_
                                          refine E_go 6 rfl ?_
                                          refine r_iret rfl trivial ?_
                                          first
                                          | (exfalso; omega)
                                          | exact hQ _ _ _ R.rel
                                      · have c_40 := (not_congr (n_eq (a := 5) (b := k) rfl rfl (by omega) (by omega))).mp c_40
                                        refine r_iload_n rfl ?_
                                        refine r_static (vs := [_]) (by decide) (zl rfl) rfl rfl (zl rfl) (Nat.le_refl _) rfl ?_
                                        refine M_go (ls := [_]) (ml := 1) rfl rfl rfl (zl rfl) rfl ?_
                                        refine r_iload_n rfl ?_
                                        refine r_if_ne (fun c_44_1 => ?_) (fun c_44_1 => ?_)
                                        · have c_44_1 := (not_congr (n_eq (a := 5) (b := 0) rfl rfl (by omega) (by omega))).mp c_44_1
                                          refine E_go 1 rfl ?_
                                          refine r_iload_n rfl ?_
                                          refine r_iconst ?_
                                          refine r_icmp_ne (fun c_44_10 => ?_) (fun c_44_10 => ?_)
                                          · have c_44_10 := (not_congr (n_eq (a := 5) (b := 3) rfl rfl (by omega) (by omega))).mp c_44_10
                                            refine E_go 2 rfl ?_
                                            refine r_iload_n rfl ?_
                                            refine r_iconst ?_
                                            refine r_icmp_ne (fun c_44_19 => ?_) (fun c_44_19 => ?_)
                                            · have c_44_19 := (not_congr (n_eq (a := 5) (b := 4) rfl rfl (by omega) (by omega))).mp c_44_19
                                              refine E_go 3 rfl ?_
                                              refine r_iconst ?_
                                              refine r_nil ?_
                                              refine E_go 4 rfl ?_
                                              refine r_iret rfl trivial ?_
                                              refine r_istore_n (ls' := [_, _, _, _]) (zt rfl) rfl ?_
                                              refine r_goto ?_
                                              refine E_go 3 rfl ?_
                                              refine r_iload_n rfl ?_
                                              refine r_iconst ?_
                                              refine r_icmp_eq (fun c_35 => ?_) (fun c_35 => ?_)
                                              · exact absurd c_35 (by decide)
                                              · refine r_iload_n rfl ?_
                                                refine r_iload_n rfl ?_
                                                refine r_icmp_eq (fun c_40 => ?_) (fun c_40 => ?_)
                                                · have c_40 := (n_eq (a := 0) (b := k) rfl rfl (by omega) (by omega)).mp c_40
                                                  refine E_go 4 rfl ?_
                                                  refine r_iload_n rfl ?_
                                                  refine r_iload_n rfl ?_
                                                  refine r_icmp_ne (fun c_53 => ?_) (fun c_53 => ?_)
                                                  · have c_53 := (not_congr (n_eq (a := 0) (b := k) rfl rfl (by omega) (by omega))).mp c_53
                                                    refine E_go 5 rfl ?_
                                                    refine r_bipush ?_
                                                    refine r_nil ?_
                                                    refine E_go 6 rfl ?_
                                                    refine r_iret rfl trivial ?_
                                                    first
                                                    | (exfalso; omega)
                                                    | exact hQ _ _ _ R.rel
                                                  · have c_53 := (n_eq (a := 0) (b := k) rfl rfl (by omega) (by omega)).mp c_53
                                                    refine r_aload_n rfl ?_
                                                    refine r_getA (q := 66) (by decide) rfl rfl (by decide) ?_
                                                    refine r_iconst ?_
                                                    refine r_iload_n rfl ?_
                                                    refine r_imul ?_
                                                    refine r_iaload (by decide) rfl (by decide) (ixE (n_mul (a := 3) (b := a) rfl rfl) (show (3 * a) < 15 by omega) (by decide)) (R.nu ha) ?_
                                                    refine r_goto ?_
                                                    refine E_go 6 rfl ?_
                                                    refine r_iret rfl trivial ?_
                                                    first
                                                    | (exfalso; omega)
                                                    | exact hQ _ _ _ R.rel
                                                · have c_40 := (not_congr (n_eq (a := 0) (b := k) rfl rfl (by omega) (by omega))).mp c_40
                                                  refine r_iload_n rfl ?_
                                                  refine r_static (vs := [_]) (by decide) (zl rfl) rfl rfl (zl rfl) (Nat.le_refl _) rfl ?_
                                                  refine M_go (ls := [_]) (ml := 1) rfl rfl rfl (zl rfl) rfl ?_
                                                  refine r_iload_n rfl ?_
                                                  refine r_if_ne (fun c_44_1 => ?_) (fun c_44_1 => ?_)
                                                  · have c_44_1 := (not_congr (n_eq (a := 0) (b := 0) rfl rfl (by omega) (by omega))).mp c_44_1
                                                    omega
                                                  · have c_44_1 := (n_eq (a := 0) (b := 0) rfl rfl (by omega) (by omega)).mp c_44_1
                                                    refine r_iconst ?_
                                                    refine r_goto ?_
                                                    refine E_go 4 rfl ?_
                                                    refine r_iret rfl trivial ?_
                                                    refine r_istore_n (ls' := [_, _, _, _]) (zt rfl) rfl ?_
                                                    refine r_goto ?_
                                                    refine E_go 3 rfl ?_
                                                    refine r_iload_n rfl ?_
                                                    refine r_iconst ?_
                                                    refine r_icmp_eq (fun c_35 => ?_) (fun c_35 => ?_)
                                                    · refine E_go 4 rfl ?_
                                                      refine r_iload_n rfl ?_
                                                      refine r_iload_n rfl ?_
                                                      refine r_icmp_ne (fun c_53 => ?_) (fun c_53 => ?_)
                                                      · refine E_go 5 rfl ?_
                                                        refine r_bipush ?_
                                                        refine r_nil ?_
                                                        refine E_go 6 rfl ?_
                                                        refine r_iret rfl trivial ?_
                                                        first
                                                        | (exfalso; omega)
                                                        | exact hQ _ _ _ R.rel
                                                      · exact absurd c_53.symm (io_m1 (by omega))
                                                    · exact absurd rfl c_35
                                            · have c_44_19 := (n_eq (a := 5) (b := 4) rfl rfl (by omega) (by omega)).mp c_44_19
                                              omega
                                          · have c_44_10 := (n_eq (a := 5) (b := 3) rfl rfl (by omega) (by omega)).mp c_44_10
                                            omega
                                        · have c_44_1 := (n_eq (a := 5) (b := 0) rfl rfl (by omega) (by omega)).mp c_44_1
                                          omega
                                  · have c_20 := (n_eq (a := 1) (b := 0) rfl rfl (by omega) (by omega)).mp c_20
                                    omega
                                · have c_9 := (n_eq (a := 1) (b := 0) rfl rfl (by omega) (by omega)).mp c_9
                                  omega
                    · have c_34_22 := (n_eq (a := 5) (b := k) rfl rfl (by omega) (by omega)).mp c_34_22
                      refine r_iconst ?_
                      refine r_iret rfl (by first | exact Or.inl rfl | exact Or.inr rfl) ?_
                      refine r_if_eq (fun c_37 => ?_) (fun c_37 => ?_)
                      · have c_37 := (n_eq (a := 1) (b := 0) rfl rfl (by omega) (by omega)).mp c_37
                        omega
                      · have c_37 := (not_congr (n_eq (a := 1) (b := 0) rfl rfl (by omega) (by omega))).mp c_37
                        refine r_aload_n rfl ?_
                        refine r_getA (q := 1) (by decide) rfl rfl (by decide) ?_
                        refine r_getA (q := 3) (by decide) rfl rfl (by decide) ?_
                        refine r_iload_n rfl ?_
                        refine r_iaload (by decide) rfl (by decide) (ixE rfl (show a < 5 by omega) (by decide)) rfl ?_
                        refine r_goto ?_
                        refine E_go 5 rfl ?_
                        refine r_iret rfl trivial ?_
                        refine M_go (ls := [_, _, _, _]) (ml := 4) rfl rfl rfl (zl rfl) rfl ?_
                        refine r_iload_n rfl ?_
                        refine r_i2l ?_
                        refine r_lconst ?_
                        refine r_ldc2_w ?_
                        refine r_static (vs := [_, _, _]) (by decide) (zl rfl) rfl rfl (zl rfl) (Nat.le_refl _) rfl ?_
                        refine s_in0 (by omega) (x := (io k)) (k := 6) (Int32.toInt_toInt64 _) i64_0 rfl ?_
                        rw [if_pos (inN_io hk (by omega))]
                        refine r_if_ne (fun c_9 => ?_) (fun c_9 => ?_)
                        · have c_9 := (not_congr (n_eq (a := 1) (b := 0) rfl rfl (by omega) (by omega))).mp c_9
                          refine E_go 1 rfl ?_
                          refine r_aload_n rfl ?_
                          refine r_iload_n rfl ?_
                          refine r_virtual (vs := []) (as := [_]) (by decide) (zl rfl) rfl rfl (zl rfl) (Nat.le_refl _) (Or.inr (Or.inr ⟨zt rfl, rfl, zt rfl⟩)) ?_
                          refine s_isOne (by omega) R.mn h5 ?_
                          rw [if_pos (inN_io ha (by omega))]
                          refine r_if_ne (fun c_20 => ?_) (fun c_20 => ?_)
                          · have c_20 := (not_congr (n_eq (a := 1) (b := 0) rfl rfl (by omega) (by omega))).mp c_20
                            refine E_go 2 rfl ?_
                            refine r_aload_n rfl ?_
                            refine r_getA (q := 65) (by decide) rfl rfl (by decide) ?_
                            refine r_iload_n rfl ?_
                            refine r_iaload (by decide) rfl (by decide) (ixE rfl (show a < 5 by omega) (by decide)) ((R.ki ha).trans ec) ?_
                            refine r_istore_n (ls' := [_, _, _, _]) (zt rfl) rfl ?_
                            refine r_nil ?_
                            refine E_go 3 rfl ?_
                            refine r_iload_n rfl ?_
                            refine r_iconst ?_
                            refine r_icmp_eq (fun c_35 => ?_) (fun c_35 => ?_)
                            · exact absurd c_35 (by decide)
                            · refine r_iload_n rfl ?_
                              refine r_iload_n rfl ?_
                              refine r_icmp_eq (fun c_40 => ?_) (fun c_40 => ?_)
                              · have c_40 := (n_eq (a := 5) (b := k) rfl rfl (by omega) (by omega)).mp c_40
                                refine E_go 4 rfl ?_
                                refine r_iload_n rfl ?_
                                refine r_iload_n rfl ?_
                                refine r_icmp_ne (fun c_53 => ?_) (fun c_53 => ?_)
                                · have c_53 := (not_congr (n_eq (a := 5) (b := k) rfl rfl (by omega) (by omega))).mp c_53
                                  refine E_go 5 rfl ?_
                                  refine r_bipush ?_
                                  refine r_nil ?_
                                  refine E_go 6 rfl ?_
                                  refine r_iret rfl trivial ?_
                                  first
                                  | (exfalso; omega)
                                  | exact hQ _ _ _ R.rel
                                · have c_53 := (n_eq (a := 5) (b := k) rfl rfl (by omega) (by omega)).mp c_53
                                  refine r_aload_n rfl ?_
                                  refine r_getA (q := 66) (by decide) rfl rfl (by decide) ?_
                                  refine r_iconst ?_
                                  refine r_iload_n rfl ?_
                                  refine r_imul ?_
                                  refine r_iaload (by decide) rfl (by decide) (ixE (n_mul (a := 3) (b := a) rfl rfl) (show (3 * a) < 15 by omega) (by decide)) (R.nu ha) ?_
                                  refine r_goto ?_
                                  refine E_go 6 rfl ?_
                                  refine r_iret rfl trivial ?_
                                  first
                                  | (exfalso; omega)
                                  | exact hQ _ _ _ R.rel
                              · have c_40 := (not_congr (n_eq (a := 5) (b := k) rfl rfl (by omega) (by omega))).mp c_40
                                refine r_iload_n rfl ?_
                                refine r_static (vs := [_]) (by decide) (zl rfl) rfl rfl (zl rfl) (Nat.le_refl _) rfl ?_
                                refine M_go (ls := [_]) (ml := 1) rfl rfl rfl (zl rfl) rfl ?_
                                refine r_iload_n rfl ?_
                                refine r_if_ne (fun c_44_1 => ?_) (fun c_44_1 => ?_)
                                · have c_44_1 := (not_congr (n_eq (a := 5) (b := 0) rfl rfl (by omega) (by omega))).mp c_44_1
                                  refine E_go 1 rfl ?_
                                  refine r_iload_n rfl ?_
                                  refine r_iconst ?_
                                  refine r_icmp_ne (fun c_44_10 => ?_) (fun c_44_10 => ?_)
                                  · have c_44_10 := (not_congr (n_eq (a := 5) (b := 3) rfl rfl (by omega) (by omega))).mp c_44_10
                                    refine E_go 2 rfl ?_
                                    refine r_iload_n rfl ?_
                                    refine r_iconst ?_
                                    refine r_icmp_ne (fun c_44_19 => ?_) (fun c_44_19 => ?_)
                                    · have c_44_19 := (not_congr (n_eq (a := 5) (b := 4) rfl rfl (by omega) (by omega))).mp c_44_19
                                      refine E_go 3 rfl ?_
                                      refine r_iconst ?_
                                      refine r_nil ?_
                                      refine E_go 4 rfl ?_
                                      refine r_iret rfl trivial ?_
                                      refine r_istore_n (ls' := [_, _, _, _]) (zt rfl) rfl ?_
                                      refine r_goto ?_
                                      refine E_go 3 rfl ?_
                                      refine r_iload_n rfl ?_
                                      refine r_iconst ?_
                                      refine r_icmp_eq (fun c_35 => ?_) (fun c_35 => ?_)
                                      · exact absurd c_35 (by decide)
                                      · refine r_iload_n rfl ?_
                                        refine r_iload_n rfl ?_
                                        refine r_icmp_eq (fun c_40 => ?_) (fun c_40 => ?_)
                                        · have c_40 := (n_eq (a := 0) (b := k) rfl rfl (by omega) (by omega)).mp c_40
                                          refine E_go 4 rfl ?_
                                          refine r_iload_n rfl ?_
                                          refine r_iload_n rfl ?_
                                          refine r_icmp_ne (fun c_53 => ?_) (fun c_53 => ?_)
                                          · have c_53 := (not_congr (n_eq (a := 0) (b := k) rfl rfl (by omega) (by omega))).mp c_53
                                            refine E_go 5 rfl ?_
                                            refine r_bipush ?_
                                            refine r_nil ?_
                                            refine E_go 6 rfl ?_
                                            refine r_iret rfl trivial ?_
                                            first
                                            | (exfalso; omega)
                                            | exact hQ _ _ _ R.rel
                                          · have c_53 := (n_eq (a := 0) (b := k) rfl rfl (by omega) (by omega)).mp c_53
                                            refine r_aload_n rfl ?_
                                            refine r_getA (q := 66) (by decide) rfl rfl (by decide) ?_
                                            refine r_iconst ?_
                                            refine r_iload_n rfl ?_
                                            refine r_imul ?_
                                            refine r_iaload (by decide) rfl (by decide) (ixE (n_mul (a := 3) (b := a) rfl rfl) (show (3 * a) < 15 by omega) (by decide)) (R.nu ha) ?_
                                            refine r_goto ?_
                                            refine E_go 6 rfl ?_
                                            refine r_iret rfl trivial ?_
                                            first
                                            | (exfalso; omega)
                                            | exact hQ _ _ _ R.rel
                                        · have c_40 := (not_congr (n_eq (a := 0) (b := k) rfl rfl (by omega) (by omega))).mp c_40
                                          refine r_iload_n rfl ?_
                                          refine r_static (vs := [_]) (by decide) (zl rfl) rfl rfl (zl rfl) (Nat.le_refl _) rfl ?_
                                          refine M_go (ls := [_]) (ml := 1) rfl rfl rfl (zl rfl) rfl ?_
                                          refine r_iload_n rfl ?_
                                          refine r_if_ne (fun c_44_1 => ?_) (fun c_44_1 => ?_)
                                          · have c_44_1 := (not_congr (n_eq (a := 0) (b := 0) rfl rfl (by omega) (by omega))).mp c_44_1
                                            omega
                                          · have c_44_1 := (n_eq (a := 0) (b := 0) rfl rfl (by omega) (by omega)).mp c_44_1
                                            refine r_iconst ?_
                                            refine r_goto ?_
                                            refine E_go 4 rfl ?_
                                            refine r_iret rfl trivial ?_
                                            refine r_istore_n (ls' := [_, _, _, _]) (zt rfl) rfl ?_
                                            refine r_goto ?_
                                            refine E_go 3 rfl ?_
                                            refine r_iload_n rfl ?_
                                            refine r_iconst ?_
                                            refine r_icmp_eq (fun c_35 => ?_) (fun c_35 => ?_)
                                            · refine E_go 4 rfl ?_
                                              refine r_iload_n rfl ?_
                                              refine r_iload_n rfl ?_
                                              refine r_icmp_ne (fun c_53 => ?_) (fun c_53 => ?_)
                                              · refine E_go 5 rfl ?_
                                                refine r_bipush ?_
                                                refine r_nil ?_
                                                refine E_go 6 rfl ?_
                                                refine r_iret rfl trivial ?_
                                                first
                                                | (exfalso; omega)
                                                | exact hQ _ _ _ R.rel
                                              · exact absurd c_53.symm (io_m1 (by omega))
                                            · exact absurd rfl c_35
                                    · have c_44_19 := (n_eq (a := 5) (b := 4) rfl rfl (by omega) (by omega)).mp c_44_19
                                      omega
                                  · have c_44_10 := (n_eq (a := 5) (b := 3) rfl rfl (by omega) (by omega)).mp c_44_10
                                    omega
                                · have c_44_1 := (n_eq (a := 5) (b := 0) rfl rfl (by omega) (by omega)).mp c_44_1
                                  omega
                          · have c_20 := (n_eq (a := 1) (b := 0) rfl rfl (by omega) (by omega)).mp c_20
                            omega
                        · have c_9 := (n_eq (a := 1) (b := 0) rfl rfl (by omega) (by omega)).mp c_9
                          omega
            · have c_18 := (n_eq (a := 1) (b := 0) rfl rfl (by omega) (by omega)).mp c_18
              omega
          · have c_7 := (not_congr (n_lt (a := k) (b := 6) rfl rfl (by omega) (by omega))).mp c_7
            omega
    · refine M_go (ls := [_, _, _]) (ml := 3) rfl rfl rfl (zl rfl) rfl ?_
      refine r_iload_n rfl ?_
      refine r_if_lt (fun c_1 => ?_) (fun c_1 => ?_)
      · have c_1 := (n_lt (a := k) (b := 0) rfl rfl (by omega) (by omega)).mp c_1
        omega
      · have c_1 := (not_congr (n_lt (a := k) (b := 0) rfl rfl (by omega) (by omega))).mp c_1
        refine r_iload_n rfl ?_
        refine r_bipush ?_
        refine r_icmp_lt (fun c_7 => ?_) (fun c_7 => ?_)
        · have c_7 := (n_lt (a := k) (b := 6) rfl rfl (by omega) (by omega)).mp c_7
          refine E_go 2 rfl ?_
          refine r_aload_n rfl ?_
          refine r_iload_n rfl ?_
          refine r_virtual (vs := []) (as := [_]) (by decide) (zl rfl) rfl rfl (zl rfl) (Nat.le_refl _) (Or.inr (Or.inr ⟨zt rfl, rfl, zt rfl⟩)) ?_
          refine s_isAunt (by omega) R.cn h5 ?_
          rw [if_neg hx]
          refine r_if_ne (fun c_18 => ?_) (fun c_18 => ?_)
          · have c_18 := (not_congr (n_eq (a := 0) (b := 0) rfl rfl (by omega) (by omega))).mp c_18
            omega
          · have c_18 := (n_eq (a := 0) (b := 0) rfl rfl (by omega) (by omega)).mp c_18
            refine r_bipush ?_
            refine r_iret rfl trivial ?_
            refine M_go (ls := [_, _, _, _]) (ml := 4) rfl rfl rfl (zl rfl) rfl ?_
            refine r_iload_n rfl ?_
            refine r_i2l ?_
            refine r_lconst ?_
            refine r_ldc2_w ?_
            refine r_static (vs := [_, _, _]) (by decide) (zl rfl) rfl rfl (zl rfl) (Nat.le_refl _) rfl ?_
            refine s_in0 (by omega) (x := (io k)) (k := 6) (Int32.toInt_toInt64 _) i64_0 rfl ?_
            rw [if_pos (inN_io hk (by omega))]
            refine r_if_ne (fun c_9 => ?_) (fun c_9 => ?_)
            · have c_9 := (not_congr (n_eq (a := 1) (b := 0) rfl rfl (by omega) (by omega))).mp c_9
              refine E_go 1 rfl ?_
              refine r_aload_n rfl ?_
              refine r_iload_n rfl ?_
              refine r_virtual (vs := []) (as := [_]) (by decide) (zl rfl) rfl rfl (zl rfl) (Nat.le_refl _) (Or.inr (Or.inr ⟨zt rfl, rfl, zt rfl⟩)) ?_
              refine s_isOne (by omega) R.mn h5 ?_
              rw [if_neg hx]
              refine r_if_ne (fun c_20 => ?_) (fun c_20 => ?_)
              · have c_20 := (not_congr (n_eq (a := 0) (b := 0) rfl rfl (by omega) (by omega))).mp c_20
                omega
              · have c_20 := (n_eq (a := 0) (b := 0) rfl rfl (by omega) (by omega)).mp c_20
                refine r_bipush ?_
                refine r_iret rfl trivial ?_
                exact hQ _ _ _ R.rel
            · have c_9 := (n_eq (a := 1) (b := 0) rfl rfl (by omega) (by omega)).mp c_9
              omega
        · have c_7 := (not_congr (n_lt (a := k) (b := 6) rfl rfl (by omega) (by omega))).mp c_7
          omega
  · have hy2 : ¬ (0 ≤ y.toInt ∧ y.toInt < 6) := hy
    refine M_go (ls := [_, _, _]) (ml := 3) rfl rfl rfl (zl rfl) rfl ?_
    refine r_iload_n rfl ?_
    refine r_if_lt (fun c_1 => ?_) (fun c_1 => ?_)
    · have c_1 := (jlt (b := 0) rfl (by omega)).mp c_1
      refine E_go 1 rfl ?_
      refine r_bipush ?_
      refine r_iret rfl trivial ?_
      refine M_go (ls := [_, _, _, _]) (ml := 4) rfl rfl rfl (zl rfl) rfl ?_
      refine r_iload_n rfl ?_
      refine r_i2l ?_
      refine r_lconst ?_
      refine r_ldc2_w ?_
      refine r_static (vs := [_, _, _]) (by decide) (zl rfl) rfl rfl (zl rfl) (Nat.le_refl _) rfl ?_
      refine s_in0 (by omega) (x := y) (k := 6) (Int32.toInt_toInt64 _) i64_0 rfl ?_
      rw [if_neg hy]
      refine r_if_ne (fun c_9 => ?_) (fun c_9 => ?_)
      · have c_9 := (not_congr (n_eq (a := 0) (b := 0) rfl rfl (by omega) (by omega))).mp c_9
        omega
      · have c_9 := (n_eq (a := 0) (b := 0) rfl rfl (by omega) (by omega)).mp c_9
        refine r_bipush ?_
        refine r_iret rfl trivial ?_
        exact hQ _ _ _ R.rel
    · have c_1 := (not_congr (jlt (b := 0) rfl (by omega))).mp c_1
      refine r_iload_n rfl ?_
      refine r_bipush ?_
      refine r_icmp_lt (fun c_7 => ?_) (fun c_7 => ?_)
      · have c_7 := (jlt (b := 6) rfl (by omega)).mp c_7
        omega
      · have c_7 := (not_congr (jlt (b := 6) rfl (by omega))).mp c_7
        refine r_nil ?_
        refine E_go 1 rfl ?_
        refine r_bipush ?_
        refine r_iret rfl trivial ?_
        refine M_go (ls := [_, _, _, _]) (ml := 4) rfl rfl rfl (zl rfl) rfl ?_
        refine r_iload_n rfl ?_
        refine r_i2l ?_
        refine r_lconst ?_
        refine r_ldc2_w ?_
        refine r_static (vs := [_, _, _]) (by decide) (zl rfl) rfl rfl (zl rfl) (Nat.le_refl _) rfl ?_
        refine s_in0 (by omega) (x := y) (k := 6) (Int32.toInt_toInt64 _) i64_0 rfl ?_
        rw [if_neg hy]
        refine r_if_ne (fun c_9 => ?_) (fun c_9 => ?_)
        · have c_9 := (not_congr (n_eq (a := 0) (b := 0) rfl rfl (by omega) (by omega))).mp c_9
          omega
        · have c_9 := (n_eq (a := 0) (b := 0) rfl rfl (by omega) (by omega)).mp c_9
          refine r_bipush ?_
          refine r_iret rfl trivial ?_
          exact hQ _ _ _ R.rel

/-- an aunt more: the class's places, the model's -/
def sC (n : Nat) (k u p : Int32) (I : Nat → Nat → Int32) : Nat → Nat → Int32 := up2 (up2 (up2 (up2 (up2 (up2 I 2 n k) 3 n u) 4 n 10) 5 n p) 6 n 0) 1 3 (io n + 1)
def sM (n : Nat) (k u p : Int32) (I : Nat → Nat → Int32) : Nat → Nat → Int32 := up2 (up2 (up2 (up2 (up2 (up2 I 65 n k) 66 (3 * n) u) 66 (3 * n + 1) 10) 66 (3 * n + 2) p) 67 n 0) 61 12 (io n + 1)
abbrev okG (k u p : Int32) : Prop := inN 6 k ∧ inN 10 u ∧ inN 64 p
theorem RX.seat {n tc r tp : Nat} {k u p : Int32} {I : Nat → Nat → Int32} (h : RX n tc r tp I) (h5 : n < 5) (hg : okG k u p) : RX (n + 1) tc r tp (sM n k u p (sC n k u p I)) := by
  have e : io n + 1 = io (n + 1) := n_add (a := n) (b := 1) rfl rfl
  refine ⟨⟨⟨h5, ?_, ?_⟩, h.1.2.1, h.1.2.2.1, fun a ha => ?_⟩, h.2.1.g rfl rfl rfl rfl rfl rfl (fun q _ _ => ?_), h.2.2.1.g rfl rfl rfl rfl, ?_, h.2.2.2.2.g (fun q _ => ?_)⟩
  · show io n + 1 = _
    exact e
  · show io n + 1 = _
    exact e
  · by_cases c : a = n
    · subst c
      have z : isN 10 u := (inN_is (by omega)).mp hg.2.1
      refine ⟨⟨?_, ?_⟩, ⟨?_, ?_⟩, ⟨?_, ?_⟩, ⟨?_, ?_⟩, ?_, ?_⟩
      · simp [sM, sC, up2]
      · have q := (inN_is (n := 6) (by omega)).mp hg.1
        simpa [sM, sC, up2] using q
      · simp [sM, sC, up2, mNu]
      · simpa [sM, sC, up2] using z
      · simp [sM, sC, up2, mTh]
      · have q : isN 100 (10 : Int32) := ⟨10, by omega, rfl⟩
        simpa [sM, sC, up2] using q
      · simp [sM, sC, up2, mPl]
      · have q := (inN_is (n := 64) (by omega)).mp hg.2.2
        simpa [sM, sC, up2] using q
      · simp [sM, sC, up2]
      · have q : hadB 0 := ⟨by decide, by decide⟩
        simpa [sM, sC, up2] using q
    · obtain ⟨⟨i1, i2⟩, ⟨i3, i4⟩, ⟨i5, i6⟩, ⟨i7, i8⟩, i9, i10⟩ := h.1.2.2.2 a (by omega)
      have x1 : ¬ 3 * a = 3 * n := by omega
      have x2 : ¬ 3 * a = 3 * n + 1 := by omega
      have x3 : ¬ 3 * a = 3 * n + 2 := by omega
      have x4 : ¬ 3 * a + 1 = 3 * n := by omega
      have x5 : ¬ 3 * a + 1 = 3 * n + 2 := by omega
      have x6 : ¬ 3 * a + 2 = 3 * n := by omega
      have x7 : ¬ 3 * a + 2 = 3 * n + 1 := by omega
      unfold mNu at i3
      unfold mTh at i5
      unfold mPl at i7
      refine ⟨⟨?_, ?_⟩, ⟨?_, ?_⟩, ⟨?_, ?_⟩, ⟨?_, ?_⟩, ?_, ?_⟩
      · simpa [sM, sC, up2, c] using i1
      · simpa [sM, sC, up2, c] using i2
      · simpa [sM, sC, up2, mNu, c, x1, x2, x3] using i3
      · simpa [sM, sC, up2, c] using i4
      · simpa [sM, sC, up2, mTh, c, x1, x2, x4, x5] using i5
      · simpa [sM, sC, up2, c] using i6
      · simpa [sM, sC, up2, mPl, c, x1, x2, x6, x7] using i7
      · simpa [sM, sC, up2, c] using i8
      · simpa [sM, sC, up2, c] using i9
      · simpa [sM, sC, up2, c] using i10
  · unfold sM sC
    rw [up2_q (by omega), up2_q (by omega), up2_q (by omega), up2_q (by omega), up2_q (by omega), up2_q (by omega), up2_q (by omega), up2_q (by omega), up2_q (by omega), up2_q (by omega), up2_q (by omega), up2_q (by omega)]
  · rcases h.2.2.2.1 with z | ⟨z, nk, rk, z2⟩
    · exact Or.inl z
    · obtain ⟨⟨j1, j2, j3⟩, j4, j5, j6, j7⟩ := z2
      refine Or.inr ⟨z, nk, rk, ⟨by omega, j2, j3⟩, j4, j5, j6, fun a ha => ?_⟩
      have x := j7 a ha
      have c : ¬ a = n := by omega
      refine ⟨?_, x.2⟩
      have x1 := x.1
      show I 8 a = sM n k u p (sC n k u p I) 2 a
      rw [x1]
      simp [sM, sC, up2, c]
  · unfold sM sC
    rw [up2_q (by omega), up2_q (by omega), up2_q (by omega), up2_q (by omega), up2_q (by omega), up2_q (by omega), up2_q (by omega), up2_q (by omega), up2_q (by omega), up2_q (by omega), up2_q (by omega), up2_q (by omega)]

set_option maxRecDepth 10000 in
theorem s_caunt {xs : xSc} {m : Nat} {I : Nat → Nat → Int32} {L : Nat → Nat → Int64} {Q : Value → xHp → Prop} {n : Nat} {k u p : Int32} (hm : 4 ≤ m) (hn : I 1 3 = io n) (h5 : n ≤ 5) (hQ0 : ¬ okG k u p → Q (.int (-2)) (Hp I L)) (hQ1 : okG k u p → n = 5 → Q (.int (-4)) (Hp I L)) (hQ2 : okG k u p → n < 5 → Q (.int (io n)) (Hp (sC n k u p I) L)) : M xs m xi_X6_aunt [.ref 0, .int k, .int u, .int p] (Hp I L) Q := by
  obtain ⟨m, rfl⟩ : ∃ k, m = k + 4 := ⟨m - 4, by omega⟩
  by_cases hg : okG k u p
  · obtain ⟨g1, g2, g3⟩ := hg
    have g1 : 0 ≤ k.toInt ∧ k.toInt < 6 := g1
    have g2 : 0 ≤ u.toInt ∧ u.toInt < 10 := g2
    have g3 : 0 ≤ p.toInt ∧ p.toInt < 64 := g3
    have hg : okG k u p := ⟨g1, g2, g3⟩
    by_cases hf : n = 5
    · refine M_go (ls := [_, _, _, _]) (ml := 4) rfl rfl rfl (zl rfl) rfl ?_
      refine r_iload_n rfl ?_
      refine r_if_lt (fun c_1 => ?_) (fun c_1 => ?_)
      · have c_1 := (jlt (b := 0) rfl (by omega)).mp c_1
        omega
      · have c_1 := (not_congr (jlt (b := 0) rfl (by omega))).mp c_1
        refine r_iload_n rfl ?_
        refine r_bipush ?_
        refine r_icmp_ge (fun c_7 => ?_) (fun c_7 => ?_)
        · have c_7 := (kle (b := 6) rfl (by omega)).mp c_7
          omega
        · have c_7 := (not_congr (kle (b := 6) rfl (by omega))).mp c_7
          refine r_iload_n rfl ?_
          refine r_if_lt (fun c_11 => ?_) (fun c_11 => ?_)
          · have c_11 := (jlt (b := 0) rfl (by omega)).mp c_11
            omega
          · have c_11 := (not_congr (jlt (b := 0) rfl (by omega))).mp c_11
            refine r_iload_n rfl ?_
            refine r_bipush ?_
            refine r_icmp_ge (fun c_17 => ?_) (fun c_17 => ?_)
            · have c_17 := (kle (b := 10) rfl (by omega)).mp c_17
              omega
            · have c_17 := (not_congr (kle (b := 10) rfl (by omega))).mp c_17
              refine r_iload_n rfl ?_
              refine r_if_lt (fun c_21 => ?_) (fun c_21 => ?_)
              · have c_21 := (jlt (b := 0) rfl (by omega)).mp c_21
                omega
              · have c_21 := (not_congr (jlt (b := 0) rfl (by omega))).mp c_21
                refine r_iload_n rfl ?_
                refine r_bipush ?_
                refine r_icmp_lt (fun c_27 => ?_) (fun c_27 => ?_)
                · have c_27 := (jlt (b := 64) rfl (by omega)).mp c_27
                  refine E_go 2 rfl ?_
                  refine r_aload_n rfl ?_
                  refine r_getA (q := 1) (by decide) rfl rfl (by decide) ?_
                  refine r_getI (by decide) rfl rfl (by decide) hn ?_
                  refine r_iconst ?_
                  refine r_icmp_ge (fun c_41 => ?_) (fun c_41 => ?_)
                  · have c_41 := (n_le (a := 5) (b := n) rfl rfl (by omega) (by omega)).mp c_41
                    refine E_go 3 rfl ?_
                    refine r_bipush ?_
                    refine r_nil ?_
                    refine E_go 4 rfl ?_
                    refine r_iret rfl trivial ?_
                    exact hQ1 hg hf
                  · have c_41 := (not_congr (n_le (a := 5) (b := n) rfl rfl (by omega) (by omega))).mp c_41
                    omega
                · have c_27 := (not_congr (jlt (b := 64) rfl (by omega))).mp c_27
                  omega
    · refine M_go (ls := [_, _, _, _]) (ml := 4) rfl rfl rfl (zl rfl) rfl ?_
      refine r_iload_n rfl ?_
      refine r_if_lt (fun c_1 => ?_) (fun c_1 => ?_)
      · have c_1 := (jlt (b := 0) rfl (by omega)).mp c_1
        omega
      · have c_1 := (not_congr (jlt (b := 0) rfl (by omega))).mp c_1
        refine r_iload_n rfl ?_
        refine r_bipush ?_
        refine r_icmp_ge (fun c_7 => ?_) (fun c_7 => ?_)
        · have c_7 := (kle (b := 6) rfl (by omega)).mp c_7
          omega
        · have c_7 := (not_congr (kle (b := 6) rfl (by omega))).mp c_7
          refine r_iload_n rfl ?_
          refine r_if_lt (fun c_11 => ?_) (fun c_11 => ?_)
          · have c_11 := (jlt (b := 0) rfl (by omega)).mp c_11
            omega
          · have c_11 := (not_congr (jlt (b := 0) rfl (by omega))).mp c_11
            refine r_iload_n rfl ?_
            refine r_bipush ?_
            refine r_icmp_ge (fun c_17 => ?_) (fun c_17 => ?_)
            · have c_17 := (kle (b := 10) rfl (by omega)).mp c_17
              omega
            · have c_17 := (not_congr (kle (b := 10) rfl (by omega))).mp c_17
              refine r_iload_n rfl ?_
              refine r_if_lt (fun c_21 => ?_) (fun c_21 => ?_)
              · have c_21 := (jlt (b := 0) rfl (by omega)).mp c_21
                omega
              · have c_21 := (not_congr (jlt (b := 0) rfl (by omega))).mp c_21
                refine r_iload_n rfl ?_
                refine r_bipush ?_
                refine r_icmp_lt (fun c_27 => ?_) (fun c_27 => ?_)
                · have c_27 := (jlt (b := 64) rfl (by omega)).mp c_27
                  refine E_go 2 rfl ?_
                  refine r_aload_n rfl ?_
                  refine r_getA (q := 1) (by decide) rfl rfl (by decide) ?_
                  refine r_getI (by decide) rfl rfl (by decide) hn ?_
                  refine r_iconst ?_
                  refine r_icmp_ge (fun c_41 => ?_) (fun c_41 => ?_)
                  · have c_41 := (n_le (a := 5) (b := n) rfl rfl (by omega) (by omega)).mp c_41
                    omega
                  · have c_41 := (not_congr (n_le (a := 5) (b := n) rfl rfl (by omega) (by omega))).mp c_41
                    refine r_aload_n rfl ?_
                    refine r_getA (q := 1) (by decide) rfl rfl (by decide) ?_
                    refine r_iload_n rfl ?_
                    refine r_iload_n rfl ?_
                    refine r_iload_n rfl ?_
                    refine r_virtual (vs := []) (as := [_, _, _]) (by decide) (zl rfl) rfl rfl (zl rfl) (Nat.le_refl _) (Or.inr (Or.inr ⟨zt rfl, rfl, zt rfl⟩)) ?_
                    refine M_go (ls := [_, _, _, _, _]) (ml := 5) rfl rfl rfl (zl rfl) rfl ?_
                    refine r_aload_n rfl ?_
                    refine r_getI (by decide) rfl rfl (by decide) hn ?_
                    refine r_istore (ls' := [_, _, _, _, _]) (zt rfl) rfl ?_
                    refine r_aload_n rfl ?_
                    refine r_getA (q := 2) (by decide) rfl rfl (by decide) ?_
                    refine r_iload rfl ?_
                    refine r_iload_n rfl ?_
                    refine r_iastore rfl (by decide) (ixE rfl (show n < 5 by omega) (by decide)) ?_
                    refine r_aload_n rfl ?_
                    refine r_getA (q := 3) (by decide) rfl rfl (by decide) ?_
                    refine r_iload rfl ?_
                    refine r_iload_n rfl ?_
                    refine r_iastore rfl (by decide) (ixE rfl (show n < 5 by omega) (by decide)) ?_
                    refine r_aload_n rfl ?_
                    refine r_getA (q := 4) (by decide) rfl rfl (by decide) ?_
                    refine r_iload rfl ?_
                    refine r_bipush ?_
                    refine r_iastore rfl (by decide) (ixE rfl (show n < 5 by omega) (by decide)) ?_
                    refine r_aload_n rfl ?_
                    refine r_getA (q := 5) (by decide) rfl rfl (by decide) ?_
                    refine r_iload rfl ?_
                    refine r_iload_n rfl ?_
                    refine r_iastore rfl (by decide) (ixE rfl (show n < 5 by omega) (by decide)) ?_
                    refine r_aload_n rfl ?_
                    refine r_getA (q := 6) (by decide) rfl rfl (by decide) ?_
                    refine r_iload rfl ?_
                    refine r_iconst ?_
                    refine r_iastore rfl (by decide) (ixE rfl (show n < 5 by omega) (by decide)) ?_
                    refine r_aload_n rfl ?_
                    refine r_dup rfl ?_
                    refine r_getI (by decide) rfl rfl (by decide) hn ?_
                    refine r_iconst ?_
                    refine r_iadd ?_
                    refine r_putI rfl rfl (by decide) ?_
                    refine r_iload rfl ?_
                    refine r_iret rfl trivial ?_
                    refine r_goto ?_
                    refine E_go 4 rfl ?_
                    refine r_iret rfl trivial ?_
                    exact hQ2 hg (by omega)
                · have c_27 := (not_congr (jlt (b := 64) rfl (by omega))).mp c_27
                  omega
  · have hg2 : ¬ ((0 ≤ k.toInt ∧ k.toInt < 6) ∧ (0 ≤ u.toInt ∧ u.toInt < 10) ∧ (0 ≤ p.toInt ∧ p.toInt < 64)) := hg
    refine M_go (ls := [_, _, _, _]) (ml := 4) rfl rfl rfl (zl rfl) rfl ?_
    refine r_iload_n rfl ?_
    refine r_if_lt (fun c_1 => ?_) (fun c_1 => ?_)
    · have c_1 := (jlt (b := 0) rfl (by omega)).mp c_1
      refine E_go 1 rfl ?_
      refine r_bipush ?_
      refine r_iret rfl trivial ?_
      exact hQ0 hg
    · have c_1 := (not_congr (jlt (b := 0) rfl (by omega))).mp c_1
      refine r_iload_n rfl ?_
      refine r_bipush ?_
      refine r_icmp_ge (fun c_7 => ?_) (fun c_7 => ?_)
      · have c_7 := (kle (b := 6) rfl (by omega)).mp c_7
        refine E_go 1 rfl ?_
        refine r_bipush ?_
        refine r_iret rfl trivial ?_
        exact hQ0 hg
      · have c_7 := (not_congr (kle (b := 6) rfl (by omega))).mp c_7
        refine r_iload_n rfl ?_
        refine r_if_lt (fun c_11 => ?_) (fun c_11 => ?_)
        · have c_11 := (jlt (b := 0) rfl (by omega)).mp c_11
          refine E_go 1 rfl ?_
          refine r_bipush ?_
          refine r_iret rfl trivial ?_
          exact hQ0 hg
        · have c_11 := (not_congr (jlt (b := 0) rfl (by omega))).mp c_11
          refine r_iload_n rfl ?_
          refine r_bipush ?_
          refine r_icmp_ge (fun c_17 => ?_) (fun c_17 => ?_)
          · have c_17 := (kle (b := 10) rfl (by omega)).mp c_17
            refine E_go 1 rfl ?_
            refine r_bipush ?_
            refine r_iret rfl trivial ?_
            exact hQ0 hg
          · have c_17 := (not_congr (kle (b := 10) rfl (by omega))).mp c_17
            refine r_iload_n rfl ?_
            refine r_if_lt (fun c_21 => ?_) (fun c_21 => ?_)
            · have c_21 := (jlt (b := 0) rfl (by omega)).mp c_21
              refine E_go 1 rfl ?_
              refine r_bipush ?_
              refine r_iret rfl trivial ?_
              exact hQ0 hg
            · have c_21 := (not_congr (jlt (b := 0) rfl (by omega))).mp c_21
              refine r_iload_n rfl ?_
              refine r_bipush ?_
              refine r_icmp_lt (fun c_27 => ?_) (fun c_27 => ?_)
              · have c_27 := (jlt (b := 64) rfl (by omega)).mp c_27
                omega
              · have c_27 := (not_congr (jlt (b := 64) rfl (by omega))).mp c_27
                refine r_nil ?_
                refine E_go 1 rfl ?_
                refine r_bipush ?_
                refine r_iret rfl trivial ?_
                exact hQ0 hg

set_option maxRecDepth 10000 in
theorem s_maunt {xs : xSc} {m : Nat} {I : Nat → Nat → Int32} {L : Nat → Nat → Int64} {Q : Value → xHp → Prop} {n : Nat} {k u p : Int32} (hm : 4 ≤ m) (hn : I 61 12 = io n) (h5 : n ≤ 5) (hQ0 : ¬ okG k u p → Q (.int (-2)) (Hp I L)) (hQ1 : okG k u p → n = 5 → Q (.int (-4)) (Hp I L)) (hQ2 : okG k u p → n < 5 → Q (.int (io n)) (Hp (sM n k u p I) L)) : M xs m xi_X7_aunt [.ref 61, .int k, .int u, .int p] (Hp I L) Q := by
  obtain ⟨m, rfl⟩ : ∃ k, m = k + 4 := ⟨m - 4, by omega⟩
  by_cases hg : okG k u p
  · by_cases hf : n = 5
    · refine M_go (ls := [_, _, _, _]) (ml := 4) rfl rfl rfl (zl rfl) rfl ?_
      refine r_iload_n rfl ?_
      refine r_i2l ?_
      refine r_lconst ?_
      refine r_ldc2_w ?_
      refine r_static (vs := [_, _, _]) (by decide) (zl rfl) rfl rfl (zl rfl) (Nat.le_refl _) rfl ?_
      refine s_in0 (by omega) (x := k) (k := 6) (Int32.toInt_toInt64 _) i64_0 rfl ?_
      rw [if_pos hg.1]
      refine r_if_eq (fun c_9 => ?_) (fun c_9 => ?_)
      · have c_9 := (n_eq (a := 1) (b := 0) rfl rfl (by omega) (by omega)).mp c_9
        omega
      · have c_9 := (not_congr (n_eq (a := 1) (b := 0) rfl rfl (by omega) (by omega))).mp c_9
        refine r_iload_n rfl ?_
        refine r_i2l ?_
        refine r_lconst ?_
        refine r_ldc2_w ?_
        refine r_static (vs := [_, _, _]) (by decide) (zl rfl) rfl rfl (zl rfl) (Nat.le_refl _) rfl ?_
        refine s_in0 (by omega) (x := u) (k := 10) (Int32.toInt_toInt64 _) i64_0 rfl ?_
        rw [if_pos hg.2.1]
        refine r_if_eq (fun c_21 => ?_) (fun c_21 => ?_)
        · have c_21 := (n_eq (a := 1) (b := 0) rfl rfl (by omega) (by omega)).mp c_21
          omega
        · have c_21 := (not_congr (n_eq (a := 1) (b := 0) rfl rfl (by omega) (by omega))).mp c_21
          refine r_iload_n rfl ?_
          refine r_i2l ?_
          refine r_lconst ?_
          refine r_ldc2_w ?_
          refine r_static (vs := [_, _, _]) (by decide) (zl rfl) rfl rfl (zl rfl) (Nat.le_refl _) rfl ?_
          refine s_in0 (by omega) (x := p) (k := 64) (Int32.toInt_toInt64 _) i64_0 rfl ?_
          rw [if_pos hg.2.2]
          refine r_if_ne (fun c_33 => ?_) (fun c_33 => ?_)
          · have c_33 := (not_congr (n_eq (a := 1) (b := 0) rfl rfl (by omega) (by omega))).mp c_33
            refine E_go 2 rfl ?_
            refine r_aload_n rfl ?_
            refine r_getI (by decide) rfl rfl (by decide) hn ?_
            refine r_iconst ?_
            refine r_icmp_ne (fun c_44 => ?_) (fun c_44 => ?_)
            · have c_44 := (not_congr (n_eq (a := n) (b := 5) rfl rfl (by omega) (by omega))).mp c_44
              omega
            · have c_44 := (n_eq (a := n) (b := 5) rfl rfl (by omega) (by omega)).mp c_44
              refine r_bipush ?_
              refine r_iret rfl trivial ?_
              exact hQ1 hg hf
          · have c_33 := (n_eq (a := 1) (b := 0) rfl rfl (by omega) (by omega)).mp c_33
            omega
    · refine M_go (ls := [_, _, _, _]) (ml := 4) rfl rfl rfl (zl rfl) rfl ?_
      refine r_iload_n rfl ?_
      refine r_i2l ?_
      refine r_lconst ?_
      refine r_ldc2_w ?_
      refine r_static (vs := [_, _, _]) (by decide) (zl rfl) rfl rfl (zl rfl) (Nat.le_refl _) rfl ?_
      refine s_in0 (by omega) (x := k) (k := 6) (Int32.toInt_toInt64 _) i64_0 rfl ?_
      rw [if_pos hg.1]
      refine r_if_eq (fun c_9 => ?_) (fun c_9 => ?_)
      · have c_9 := (n_eq (a := 1) (b := 0) rfl rfl (by omega) (by omega)).mp c_9
        omega
      · have c_9 := (not_congr (n_eq (a := 1) (b := 0) rfl rfl (by omega) (by omega))).mp c_9
        refine r_iload_n rfl ?_
        refine r_i2l ?_
        refine r_lconst ?_
        refine r_ldc2_w ?_
        refine r_static (vs := [_, _, _]) (by decide) (zl rfl) rfl rfl (zl rfl) (Nat.le_refl _) rfl ?_
        refine s_in0 (by omega) (x := u) (k := 10) (Int32.toInt_toInt64 _) i64_0 rfl ?_
        rw [if_pos hg.2.1]
        refine r_if_eq (fun c_21 => ?_) (fun c_21 => ?_)
        · have c_21 := (n_eq (a := 1) (b := 0) rfl rfl (by omega) (by omega)).mp c_21
          omega
        · have c_21 := (not_congr (n_eq (a := 1) (b := 0) rfl rfl (by omega) (by omega))).mp c_21
          refine r_iload_n rfl ?_
          refine r_i2l ?_
          refine r_lconst ?_
          refine r_ldc2_w ?_
          refine r_static (vs := [_, _, _]) (by decide) (zl rfl) rfl rfl (zl rfl) (Nat.le_refl _) rfl ?_
          refine s_in0 (by omega) (x := p) (k := 64) (Int32.toInt_toInt64 _) i64_0 rfl ?_
          rw [if_pos hg.2.2]
          refine r_if_ne (fun c_33 => ?_) (fun c_33 => ?_)
          · have c_33 := (not_congr (n_eq (a := 1) (b := 0) rfl rfl (by omega) (by omega))).mp c_33
            refine E_go 2 rfl ?_
            refine r_aload_n rfl ?_
            refine r_getI (by decide) rfl rfl (by decide) hn ?_
            refine r_iconst ?_
            refine r_icmp_ne (fun c_44 => ?_) (fun c_44 => ?_)
            · have c_44 := (not_congr (n_eq (a := n) (b := 5) rfl rfl (by omega) (by omega))).mp c_44
              refine E_go 3 rfl ?_
              refine r_aload_n rfl ?_
              refine r_getA (q := 65) (by decide) rfl rfl (by decide) ?_
              refine r_aload_n rfl ?_
              refine r_getI (by decide) rfl rfl (by decide) hn ?_
              refine r_iload_n rfl ?_
              refine r_iastore rfl (by decide) (ixE rfl (show n < 5 by omega) (by decide)) ?_
              refine r_aload_n rfl ?_
              refine r_getA (q := 66) (by decide) rfl rfl (by decide) ?_
              refine r_iconst ?_
              refine r_aload_n rfl ?_
              refine r_getI (by decide) rfl rfl (by decide) hn ?_
              refine r_imul ?_
              refine r_iload_n rfl ?_
              refine r_iastore rfl (by decide) (ixE (n_mul (a := 3) (b := n) rfl rfl) (show (3 * n) < 15 by omega) (by decide)) ?_
              refine r_aload_n rfl ?_
              refine r_getA (q := 66) (by decide) rfl rfl (by decide) ?_
              refine r_iconst ?_
              refine r_aload_n rfl ?_
              refine r_getI (by decide) rfl rfl (by decide) hn ?_
              refine r_imul ?_
              refine r_iconst ?_
              refine r_iadd ?_
              refine r_bipush ?_
              refine r_iastore rfl (by decide) (ixE (n_add (a := (3 * n)) (b := 1) (n_mul (a := 3) (b := n) rfl rfl) rfl) (show ((3 * n) + 1) < 15 by omega) (by decide)) ?_
              refine r_aload_n rfl ?_
              refine r_getA (q := 66) (by decide) rfl rfl (by decide) ?_
              refine r_iconst ?_
              refine r_aload_n rfl ?_
              refine r_getI (by decide) rfl rfl (by decide) hn ?_
              refine r_imul ?_
              refine r_iconst ?_
              refine r_iadd ?_
              refine r_iload_n rfl ?_
              refine r_iastore rfl (by decide) (ixE (n_add (a := (3 * n)) (b := 2) (n_mul (a := 3) (b := n) rfl rfl) rfl) (show ((3 * n) + 2) < 15 by omega) (by decide)) ?_
              refine r_aload_n rfl ?_
              refine r_getA (q := 67) (by decide) rfl rfl (by decide) ?_
              refine r_aload_n rfl ?_
              refine r_getI (by decide) rfl rfl (by decide) hn ?_
              refine r_iconst ?_
              refine r_iastore rfl (by decide) (ixE rfl (show n < 5 by omega) (by decide)) ?_
              refine r_aload_n rfl ?_
              refine r_dup rfl ?_
              refine r_getI (by decide) rfl rfl (by decide) hn ?_
              refine r_iconst ?_
              refine r_iadd ?_
              refine r_putI rfl rfl (by decide) ?_
              refine r_aload_n rfl ?_
              refine r_getI (by decide) rfl rfl (by decide) (n_add (a := n) (b := 1) rfl rfl) ?_
              refine r_iconst ?_
              refine r_isub ?_
              refine r_iret rfl trivial ?_
              rw [show io (n + 1) - 1 = io n from n_sub (a := n + 1) (b := 1) rfl rfl (by omega)]
              exact hQ2 hg (by omega)
            · have c_44 := (n_eq (a := n) (b := 5) rfl rfl (by omega) (by omega)).mp c_44
              omega
          · have c_33 := (n_eq (a := 1) (b := 0) rfl rfl (by omega) (by omega)).mp c_33
            omega
  · refine M_go (ls := [_, _, _, _]) (ml := 4) rfl rfl rfl (zl rfl) rfl ?_
    refine r_iload_n rfl ?_
    refine r_i2l ?_
    refine r_lconst ?_
    refine r_ldc2_w ?_
    refine r_static (vs := [_, _, _]) (by decide) (zl rfl) rfl rfl (zl rfl) (Nat.le_refl _) rfl ?_
    refine s_in0 (by omega) (x := k) (k := 6) (Int32.toInt_toInt64 _) i64_0 rfl ?_
    refine r_if_eq (fun c_9 => ?_) (fun c_9 => ?_)
    · refine E_go 1 rfl ?_
      refine r_bipush ?_
      refine r_iret rfl trivial ?_
      exact hQ0 hg
    · refine r_iload_n rfl ?_
      refine r_i2l ?_
      refine r_lconst ?_
      refine r_ldc2_w ?_
      refine r_static (vs := [_, _, _]) (by decide) (zl rfl) rfl rfl (zl rfl) (Nat.le_refl _) rfl ?_
      refine s_in0 (by omega) (x := u) (k := 10) (Int32.toInt_toInt64 _) i64_0 rfl ?_
      refine r_if_eq (fun c_21 => ?_) (fun c_21 => ?_)
      · refine E_go 1 rfl ?_
        refine r_bipush ?_
        refine r_iret rfl trivial ?_
        exact hQ0 hg
      · refine r_iload_n rfl ?_
        refine r_i2l ?_
        refine r_lconst ?_
        refine r_ldc2_w ?_
        refine r_static (vs := [_, _, _]) (by decide) (zl rfl) rfl rfl (zl rfl) (Nat.le_refl _) rfl ?_
        refine s_in0 (by omega) (x := p) (k := 64) (Int32.toInt_toInt64 _) i64_0 rfl ?_
        refine r_if_ne (fun c_33 => ?_) (fun c_33 => ?_)
        · exact absurd ⟨b01n.mp c_9, b01n.mp c_21, b01n.mp c_33⟩ hg
        · refine r_nil ?_
          refine E_go 1 rfl ?_
          refine r_bipush ?_
          refine r_iret rfl trivial ?_
          exact hQ0 hg

theorem tz_aunt {xs : xSc} {m : Nat} {I : Nat → Nat → Int32} {L : Nat → Nat → Int64} {Q : Value → Value → xHp → Prop} (hm : 90 ≤ m) (hR : Rel I) {k u p : Int32} (hQ : ∀ (x : Int32) J L2, Rel J → Q (.int x) (.int x) (Hp J L2)) : M xs m xi_X6_aunt [.ref 0, .int k, .int u, .int p] (Hp I L) (fun r1 h1 => M xs m xi_X7_aunt [.ref 61, .int k, .int u, .int p] h1 (fun r2 h2 => Q r1 r2 h2)) := by
  obtain ⟨n, tc, r, tp, R⟩ := hR
  refine s_caunt (by omega) R.cn R.n5 (fun h => ?_) (fun h h2 => ?_) (fun h h2 => ?_)
  · exact s_maunt (by omega) R.mn R.n5 (fun _ => hQ _ _ _ R.rel) (fun q => absurd q h) (fun q => absurd q h)
  · exact s_maunt (by omega) R.mn R.n5 (fun q => absurd h q) (fun _ _ => hQ _ _ _ R.rel) (fun _ q => absurd h2 (by omega))
  · exact s_maunt (n := n) (by omega) R.mn R.n5 (fun q => absurd h q) (fun _ q => absurd h2 (by omega)) (fun _ _ => hQ _ _ _ (R.seat h2 h).rel)
