/-! calls: the pot, an hour -/

section
variable {x y : Int32} {b : Nat}
theorem jlt (e : y = io b) (hb : b < 2147483648) : x < y ↔ x.toInt < b := by rw [e, lt_int, io_int hb]
theorem jle (e : y = io b) (hb : b < 2147483648) : x ≤ y ↔ x.toInt ≤ b := by rw [e, le_int, io_int hb]
theorem klt (e : y = io b) (hb : b < 2147483648) : y < x ↔ (b : Int) < x.toInt := by rw [e, lt_int, io_int hb]
theorem kle (e : y = io b) (hb : b < 2147483648) : y ≤ x ↔ (b : Int) ≤ x.toInt := by rw [e, le_int, io_int hb]
theorem jeq (e : y = io b) (hb : b < 2147483648) : x = y ↔ x.toInt = b := by rw [e, eq_int, io_int hb]
theorem keq (e : y = io b) (hb : b < 2147483648) : y = x ↔ (b : Int) = x.toInt := by rw [e, eq_int, io_int hb]
end
theorem inN_ex {n : Nat} {x : Int32} (h : inN n x) (hn : n < 2147483648) : ∃ a, a < n ∧ x = io a := (inN_is hn).mp h
theorem io_m1 {a : Nat} (h : a < 2147483648) : ¬ io a = -1 := io_nn h
theorem inN_m1 {n : Nat} : ¬ inN n (-1) := fun h => absurd h.1 (by decide)
theorem RX.eM {n tc r tp : Nat} {I J : Nat → Nat → Int32} (h : RX n tc r tp J) (f : fS I J) : pEq (mP n (J 61 7) J) (pX n I) := by
  rw [← f.pe]
  exact h.pM

set_option maxRecDepth 10000 in
theorem tz_cups {xs : xSc} {m : Nat} {I : Nat → Nat → Int32} {L : Nat → Nat → Int64} {Q : Value → Value → xHp → Prop} (hm : 90 ≤ m) (hR : Rel I) {x : Int32} (hQ : ∀ (x : Int32) J L2, Rel J → Q (.int x) (.int x) (Hp J L2)) : M xs m xi_X6_cups [.ref 0, .int x] (Hp I L) (fun r1 h1 => M xs m xi_X7_cups [.ref 61, .int x] h1 (fun r2 h2 => Q r1 r2 h2)) := by
  obtain ⟨m, rfl⟩ : ∃ k, m = k + 6 := ⟨m - 6, by omega⟩
  obtain ⟨n, tc, r, tp, R⟩ := hR
  have h5 := R.n5
  have hr6 := R.r6
  have ht6 := R.t6
  have hrt := R.rt
  have hp160 := R.2.2.1.1.1
  obtain ⟨ru, hl⟩ := R.rl
  by_cases hx : inN n x
  · obtain ⟨a, ha, rfl⟩ := inN_ex hx (by omega)
    refine M_go (ls := [_, _]) (ml := 2) rfl rfl rfl (zl rfl) rfl ?_
    refine r_aload_n rfl ?_
    refine r_iload_n rfl ?_
    refine r_virtual (vs := []) (as := [_]) (by decide) (zl rfl) rfl rfl (zl rfl) (Nat.le_refl _) (Or.inr (Or.inr ⟨zt rfl, rfl, zt rfl⟩)) ?_
    refine s_isAunt (by omega) R.cn h5 ?_
    rw [if_pos (inN_io ha (by omega))]
    refine r_if_ne (fun c_5 => ?_) (fun c_5 => ?_)
    · have c_5 := (not_congr (n_eq (a := 1) (b := 0) rfl rfl (by omega) (by omega))).mp c_5
      refine E_go 1 rfl ?_
      refine r_aload_n rfl ?_
      refine r_aload_n rfl ?_
      refine r_getA (q := 1) (by decide) rfl rfl (by decide) ?_
      refine r_virtual (vs := []) (as := [_]) (by decide) (zl rfl) rfl rfl (zl rfl) (Nat.le_refl _) (Or.inr (Or.inr ⟨zt rfl, rfl, zt rfl⟩)) ?_
      refine w_think (by omega) (R.c hl) (fun J1 k1 k2 => ?_)
      have f1 := k1.fS (by omega) (by omega)
      have R1 := R.f f1
      refine r_aload_n rfl ?_
      refine r_getA (q := 19) (by decide) rfl rfl (by decide) ?_
      refine r_getA (q := 21) (by decide) rfl rfl (by decide) ?_
      refine r_iload_n rfl ?_
      refine r_iaload (by decide) rfl (by decide) (ixE rfl (show a < 5 by omega) (by decide)) (k2.1.2.2.2.1 a ha) ?_
      refine r_iret rfl trivial ?_
      refine M_go (ls := [_, _]) (ml := 2) rfl rfl rfl (zl rfl) rfl ?_
      refine r_aload_n rfl ?_
      refine r_iload_n rfl ?_
      refine r_virtual (vs := []) (as := [_]) (by decide) (zl rfl) rfl rfl (zl rfl) (Nat.le_refl _) (Or.inr (Or.inr ⟨zt rfl, rfl, zt rfl⟩)) ?_
      refine s_isOne (by omega) R1.mn h5 ?_
      rw [if_pos (inN_io ha (by omega))]
      refine r_if_ne (fun c_5 => ?_) (fun c_5 => ?_)
      · have c_5 := (not_congr (n_eq (a := 1) (b := 0) rfl rfl (by omega) (by omega))).mp c_5
        refine E_go 1 rfl ?_
        refine r_aload_n rfl ?_
        refine r_aload_n rfl ?_
        refine r_getI (by decide) rfl rfl (by decide) rfl ?_
        refine r_virtual (vs := []) (as := [_]) (by decide) (zl rfl) rfl rfl (zl rfl) (Nat.le_refl _) (Or.inr (Or.inr ⟨zt rfl, rfl, zt rfl⟩)) ?_
        refine w_lives (by omega) (R1.m (hl.f f1 hr6)) (R1.eM f1) R.okX (fun J2 L2 j1 j2 => ?_)
        refine r_aload_n rfl ?_
        refine r_getA (q := 69) (by decide) rfl rfl (by decide) ?_
        refine r_iload_n rfl ?_
        refine r_iaload (by decide) rfl (by decide) (ixE rfl (show a < 5 by omega) (by decide)) (j2.1.2.2.1 a ha) ?_
        refine r_iret rfl trivial ?_
        exact hQ _ _ _ (R1.f j1.fS).rel
      · have c_5 := (n_eq (a := 1) (b := 0) rfl rfl (by omega) (by omega)).mp c_5
        omega
    · have c_5 := (n_eq (a := 1) (b := 0) rfl rfl (by omega) (by omega)).mp c_5
      omega
  · refine M_go (ls := [_, _]) (ml := 2) rfl rfl rfl (zl rfl) rfl ?_
    refine r_aload_n rfl ?_
    refine r_iload_n rfl ?_
    refine r_virtual (vs := []) (as := [_]) (by decide) (zl rfl) rfl rfl (zl rfl) (Nat.le_refl _) (Or.inr (Or.inr ⟨zt rfl, rfl, zt rfl⟩)) ?_
    refine s_isAunt (by omega) R.cn h5 ?_
    rw [if_neg hx]
    refine r_if_ne (fun c_5 => ?_) (fun c_5 => ?_)
    · have c_5 := (not_congr (n_eq (a := 0) (b := 0) rfl rfl (by omega) (by omega))).mp c_5
      omega
    · have c_5 := (n_eq (a := 0) (b := 0) rfl rfl (by omega) (by omega)).mp c_5
      refine r_bipush ?_
      refine r_iret rfl trivial ?_
      refine M_go (ls := [_, _]) (ml := 2) rfl rfl rfl (zl rfl) rfl ?_
      refine r_aload_n rfl ?_
      refine r_iload_n rfl ?_
      refine r_virtual (vs := []) (as := [_]) (by decide) (zl rfl) rfl rfl (zl rfl) (Nat.le_refl _) (Or.inr (Or.inr ⟨zt rfl, rfl, zt rfl⟩)) ?_
      refine s_isOne (by omega) R.mn h5 ?_
      rw [if_neg hx]
      refine r_if_ne (fun c_5 => ?_) (fun c_5 => ?_)
      · have c_5 := (not_congr (n_eq (a := 0) (b := 0) rfl rfl (by omega) (by omega))).mp c_5
        omega
      · have c_5 := (n_eq (a := 0) (b := 0) rfl rfl (by omega) (by omega)).mp c_5
        refine r_bipush ?_
        refine r_iret rfl trivial ?_
        exact hQ _ _ _ R.rel

set_option maxRecDepth 10000 in
theorem tz_share {xs : xSc} {m : Nat} {I : Nat → Nat → Int32} {L : Nat → Nat → Int64} {Q : Value → Value → xHp → Prop} (hm : 90 ≤ m) (hR : Rel I) {x : Int32} (hQ : ∀ (x : Int32) J L2, Rel J → Q (.int x) (.int x) (Hp J L2)) : M xs m xi_X6_share [.ref 0, .int x] (Hp I L) (fun r1 h1 => M xs m xi_X7_share [.ref 61, .int x] h1 (fun r2 h2 => Q r1 r2 h2)) := by
  obtain ⟨m, rfl⟩ : ∃ k, m = k + 6 := ⟨m - 6, by omega⟩
  obtain ⟨n, tc, r, tp, R⟩ := hR
  have h5 := R.n5
  have hr6 := R.r6
  have ht6 := R.t6
  have hrt := R.rt
  have hp160 := R.2.2.1.1.1
  obtain ⟨ru, hl⟩ := R.rl
  by_cases hx : inN n x
  · obtain ⟨a, ha, rfl⟩ := inN_ex hx (by omega)
    refine M_go (ls := [_, _]) (ml := 2) rfl rfl rfl (zl rfl) rfl ?_
    refine r_iload_n rfl ?_
    refine r_iconst ?_
    refine r_icmp_eq (fun c_2 => ?_) (fun c_2 => ?_)
    · exact absurd c_2 (io_m1 (by omega))
    · refine r_aload_n rfl ?_
      refine r_iload_n rfl ?_
      refine r_virtual (vs := []) (as := [_]) (by decide) (zl rfl) rfl rfl (zl rfl) (Nat.le_refl _) (Or.inr (Or.inr ⟨zt rfl, rfl, zt rfl⟩)) ?_
      refine s_isAunt (by omega) R.cn h5 ?_
      rw [if_pos (inN_io ha (by omega))]
      refine r_if_ne (fun c_10 => ?_) (fun c_10 => ?_)
      · have c_10 := (not_congr (n_eq (a := 1) (b := 0) rfl rfl (by omega) (by omega))).mp c_10
        refine E_go 1 rfl ?_
        refine r_aload_n rfl ?_
        refine r_aload_n rfl ?_
        refine r_getA (q := 1) (by decide) rfl rfl (by decide) ?_
        refine r_virtual (vs := []) (as := [_]) (by decide) (zl rfl) rfl rfl (zl rfl) (Nat.le_refl _) (Or.inr (Or.inr ⟨zt rfl, rfl, zt rfl⟩)) ?_
        refine w_think (by omega) (R.c hl) (fun J1 k1 k2 => ?_)
        have f1 := k1.fS (by omega) (by omega)
        have R1 := R.f f1
        refine r_iload_n rfl ?_
        refine r_iconst ?_
        refine r_icmp_ne (fun c_26 => ?_) (fun c_26 => ?_)
        · refine E_go 2 rfl ?_
          refine r_aload_n rfl ?_
          refine r_getA (q := 19) (by decide) rfl rfl (by decide) ?_
          refine r_getA (q := 22) (by decide) rfl rfl (by decide) ?_
          refine r_iload_n rfl ?_
          refine r_iaload (by decide) rfl (by decide) (ixE rfl (show a < 5 by omega) (by decide)) (hD_j k2 ha) ?_
          refine r_nil ?_
          refine E_go 3 rfl ?_
          refine r_iret rfl trivial ?_
          refine M_go (ls := [_, _]) (ml := 2) rfl rfl rfl (zl rfl) rfl ?_
          refine r_iload_n rfl ?_
          refine r_iconst ?_
          refine r_icmp_ne (fun c_2 => ?_) (fun c_2 => ?_)
          · refine E_go 1 rfl ?_
            refine r_aload_n rfl ?_
            refine r_iload_n rfl ?_
            refine r_virtual (vs := []) (as := [_]) (by decide) (zl rfl) rfl rfl (zl rfl) (Nat.le_refl _) (Or.inr (Or.inr ⟨zt rfl, rfl, zt rfl⟩)) ?_
            refine s_isOne (by omega) R1.mn h5 ?_
            rw [if_pos (inN_io ha (by omega))]
            refine r_if_eq (fun c_21 => ?_) (fun c_21 => ?_)
            · have c_21 := (n_eq (a := 1) (b := 0) rfl rfl (by omega) (by omega)).mp c_21
              omega
            · have c_21 := (not_congr (n_eq (a := 1) (b := 0) rfl rfl (by omega) (by omega))).mp c_21
              refine r_aload_n rfl ?_
              refine r_iload_n rfl ?_
              refine r_virtual (vs := []) (as := [_]) (by decide) (zl rfl) rfl rfl (zl rfl) (Nat.le_refl _) (Or.inr (Or.inr ⟨zt rfl, rfl, zt rfl⟩)) ?_
              refine s_shareOf (X := pX n I) (by omega) ha (R1.m (hl.f f1 hr6)) (R1.eM f1) R.okX (fun J2 L2 j1 j2 => ?_)
              refine r_goto ?_
              refine E_go 3 rfl ?_
              refine r_iret rfl trivial ?_
              exact hQ _ _ _ (R1.f j1.fS).rel
          · exact absurd c_2 (io_m1 (by omega))
        · exact absurd c_26 (io_m1 (by omega))
      · have c_10 := (n_eq (a := 1) (b := 0) rfl rfl (by omega) (by omega)).mp c_10
        omega
  · by_cases hm1 : x = -1
    · subst hm1
      refine M_go (ls := [_, _]) (ml := 2) rfl rfl rfl (zl rfl) rfl ?_
      refine r_iload_n rfl ?_
      refine r_iconst ?_
      refine r_icmp_eq (fun c_2 => ?_) (fun c_2 => ?_)
      · refine E_go 1 rfl ?_
        refine r_aload_n rfl ?_
        refine r_aload_n rfl ?_
        refine r_getA (q := 1) (by decide) rfl rfl (by decide) ?_
        refine r_virtual (vs := []) (as := [_]) (by decide) (zl rfl) rfl rfl (zl rfl) (Nat.le_refl _) (Or.inr (Or.inr ⟨zt rfl, rfl, zt rfl⟩)) ?_
        refine w_think (by omega) (R.c hl) (fun J1 k1 k2 => ?_)
        have f1 := k1.fS (by omega) (by omega)
        have R1 := R.f f1
        refine r_iload_n rfl ?_
        refine r_iconst ?_
        refine r_icmp_ne (fun c_26 => ?_) (fun c_26 => ?_)
        · exact absurd rfl c_26
        · refine r_aload_n rfl ?_
          refine r_getA (q := 19) (by decide) rfl rfl (by decide) ?_
          refine r_virtual (vs := []) (as := []) (by decide) (zl rfl) rfl rfl (zl rfl) (Nat.le_refl _) (Or.inr (Or.inr ⟨zt rfl, rfl, zt rfl⟩)) ?_
          refine s_joyOfAll (by omega) (n := n) k2.1.2.1 h5 ?_
          rw [hD_s k2 rfl]
          refine r_goto ?_
          refine E_go 3 rfl ?_
          refine r_iret rfl trivial ?_
          refine M_go (ls := [_, _]) (ml := 2) rfl rfl rfl (zl rfl) rfl ?_
          refine r_iload_n rfl ?_
          refine r_iconst ?_
          refine r_icmp_ne (fun c_2 => ?_) (fun c_2 => ?_)
          · exact absurd rfl c_2
          · refine r_aload_n rfl ?_
            refine r_aload_n rfl ?_
            refine r_getI (by decide) rfl rfl (by decide) rfl ?_
            refine r_virtual (vs := []) (as := [_]) (by decide) (zl rfl) rfl rfl (zl rfl) (Nat.le_refl _) (Or.inr (Or.inr ⟨zt rfl, rfl, zt rfl⟩)) ?_
            refine s_allOf (X := pX n I) (by omega) (R1.m (hl.f f1 hr6)) (R1.eM f1) R.okX (fun J2 L2 j1 j2 => ?_)
            refine r_goto ?_
            refine E_go 3 rfl ?_
            refine r_iret rfl trivial ?_
            exact hQ _ _ _ (R1.f j1.fS).rel
      · exact absurd rfl c_2
    · refine M_go (ls := [_, _]) (ml := 2) rfl rfl rfl (zl rfl) rfl ?_
      refine r_iload_n rfl ?_
      refine r_iconst ?_
      refine r_icmp_eq (fun c_2 => ?_) (fun c_2 => ?_)
      · exact absurd c_2 hm1
      · refine r_aload_n rfl ?_
        refine r_iload_n rfl ?_
        refine r_virtual (vs := []) (as := [_]) (by decide) (zl rfl) rfl rfl (zl rfl) (Nat.le_refl _) (Or.inr (Or.inr ⟨zt rfl, rfl, zt rfl⟩)) ?_
        refine s_isAunt (by omega) R.cn h5 ?_
        rw [if_neg hx]
        refine r_if_ne (fun c_10 => ?_) (fun c_10 => ?_)
        · have c_10 := (not_congr (n_eq (a := 0) (b := 0) rfl rfl (by omega) (by omega))).mp c_10
          omega
        · have c_10 := (n_eq (a := 0) (b := 0) rfl rfl (by omega) (by omega)).mp c_10
          refine r_ldc rfl ?_
          refine r_iret rfl trivial ?_
          refine M_go (ls := [_, _]) (ml := 2) rfl rfl rfl (zl rfl) rfl ?_
          refine r_iload_n rfl ?_
          refine r_iconst ?_
          refine r_icmp_ne (fun c_2 => ?_) (fun c_2 => ?_)
          · refine E_go 1 rfl ?_
            refine r_aload_n rfl ?_
            refine r_iload_n rfl ?_
            refine r_virtual (vs := []) (as := [_]) (by decide) (zl rfl) rfl rfl (zl rfl) (Nat.le_refl _) (Or.inr (Or.inr ⟨zt rfl, rfl, zt rfl⟩)) ?_
            refine s_isOne (by omega) R.mn h5 ?_
            rw [if_neg hx]
            refine r_if_eq (fun c_21 => ?_) (fun c_21 => ?_)
            · have c_21 := (n_eq (a := 0) (b := 0) rfl rfl (by omega) (by omega)).mp c_21
              refine E_go 2 rfl ?_
              refine r_ldc rfl ?_
              refine r_nil ?_
              refine E_go 3 rfl ?_
              refine r_iret rfl trivial ?_
              exact hQ _ _ _ R.rel
            · have c_21 := (not_congr (n_eq (a := 0) (b := 0) rfl rfl (by omega) (by omega))).mp c_21
              omega
          · exact absurd c_2 hm1

set_option maxRecDepth 10000 in
theorem tz_minute {xs : xSc} {m : Nat} {I : Nat → Nat → Int32} {L : Nat → Nat → Int64} {Q : Value → Value → xHp → Prop} (hm : 90 ≤ m) (hR : Rel I) {x y : Int32} (hQ : ∀ (x : Int32) J L2, Rel J → Q (.int x) (.int x) (Hp J L2)) : M xs m xi_X6_minute [.ref 0, .int x, .int y] (Hp I L) (fun r1 h1 => M xs m xi_X7_minute [.ref 61, .int x, .int y] h1 (fun r2 h2 => Q r1 r2 h2)) := by
  obtain ⟨m, rfl⟩ : ∃ k, m = k + 6 := ⟨m - 6, by omega⟩
  obtain ⟨n, tc, r, tp, R⟩ := hR
  have h5 := R.n5
  have hr6 := R.r6
  have ht6 := R.t6
  have hrt := R.rt
  have hp160 := R.2.2.1.1.1
  obtain ⟨ru, hl⟩ := R.rl
  by_cases hx : (0 ≤ x.toInt ∧ x.toInt < 6) ∧ (0 ≤ y.toInt ∧ y.toInt < 4)
  · obtain ⟨u, hu, rfl⟩ := inN_ex (n := 6) hx.1 (by omega)
    obtain ⟨k, hk, rfl⟩ := inN_ex (n := 4) hx.2 (by omega)
    have ek : k = 0 ∨ k = 1 ∨ k = 2 ∨ k = 3 := by omega
    rcases ek with rfl | rfl | rfl | rfl
    · refine M_go (ls := [_, _, _]) (ml := 3) rfl rfl rfl (zl rfl) rfl ?_
      refine r_iload_n rfl ?_
      refine r_if_lt (fun c_1 => ?_) (fun c_1 => ?_)
      · have c_1 := (n_lt (a := u) (b := 0) rfl rfl (by omega) (by omega)).mp c_1
        omega
      · have c_1 := (not_congr (n_lt (a := u) (b := 0) rfl rfl (by omega) (by omega))).mp c_1
        refine r_iload_n rfl ?_
        refine r_bipush ?_
        refine r_icmp_ge (fun c_7 => ?_) (fun c_7 => ?_)
        · have c_7 := (n_le (a := 6) (b := u) rfl rfl (by omega) (by omega)).mp c_7
          omega
        · have c_7 := (not_congr (n_le (a := 6) (b := u) rfl rfl (by omega) (by omega))).mp c_7
          refine r_iload_n rfl ?_
          refine r_if_lt (fun c_11 => ?_) (fun c_11 => ?_)
          · have c_11 := (n_lt (a := 0) (b := 0) rfl rfl (by omega) (by omega)).mp c_11
            omega
          · have c_11 := (not_congr (n_lt (a := 0) (b := 0) rfl rfl (by omega) (by omega))).mp c_11
            refine r_iload_n rfl ?_
            refine r_iconst ?_
            refine r_icmp_le (fun c_16 => ?_) (fun c_16 => ?_)
            · have c_16 := (n_le (a := 0) (b := 3) rfl rfl (by omega) (by omega)).mp c_16
              refine E_go 2 rfl ?_
              refine r_aload_n rfl ?_
              refine r_aload_n rfl ?_
              refine r_getA (q := 1) (by decide) rfl rfl (by decide) ?_
              refine r_virtual (vs := []) (as := [_]) (by decide) (zl rfl) rfl rfl (zl rfl) (Nat.le_refl _) (Or.inr (Or.inr ⟨zt rfl, rfl, zt rfl⟩)) ?_
              refine w_think (by omega) (R.c hl) (fun J1 k1 k2 => ?_)
              have f1 := k1.fS (by omega) (by omega)
              have R1 := R.f f1
              refine r_iload_n rfl ?_
              refine r_table ?_
              refine r_sw1 (fun cs => ?_) (fun ds => ?_)
              · refine E_go 3 rfl ?_
                refine r_aload_n rfl ?_
                refine r_getA (q := 19) (by decide) rfl rfl (by decide) ?_
                refine r_getA (q := 23) (by decide) rfl rfl (by decide) ?_
                refine r_iload_n rfl ?_
                refine r_iaload (by decide) rfl (by decide) (ixE rfl (show u < 6 by omega) (by decide)) (k2.2 u hu).1 ?_
                refine r_iret rfl trivial ?_
                refine M_go (ls := [_, _, _]) (ml := 3) rfl rfl rfl (zl rfl) rfl ?_
                refine r_iload_n rfl ?_
                refine r_i2l ?_
                refine r_lconst ?_
                refine r_ldc2_w ?_
                refine r_static (vs := [_, _, _]) (by decide) (zl rfl) rfl rfl (zl rfl) (Nat.le_refl _) rfl ?_
                refine s_in0 (by omega) (x := (io u)) (k := 6) (Int32.toInt_toInt64 _) i64_0 rfl ?_
                rw [if_pos (inN_io hu (by omega))]
                refine r_if_eq (fun c_9 => ?_) (fun c_9 => ?_)
                · have c_9 := (n_eq (a := 1) (b := 0) rfl rfl (by omega) (by omega)).mp c_9
                  omega
                · have c_9 := (not_congr (n_eq (a := 1) (b := 0) rfl rfl (by omega) (by omega))).mp c_9
                  refine r_iload_n rfl ?_
                  refine r_i2l ?_
                  refine r_lconst ?_
                  refine r_ldc2_w ?_
                  refine r_static (vs := [_, _, _]) (by decide) (zl rfl) rfl rfl (zl rfl) (Nat.le_refl _) rfl ?_
                  refine s_in0 (by omega) (x := (io 0)) (k := 4) (Int32.toInt_toInt64 _) i64_0 rfl ?_
                  rw [if_pos (inN_io (by omega) (by omega))]
                  refine r_if_ne (fun c_21 => ?_) (fun c_21 => ?_)
                  · have c_21 := (not_congr (n_eq (a := 1) (b := 0) rfl rfl (by omega) (by omega))).mp c_21
                    refine E_go 2 rfl ?_
                    refine r_aload_n rfl ?_
                    refine r_aload_n rfl ?_
                    refine r_getI (by decide) rfl rfl (by decide) rfl ?_
                    refine r_virtual (vs := []) (as := [_]) (by decide) (zl rfl) rfl rfl (zl rfl) (Nat.le_refl _) (Or.inr (Or.inr ⟨zt rfl, rfl, zt rfl⟩)) ?_
                    refine w_lives (by omega) (R1.m (hl.f f1 hr6)) (R1.eM f1) R.okX (fun J2 L2 j1 j2 => ?_)
                    refine r_iload_n rfl ?_
                    refine r_if_ne (fun c_36 => ?_) (fun c_36 => ?_)
                    · have c_36 := (not_congr (n_eq (a := 0) (b := 0) rfl rfl (by omega) (by omega))).mp c_36
                      omega
                    · have c_36 := (n_eq (a := 0) (b := 0) rfl rfl (by omega) (by omega)).mp c_36
                      refine r_aload_n rfl ?_
                      refine r_getA (q := 71) (by decide) rfl rfl (by decide) ?_
                      refine r_iload_n rfl ?_
                      refine r_iaload (by decide) rfl (by decide) (ixE rfl (show u < 6 by omega) (by decide)) (j2.2 u hu).1 ?_
                      refine r_goto ?_
                      refine E_go 6 rfl ?_
                      refine r_iret rfl trivial ?_
                      exact hQ _ _ _ (R1.f j1.fS).rel
                  · have c_21 := (n_eq (a := 1) (b := 0) rfl rfl (by omega) (by omega)).mp c_21
                    omega
              · exact absurd rfl ds
            · have c_16 := (not_congr (n_le (a := 0) (b := 3) rfl rfl (by omega) (by omega))).mp c_16
              omega
    · refine M_go (ls := [_, _, _]) (ml := 3) rfl rfl rfl (zl rfl) rfl ?_
      refine r_iload_n rfl ?_
      refine r_if_lt (fun c_1 => ?_) (fun c_1 => ?_)
      · have c_1 := (n_lt (a := u) (b := 0) rfl rfl (by omega) (by omega)).mp c_1
        omega
      · have c_1 := (not_congr (n_lt (a := u) (b := 0) rfl rfl (by omega) (by omega))).mp c_1
        refine r_iload_n rfl ?_
        refine r_bipush ?_
        refine r_icmp_ge (fun c_7 => ?_) (fun c_7 => ?_)
        · have c_7 := (n_le (a := 6) (b := u) rfl rfl (by omega) (by omega)).mp c_7
          omega
        · have c_7 := (not_congr (n_le (a := 6) (b := u) rfl rfl (by omega) (by omega))).mp c_7
          refine r_iload_n rfl ?_
          refine r_if_lt (fun c_11 => ?_) (fun c_11 => ?_)
          · have c_11 := (n_lt (a := 1) (b := 0) rfl rfl (by omega) (by omega)).mp c_11
            omega
          · have c_11 := (not_congr (n_lt (a := 1) (b := 0) rfl rfl (by omega) (by omega))).mp c_11
            refine r_iload_n rfl ?_
            refine r_iconst ?_
            refine r_icmp_le (fun c_16 => ?_) (fun c_16 => ?_)
            · have c_16 := (n_le (a := 1) (b := 3) rfl rfl (by omega) (by omega)).mp c_16
              refine E_go 2 rfl ?_
              refine r_aload_n rfl ?_
              refine r_aload_n rfl ?_
              refine r_getA (q := 1) (by decide) rfl rfl (by decide) ?_
              refine r_virtual (vs := []) (as := [_]) (by decide) (zl rfl) rfl rfl (zl rfl) (Nat.le_refl _) (Or.inr (Or.inr ⟨zt rfl, rfl, zt rfl⟩)) ?_
              refine w_think (by omega) (R.c hl) (fun J1 k1 k2 => ?_)
              have f1 := k1.fS (by omega) (by omega)
              have R1 := R.f f1
              refine r_iload_n rfl ?_
              refine r_table ?_
              refine r_sw1 (fun cs => ?_) (fun ds => ?_)
              · exact absurd ((n_eq (a := 1) (b := 0) rfl rfl (by omega) (by omega)).mp cs) (by omega)
              refine r_sw1 (fun cs => ?_) (fun ds => ?_)
              · refine E_go 4 rfl ?_
                refine r_aload_n rfl ?_
                refine r_getA (q := 19) (by decide) rfl rfl (by decide) ?_
                refine r_getA (q := 24) (by decide) rfl rfl (by decide) ?_
                refine r_iload_n rfl ?_
                refine r_iaload (by decide) rfl (by decide) (ixE rfl (show u < 6 by omega) (by decide)) (k2.2 u hu).2.1 ?_
                refine r_iret rfl trivial ?_
                refine M_go (ls := [_, _, _]) (ml := 3) rfl rfl rfl (zl rfl) rfl ?_
                refine r_iload_n rfl ?_
                refine r_i2l ?_
                refine r_lconst ?_
                refine r_ldc2_w ?_
                refine r_static (vs := [_, _, _]) (by decide) (zl rfl) rfl rfl (zl rfl) (Nat.le_refl _) rfl ?_
                refine s_in0 (by omega) (x := (io u)) (k := 6) (Int32.toInt_toInt64 _) i64_0 rfl ?_
                rw [if_pos (inN_io hu (by omega))]
                refine r_if_eq (fun c_9 => ?_) (fun c_9 => ?_)
                · have c_9 := (n_eq (a := 1) (b := 0) rfl rfl (by omega) (by omega)).mp c_9
                  omega
                · have c_9 := (not_congr (n_eq (a := 1) (b := 0) rfl rfl (by omega) (by omega))).mp c_9
                  refine r_iload_n rfl ?_
                  refine r_i2l ?_
                  refine r_lconst ?_
                  refine r_ldc2_w ?_
                  refine r_static (vs := [_, _, _]) (by decide) (zl rfl) rfl rfl (zl rfl) (Nat.le_refl _) rfl ?_
                  refine s_in0 (by omega) (x := (io 1)) (k := 4) (Int32.toInt_toInt64 _) i64_0 rfl ?_
                  rw [if_pos (inN_io (by omega) (by omega))]
                  refine r_if_ne (fun c_21 => ?_) (fun c_21 => ?_)
                  · have c_21 := (not_congr (n_eq (a := 1) (b := 0) rfl rfl (by omega) (by omega))).mp c_21
                    refine E_go 2 rfl ?_
                    refine r_aload_n rfl ?_
                    refine r_aload_n rfl ?_
                    refine r_getI (by decide) rfl rfl (by decide) rfl ?_
                    refine r_virtual (vs := []) (as := [_]) (by decide) (zl rfl) rfl rfl (zl rfl) (Nat.le_refl _) (Or.inr (Or.inr ⟨zt rfl, rfl, zt rfl⟩)) ?_
                    refine w_lives (by omega) (R1.m (hl.f f1 hr6)) (R1.eM f1) R.okX (fun J2 L2 j1 j2 => ?_)
                    refine r_iload_n rfl ?_
                    refine r_if_ne (fun c_36 => ?_) (fun c_36 => ?_)
                    · have c_36 := (not_congr (n_eq (a := 1) (b := 0) rfl rfl (by omega) (by omega))).mp c_36
                      refine E_go 3 rfl ?_
                      refine r_iload_n rfl ?_
                      refine r_iconst ?_
                      refine r_icmp_ne (fun c_50 => ?_) (fun c_50 => ?_)
                      · have c_50 := (not_congr (n_eq (a := 1) (b := 1) rfl rfl (by omega) (by omega))).mp c_50
                        omega
                      · have c_50 := (n_eq (a := 1) (b := 1) rfl rfl (by omega) (by omega)).mp c_50
                        refine r_aload_n rfl ?_
                        refine r_getA (q := 72) (by decide) rfl rfl (by decide) ?_
                        refine r_iload_n rfl ?_
                        refine r_iaload (by decide) rfl (by decide) (ixE rfl (show u < 6 by omega) (by decide)) (j2.2 u hu).2.1 ?_
                        refine r_goto ?_
                        refine E_go 6 rfl ?_
                        refine r_iret rfl trivial ?_
                        exact hQ _ _ _ (R1.f j1.fS).rel
                    · have c_36 := (n_eq (a := 1) (b := 0) rfl rfl (by omega) (by omega)).mp c_36
                      omega
                  · have c_21 := (n_eq (a := 1) (b := 0) rfl rfl (by omega) (by omega)).mp c_21
                    omega
              · exact absurd rfl ds
            · have c_16 := (not_congr (n_le (a := 1) (b := 3) rfl rfl (by omega) (by omega))).mp c_16
              omega
    · refine M_go (ls := [_, _, _]) (ml := 3) rfl rfl rfl (zl rfl) rfl ?_
      refine r_iload_n rfl ?_
      refine r_if_lt (fun c_1 => ?_) (fun c_1 => ?_)
      · have c_1 := (n_lt (a := u) (b := 0) rfl rfl (by omega) (by omega)).mp c_1
        omega
      · have c_1 := (not_congr (n_lt (a := u) (b := 0) rfl rfl (by omega) (by omega))).mp c_1
        refine r_iload_n rfl ?_
        refine r_bipush ?_
        refine r_icmp_ge (fun c_7 => ?_) (fun c_7 => ?_)
        · have c_7 := (n_le (a := 6) (b := u) rfl rfl (by omega) (by omega)).mp c_7
          omega
        · have c_7 := (not_congr (n_le (a := 6) (b := u) rfl rfl (by omega) (by omega))).mp c_7
          refine r_iload_n rfl ?_
          refine r_if_lt (fun c_11 => ?_) (fun c_11 => ?_)
          · have c_11 := (n_lt (a := 2) (b := 0) rfl rfl (by omega) (by omega)).mp c_11
            omega
          · have c_11 := (not_congr (n_lt (a := 2) (b := 0) rfl rfl (by omega) (by omega))).mp c_11
            refine r_iload_n rfl ?_
            refine r_iconst ?_
            refine r_icmp_le (fun c_16 => ?_) (fun c_16 => ?_)
            · have c_16 := (n_le (a := 2) (b := 3) rfl rfl (by omega) (by omega)).mp c_16
              refine E_go 2 rfl ?_
              refine r_aload_n rfl ?_
              refine r_aload_n rfl ?_
              refine r_getA (q := 1) (by decide) rfl rfl (by decide) ?_
              refine r_virtual (vs := []) (as := [_]) (by decide) (zl rfl) rfl rfl (zl rfl) (Nat.le_refl _) (Or.inr (Or.inr ⟨zt rfl, rfl, zt rfl⟩)) ?_
              refine w_think (by omega) (R.c hl) (fun J1 k1 k2 => ?_)
              have f1 := k1.fS (by omega) (by omega)
              have R1 := R.f f1
              refine r_iload_n rfl ?_
              refine r_table ?_
              refine r_sw1 (fun cs => ?_) (fun ds => ?_)
              · exact absurd ((n_eq (a := 2) (b := 0) rfl rfl (by omega) (by omega)).mp cs) (by omega)
              refine r_sw1 (fun cs => ?_) (fun ds => ?_)
              · exact absurd ((n_eq (a := 2) (b := 1) rfl rfl (by omega) (by omega)).mp cs) (by omega)
              refine r_sw1 (fun cs => ?_) (fun ds => ?_)
              · refine E_go 5 rfl ?_
                refine r_aload_n rfl ?_
                refine r_getA (q := 19) (by decide) rfl rfl (by decide) ?_
                refine r_getA (q := 25) (by decide) rfl rfl (by decide) ?_
                refine r_iload_n rfl ?_
                refine r_iaload (by decide) rfl (by decide) (ixE rfl (show u < 6 by omega) (by decide)) (k2.2 u hu).2.2.1 ?_
                refine r_iret rfl trivial ?_
                refine M_go (ls := [_, _, _]) (ml := 3) rfl rfl rfl (zl rfl) rfl ?_
                refine r_iload_n rfl ?_
                refine r_i2l ?_
                refine r_lconst ?_
                refine r_ldc2_w ?_
                refine r_static (vs := [_, _, _]) (by decide) (zl rfl) rfl rfl (zl rfl) (Nat.le_refl _) rfl ?_
                refine s_in0 (by omega) (x := (io u)) (k := 6) (Int32.toInt_toInt64 _) i64_0 rfl ?_
                rw [if_pos (inN_io hu (by omega))]
                refine r_if_eq (fun c_9 => ?_) (fun c_9 => ?_)
                · have c_9 := (n_eq (a := 1) (b := 0) rfl rfl (by omega) (by omega)).mp c_9
                  omega
                · have c_9 := (not_congr (n_eq (a := 1) (b := 0) rfl rfl (by omega) (by omega))).mp c_9
                  refine r_iload_n rfl ?_
                  refine r_i2l ?_
                  refine r_lconst ?_
                  refine r_ldc2_w ?_
                  refine r_static (vs := [_, _, _]) (by decide) (zl rfl) rfl rfl (zl rfl) (Nat.le_refl _) rfl ?_
                  refine s_in0 (by omega) (x := (io 2)) (k := 4) (Int32.toInt_toInt64 _) i64_0 rfl ?_
                  rw [if_pos (inN_io (by omega) (by omega))]
                  refine r_if_ne (fun c_21 => ?_) (fun c_21 => ?_)
                  · have c_21 := (not_congr (n_eq (a := 1) (b := 0) rfl rfl (by omega) (by omega))).mp c_21
                    refine E_go 2 rfl ?_
                    refine r_aload_n rfl ?_
                    refine r_aload_n rfl ?_
                    refine r_getI (by decide) rfl rfl (by decide) rfl ?_
                    refine r_virtual (vs := []) (as := [_]) (by decide) (zl rfl) rfl rfl (zl rfl) (Nat.le_refl _) (Or.inr (Or.inr ⟨zt rfl, rfl, zt rfl⟩)) ?_
                    refine w_lives (by omega) (R1.m (hl.f f1 hr6)) (R1.eM f1) R.okX (fun J2 L2 j1 j2 => ?_)
                    refine r_iload_n rfl ?_
                    refine r_if_ne (fun c_36 => ?_) (fun c_36 => ?_)
                    · have c_36 := (not_congr (n_eq (a := 2) (b := 0) rfl rfl (by omega) (by omega))).mp c_36
                      refine E_go 3 rfl ?_
                      refine r_iload_n rfl ?_
                      refine r_iconst ?_
                      refine r_icmp_ne (fun c_50 => ?_) (fun c_50 => ?_)
                      · have c_50 := (not_congr (n_eq (a := 2) (b := 1) rfl rfl (by omega) (by omega))).mp c_50
                        refine E_go 4 rfl ?_
                        refine r_iload_n rfl ?_
                        refine r_iconst ?_
                        refine r_icmp_ne (fun c_64 => ?_) (fun c_64 => ?_)
                        · have c_64 := (not_congr (n_eq (a := 2) (b := 2) rfl rfl (by omega) (by omega))).mp c_64
                          omega
                        · have c_64 := (n_eq (a := 2) (b := 2) rfl rfl (by omega) (by omega)).mp c_64
                          refine r_aload_n rfl ?_
                          refine r_getA (q := 73) (by decide) rfl rfl (by decide) ?_
                          refine r_iload_n rfl ?_
                          refine r_iaload (by decide) rfl (by decide) (ixE rfl (show u < 6 by omega) (by decide)) (j2.2 u hu).2.2.1 ?_
                          refine r_goto ?_
                          refine E_go 6 rfl ?_
                          refine r_iret rfl trivial ?_
                          exact hQ _ _ _ (R1.f j1.fS).rel
                      · have c_50 := (n_eq (a := 2) (b := 1) rfl rfl (by omega) (by omega)).mp c_50
                        omega
                    · have c_36 := (n_eq (a := 2) (b := 0) rfl rfl (by omega) (by omega)).mp c_36
                      omega
                  · have c_21 := (n_eq (a := 1) (b := 0) rfl rfl (by omega) (by omega)).mp c_21
                    omega
              · exact absurd rfl ds
            · have c_16 := (not_congr (n_le (a := 2) (b := 3) rfl rfl (by omega) (by omega))).mp c_16
              omega
    · refine M_go (ls := [_, _, _]) (ml := 3) rfl rfl rfl (zl rfl) rfl ?_
      refine r_iload_n rfl ?_
      refine r_if_lt (fun c_1 => ?_) (fun c_1 => ?_)
      · have c_1 := (n_lt (a := u) (b := 0) rfl rfl (by omega) (by omega)).mp c_1
        omega
      · have c_1 := (not_congr (n_lt (a := u) (b := 0) rfl rfl (by omega) (by omega))).mp c_1
        refine r_iload_n rfl ?_
        refine r_bipush ?_
        refine r_icmp_ge (fun c_7 => ?_) (fun c_7 => ?_)
        · have c_7 := (n_le (a := 6) (b := u) rfl rfl (by omega) (by omega)).mp c_7
          omega
        · have c_7 := (not_congr (n_le (a := 6) (b := u) rfl rfl (by omega) (by omega))).mp c_7
          refine r_iload_n rfl ?_
          refine r_if_lt (fun c_11 => ?_) (fun c_11 => ?_)
          · have c_11 := (n_lt (a := 3) (b := 0) rfl rfl (by omega) (by omega)).mp c_11
            omega
          · have c_11 := (not_congr (n_lt (a := 3) (b := 0) rfl rfl (by omega) (by omega))).mp c_11
            refine r_iload_n rfl ?_
            refine r_iconst ?_
            refine r_icmp_le (fun c_16 => ?_) (fun c_16 => ?_)
            · have c_16 := (n_le (a := 3) (b := 3) rfl rfl (by omega) (by omega)).mp c_16
              refine E_go 2 rfl ?_
              refine r_aload_n rfl ?_
              refine r_aload_n rfl ?_
              refine r_getA (q := 1) (by decide) rfl rfl (by decide) ?_
              refine r_virtual (vs := []) (as := [_]) (by decide) (zl rfl) rfl rfl (zl rfl) (Nat.le_refl _) (Or.inr (Or.inr ⟨zt rfl, rfl, zt rfl⟩)) ?_
              refine w_think (by omega) (R.c hl) (fun J1 k1 k2 => ?_)
              have f1 := k1.fS (by omega) (by omega)
              have R1 := R.f f1
              refine r_iload_n rfl ?_
              refine r_table ?_
              refine r_sw1 (fun cs => ?_) (fun ds => ?_)
              · exact absurd ((n_eq (a := 3) (b := 0) rfl rfl (by omega) (by omega)).mp cs) (by omega)
              refine r_sw1 (fun cs => ?_) (fun ds => ?_)
              · exact absurd ((n_eq (a := 3) (b := 1) rfl rfl (by omega) (by omega)).mp cs) (by omega)
              refine r_sw1 (fun cs => ?_) (fun ds => ?_)
              · exact absurd ((n_eq (a := 3) (b := 2) rfl rfl (by omega) (by omega)).mp cs) (by omega)
              refine r_sw0 ?_
              refine E_go 6 rfl ?_
              refine r_aload_n rfl ?_
              refine r_getA (q := 19) (by decide) rfl rfl (by decide) ?_
              refine r_getA (q := 26) (by decide) rfl rfl (by decide) ?_
              refine r_iload_n rfl ?_
              refine r_iaload (by decide) rfl (by decide) (ixE rfl (show u < 6 by omega) (by decide)) (k2.2 u hu).2.2.2 ?_
              refine r_iret rfl trivial ?_
              refine M_go (ls := [_, _, _]) (ml := 3) rfl rfl rfl (zl rfl) rfl ?_
              refine r_iload_n rfl ?_
              refine r_i2l ?_
              refine r_lconst ?_
              refine r_ldc2_w ?_
              refine r_static (vs := [_, _, _]) (by decide) (zl rfl) rfl rfl (zl rfl) (Nat.le_refl _) rfl ?_
              refine s_in0 (by omega) (x := (io u)) (k := 6) (Int32.toInt_toInt64 _) i64_0 rfl ?_
              rw [if_pos (inN_io hu (by omega))]
              refine r_if_eq (fun c_9 => ?_) (fun c_9 => ?_)
              · have c_9 := (n_eq (a := 1) (b := 0) rfl rfl (by omega) (by omega)).mp c_9
                omega
              · have c_9 := (not_congr (n_eq (a := 1) (b := 0) rfl rfl (by omega) (by omega))).mp c_9
                refine r_iload_n rfl ?_
                refine r_i2l ?_
                refine r_lconst ?_
                refine r_ldc2_w ?_
                refine r_static (vs := [_, _, _]) (by decide) (zl rfl) rfl rfl (zl rfl) (Nat.le_refl _) rfl ?_
                refine s_in0 (by omega) (x := (io 3)) (k := 4) (Int32.toInt_toInt64 _) i64_0 rfl ?_
                rw [if_pos (inN_io (by omega) (by omega))]
                refine r_if_ne (fun c_21 => ?_) (fun c_21 => ?_)
                · have c_21 := (not_congr (n_eq (a := 1) (b := 0) rfl rfl (by omega) (by omega))).mp c_21
                  refine E_go 2 rfl ?_
                  refine r_aload_n rfl ?_
                  refine r_aload_n rfl ?_
                  refine r_getI (by decide) rfl rfl (by decide) rfl ?_
                  refine r_virtual (vs := []) (as := [_]) (by decide) (zl rfl) rfl rfl (zl rfl) (Nat.le_refl _) (Or.inr (Or.inr ⟨zt rfl, rfl, zt rfl⟩)) ?_
                  refine w_lives (by omega) (R1.m (hl.f f1 hr6)) (R1.eM f1) R.okX (fun J2 L2 j1 j2 => ?_)
                  refine r_iload_n rfl ?_
                  refine r_if_ne (fun c_36 => ?_) (fun c_36 => ?_)
                  · have c_36 := (not_congr (n_eq (a := 3) (b := 0) rfl rfl (by omega) (by omega))).mp c_36
                    refine E_go 3 rfl ?_
                    refine r_iload_n rfl ?_
                    refine r_iconst ?_
                    refine r_icmp_ne (fun c_50 => ?_) (fun c_50 => ?_)
                    · have c_50 := (not_congr (n_eq (a := 3) (b := 1) rfl rfl (by omega) (by omega))).mp c_50
                      refine E_go 4 rfl ?_
                      refine r_iload_n rfl ?_
                      refine r_iconst ?_
                      refine r_icmp_ne (fun c_64 => ?_) (fun c_64 => ?_)
                      · have c_64 := (not_congr (n_eq (a := 3) (b := 2) rfl rfl (by omega) (by omega))).mp c_64
                        refine E_go 5 rfl ?_
                        refine r_aload_n rfl ?_
                        refine r_getA (q := 74) (by decide) rfl rfl (by decide) ?_
                        refine r_iload_n rfl ?_
                        refine r_iaload (by decide) rfl (by decide) (ixE rfl (show u < 6 by omega) (by decide)) (j2.2 u hu).2.2.2 ?_
                        refine r_nil ?_
                        refine E_go 6 rfl ?_
                        refine r_iret rfl trivial ?_
                        exact hQ _ _ _ (R1.f j1.fS).rel
                      · have c_64 := (n_eq (a := 3) (b := 2) rfl rfl (by omega) (by omega)).mp c_64
                        omega
                    · have c_50 := (n_eq (a := 3) (b := 1) rfl rfl (by omega) (by omega)).mp c_50
                      omega
                  · have c_36 := (n_eq (a := 3) (b := 0) rfl rfl (by omega) (by omega)).mp c_36
                    omega
                · have c_21 := (n_eq (a := 1) (b := 0) rfl rfl (by omega) (by omega)).mp c_21
                  omega
            · have c_16 := (not_congr (n_le (a := 3) (b := 3) rfl rfl (by omega) (by omega))).mp c_16
              omega
  · refine M_go (ls := [_, _, _]) (ml := 3) rfl rfl rfl (zl rfl) rfl ?_
    refine r_iload_n rfl ?_
    refine r_if_lt (fun c_1 => ?_) (fun c_1 => ?_)
    · have c_1 := (jlt (b := 0) rfl (by omega)).mp c_1
      refine E_go 1 rfl ?_
      refine r_bipush ?_
      refine r_iret rfl trivial ?_
      refine M_go (ls := [_, _, _]) (ml := 3) rfl rfl rfl (zl rfl) rfl ?_
      refine r_iload_n rfl ?_
      refine r_i2l ?_
      refine r_lconst ?_
      refine r_ldc2_w ?_
      refine r_static (vs := [_, _, _]) (by decide) (zl rfl) rfl rfl (zl rfl) (Nat.le_refl _) rfl ?_
      refine s_in0 (by omega) (x := x) (k := 6) (Int32.toInt_toInt64 _) i64_0 rfl ?_
      refine r_if_eq (fun c_9 => ?_) (fun c_9 => ?_)
      · refine E_go 1 rfl ?_
        refine r_bipush ?_
        refine r_iret rfl trivial ?_
        exact hQ _ _ _ R.rel
      · refine r_iload_n rfl ?_
        refine r_i2l ?_
        refine r_lconst ?_
        refine r_ldc2_w ?_
        refine r_static (vs := [_, _, _]) (by decide) (zl rfl) rfl rfl (zl rfl) (Nat.le_refl _) rfl ?_
        refine s_in0 (by omega) (x := y) (k := 4) (Int32.toInt_toInt64 _) i64_0 rfl ?_
        refine r_if_ne (fun c_21 => ?_) (fun c_21 => ?_)
        · exact absurd ⟨b01n.mp c_9, b01n.mp c_21⟩ hx
        · refine r_nil ?_
          refine E_go 1 rfl ?_
          refine r_bipush ?_
          refine r_iret rfl trivial ?_
          exact hQ _ _ _ R.rel
    · have c_1 := (not_congr (jlt (b := 0) rfl (by omega))).mp c_1
      refine r_iload_n rfl ?_
      refine r_bipush ?_
      refine r_icmp_ge (fun c_7 => ?_) (fun c_7 => ?_)
      · have c_7 := (kle (b := 6) rfl (by omega)).mp c_7
        refine E_go 1 rfl ?_
        refine r_bipush ?_
        refine r_iret rfl trivial ?_
        refine M_go (ls := [_, _, _]) (ml := 3) rfl rfl rfl (zl rfl) rfl ?_
        refine r_iload_n rfl ?_
        refine r_i2l ?_
        refine r_lconst ?_
        refine r_ldc2_w ?_
        refine r_static (vs := [_, _, _]) (by decide) (zl rfl) rfl rfl (zl rfl) (Nat.le_refl _) rfl ?_
        refine s_in0 (by omega) (x := x) (k := 6) (Int32.toInt_toInt64 _) i64_0 rfl ?_
        refine r_if_eq (fun c_9 => ?_) (fun c_9 => ?_)
        · refine E_go 1 rfl ?_
          refine r_bipush ?_
          refine r_iret rfl trivial ?_
          exact hQ _ _ _ R.rel
        · refine r_iload_n rfl ?_
          refine r_i2l ?_
          refine r_lconst ?_
          refine r_ldc2_w ?_
          refine r_static (vs := [_, _, _]) (by decide) (zl rfl) rfl rfl (zl rfl) (Nat.le_refl _) rfl ?_
          refine s_in0 (by omega) (x := y) (k := 4) (Int32.toInt_toInt64 _) i64_0 rfl ?_
          refine r_if_ne (fun c_21 => ?_) (fun c_21 => ?_)
          · exact absurd ⟨b01n.mp c_9, b01n.mp c_21⟩ hx
          · refine r_nil ?_
            refine E_go 1 rfl ?_
            refine r_bipush ?_
            refine r_iret rfl trivial ?_
            exact hQ _ _ _ R.rel
      · have c_7 := (not_congr (kle (b := 6) rfl (by omega))).mp c_7
        refine r_iload_n rfl ?_
        refine r_if_lt (fun c_11 => ?_) (fun c_11 => ?_)
        · have c_11 := (jlt (b := 0) rfl (by omega)).mp c_11
          refine E_go 1 rfl ?_
          refine r_bipush ?_
          refine r_iret rfl trivial ?_
          refine M_go (ls := [_, _, _]) (ml := 3) rfl rfl rfl (zl rfl) rfl ?_
          refine r_iload_n rfl ?_
          refine r_i2l ?_
          refine r_lconst ?_
          refine r_ldc2_w ?_
          refine r_static (vs := [_, _, _]) (by decide) (zl rfl) rfl rfl (zl rfl) (Nat.le_refl _) rfl ?_
          refine s_in0 (by omega) (x := x) (k := 6) (Int32.toInt_toInt64 _) i64_0 rfl ?_
          refine r_if_eq (fun c_9 => ?_) (fun c_9 => ?_)
          · refine E_go 1 rfl ?_
            refine r_bipush ?_
            refine r_iret rfl trivial ?_
            exact hQ _ _ _ R.rel
          · refine r_iload_n rfl ?_
            refine r_i2l ?_
            refine r_lconst ?_
            refine r_ldc2_w ?_
            refine r_static (vs := [_, _, _]) (by decide) (zl rfl) rfl rfl (zl rfl) (Nat.le_refl _) rfl ?_
            refine s_in0 (by omega) (x := y) (k := 4) (Int32.toInt_toInt64 _) i64_0 rfl ?_
            refine r_if_ne (fun c_21 => ?_) (fun c_21 => ?_)
            · exact absurd ⟨b01n.mp c_9, b01n.mp c_21⟩ hx
            · refine r_nil ?_
              refine E_go 1 rfl ?_
              refine r_bipush ?_
              refine r_iret rfl trivial ?_
              exact hQ _ _ _ R.rel
        · have c_11 := (not_congr (jlt (b := 0) rfl (by omega))).mp c_11
          refine r_iload_n rfl ?_
          refine r_iconst ?_
          refine r_icmp_le (fun c_16 => ?_) (fun c_16 => ?_)
          · have c_16 := (jle (b := 3) rfl (by omega)).mp c_16
            omega
          · have c_16 := (not_congr (jle (b := 3) rfl (by omega))).mp c_16
            refine r_nil ?_
            refine E_go 1 rfl ?_
            refine r_bipush ?_
            refine r_iret rfl trivial ?_
            refine M_go (ls := [_, _, _]) (ml := 3) rfl rfl rfl (zl rfl) rfl ?_
            refine r_iload_n rfl ?_
            refine r_i2l ?_
            refine r_lconst ?_
            refine r_ldc2_w ?_
            refine r_static (vs := [_, _, _]) (by decide) (zl rfl) rfl rfl (zl rfl) (Nat.le_refl _) rfl ?_
            refine s_in0 (by omega) (x := x) (k := 6) (Int32.toInt_toInt64 _) i64_0 rfl ?_
            refine r_if_eq (fun c_9 => ?_) (fun c_9 => ?_)
            · refine E_go 1 rfl ?_
              refine r_bipush ?_
              refine r_iret rfl trivial ?_
              exact hQ _ _ _ R.rel
            · refine r_iload_n rfl ?_
              refine r_i2l ?_
              refine r_lconst ?_
              refine r_ldc2_w ?_
              refine r_static (vs := [_, _, _]) (by decide) (zl rfl) rfl rfl (zl rfl) (Nat.le_refl _) rfl ?_
              refine s_in0 (by omega) (x := y) (k := 4) (Int32.toInt_toInt64 _) i64_0 rfl ?_
              refine r_if_ne (fun c_21 => ?_) (fun c_21 => ?_)
              · exact absurd ⟨b01n.mp c_9, b01n.mp c_21⟩ hx
              · refine r_nil ?_
                refine E_go 1 rfl ?_
                refine r_bipush ?_
                refine r_iret rfl trivial ?_
                exact hQ _ _ _ R.rel
