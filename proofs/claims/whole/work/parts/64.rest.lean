/-! calls: best, rest, greediest, hotter -/

set_option maxRecDepth 10000 in
theorem tz_best {xs : xSc} {m : Nat} {I : Nat → Nat → Int32} {L : Nat → Nat → Int64} {Q : Value → Value → xHp → Prop} (hm : 90 ≤ m) (hR : Rel I) {x y : Int32} (hQ : ∀ (x : Int32) J L2, Rel J → Q (.int x) (.int x) (Hp J L2)) : M xs m xi_X6_best [.ref 0, .int x, .int y] (Hp I L) (fun r1 h1 => M xs m xi_X7_best [.ref 61, .int x, .int y] h1 (fun r2 h2 => Q r1 r2 h2)) := by
  obtain ⟨m, rfl⟩ : ∃ k, m = k + 6 := ⟨m - 6, by omega⟩
  obtain ⟨n, tc, r, tp, R⟩ := hR
  have h5 := R.n5
  have hr6 := R.r6
  have ht6 := R.t6
  have hrt := R.rt
  have hp160 := R.2.2.1.1.1
  obtain ⟨ru, hl⟩ := R.rl
  by_cases hx : inN n x
  · obtain ⟨a, ha, rfl⟩ := inN_ex hx (by omega)
    by_cases hy : inN 2 y
    · obtain ⟨k, hk, rfl⟩ := inN_ex hy (by omega)
      have ek : k = 0 ∨ k = 1 := by omega
      rcases ek with rfl | rfl
      · refine M_go (ls := [_, _, _, _]) (ml := 4) rfl rfl rfl (zl rfl) rfl ?_
        refine r_aload_n rfl ?_
        refine r_iload_n rfl ?_
        refine r_virtual (vs := []) (as := [_]) (by decide) (zl rfl) rfl rfl (zl rfl) (Nat.le_refl _) (Or.inr (Or.inr ⟨zt rfl, rfl, zt rfl⟩)) ?_
        refine s_isAunt (by omega) R.cn h5 ?_
        rw [if_pos (inN_io ha (by omega))]
        refine r_if_eq (fun c_5 => ?_) (fun c_5 => ?_)
        · have c_5 := (n_eq (a := 1) (b := 0) rfl rfl (by omega) (by omega)).mp c_5
          omega
        · have c_5 := (not_congr (n_eq (a := 1) (b := 0) rfl rfl (by omega) (by omega))).mp c_5
          refine r_iload_n rfl ?_
          refine r_static (vs := [_]) (by decide) (zl rfl) rfl rfl (zl rfl) (Nat.le_refl _) rfl ?_
          refine s_isEither (by omega) ?_
          rw [if_pos (inN_io (by omega) (by omega))]
          refine r_if_ne (fun c_12 => ?_) (fun c_12 => ?_)
          · have c_12 := (not_congr (n_eq (a := 1) (b := 0) rfl rfl (by omega) (by omega))).mp c_12
            refine E_go 2 rfl ?_
            refine r_aload_n rfl ?_
            refine r_iload_n rfl ?_
            refine r_virtual (vs := []) (as := [_]) (by decide) (zl rfl) rfl rfl (zl rfl) (Nat.le_refl _) (Or.inr (Or.inr ⟨zt rfl, rfl, zt rfl⟩)) ?_
            refine s_bestPlan (by omega) ha (R.c (hl.f fS.refl hr6)) (fun J1 q1 => ?_)
            skip
            have f1 := q1
            have R1 := R.f f1
            refine r_istore_n (ls' := [_, _, _, _]) (zt rfl) rfl ?_
            refine r_iload_n rfl ?_
            refine r_if_ne (fun c_25 => ?_) (fun c_25 => ?_)
            · have c_25 := (not_congr (n_eq (a := 0) (b := 0) rfl rfl (by omega) (by omega))).mp c_25
              omega
            · have c_25 := (n_eq (a := 0) (b := 0) rfl rfl (by omega) (by omega)).mp c_25
              refine r_iload_n rfl ?_
              refine r_goto ?_
              refine E_go 4 rfl ?_
              refine r_iret rfl trivial ?_
              refine M_go (ls := [_, _, _]) (ml := 3) rfl rfl rfl (zl rfl) rfl ?_
              refine r_aload_n rfl ?_
              refine r_iload_n rfl ?_
              refine r_virtual (vs := []) (as := [_]) (by decide) (zl rfl) rfl rfl (zl rfl) (Nat.le_refl _) (Or.inr (Or.inr ⟨zt rfl, rfl, zt rfl⟩)) ?_
              refine s_isOne (by omega) R1.mn h5 ?_
              rw [if_pos (inN_io ha (by omega))]
              refine r_if_eq (fun c_5 => ?_) (fun c_5 => ?_)
              · have c_5 := (n_eq (a := 1) (b := 0) rfl rfl (by omega) (by omega)).mp c_5
                omega
              · have c_5 := (not_congr (n_eq (a := 1) (b := 0) rfl rfl (by omega) (by omega))).mp c_5
                refine r_iload_n rfl ?_
                refine r_i2l ?_
                refine r_lconst ?_
                refine r_lconst ?_
                refine r_static (vs := [_, _, _]) (by decide) (zl rfl) rfl rfl (zl rfl) (Nat.le_refl _) rfl ?_
                refine s_in0 (by omega) (x := (io 0)) (k := 2) (Int32.toInt_toInt64 _) i64_0 rfl ?_
                rw [if_pos (inN_io (by omega) (by omega))]
                refine r_if_ne (fun c_15 => ?_) (fun c_15 => ?_)
                · have c_15 := (not_congr (n_eq (a := 1) (b := 0) rfl rfl (by omega) (by omega))).mp c_15
                  refine E_go 2 rfl ?_
                  refine r_aload_n rfl ?_
                  refine r_iload_n rfl ?_
                  refine r_virtual (vs := []) (as := [_]) (by decide) (zl rfl) rfl rfl (zl rfl) (Nat.le_refl _) (Or.inr (Or.inr ⟨zt rfl, rfl, zt rfl⟩)) ?_
                  refine s_seeks (X := pX n I) (by omega) ha (R1.m (hl.f f1 hr6)) (R1.eM f1) R.okX (fun J2 M2 q2 g2 w2 => ?_)
                  have f2 := fS.trans f1 q2
                  have R2 := R.f f2
                  refine r_iload_n rfl ?_
                  refine r_if_ne (fun c_27 => ?_) (fun c_27 => ?_)
                  · have c_27 := (not_congr (n_eq (a := 0) (b := 0) rfl rfl (by omega) (by omega))).mp c_27
                    omega
                  · have c_27 := (n_eq (a := 0) (b := 0) rfl rfl (by omega) (by omega)).mp c_27
                    refine r_aload_n rfl ?_
                    refine r_getI (by decide) rfl rfl (by decide) g2 ?_
                    refine r_goto ?_
                    refine E_go 4 rfl ?_
                    refine r_iret rfl trivial ?_
                    exact hQ _ _ _ R2.rel
                · have c_15 := (n_eq (a := 1) (b := 0) rfl rfl (by omega) (by omega)).mp c_15
                  omega
          · have c_12 := (n_eq (a := 1) (b := 0) rfl rfl (by omega) (by omega)).mp c_12
            omega
      · refine M_go (ls := [_, _, _, _]) (ml := 4) rfl rfl rfl (zl rfl) rfl ?_
        refine r_aload_n rfl ?_
        refine r_iload_n rfl ?_
        refine r_virtual (vs := []) (as := [_]) (by decide) (zl rfl) rfl rfl (zl rfl) (Nat.le_refl _) (Or.inr (Or.inr ⟨zt rfl, rfl, zt rfl⟩)) ?_
        refine s_isAunt (by omega) R.cn h5 ?_
        rw [if_pos (inN_io ha (by omega))]
        refine r_if_eq (fun c_5 => ?_) (fun c_5 => ?_)
        · have c_5 := (n_eq (a := 1) (b := 0) rfl rfl (by omega) (by omega)).mp c_5
          omega
        · have c_5 := (not_congr (n_eq (a := 1) (b := 0) rfl rfl (by omega) (by omega))).mp c_5
          refine r_iload_n rfl ?_
          refine r_static (vs := [_]) (by decide) (zl rfl) rfl rfl (zl rfl) (Nat.le_refl _) rfl ?_
          refine s_isEither (by omega) ?_
          rw [if_pos (inN_io (by omega) (by omega))]
          refine r_if_ne (fun c_12 => ?_) (fun c_12 => ?_)
          · have c_12 := (not_congr (n_eq (a := 1) (b := 0) rfl rfl (by omega) (by omega))).mp c_12
            refine E_go 2 rfl ?_
            refine r_aload_n rfl ?_
            refine r_iload_n rfl ?_
            refine r_virtual (vs := []) (as := [_]) (by decide) (zl rfl) rfl rfl (zl rfl) (Nat.le_refl _) (Or.inr (Or.inr ⟨zt rfl, rfl, zt rfl⟩)) ?_
            refine s_bestPlan (by omega) ha (R.c (hl.f fS.refl hr6)) (fun J3 q3 => ?_)
            skip
            have f3 := q3
            have R3 := R.f f3
            refine r_istore_n (ls' := [_, _, _, _]) (zt rfl) rfl ?_
            refine r_iload_n rfl ?_
            refine r_if_ne (fun c_25 => ?_) (fun c_25 => ?_)
            · have c_25 := (not_congr (n_eq (a := 1) (b := 0) rfl rfl (by omega) (by omega))).mp c_25
              refine E_go 3 rfl ?_
              refine r_aload_n rfl ?_
              refine r_iload_n rfl ?_
              refine r_iload_n rfl ?_
              refine r_virtual (vs := []) (as := [_, _]) (by decide) (zl rfl) rfl rfl (zl rfl) (Nat.le_refl _) (Or.inr (Or.inr ⟨zt rfl, rfl, zt rfl⟩)) ?_
              refine s_shareBy (by omega) ha (R3.c (hl.f f3 hr6)) (fun J4 q4 => ?_)
              rw [f3.pe]
              have f4 := fS.trans f3 (q4.fS (by omega) (by omega))
              have R4 := R.f f4
              refine r_nil ?_
              refine E_go 4 rfl ?_
              refine r_iret rfl trivial ?_
              refine M_go (ls := [_, _, _]) (ml := 3) rfl rfl rfl (zl rfl) rfl ?_
              refine r_aload_n rfl ?_
              refine r_iload_n rfl ?_
              refine r_virtual (vs := []) (as := [_]) (by decide) (zl rfl) rfl rfl (zl rfl) (Nat.le_refl _) (Or.inr (Or.inr ⟨zt rfl, rfl, zt rfl⟩)) ?_
              refine s_isOne (by omega) R4.mn h5 ?_
              rw [if_pos (inN_io ha (by omega))]
              refine r_if_eq (fun c_5 => ?_) (fun c_5 => ?_)
              · have c_5 := (n_eq (a := 1) (b := 0) rfl rfl (by omega) (by omega)).mp c_5
                omega
              · have c_5 := (not_congr (n_eq (a := 1) (b := 0) rfl rfl (by omega) (by omega))).mp c_5
                refine r_iload_n rfl ?_
                refine r_i2l ?_
                refine r_lconst ?_
                refine r_lconst ?_
                refine r_static (vs := [_, _, _]) (by decide) (zl rfl) rfl rfl (zl rfl) (Nat.le_refl _) rfl ?_
                refine s_in0 (by omega) (x := (io 1)) (k := 2) (Int32.toInt_toInt64 _) i64_0 rfl ?_
                rw [if_pos (inN_io (by omega) (by omega))]
                refine r_if_ne (fun c_15 => ?_) (fun c_15 => ?_)
                · have c_15 := (not_congr (n_eq (a := 1) (b := 0) rfl rfl (by omega) (by omega))).mp c_15
                  refine E_go 2 rfl ?_
                  refine r_aload_n rfl ?_
                  refine r_iload_n rfl ?_
                  refine r_virtual (vs := []) (as := [_]) (by decide) (zl rfl) rfl rfl (zl rfl) (Nat.le_refl _) (Or.inr (Or.inr ⟨zt rfl, rfl, zt rfl⟩)) ?_
                  refine s_seeks (X := pX n I) (by omega) ha (R4.m (hl.f f4 hr6)) (R4.eM f4) R.okX (fun J5 M5 q5 g5 w5 => ?_)
                  have f5 := fS.trans f4 q5
                  have R5 := R.f f5
                  refine r_iload_n rfl ?_
                  refine r_if_ne (fun c_27 => ?_) (fun c_27 => ?_)
                  · have c_27 := (not_congr (n_eq (a := 1) (b := 0) rfl rfl (by omega) (by omega))).mp c_27
                    refine E_go 3 rfl ?_
                    refine r_aload_n rfl ?_
                    refine r_getI (by decide) rfl rfl (by decide) w5 ?_
                    refine r_nil ?_
                    refine E_go 4 rfl ?_
                    refine r_iret rfl trivial ?_
                    rw [bst_2]
                    exact hQ _ _ _ R5.rel
                  · have c_27 := (n_eq (a := 1) (b := 0) rfl rfl (by omega) (by omega)).mp c_27
                    omega
                · have c_15 := (n_eq (a := 1) (b := 0) rfl rfl (by omega) (by omega)).mp c_15
                  omega
            · have c_25 := (n_eq (a := 1) (b := 0) rfl rfl (by omega) (by omega)).mp c_25
              omega
          · have c_12 := (n_eq (a := 1) (b := 0) rfl rfl (by omega) (by omega)).mp c_12
            omega
    · refine M_go (ls := [_, _, _, _]) (ml := 4) rfl rfl rfl (zl rfl) rfl ?_
      refine r_aload_n rfl ?_
      refine r_iload_n rfl ?_
      refine r_virtual (vs := []) (as := [_]) (by decide) (zl rfl) rfl rfl (zl rfl) (Nat.le_refl _) (Or.inr (Or.inr ⟨zt rfl, rfl, zt rfl⟩)) ?_
      refine s_isAunt (by omega) R.cn h5 ?_
      rw [if_pos (inN_io ha (by omega))]
      refine r_if_eq (fun c_5 => ?_) (fun c_5 => ?_)
      · have c_5 := (n_eq (a := 1) (b := 0) rfl rfl (by omega) (by omega)).mp c_5
        omega
      · have c_5 := (not_congr (n_eq (a := 1) (b := 0) rfl rfl (by omega) (by omega))).mp c_5
        refine r_iload_n rfl ?_
        refine r_static (vs := [_]) (by decide) (zl rfl) rfl rfl (zl rfl) (Nat.le_refl _) rfl ?_
        refine s_isEither (by omega) ?_
        rw [if_neg hy]
        refine r_if_ne (fun c_12 => ?_) (fun c_12 => ?_)
        · have c_12 := (not_congr (n_eq (a := 0) (b := 0) rfl rfl (by omega) (by omega))).mp c_12
          omega
        · have c_12 := (n_eq (a := 0) (b := 0) rfl rfl (by omega) (by omega)).mp c_12
          refine r_nil ?_
          refine E_go 1 rfl ?_
          refine r_ldc rfl ?_
          refine r_iret rfl trivial ?_
          refine M_go (ls := [_, _, _]) (ml := 3) rfl rfl rfl (zl rfl) rfl ?_
          refine r_aload_n rfl ?_
          refine r_iload_n rfl ?_
          refine r_virtual (vs := []) (as := [_]) (by decide) (zl rfl) rfl rfl (zl rfl) (Nat.le_refl _) (Or.inr (Or.inr ⟨zt rfl, rfl, zt rfl⟩)) ?_
          refine s_isOne (by omega) R.mn h5 ?_
          rw [if_pos (inN_io ha (by omega))]
          refine r_if_eq (fun c_5 => ?_) (fun c_5 => ?_)
          · have c_5 := (n_eq (a := 1) (b := 0) rfl rfl (by omega) (by omega)).mp c_5
            omega
          · have c_5 := (not_congr (n_eq (a := 1) (b := 0) rfl rfl (by omega) (by omega))).mp c_5
            refine r_iload_n rfl ?_
            refine r_i2l ?_
            refine r_lconst ?_
            refine r_lconst ?_
            refine r_static (vs := [_, _, _]) (by decide) (zl rfl) rfl rfl (zl rfl) (Nat.le_refl _) rfl ?_
            refine s_in0 (by omega) (x := y) (k := 2) (Int32.toInt_toInt64 _) i64_0 rfl ?_
            rw [if_neg hy]
            refine r_if_ne (fun c_15 => ?_) (fun c_15 => ?_)
            · have c_15 := (not_congr (n_eq (a := 0) (b := 0) rfl rfl (by omega) (by omega))).mp c_15
              omega
            · have c_15 := (n_eq (a := 0) (b := 0) rfl rfl (by omega) (by omega)).mp c_15
              refine r_nil ?_
              refine E_go 1 rfl ?_
              refine r_ldc rfl ?_
              refine r_iret rfl trivial ?_
              exact hQ _ _ _ R.rel
  · refine M_go (ls := [_, _, _, _]) (ml := 4) rfl rfl rfl (zl rfl) rfl ?_
    refine r_aload_n rfl ?_
    refine r_iload_n rfl ?_
    refine r_virtual (vs := []) (as := [_]) (by decide) (zl rfl) rfl rfl (zl rfl) (Nat.le_refl _) (Or.inr (Or.inr ⟨zt rfl, rfl, zt rfl⟩)) ?_
    refine s_isAunt (by omega) R.cn h5 ?_
    rw [if_neg hx]
    refine r_if_eq (fun c_5 => ?_) (fun c_5 => ?_)
    · have c_5 := (n_eq (a := 0) (b := 0) rfl rfl (by omega) (by omega)).mp c_5
      refine E_go 1 rfl ?_
      refine r_ldc rfl ?_
      refine r_iret rfl trivial ?_
      refine M_go (ls := [_, _, _]) (ml := 3) rfl rfl rfl (zl rfl) rfl ?_
      refine r_aload_n rfl ?_
      refine r_iload_n rfl ?_
      refine r_virtual (vs := []) (as := [_]) (by decide) (zl rfl) rfl rfl (zl rfl) (Nat.le_refl _) (Or.inr (Or.inr ⟨zt rfl, rfl, zt rfl⟩)) ?_
      refine s_isOne (by omega) R.mn h5 ?_
      rw [if_neg hx]
      refine r_if_eq (fun c_5 => ?_) (fun c_5 => ?_)
      · have c_5 := (n_eq (a := 0) (b := 0) rfl rfl (by omega) (by omega)).mp c_5
        refine E_go 1 rfl ?_
        refine r_ldc rfl ?_
        refine r_iret rfl trivial ?_
        exact hQ _ _ _ R.rel
      · have c_5 := (not_congr (n_eq (a := 0) (b := 0) rfl rfl (by omega) (by omega))).mp c_5
        omega
    · have c_5 := (not_congr (n_eq (a := 0) (b := 0) rfl rfl (by omega) (by omega))).mp c_5
      omega

/-- would anybody from a on rather have another plan? -/
def rsl (ru : Ru) (X : Pot) : Nat → Nat → Int32
  | 0, _ => 1
  | d + 1, a => if shr ru X a < (bst (shv ru X a) 63).2 then 0 else rsl ru X d (a + 1)
theorem rsl_y {ru : Ru} {X : Pot} {d a : Nat} (hd : 0 < d) (h : shr ru X a < (bst (shv ru X a) 63).2) : rsl ru X d a = 0 := by
  obtain ⟨e, rfl⟩ : ∃ e, d = e + 1 := ⟨d - 1, by omega⟩
  exact if_pos h
theorem rsl_n {ru : Ru} {X : Pot} {d a : Nat} (hd : 0 < d) (h : ¬ shr ru X a < (bst (shv ru X a) 63).2) : rsl ru X d a = rsl ru X (d - 1) (a + 1) := by
  obtain ⟨e, rfl⟩ : ∃ e, d = e + 1 := ⟨d - 1, by omega⟩
  exact if_neg h

set_option maxRecDepth 10000 in
theorem s_crest {xs : xSc} {m : Nat} {I : Nat → Nat → Int32} {L : Nat → Nat → Int64} {Q : Value → xHp → Prop} (hm : 9 ≤ m) {n r : Nat} {ru : Ru} (h : CC n r ru I) (hQ : ∀ J, fS I J → Q (.int (rsl ru (pX n I) n 0)) (Hp J L)) : M xs m xi_X6_rest [.ref 0] (Hp I L) Q := by
  obtain ⟨m, rfl⟩ : ∃ k, m = k + 1 := ⟨m - 1, by omega⟩
  have h5 := h.1.2.1
  have key : ∀ d a, a + d = n → rsl ru (pX n I) n 0 = rsl ru (pX n I) d a → ∀ J, fS I J → E xs m xi_X6_rest 82 Q 2 [.ref 0, .int (io a)] [] (82, J, L, xF0) := by
    intro d
    induction d using Nat.strongRecOn with
    | _ d ih =>
    intro a hd hr0 J hJ
    refine E_go 1 rfl ?_
    refine r_iload_n rfl ?_
    refine r_aload_n rfl ?_
    refine r_getA (q := 1) (by decide) rfl rfl (by decide) ?_
    refine r_getI (by decide) rfl rfl (by decide) ((congrFun (hJ.1 1 (by omega)) 3).trans h.1.1) ?_
    refine r_icmp_ge (fun c_10 => ?_) (fun c_10 => ?_)
    · have c_10 := (n_le (a := n) (b := a) rfl rfl (by omega) (by omega)).mp c_10
      refine E_go 3 rfl ?_
      refine r_iconst ?_
      refine r_iret rfl trivial ?_
      rw [hr0, show d = 0 by omega] at hQ
      exact hQ _ hJ
    · have c_10 := (not_congr (n_le (a := n) (b := a) rfl rfl (by omega) (by omega))).mp c_10
      refine r_aload_n rfl ?_
      refine r_iload_n rfl ?_
      refine r_aload_n rfl ?_
      refine r_iload_n rfl ?_
      refine r_virtual (vs := []) (as := [_]) (by decide) (zl rfl) rfl rfl (zl rfl) (Nat.le_refl _) (Or.inr (Or.inr ⟨zt rfl, rfl, zt rfl⟩)) ?_
      have ha : a < n := by omega
      refine s_bestPlan (by omega) ha (h.f hJ) (fun J1 q1 => ?_)
      rw [hJ.pe]
      have f1 := hJ.trans q1
      refine r_virtual (vs := []) (as := [_, _]) (by decide) (zl rfl) rfl rfl (zl rfl) (Nat.le_refl _) (Or.inr (Or.inr ⟨zt rfl, rfl, zt rfl⟩)) ?_
      refine s_wouldRather (by omega) ha (h.f f1) (fun J2 q2 => ?_)
      rw [f1.pe, show shr ru (wP (pX n I) a (io (bst (shv ru (pX n I) a) 63).1)) a = (bst (shv ru (pX n I) a) 63).2 from (bst_2 (shv ru (pX n I) a) 63).symm]
      have f2 := f1.trans q2
      refine r_if_eq (fun c_23 => ?_) (fun c_23 => ?_)
      · refine E_go 2 rfl ?_
        refine r_iincN (y := io (a + 1)) (ls' := [_, _]) rfl (zt rfl) (n_add (a := a) (b := 1) rfl rfl) rfl ?_
        refine r_goto ?_
        exact ih (d - 1) (by omega) (a + 1) (by omega) (hr0.trans (rsl_n (by omega) (b01.mp c_23))) _ f2
      · refine r_iconst ?_
        refine r_iret rfl trivial ?_
        rw [hr0, rsl_y (by omega) (b01n.mp c_23)] at hQ
        exact hQ _ f2
  refine M_go (ls := [_, _]) (ml := 2) rfl rfl rfl (zl rfl) rfl ?_
  refine r_iconst ?_
  refine r_istore_n (ls' := [_, _]) (zt rfl) rfl ?_
  refine r_nil ?_
  exact key n 0 (by omega) rfl I fS.refl

theorem pEq.mf {n : Nat} {I J : Nat → Nat → Int32} {X : Pot} (h : pEq (mP n (I 61 7) I) X) (f : fS I J) : pEq (mP n (J 61 7) J) X := by
  rw [f.2.2 7 (by omega), mP_f f]
  exact h

set_option maxRecDepth 10000 in
theorem s_mrest {xs : xSc} {m : Nat} {I : Nat → Nat → Int32} {L : Nat → Nat → Int64} {Q : Value → xHp → Prop} (hm : 67 ≤ m) {n r : Nat} {ru : Ru} {X : Pot} (h : MC n r ru I) (hX : pEq (mP n (I 61 7) I) X) (ho : okX X) (hQ : ∀ J L2, fS I J → Q (.int (rsl ru X n 0)) (Hp J L2)) : M xs m xi_X7_rest [.ref 61] (Hp I L) Q := by
  obtain ⟨m, rfl⟩ : ∃ k, m = k + 1 := ⟨m - 1, by omega⟩
  have h5 := h.1.2.1
  have key : ∀ d a, a + d = n → rsl ru X n 0 = rsl ru X d a → ∀ J L2, fS I J → E xs m xi_X7_rest 82 Q 2 [.ref 61, .int (io a)] [] (82, J, L2, xF0) := by
    intro d
    induction d using Nat.strongRecOn with
    | _ d ih =>
    intro a hd hr0 J L2 hJ
    refine E_go 1 rfl ?_
    refine r_iload_n rfl ?_
    refine r_aload_n rfl ?_
    refine r_getI (by decide) rfl rfl (by decide) ((hJ.2.2 12 (by omega)).trans h.1.1) ?_
    refine r_icmp_ge (fun c_7 => ?_) (fun c_7 => ?_)
    · have c_7 := (n_le (a := n) (b := a) rfl rfl (by omega) (by omega)).mp c_7
      refine E_go 3 rfl ?_
      refine r_iconst ?_
      refine r_iret rfl trivial ?_
      rw [hr0, show d = 0 by omega] at hQ
      exact hQ _ _ hJ
    · have c_7 := (not_congr (n_le (a := n) (b := a) rfl rfl (by omega) (by omega))).mp c_7
      refine r_aload_n rfl ?_
      refine r_iload_n rfl ?_
      refine r_virtual (vs := []) (as := [_]) (by decide) (zl rfl) rfl rfl (zl rfl) (Nat.le_refl _) (Or.inr (Or.inr ⟨zt rfl, rfl, zt rfl⟩)) ?_
      have ha : a < n := by omega
      refine s_seeks (X := X) (by omega) ha (h.f hJ) (hX.mf hJ) ho (fun J1 M1 q1 g1 w1 => ?_)
      have f1 := hJ.trans q1
      refine r_aload_n rfl ?_
      refine r_getI (by decide) rfl rfl (by decide) w1 ?_
      refine r_aload_n rfl ?_
      refine r_iload_n rfl ?_
      refine r_virtual (vs := []) (as := [_]) (by decide) (zl rfl) rfl rfl (zl rfl) (Nat.le_refl _) (Or.inr (Or.inr ⟨zt rfl, rfl, zt rfl⟩)) ?_
      refine s_shareOf (X := X) (by omega) ha (h.f f1) (hX.mf f1) ho (fun J2 M2 q2 p2 => ?_)
      have f2 := f1.trans q2.fS
      refine r_icmp_le (fun c_24 => ?_) (fun c_24 => ?_)
      · refine E_go 2 rfl ?_
        refine r_iincN (y := io (a + 1)) (ls' := [_, _]) rfl (zt rfl) (n_add (a := a) (b := 1) rfl rfl) rfl ?_
        refine r_goto ?_
        exact ih (d - 1) (by omega) (a + 1) (by omega) (hr0.trans (rsl_n (by omega) (Int32.not_lt.mpr c_24))) _ _ f2
      · refine r_iconst ?_
        refine r_iret rfl trivial ?_
        rw [hr0, rsl_y (by omega) (Int32.not_le.mp c_24)] at hQ
        exact hQ _ _ f2
  refine M_go (ls := [_, _]) (ml := 2) rfl rfl rfl (zl rfl) rfl ?_
  refine r_iconst ?_
  refine r_istore_n (ls' := [_, _]) (zt rfl) rfl ?_
  refine r_nil ?_
  exact key n 0 (by omega) rfl I L fS.refl

theorem tz_rest {xs : xSc} {m : Nat} {I : Nat → Nat → Int32} {L : Nat → Nat → Int64} {Q : Value → Value → xHp → Prop} (hm : 90 ≤ m) (hR : Rel I) (hQ : ∀ (x : Int32) J L2, Rel J → Q (.int x) (.int x) (Hp J L2)) : M xs m xi_X6_rest [.ref 0] (Hp I L) (fun r1 h1 => M xs m xi_X7_rest [.ref 61] h1 (fun r2 h2 => Q r1 r2 h2)) := by
  obtain ⟨n, tc, r, tp, R⟩ := hR
  obtain ⟨ru, hl⟩ := R.rl
  refine s_crest (by omega) (R.c hl) (fun J f1 => ?_)
  have R1 := R.f f1
  exact s_mrest (by omega) (R1.m (hl.f f1 R.r6)) (R1.eM f1) R.okX (fun J2 L2 f2 => hQ _ _ _ (R1.f f2).rel)

/-- who of the first has most -/
def grd (f : Nat → Int32) : Nat → Nat
  | 0 => 0
  | 1 => 0
  | a + 2 => if f (grd f (a + 1)) < f (a + 1) then a + 1 else grd f (a + 1)
theorem grd_lt (f : Nat → Int32) : ∀ a, 0 < a → grd f a < a
  | 0, h => absurd h (by omega)
  | 1, _ => Nat.zero_lt_one
  | a + 2, _ => by
    have := grd_lt f (a + 1) (by omega)
    rw [grd]
    split <;> omega
theorem grd_y {f : Nat → Int32} {a : Nat} (ha : 0 < a) (h : f (grd f a) < f a) : grd f (a + 1) = a := by
  obtain ⟨b, rfl⟩ : ∃ b, a = b + 1 := ⟨a - 1, by omega⟩
  exact if_pos h
theorem grd_n {f : Nat → Int32} {a : Nat} (ha : 0 < a) (h : ¬ f (grd f a) < f a) : grd f (a + 1) = grd f a := by
  obtain ⟨b, rfl⟩ : ∃ b, a = b + 1 := ⟨a - 1, by omega⟩
  exact if_neg h

set_option maxRecDepth 10000 in
theorem tz_greediest {xs : xSc} {m : Nat} {I : Nat → Nat → Int32} {L : Nat → Nat → Int64} {Q : Value → Value → xHp → Prop} (hm : 90 ≤ m) (hR : Rel I) {x : Int32} (hQ : ∀ (x : Int32) J L2, Rel J → Q (.int x) (.int x) (Hp J L2)) : M xs m xi_X6_greediest [.ref 0, .int x] (Hp I L) (fun r1 h1 => M xs m xi_X7_greediest [.ref 61, .int x] h1 (fun r2 h2 => Q r1 r2 h2)) := by
  obtain ⟨m, rfl⟩ : ∃ k, m = k + 6 := ⟨m - 6, by omega⟩
  obtain ⟨n, tc, r, tp, R⟩ := hR
  have h5 := R.n5
  have hr6 := R.r6
  have ht6 := R.t6
  have hrt := R.rt
  have hp160 := R.2.2.1.1.1
  obtain ⟨ru, hl⟩ := R.rl
  by_cases hy : inN 2 x
  · obtain ⟨k, hk, rfl⟩ := inN_ex hy (by omega)
    have ek : k = 0 ∨ k = 1 := by omega
    rcases ek with rfl | rfl
    · by_cases h0 : n = 0
      · refine M_go (ls := [_, _, _, _, _]) (ml := 5) rfl rfl rfl (zl rfl) rfl ?_
        refine r_iload_n rfl ?_
        refine r_static (vs := [_]) (by decide) (zl rfl) rfl rfl (zl rfl) (Nat.le_refl _) rfl ?_
        refine s_isEither (by omega) ?_
        rw [if_pos (inN_io (by omega) (by omega))]
        refine r_if_ne (fun c_4 => ?_) (fun c_4 => ?_)
        · have c_4 := (not_congr (n_eq (a := 1) (b := 0) rfl rfl (by omega) (by omega))).mp c_4
          refine E_go 1 rfl ?_
          refine r_aload_n rfl ?_
          refine r_aload_n rfl ?_
          refine r_getA (q := 1) (by decide) rfl rfl (by decide) ?_
          refine r_virtual (vs := []) (as := [_]) (by decide) (zl rfl) rfl rfl (zl rfl) (Nat.le_refl _) (Or.inr (Or.inr ⟨zt rfl, rfl, zt rfl⟩)) ?_
          refine w_think (by omega) (R.c hl) (fun J1 k1 k2 => ?_)
          have f1 := k1.fS (by omega) (by omega)
          have R1 := R.f f1
          refine r_iconst ?_
          refine r_istore_n (ls' := [_, _, _, _, _]) (zt rfl) rfl ?_
          refine r_iconst ?_
          refine r_istore_n (ls' := [_, _, _, _, _]) (zt rfl) rfl ?_
          refine r_iconst ?_
          refine r_istore (ls' := [_, _, _, _, _]) (zt rfl) rfl ?_
          refine r_nil ?_
          refine E_go 2 rfl ?_
          refine r_iload rfl ?_
          refine r_aload_n rfl ?_
          refine r_getA (q := 1) (by decide) rfl rfl (by decide) ?_
          refine r_getI (by decide) rfl rfl (by decide) R1.cn ?_
          refine r_icmp_ge (fun c_34 => ?_) (fun c_34 => ?_)
          · have c_34 := (n_le (a := n) (b := 0) rfl rfl (by omega) (by omega)).mp c_34
            refine E_go 5 rfl ?_
            refine r_iload_n rfl ?_
            refine r_if_ne (fun c_77 => ?_) (fun c_77 => ?_)
            · have c_77 := (not_congr (n_eq (a := 0) (b := 0) rfl rfl (by omega) (by omega))).mp c_77
              omega
            · have c_77 := (n_eq (a := 0) (b := 0) rfl rfl (by omega) (by omega)).mp c_77
              refine r_iload_n rfl ?_
              refine r_goto ?_
              refine E_go 7 rfl ?_
              refine r_iret rfl trivial ?_
              refine M_go (ls := [_, _, _, _]) (ml := 4) rfl rfl rfl (zl rfl) rfl ?_
              refine r_iload_n rfl ?_
              refine r_i2l ?_
              refine r_lconst ?_
              refine r_lconst ?_
              refine r_static (vs := [_, _, _]) (by decide) (zl rfl) rfl rfl (zl rfl) (Nat.le_refl _) rfl ?_
              refine s_in0 (by omega) (x := (io 0)) (k := 2) (Int32.toInt_toInt64 _) i64_0 rfl ?_
              rw [if_pos (inN_io (by omega) (by omega))]
              refine r_if_ne (fun c_7 => ?_) (fun c_7 => ?_)
              · have c_7 := (not_congr (n_eq (a := 1) (b := 0) rfl rfl (by omega) (by omega))).mp c_7
                refine E_go 1 rfl ?_
                refine r_aload_n rfl ?_
                refine r_aload_n rfl ?_
                refine r_getI (by decide) rfl rfl (by decide) rfl ?_
                refine r_virtual (vs := []) (as := [_]) (by decide) (zl rfl) rfl rfl (zl rfl) (Nat.le_refl _) (Or.inr (Or.inr ⟨zt rfl, rfl, zt rfl⟩)) ?_
                refine w_lives (by omega) (R1.m (hl.f f1 hr6)) (R1.eM f1) R.okX (fun J2 L2 j1 j2 => ?_)
                have R2 := R1.f j1.fS
                refine r_iconst ?_
                refine r_istore_n (ls' := [_, _, _, _]) (zt rfl) rfl ?_
                refine r_iconst ?_
                refine r_istore_n (ls' := [_, _, _, _]) (zt rfl) rfl ?_
                refine r_nil ?_
                refine E_go 2 rfl ?_
                refine r_iload_n rfl ?_
                refine r_aload_n rfl ?_
                refine r_getI (by decide) rfl rfl (by decide) R2.mn ?_
                refine r_icmp_ge (fun c_30 => ?_) (fun c_30 => ?_)
                · have c_30 := (n_le (a := n) (b := 0) rfl rfl (by omega) (by omega)).mp c_30
                  refine E_go 6 rfl ?_
                  refine r_iload_n rfl ?_
                  refine r_if_ne (fun c_66 => ?_) (fun c_66 => ?_)
                  · have c_66 := (not_congr (n_eq (a := 0) (b := 0) rfl rfl (by omega) (by omega))).mp c_66
                    omega
                  · have c_66 := (n_eq (a := 0) (b := 0) rfl rfl (by omega) (by omega)).mp c_66
                    refine r_iload_n rfl ?_
                    refine r_goto ?_
                    refine E_go 9 rfl ?_
                    refine r_iret rfl trivial ?_
                    exact hQ _ _ _ R2.rel
                · have c_30 := (not_congr (n_le (a := n) (b := 0) rfl rfl (by omega) (by omega))).mp c_30
                  omega
              · have c_7 := (n_eq (a := 1) (b := 0) rfl rfl (by omega) (by omega)).mp c_7
                omega
          · have c_34 := (not_congr (n_le (a := n) (b := 0) rfl rfl (by omega) (by omega))).mp c_34
            omega
        · have c_4 := (n_eq (a := 1) (b := 0) rfl rfl (by omega) (by omega)).mp c_4
          omega
      · refine M_go (ls := [_, _, _, _, _]) (ml := 5) rfl rfl rfl (zl rfl) rfl ?_
        refine r_iload_n rfl ?_
        refine r_static (vs := [_]) (by decide) (zl rfl) rfl rfl (zl rfl) (Nat.le_refl _) rfl ?_
        refine s_isEither (by omega) ?_
        rw [if_pos (inN_io (by omega) (by omega))]
        refine r_if_ne (fun c_4 => ?_) (fun c_4 => ?_)
        · have c_4 := (not_congr (n_eq (a := 1) (b := 0) rfl rfl (by omega) (by omega))).mp c_4
          refine E_go 1 rfl ?_
          refine r_aload_n rfl ?_
          refine r_aload_n rfl ?_
          refine r_getA (q := 1) (by decide) rfl rfl (by decide) ?_
          refine r_virtual (vs := []) (as := [_]) (by decide) (zl rfl) rfl rfl (zl rfl) (Nat.le_refl _) (Or.inr (Or.inr ⟨zt rfl, rfl, zt rfl⟩)) ?_
          refine w_think (by omega) (R.c hl) (fun J1 k1 k2 => ?_)
          have f1 := k1.fS (by omega) (by omega)
          have R1 := R.f f1
          refine r_iconst ?_
          refine r_istore_n (ls' := [_, _, _, _, _]) (zt rfl) rfl ?_
          refine r_iconst ?_
          refine r_istore_n (ls' := [_, _, _, _, _]) (zt rfl) rfl ?_
          refine r_iconst ?_
          refine r_istore (ls' := [_, _, _, _, _]) (zt rfl) rfl ?_
          refine r_nil ?_
          refine E_go 2 rfl ?_
          refine r_iload rfl ?_
          refine r_aload_n rfl ?_
          refine r_getA (q := 1) (by decide) rfl rfl (by decide) ?_
          refine r_getI (by decide) rfl rfl (by decide) R1.cn ?_
          refine r_icmp_ge (fun c_34 => ?_) (fun c_34 => ?_)
          · have c_34 := (n_le (a := n) (b := 0) rfl rfl (by omega) (by omega)).mp c_34
            omega
          · have c_34 := (not_congr (n_le (a := n) (b := 0) rfl rfl (by omega) (by omega))).mp c_34
            refine r_iload_n rfl ?_
            refine r_iconst ?_
            refine r_icmp_eq (fun c_39 => ?_) (fun c_39 => ?_)
            · refine E_go 3 rfl ?_
              refine r_iload rfl ?_
              refine r_istore_n (ls' := [_, _, _, _, _]) (zt rfl) rfl ?_
              refine r_aload_n rfl ?_
              refine r_getA (q := 19) (by decide) rfl rfl (by decide) ?_
              refine r_getA (q := 22) (by decide) rfl rfl (by decide) ?_
              refine r_iload rfl ?_
              refine r_iaload (by decide) rfl (by decide) (ixE rfl (show 0 < 5 by omega) (by decide)) (hD_j k2 (a := 0) (by omega)) ?_
              refine r_istore_n (ls' := [_, _, _, _, _]) (zt rfl) rfl ?_
              refine r_nil ?_
              refine E_go 4 rfl ?_
              refine r_iincN (y := io 1) (ls' := [_, _, _, _, _]) rfl (zt rfl) rfl rfl ?_
              refine r_goto ?_
              have fin : M xs (m + 6) xi_X7_greediest [.ref 61, .int 0] (Hp J1 L) (fun r2 h2 => Q (.int (io (grd (shr ru (pX n I)) n))) r2 h2) := by
                refine M_go (ls := [_, _, _, _]) (ml := 4) rfl rfl rfl (zl rfl) rfl ?_
                refine r_iload_n rfl ?_
                refine r_i2l ?_
                refine r_lconst ?_
                refine r_lconst ?_
                refine r_static (vs := [_, _, _]) (by decide) (zl rfl) rfl rfl (zl rfl) (Nat.le_refl _) rfl ?_
                refine s_in0 (by omega) (x := (io 0)) (k := 2) (Int32.toInt_toInt64 _) i64_0 rfl ?_
                rw [if_pos (inN_io (by omega) (by omega))]
                refine r_if_ne (fun c_7 => ?_) (fun c_7 => ?_)
                · have c_7 := (not_congr (n_eq (a := 1) (b := 0) rfl rfl (by omega) (by omega))).mp c_7
                  refine E_go 1 rfl ?_
                  refine r_aload_n rfl ?_
                  refine r_aload_n rfl ?_
                  refine r_getI (by decide) rfl rfl (by decide) rfl ?_
                  refine r_virtual (vs := []) (as := [_]) (by decide) (zl rfl) rfl rfl (zl rfl) (Nat.le_refl _) (Or.inr (Or.inr ⟨zt rfl, rfl, zt rfl⟩)) ?_
                  refine w_lives (by omega) (R1.m (hl.f f1 hr6)) (R1.eM f1) R.okX (fun J2 L2 j1 j2 => ?_)
                  have R2 := R1.f j1.fS
                  refine r_iconst ?_
                  refine r_istore_n (ls' := [_, _, _, _]) (zt rfl) rfl ?_
                  refine r_iconst ?_
                  refine r_istore_n (ls' := [_, _, _, _]) (zt rfl) rfl ?_
                  refine r_nil ?_
                  refine E_go 2 rfl ?_
                  refine r_iload_n rfl ?_
                  refine r_aload_n rfl ?_
                  refine r_getI (by decide) rfl rfl (by decide) R2.mn ?_
                  refine r_icmp_ge (fun c_30 => ?_) (fun c_30 => ?_)
                  · have c_30 := (n_le (a := n) (b := 0) rfl rfl (by omega) (by omega)).mp c_30
                    omega
                  · have c_30 := (not_congr (n_le (a := n) (b := 0) rfl rfl (by omega) (by omega))).mp c_30
                    refine r_iload_n rfl ?_
                    refine r_iconst ?_
                    refine r_icmp_eq (fun c_35 => ?_) (fun c_35 => ?_)
                    · refine E_go 3 rfl ?_
                      refine r_iload_n rfl ?_
                      refine r_goto ?_
                      refine E_go 5 rfl ?_
                      refine r_istore_n (ls' := [_, _, _, _]) (zt rfl) rfl ?_
                      refine r_iincN (y := io 1) (ls' := [_, _, _, _]) rfl (zt rfl) rfl rfl ?_
                      refine r_goto ?_
                      have key : ∀ d a, a + d = n → 0 < a → E xs (m + 5) xi_X7_greediest 82 (fun r2 h2 => Q (.int (io (grd (shr ru (pX n I)) n))) r2 h2) 25 [.ref 61, .int 0, .int (io (grd (shr ru (pX n I)) a)), .int (io a)] [] (82, J2, L2, xF0) := by
                        intro d
                        induction d using Nat.strongRecOn with
                        | _ d ih =>
                        intro a hd ha
                        refine E_go 2 rfl ?_
                        refine r_iload_n rfl ?_
                        refine r_aload_n rfl ?_
                        refine r_getI (by decide) rfl rfl (by decide) R2.mn ?_
                        refine r_icmp_ge (fun c_30 => ?_) (fun c_30 => ?_)
                        · have c_30 := (n_le (a := n) (b := a) rfl rfl (by omega) (by omega)).mp c_30
                          refine E_go 6 rfl ?_
                          have hg := grd_lt (shr ru (pX n I)) a (by omega)
                          refine r_iload_n rfl ?_
                          refine r_if_ne (fun c_66 => ?_) (fun c_66 => ?_)
                          · have c_66 := (not_congr (n_eq (a := 0) (b := 0) rfl rfl (by omega) (by omega))).mp c_66
                            omega
                          · have c_66 := (n_eq (a := 0) (b := 0) rfl rfl (by omega) (by omega)).mp c_66
                            refine r_iload_n rfl ?_
                            refine r_goto ?_
                            refine E_go 9 rfl ?_
                            refine r_iret rfl trivial ?_
                            have e : a = n := by omega
                            subst e
                            exact hQ _ _ _ R2.rel
                        · have c_30 := (not_congr (n_le (a := n) (b := a) rfl rfl (by omega) (by omega))).mp c_30
                          have hg := grd_lt (shr ru (pX n I)) a (by omega)
                          refine r_iload_n rfl ?_
                          refine r_iconst ?_
                          refine r_icmp_eq (fun c_35 => ?_) (fun c_35 => ?_)
                          · exact absurd c_35 (io_m1 (by omega))
                          · refine r_aload_n rfl ?_
                            refine r_getA (q := 70) (by decide) rfl rfl (by decide) ?_
                            refine r_iload_n rfl ?_
                            refine r_iaload (by decide) rfl (by decide) (ixE rfl (show a < 5 by omega) (by decide)) (mD_j j2 (a := a) (by omega)) ?_
                            refine r_aload_n rfl ?_
                            refine r_getA (q := 70) (by decide) rfl rfl (by decide) ?_
                            refine r_iload_n rfl ?_
                            refine r_iaload (by decide) rfl (by decide) (ixE rfl (show (grd (shr ru (pX n I)) a) < 5 by omega) (by decide)) (mD_j j2 (a := (grd (shr ru (pX n I)) a)) (by omega)) ?_
                            refine r_icmp_le (fun c_50 => ?_) (fun c_50 => ?_)
                            · refine E_go 4 rfl ?_
                              refine r_iload_n rfl ?_
                              refine r_nil ?_
                              refine E_go 5 rfl ?_
                              refine r_istore_n (ls' := [_, _, _, _]) (zt rfl) rfl ?_
                              refine r_iincN (y := io (a + 1)) (ls' := [_, _, _, _]) rfl (zt rfl) (n_add (a := a) (b := 1) rfl rfl) rfl ?_
                              refine r_goto ?_
                              have e := grd_n (f := (shr ru (pX n I))) (a := a) (by omega) (Int32.not_lt.mpr c_50)
                              have hx := ih (d - 1) (by omega) (a + 1) (by omega) (by omega)
                              rw [e] at hx
                              exact hx
                            · refine r_nil ?_
                              refine E_go 3 rfl ?_
                              refine r_iload_n rfl ?_
                              refine r_goto ?_
                              refine E_go 5 rfl ?_
                              refine r_istore_n (ls' := [_, _, _, _]) (zt rfl) rfl ?_
                              refine r_iincN (y := io (a + 1)) (ls' := [_, _, _, _]) rfl (zt rfl) (n_add (a := a) (b := 1) rfl rfl) rfl ?_
                              refine r_goto ?_
                              have e := grd_y (f := (shr ru (pX n I))) (a := a) (by omega) (Int32.not_le.mp c_50)
                              have hx := ih (d - 1) (by omega) (a + 1) (by omega) (by omega)
                              rw [e] at hx
                              exact hx
                      exact key (n - 1) 1 (by omega) (by omega)
                    · exact absurd rfl c_35
                · have c_7 := (n_eq (a := 1) (b := 0) rfl rfl (by omega) (by omega)).mp c_7
                  omega
              have key : ∀ d a, a + d = n → 0 < a → E xs (m + 5) xi_X6_greediest 82 (fun r1 h1 => M xs (m + 6) xi_X7_greediest [.ref 61, .int 0] h1 (fun r2 h2 => Q r1 r2 h2)) 25 [.ref 0, .int 0, .int (io (grd (shr ru (pX n I)) a)), .int ((shr ru (pX n I)) (grd (shr ru (pX n I)) a)), .int (io a)] [] (82, J1, L, xF0) := by
                intro d
                induction d using Nat.strongRecOn with
                | _ d ih =>
                intro a hd ha
                refine E_go 2 rfl ?_
                refine r_iload rfl ?_
                refine r_aload_n rfl ?_
                refine r_getA (q := 1) (by decide) rfl rfl (by decide) ?_
                refine r_getI (by decide) rfl rfl (by decide) R1.cn ?_
                refine r_icmp_ge (fun c_34 => ?_) (fun c_34 => ?_)
                · have c_34 := (n_le (a := n) (b := a) rfl rfl (by omega) (by omega)).mp c_34
                  refine E_go 5 rfl ?_
                  have hg := grd_lt (shr ru (pX n I)) a (by omega)
                  refine r_iload_n rfl ?_
                  refine r_if_ne (fun c_77 => ?_) (fun c_77 => ?_)
                  · have c_77 := (not_congr (n_eq (a := 0) (b := 0) rfl rfl (by omega) (by omega))).mp c_77
                    omega
                  · have c_77 := (n_eq (a := 0) (b := 0) rfl rfl (by omega) (by omega)).mp c_77
                    refine r_iload_n rfl ?_
                    refine r_goto ?_
                    refine E_go 7 rfl ?_
                    refine r_iret rfl trivial ?_
                    have e : a = n := by omega
                    subst e
                    exact fin
                · have c_34 := (not_congr (n_le (a := n) (b := a) rfl rfl (by omega) (by omega))).mp c_34
                  have hg := grd_lt (shr ru (pX n I)) a (by omega)
                  refine r_iload_n rfl ?_
                  refine r_iconst ?_
                  refine r_icmp_eq (fun c_39 => ?_) (fun c_39 => ?_)
                  · exact absurd c_39 (io_m1 (by omega))
                  · refine r_aload_n rfl ?_
                    refine r_getA (q := 19) (by decide) rfl rfl (by decide) ?_
                    refine r_getA (q := 22) (by decide) rfl rfl (by decide) ?_
                    refine r_iload rfl ?_
                    refine r_iaload (by decide) rfl (by decide) (ixE rfl (show a < 5 by omega) (by decide)) (hD_j k2 (a := a) (by omega)) ?_
                    refine r_iload_n rfl ?_
                    refine r_icmp_le (fun c_53 => ?_) (fun c_53 => ?_)
                    · refine E_go 4 rfl ?_
                      refine r_iincN (y := io (a + 1)) (ls' := [_, _, _, _, _]) rfl (zt rfl) (n_add (a := a) (b := 1) rfl rfl) rfl ?_
                      refine r_goto ?_
                      have e := grd_n (f := (shr ru (pX n I))) (a := a) (by omega) (Int32.not_lt.mpr c_53)
                      have hx := ih (d - 1) (by omega) (a + 1) (by omega) (by omega)
                      rw [e] at hx
                      exact hx
                    · refine r_nil ?_
                      refine E_go 3 rfl ?_
                      refine r_iload rfl ?_
                      refine r_istore_n (ls' := [_, _, _, _, _]) (zt rfl) rfl ?_
                      refine r_aload_n rfl ?_
                      refine r_getA (q := 19) (by decide) rfl rfl (by decide) ?_
                      refine r_getA (q := 22) (by decide) rfl rfl (by decide) ?_
                      refine r_iload rfl ?_
                      refine r_iaload (by decide) rfl (by decide) (ixE rfl (show a < 5 by omega) (by decide)) (hD_j k2 (a := a) (by omega)) ?_
                      refine r_istore_n (ls' := [_, _, _, _, _]) (zt rfl) rfl ?_
                      refine r_nil ?_
                      refine E_go 4 rfl ?_
                      refine r_iincN (y := io (a + 1)) (ls' := [_, _, _, _, _]) rfl (zt rfl) (n_add (a := a) (b := 1) rfl rfl) rfl ?_
                      refine r_goto ?_
                      have e := grd_y (f := (shr ru (pX n I))) (a := a) (by omega) (Int32.not_le.mp c_53)
                      have hx := ih (d - 1) (by omega) (a + 1) (by omega) (by omega)
                      rw [e] at hx
                      exact hx
              exact key (n - 1) 1 (by omega) (by omega)
            · exact absurd rfl c_39
        · have c_4 := (n_eq (a := 1) (b := 0) rfl rfl (by omega) (by omega)).mp c_4
          omega
    · by_cases h0 : n = 0
      · refine M_go (ls := [_, _, _, _, _]) (ml := 5) rfl rfl rfl (zl rfl) rfl ?_
        refine r_iload_n rfl ?_
        refine r_static (vs := [_]) (by decide) (zl rfl) rfl rfl (zl rfl) (Nat.le_refl _) rfl ?_
        refine s_isEither (by omega) ?_
        rw [if_pos (inN_io (by omega) (by omega))]
        refine r_if_ne (fun c_4 => ?_) (fun c_4 => ?_)
        · have c_4 := (not_congr (n_eq (a := 1) (b := 0) rfl rfl (by omega) (by omega))).mp c_4
          refine E_go 1 rfl ?_
          refine r_aload_n rfl ?_
          refine r_aload_n rfl ?_
          refine r_getA (q := 1) (by decide) rfl rfl (by decide) ?_
          refine r_virtual (vs := []) (as := [_]) (by decide) (zl rfl) rfl rfl (zl rfl) (Nat.le_refl _) (Or.inr (Or.inr ⟨zt rfl, rfl, zt rfl⟩)) ?_
          refine w_think (by omega) (R.c hl) (fun J1 k1 k2 => ?_)
          have f1 := k1.fS (by omega) (by omega)
          have R1 := R.f f1
          refine r_iconst ?_
          refine r_istore_n (ls' := [_, _, _, _, _]) (zt rfl) rfl ?_
          refine r_iconst ?_
          refine r_istore_n (ls' := [_, _, _, _, _]) (zt rfl) rfl ?_
          refine r_iconst ?_
          refine r_istore (ls' := [_, _, _, _, _]) (zt rfl) rfl ?_
          refine r_nil ?_
          refine E_go 2 rfl ?_
          refine r_iload rfl ?_
          refine r_aload_n rfl ?_
          refine r_getA (q := 1) (by decide) rfl rfl (by decide) ?_
          refine r_getI (by decide) rfl rfl (by decide) R1.cn ?_
          refine r_icmp_ge (fun c_34 => ?_) (fun c_34 => ?_)
          · have c_34 := (n_le (a := n) (b := 0) rfl rfl (by omega) (by omega)).mp c_34
            refine E_go 5 rfl ?_
            refine r_iload_n rfl ?_
            refine r_if_ne (fun c_77 => ?_) (fun c_77 => ?_)
            · have c_77 := (not_congr (n_eq (a := 1) (b := 0) rfl rfl (by omega) (by omega))).mp c_77
              refine E_go 6 rfl ?_
              refine r_iload_n rfl ?_
              refine r_nil ?_
              refine E_go 7 rfl ?_
              refine r_iret rfl trivial ?_
              refine M_go (ls := [_, _, _, _]) (ml := 4) rfl rfl rfl (zl rfl) rfl ?_
              refine r_iload_n rfl ?_
              refine r_i2l ?_
              refine r_lconst ?_
              refine r_lconst ?_
              refine r_static (vs := [_, _, _]) (by decide) (zl rfl) rfl rfl (zl rfl) (Nat.le_refl _) rfl ?_
              refine s_in0 (by omega) (x := (io 1)) (k := 2) (Int32.toInt_toInt64 _) i64_0 rfl ?_
              rw [if_pos (inN_io (by omega) (by omega))]
              refine r_if_ne (fun c_7 => ?_) (fun c_7 => ?_)
              · have c_7 := (not_congr (n_eq (a := 1) (b := 0) rfl rfl (by omega) (by omega))).mp c_7
                refine E_go 1 rfl ?_
                refine r_aload_n rfl ?_
                refine r_aload_n rfl ?_
                refine r_getI (by decide) rfl rfl (by decide) rfl ?_
                refine r_virtual (vs := []) (as := [_]) (by decide) (zl rfl) rfl rfl (zl rfl) (Nat.le_refl _) (Or.inr (Or.inr ⟨zt rfl, rfl, zt rfl⟩)) ?_
                refine w_lives (by omega) (R1.m (hl.f f1 hr6)) (R1.eM f1) R.okX (fun J2 L2 j1 j2 => ?_)
                have R2 := R1.f j1.fS
                refine r_iconst ?_
                refine r_istore_n (ls' := [_, _, _, _]) (zt rfl) rfl ?_
                refine r_iconst ?_
                refine r_istore_n (ls' := [_, _, _, _]) (zt rfl) rfl ?_
                refine r_nil ?_
                refine E_go 2 rfl ?_
                refine r_iload_n rfl ?_
                refine r_aload_n rfl ?_
                refine r_getI (by decide) rfl rfl (by decide) R2.mn ?_
                refine r_icmp_ge (fun c_30 => ?_) (fun c_30 => ?_)
                · have c_30 := (n_le (a := n) (b := 0) rfl rfl (by omega) (by omega)).mp c_30
                  refine E_go 6 rfl ?_
                  refine r_iload_n rfl ?_
                  refine r_if_ne (fun c_66 => ?_) (fun c_66 => ?_)
                  · have c_66 := (not_congr (n_eq (a := 1) (b := 0) rfl rfl (by omega) (by omega))).mp c_66
                    refine E_go 7 rfl ?_
                    refine r_iload_n rfl ?_
                    refine r_iconst ?_
                    refine r_icmp_ne (fun c_75 => ?_) (fun c_75 => ?_)
                    · exact absurd rfl c_75
                    · refine r_iconst ?_
                      refine r_goto ?_
                      refine E_go 9 rfl ?_
                      refine r_iret rfl trivial ?_
                      exact hQ _ _ _ R2.rel
                  · have c_66 := (n_eq (a := 1) (b := 0) rfl rfl (by omega) (by omega)).mp c_66
                    omega
                · have c_30 := (not_congr (n_le (a := n) (b := 0) rfl rfl (by omega) (by omega))).mp c_30
                  omega
              · have c_7 := (n_eq (a := 1) (b := 0) rfl rfl (by omega) (by omega)).mp c_7
                omega
            · have c_77 := (n_eq (a := 1) (b := 0) rfl rfl (by omega) (by omega)).mp c_77
              omega
          · have c_34 := (not_congr (n_le (a := n) (b := 0) rfl rfl (by omega) (by omega))).mp c_34
            omega
        · have c_4 := (n_eq (a := 1) (b := 0) rfl rfl (by omega) (by omega)).mp c_4
          omega
      · refine M_go (ls := [_, _, _, _, _]) (ml := 5) rfl rfl rfl (zl rfl) rfl ?_
        refine r_iload_n rfl ?_
        refine r_static (vs := [_]) (by decide) (zl rfl) rfl rfl (zl rfl) (Nat.le_refl _) rfl ?_
        refine s_isEither (by omega) ?_
        rw [if_pos (inN_io (by omega) (by omega))]
        refine r_if_ne (fun c_4 => ?_) (fun c_4 => ?_)
        · have c_4 := (not_congr (n_eq (a := 1) (b := 0) rfl rfl (by omega) (by omega))).mp c_4
          refine E_go 1 rfl ?_
          refine r_aload_n rfl ?_
          refine r_aload_n rfl ?_
          refine r_getA (q := 1) (by decide) rfl rfl (by decide) ?_
          refine r_virtual (vs := []) (as := [_]) (by decide) (zl rfl) rfl rfl (zl rfl) (Nat.le_refl _) (Or.inr (Or.inr ⟨zt rfl, rfl, zt rfl⟩)) ?_
          refine w_think (by omega) (R.c hl) (fun J1 k1 k2 => ?_)
          have f1 := k1.fS (by omega) (by omega)
          have R1 := R.f f1
          refine r_iconst ?_
          refine r_istore_n (ls' := [_, _, _, _, _]) (zt rfl) rfl ?_
          refine r_iconst ?_
          refine r_istore_n (ls' := [_, _, _, _, _]) (zt rfl) rfl ?_
          refine r_iconst ?_
          refine r_istore (ls' := [_, _, _, _, _]) (zt rfl) rfl ?_
          refine r_nil ?_
          refine E_go 2 rfl ?_
          refine r_iload rfl ?_
          refine r_aload_n rfl ?_
          refine r_getA (q := 1) (by decide) rfl rfl (by decide) ?_
          refine r_getI (by decide) rfl rfl (by decide) R1.cn ?_
          refine r_icmp_ge (fun c_34 => ?_) (fun c_34 => ?_)
          · have c_34 := (n_le (a := n) (b := 0) rfl rfl (by omega) (by omega)).mp c_34
            omega
          · have c_34 := (not_congr (n_le (a := n) (b := 0) rfl rfl (by omega) (by omega))).mp c_34
            refine r_iload_n rfl ?_
            refine r_iconst ?_
            refine r_icmp_eq (fun c_39 => ?_) (fun c_39 => ?_)
            · refine E_go 3 rfl ?_
              refine r_iload rfl ?_
              refine r_istore_n (ls' := [_, _, _, _, _]) (zt rfl) rfl ?_
              refine r_aload_n rfl ?_
              refine r_getA (q := 19) (by decide) rfl rfl (by decide) ?_
              refine r_getA (q := 22) (by decide) rfl rfl (by decide) ?_
              refine r_iload rfl ?_
              refine r_iaload (by decide) rfl (by decide) (ixE rfl (show 0 < 5 by omega) (by decide)) (hD_j k2 (a := 0) (by omega)) ?_
              refine r_istore_n (ls' := [_, _, _, _, _]) (zt rfl) rfl ?_
              refine r_nil ?_
              refine E_go 4 rfl ?_
              refine r_iincN (y := io 1) (ls' := [_, _, _, _, _]) rfl (zt rfl) rfl rfl ?_
              refine r_goto ?_
              have fin : M xs (m + 6) xi_X7_greediest [.ref 61, .int 1] (Hp J1 L) (fun r2 h2 => Q (.int ((shr ru (pX n I)) (grd (shr ru (pX n I)) n))) r2 h2) := by
                refine M_go (ls := [_, _, _, _]) (ml := 4) rfl rfl rfl (zl rfl) rfl ?_
                refine r_iload_n rfl ?_
                refine r_i2l ?_
                refine r_lconst ?_
                refine r_lconst ?_
                refine r_static (vs := [_, _, _]) (by decide) (zl rfl) rfl rfl (zl rfl) (Nat.le_refl _) rfl ?_
                refine s_in0 (by omega) (x := (io 1)) (k := 2) (Int32.toInt_toInt64 _) i64_0 rfl ?_
                rw [if_pos (inN_io (by omega) (by omega))]
                refine r_if_ne (fun c_7 => ?_) (fun c_7 => ?_)
                · have c_7 := (not_congr (n_eq (a := 1) (b := 0) rfl rfl (by omega) (by omega))).mp c_7
                  refine E_go 1 rfl ?_
                  refine r_aload_n rfl ?_
                  refine r_aload_n rfl ?_
                  refine r_getI (by decide) rfl rfl (by decide) rfl ?_
                  refine r_virtual (vs := []) (as := [_]) (by decide) (zl rfl) rfl rfl (zl rfl) (Nat.le_refl _) (Or.inr (Or.inr ⟨zt rfl, rfl, zt rfl⟩)) ?_
                  refine w_lives (by omega) (R1.m (hl.f f1 hr6)) (R1.eM f1) R.okX (fun J2 L2 j1 j2 => ?_)
                  have R2 := R1.f j1.fS
                  refine r_iconst ?_
                  refine r_istore_n (ls' := [_, _, _, _]) (zt rfl) rfl ?_
                  refine r_iconst ?_
                  refine r_istore_n (ls' := [_, _, _, _]) (zt rfl) rfl ?_
                  refine r_nil ?_
                  refine E_go 2 rfl ?_
                  refine r_iload_n rfl ?_
                  refine r_aload_n rfl ?_
                  refine r_getI (by decide) rfl rfl (by decide) R2.mn ?_
                  refine r_icmp_ge (fun c_30 => ?_) (fun c_30 => ?_)
                  · have c_30 := (n_le (a := n) (b := 0) rfl rfl (by omega) (by omega)).mp c_30
                    omega
                  · have c_30 := (not_congr (n_le (a := n) (b := 0) rfl rfl (by omega) (by omega))).mp c_30
                    refine r_iload_n rfl ?_
                    refine r_iconst ?_
                    refine r_icmp_eq (fun c_35 => ?_) (fun c_35 => ?_)
                    · refine E_go 3 rfl ?_
                      refine r_iload_n rfl ?_
                      refine r_goto ?_
                      refine E_go 5 rfl ?_
                      refine r_istore_n (ls' := [_, _, _, _]) (zt rfl) rfl ?_
                      refine r_iincN (y := io 1) (ls' := [_, _, _, _]) rfl (zt rfl) rfl rfl ?_
                      refine r_goto ?_
                      have key : ∀ d a, a + d = n → 0 < a → E xs (m + 5) xi_X7_greediest 82 (fun r2 h2 => Q (.int ((shr ru (pX n I)) (grd (shr ru (pX n I)) n))) r2 h2) 25 [.ref 61, .int 1, .int (io (grd (shr ru (pX n I)) a)), .int (io a)] [] (82, J2, L2, xF0) := by
                        intro d
                        induction d using Nat.strongRecOn with
                        | _ d ih =>
                        intro a hd ha
                        refine E_go 2 rfl ?_
                        refine r_iload_n rfl ?_
                        refine r_aload_n rfl ?_
                        refine r_getI (by decide) rfl rfl (by decide) R2.mn ?_
                        refine r_icmp_ge (fun c_30 => ?_) (fun c_30 => ?_)
                        · have c_30 := (n_le (a := n) (b := a) rfl rfl (by omega) (by omega)).mp c_30
                          refine E_go 6 rfl ?_
                          have hg := grd_lt (shr ru (pX n I)) a (by omega)
                          refine r_iload_n rfl ?_
                          refine r_if_ne (fun c_66 => ?_) (fun c_66 => ?_)
                          · have c_66 := (not_congr (n_eq (a := 1) (b := 0) rfl rfl (by omega) (by omega))).mp c_66
                            refine E_go 7 rfl ?_
                            refine r_iload_n rfl ?_
                            refine r_iconst ?_
                            refine r_icmp_ne (fun c_75 => ?_) (fun c_75 => ?_)
                            · refine E_go 8 rfl ?_
                              refine r_aload_n rfl ?_
                              refine r_getA (q := 70) (by decide) rfl rfl (by decide) ?_
                              refine r_iload_n rfl ?_
                              refine r_iaload (by decide) rfl (by decide) (ixE rfl (show (grd (shr ru (pX n I)) a) < 5 by omega) (by decide)) (mD_j j2 (a := (grd (shr ru (pX n I)) a)) (by omega)) ?_
                              refine r_nil ?_
                              refine E_go 9 rfl ?_
                              refine r_iret rfl trivial ?_
                              have e : a = n := by omega
                              subst e
                              exact hQ _ _ _ R2.rel
                            · exact absurd c_75 (io_m1 (by omega))
                          · have c_66 := (n_eq (a := 1) (b := 0) rfl rfl (by omega) (by omega)).mp c_66
                            omega
                        · have c_30 := (not_congr (n_le (a := n) (b := a) rfl rfl (by omega) (by omega))).mp c_30
                          have hg := grd_lt (shr ru (pX n I)) a (by omega)
                          refine r_iload_n rfl ?_
                          refine r_iconst ?_
                          refine r_icmp_eq (fun c_35 => ?_) (fun c_35 => ?_)
                          · exact absurd c_35 (io_m1 (by omega))
                          · refine r_aload_n rfl ?_
                            refine r_getA (q := 70) (by decide) rfl rfl (by decide) ?_
                            refine r_iload_n rfl ?_
                            refine r_iaload (by decide) rfl (by decide) (ixE rfl (show a < 5 by omega) (by decide)) (mD_j j2 (a := a) (by omega)) ?_
                            refine r_aload_n rfl ?_
                            refine r_getA (q := 70) (by decide) rfl rfl (by decide) ?_
                            refine r_iload_n rfl ?_
                            refine r_iaload (by decide) rfl (by decide) (ixE rfl (show (grd (shr ru (pX n I)) a) < 5 by omega) (by decide)) (mD_j j2 (a := (grd (shr ru (pX n I)) a)) (by omega)) ?_
                            refine r_icmp_le (fun c_50 => ?_) (fun c_50 => ?_)
                            · refine E_go 4 rfl ?_
                              refine r_iload_n rfl ?_
                              refine r_nil ?_
                              refine E_go 5 rfl ?_
                              refine r_istore_n (ls' := [_, _, _, _]) (zt rfl) rfl ?_
                              refine r_iincN (y := io (a + 1)) (ls' := [_, _, _, _]) rfl (zt rfl) (n_add (a := a) (b := 1) rfl rfl) rfl ?_
                              refine r_goto ?_
                              have e := grd_n (f := (shr ru (pX n I))) (a := a) (by omega) (Int32.not_lt.mpr c_50)
                              have hx := ih (d - 1) (by omega) (a + 1) (by omega) (by omega)
                              rw [e] at hx
                              exact hx
                            · refine r_nil ?_
                              refine E_go 3 rfl ?_
                              refine r_iload_n rfl ?_
                              refine r_goto ?_
                              refine E_go 5 rfl ?_
                              refine r_istore_n (ls' := [_, _, _, _]) (zt rfl) rfl ?_
                              refine r_iincN (y := io (a + 1)) (ls' := [_, _, _, _]) rfl (zt rfl) (n_add (a := a) (b := 1) rfl rfl) rfl ?_
                              refine r_goto ?_
                              have e := grd_y (f := (shr ru (pX n I))) (a := a) (by omega) (Int32.not_le.mp c_50)
                              have hx := ih (d - 1) (by omega) (a + 1) (by omega) (by omega)
                              rw [e] at hx
                              exact hx
                      exact key (n - 1) 1 (by omega) (by omega)
                    · exact absurd rfl c_35
                · have c_7 := (n_eq (a := 1) (b := 0) rfl rfl (by omega) (by omega)).mp c_7
                  omega
              have key : ∀ d a, a + d = n → 0 < a → E xs (m + 5) xi_X6_greediest 82 (fun r1 h1 => M xs (m + 6) xi_X7_greediest [.ref 61, .int 1] h1 (fun r2 h2 => Q r1 r2 h2)) 25 [.ref 0, .int 1, .int (io (grd (shr ru (pX n I)) a)), .int ((shr ru (pX n I)) (grd (shr ru (pX n I)) a)), .int (io a)] [] (82, J1, L, xF0) := by
                intro d
                induction d using Nat.strongRecOn with
                | _ d ih =>
                intro a hd ha
                refine E_go 2 rfl ?_
                refine r_iload rfl ?_
                refine r_aload_n rfl ?_
                refine r_getA (q := 1) (by decide) rfl rfl (by decide) ?_
                refine r_getI (by decide) rfl rfl (by decide) R1.cn ?_
                refine r_icmp_ge (fun c_34 => ?_) (fun c_34 => ?_)
                · have c_34 := (n_le (a := n) (b := a) rfl rfl (by omega) (by omega)).mp c_34
                  refine E_go 5 rfl ?_
                  have hg := grd_lt (shr ru (pX n I)) a (by omega)
                  refine r_iload_n rfl ?_
                  refine r_if_ne (fun c_77 => ?_) (fun c_77 => ?_)
                  · have c_77 := (not_congr (n_eq (a := 1) (b := 0) rfl rfl (by omega) (by omega))).mp c_77
                    refine E_go 6 rfl ?_
                    refine r_iload_n rfl ?_
                    refine r_nil ?_
                    refine E_go 7 rfl ?_
                    refine r_iret rfl trivial ?_
                    have e : a = n := by omega
                    subst e
                    exact fin
                  · have c_77 := (n_eq (a := 1) (b := 0) rfl rfl (by omega) (by omega)).mp c_77
                    omega
                · have c_34 := (not_congr (n_le (a := n) (b := a) rfl rfl (by omega) (by omega))).mp c_34
                  have hg := grd_lt (shr ru (pX n I)) a (by omega)
                  refine r_iload_n rfl ?_
                  refine r_iconst ?_
                  refine r_icmp_eq (fun c_39 => ?_) (fun c_39 => ?_)
                  · exact absurd c_39 (io_m1 (by omega))
                  · refine r_aload_n rfl ?_
                    refine r_getA (q := 19) (by decide) rfl rfl (by decide) ?_
                    refine r_getA (q := 22) (by decide) rfl rfl (by decide) ?_
                    refine r_iload rfl ?_
                    refine r_iaload (by decide) rfl (by decide) (ixE rfl (show a < 5 by omega) (by decide)) (hD_j k2 (a := a) (by omega)) ?_
                    refine r_iload_n rfl ?_
                    refine r_icmp_le (fun c_53 => ?_) (fun c_53 => ?_)
                    · refine E_go 4 rfl ?_
                      refine r_iincN (y := io (a + 1)) (ls' := [_, _, _, _, _]) rfl (zt rfl) (n_add (a := a) (b := 1) rfl rfl) rfl ?_
                      refine r_goto ?_
                      have e := grd_n (f := (shr ru (pX n I))) (a := a) (by omega) (Int32.not_lt.mpr c_53)
                      have hx := ih (d - 1) (by omega) (a + 1) (by omega) (by omega)
                      rw [e] at hx
                      exact hx
                    · refine r_nil ?_
                      refine E_go 3 rfl ?_
                      refine r_iload rfl ?_
                      refine r_istore_n (ls' := [_, _, _, _, _]) (zt rfl) rfl ?_
                      refine r_aload_n rfl ?_
                      refine r_getA (q := 19) (by decide) rfl rfl (by decide) ?_
                      refine r_getA (q := 22) (by decide) rfl rfl (by decide) ?_
                      refine r_iload rfl ?_
                      refine r_iaload (by decide) rfl (by decide) (ixE rfl (show a < 5 by omega) (by decide)) (hD_j k2 (a := a) (by omega)) ?_
                      refine r_istore_n (ls' := [_, _, _, _, _]) (zt rfl) rfl ?_
                      refine r_nil ?_
                      refine E_go 4 rfl ?_
                      refine r_iincN (y := io (a + 1)) (ls' := [_, _, _, _, _]) rfl (zt rfl) (n_add (a := a) (b := 1) rfl rfl) rfl ?_
                      refine r_goto ?_
                      have e := grd_y (f := (shr ru (pX n I))) (a := a) (by omega) (Int32.not_le.mp c_53)
                      have hx := ih (d - 1) (by omega) (a + 1) (by omega) (by omega)
                      rw [e] at hx
                      exact hx
              exact key (n - 1) 1 (by omega) (by omega)
            · exact absurd rfl c_39
        · have c_4 := (n_eq (a := 1) (b := 0) rfl rfl (by omega) (by omega)).mp c_4
          omega
  · refine M_go (ls := [_, _, _, _, _]) (ml := 5) rfl rfl rfl (zl rfl) rfl ?_
    refine r_iload_n rfl ?_
    refine r_static (vs := [_]) (by decide) (zl rfl) rfl rfl (zl rfl) (Nat.le_refl _) rfl ?_
    refine s_isEither (by omega) ?_
    rw [if_neg hy]
    refine r_if_ne (fun c_4 => ?_) (fun c_4 => ?_)
    · have c_4 := (not_congr (n_eq (a := 0) (b := 0) rfl rfl (by omega) (by omega))).mp c_4
      omega
    · have c_4 := (n_eq (a := 0) (b := 0) rfl rfl (by omega) (by omega)).mp c_4
      refine r_ldc rfl ?_
      refine r_iret rfl trivial ?_
      refine M_go (ls := [_, _, _, _]) (ml := 4) rfl rfl rfl (zl rfl) rfl ?_
      refine r_iload_n rfl ?_
      refine r_i2l ?_
      refine r_lconst ?_
      refine r_lconst ?_
      refine r_static (vs := [_, _, _]) (by decide) (zl rfl) rfl rfl (zl rfl) (Nat.le_refl _) rfl ?_
      refine s_in0 (by omega) (x := x) (k := 2) (Int32.toInt_toInt64 _) i64_0 rfl ?_
      rw [if_neg hy]
      refine r_if_ne (fun c_7 => ?_) (fun c_7 => ?_)
      · have c_7 := (not_congr (n_eq (a := 0) (b := 0) rfl rfl (by omega) (by omega))).mp c_7
        omega
      · have c_7 := (n_eq (a := 0) (b := 0) rfl rfl (by omega) (by omega)).mp c_7
        refine r_ldc rfl ?_
        refine r_iret rfl trivial ?_
        exact hQ _ _ _ R.rel
