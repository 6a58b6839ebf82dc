/-! calls: hotter, breaks, drawn -/

/-- the thought table is X, by rule r -/
def TC (n r : Nat) (X : Pot) (I J : Nat → Nat → Int32) : Prop := oF 13 28 I J ∧ J 13 3 = io n ∧ J 13 2 = io r ∧ pEq (cP 13 n J) X
theorem TC_bec {n r : Nat} {ru : Ru} {I J : Nat → Nat → Int32} (h : CC n r ru I) (b : bec 13 1 I J) : TC n r (pX n I) I J := ⟨b.1.wide (by omega) (by omega), b.2.1.2.2.2.trans h.1.1, b.2.1.2.2.1.trans h.1.2.2.1, bec_P b h.1.2.1⟩
theorem TC.s {n r : Nat} {X : Pot} {I J K : Nat → Nat → Int32} (h : TC n r X I J) (k : oF 19 28 J K) : TC n r X I K := by
  obtain ⟨h1, h2, h3, h4⟩ := h
  refine ⟨h1.trans (k.wide (by omega) (by omega)), by rw [k 13 (by omega)]; exact h2, by rw [k 13 (by omega)]; exact h3, ?_⟩
  have e : cP 13 n K = cP 13 n J := by
    unfold cP
    rw [k 13 (by omega), k (13 + 1) (by omega), k (13 + 2) (by omega), k (13 + 3) (by omega), k (13 + 4) (by omega)]
  rw [e]
  exact h4
theorem TC.heat {n r : Nat} {X : Pot} {v : Int32} {I J : Nat → Nat → Int32} (h : TC n r X I J) : TC n r (wH X v) I (up2 J 13 0 v) :=
  ⟨h.1.up (by omega) (by omega), h.2.1, h.2.2.1, rfl, h.2.2.2.2.1, h.2.2.2.2.2⟩
theorem w_thoughtC {xs : xSc} {m : Nat} {I J : Nat → Nat → Int32} {L : Nat → Nat → Int64} {Q : Value → xHp → Prop} (hm : 5 ≤ m) {n r : Nat} {ru : Ru} {X : Pot} (h : CC n r ru I) (t : TC n r X I J) (hQ : ∀ K, TC n r X I K → hD n K ru X → Q .null (Hp K L)) : M xs m xi_X6_think [.ref 0, .ref 13] (Hp J L) Q := by
  have c : CC n r ru J := h.f (t.1.fS (by omega) (by omega))
  exact w_thought hm t.2.1 h.1.2.1 t.2.2.1 h.1.2.2.2 c.2 t.2.2.2 (fun K k1 k2 => hQ K (t.s k1) k2)
/-- the least heat from h on by which all have k -/
def hot (ru : Ru) (X : Pot) (k : Int32) : Nat → Nat → Int32
  | 0, _ => -1
  | d + 1, h => if alr ru (wH X (io h)) < k then hot ru X k d (h + 1) else io h
theorem hot_y {ru : Ru} {X : Pot} {k : Int32} {d h : Nat} (hd : 0 < d) (c : alr ru (wH X (io h)) < k) : hot ru X k d h = hot ru X k (d - 1) (h + 1) := by
  obtain ⟨e, rfl⟩ : ∃ e, d = e + 1 := ⟨d - 1, by omega⟩
  exact if_pos c
theorem hot_n {ru : Ru} {X : Pot} {k : Int32} {d h : Nat} (hd : 0 < d) (c : ¬ alr ru (wH X (io h)) < k) : hot ru X k d h = io h := by
  obtain ⟨e, rfl⟩ : ∃ e, d = e + 1 := ⟨d - 1, by omega⟩
  exact if_neg c
theorem m9999 : (-9999 : Int32).toInt = -9999 := by decide

set_option maxRecDepth 10000 in
theorem tz_hotter {xs : xSc} {m : Nat} {I : Nat → Nat → Int32} {L : Nat → Nat → Int64} {Q : Value → Value → xHp → Prop} (hm : 90 ≤ m) (hR : Rel I) {x : Int32} (hQ : ∀ (x : Int32) J L2, Rel J → Q (.int x) (.int x) (Hp J L2)) : M xs m xi_X6_hotter [.ref 0, .int x] (Hp I L) (fun r1 h1 => M xs m xi_X7_hotter [.ref 61, .int x] h1 (fun r2 h2 => Q r1 r2 h2)) := by
  obtain ⟨m, rfl⟩ : ∃ k, m = k + 6 := ⟨m - 6, by omega⟩
  obtain ⟨n, tc, r, tp, R⟩ := hR
  have h5 := R.n5
  have hr6 := R.r6
  have ht6 := R.t6
  have hrt := R.rt
  have hp160 := R.2.2.1.1.1
  obtain ⟨ru, hl⟩ := R.rl
  by_cases hk : -9999 ≤ x.toInt ∧ x.toInt ≤ 9999
  · have fin : ∀ J (v : Int32), oF 13 28 I J → hot ru (pX n I) x 100 0 = v → M xs (m + 6) xi_X7_hotter [.ref 61, .int x] (Hp J L) (fun r2 h2 => Q (.int v) r2 h2) := by
      intro J v hoJ hv
      subst hv
      have f1 := hoJ.fS (by omega) (by omega)
      have R1 := R.f f1
      refine M_go (ls := [_, _, _]) (ml := 3) rfl rfl rfl (zl rfl) rfl ?_
      refine r_iload_n rfl ?_
      refine r_i2l ?_
      refine r_ldc2_w ?_
      refine r_ldc2_w ?_
      refine r_static (vs := [_, _, _]) (by decide) (zl rfl) rfl rfl (zl rfl) (Nat.le_refl _) rfl ?_
      refine s_inr (by omega) (x := x) (lo := -9999) (hi := 9999) (Int32.toInt_toInt64 _) (by decide) (by decide) ?_
      rw [if_pos hk]
      refine r_if_ne (fun c_11 => ?_) (fun c_11 => ?_)
      · have c_11 := (not_congr (n_eq (a := 1) (b := 0) rfl rfl (by omega) (by omega))).mp c_11
        refine E_go 1 rfl ?_
        refine r_iconst ?_
        refine r_istore_n (ls' := [_, _, _]) (zt rfl) rfl ?_
        refine r_nil ?_
        have key : ∀ d h, h + d = 100 → hot ru (pX n I) x 100 0 = hot ru (pX n I) x d h → ∀ J2 L2, fS J J2 → E xs (m + 5) xi_X7_hotter 82 (fun r2 h2 => Q (.int (hot ru (pX n I) x 100 0)) r2 h2) 19 [.ref 61, .int x, .int (io h)] [] (82, J2, L2, xF0) := by
          intro d
          induction d using Nat.strongRecOn with
          | _ d ih =>
          intro h hd hr1 J2 L2 gJ
          refine E_go 2 rfl ?_
          refine r_iload_n rfl ?_
          refine r_bipush ?_
          refine r_icmp_gt (fun c_22 => ?_) (fun c_22 => ?_)
          · have c_22 := (n_lt (a := 99) (b := h) rfl rfl (by omega) (by omega)).mp c_22
            refine E_go 4 rfl ?_
            refine r_iconst ?_
            refine r_iret rfl trivial ?_
            have e := hr1.trans (by rw [show d = 0 by omega]; rfl : _ = (-1 : Int32))
            rw [e]
            exact hQ _ _ _ (R1.f gJ).rel
          · have c_22 := (not_congr (n_lt (a := 99) (b := h) rfl rfl (by omega) (by omega))).mp c_22
            refine r_aload_n rfl ?_
            refine r_iload_n rfl ?_
            refine r_virtual (vs := []) (as := [_]) (by decide) (zl rfl) rfl rfl (zl rfl) (Nat.le_refl _) (Or.inr (Or.inr ⟨zt rfl, rfl, zt rfl⟩)) ?_
            have okh : isN 100 (io h) := ⟨h, by omega, rfl⟩
            refine s_allOf (X := wH (pX n I) (io h)) (by omega) (R1.m (hl.f f1 hr6) |>.f gJ) ?_ (wH_ok R.okX okh) (fun K2 L3 q1 q2 => ?_)
            · exact wH_c (X := mP n (J2 61 7) J2) ((R1.eM f1).mf gJ) (io h)
            have gK := gJ.trans q1.fS
            refine r_iload_n rfl ?_
            refine r_icmp_lt (fun c_31 => ?_) (fun c_31 => ?_)
            · refine E_go 3 rfl ?_
              refine r_iincN (y := io (h + 1)) (ls' := [_, _, _]) rfl (zt rfl) (n_add (a := h) (b := 1) rfl rfl) rfl ?_
              refine r_goto ?_
              exact ih (d - 1) (by omega) (h + 1) (by omega) (hr1.trans (hot_y (by omega) c_31)) K2 _ gK
            · refine r_iload_n rfl ?_
              refine r_iret rfl trivial ?_
              have e := hr1.trans (hot_n (by omega) c_31)
              rw [e]
              exact hQ _ _ _ (R1.f gK).rel
        exact key 100 0 rfl rfl J L fS.refl
      · have c_11 := (n_eq (a := 1) (b := 0) rfl rfl (by omega) (by omega)).mp c_11
        omega
    refine M_go (ls := [_, _, _]) (ml := 3) rfl rfl rfl (zl rfl) rfl ?_
    refine r_iload_n rfl ?_
    refine r_sipush ?_
    refine r_icmp_lt (fun c_4 => ?_) (fun c_4 => ?_)
    · exact absurd (lt_int.mp c_4) (by rw [m9999]; omega)
    · refine r_iload_n rfl ?_
      refine r_sipush ?_
      refine r_icmp_le (fun c_11 => ?_) (fun c_11 => ?_)
      · refine E_go 2 rfl ?_
        refine r_aload_n rfl ?_
        refine r_getA (q := 13) (by decide) rfl rfl (by decide) ?_
        refine r_aload_n rfl ?_
        refine r_getA (q := 1) (by decide) rfl rfl (by decide) ?_
        refine r_virtual (vs := []) (as := [_]) (by decide) (zl rfl) rfl rfl (zl rfl) (Nat.le_refl _) (Or.inr (Or.inr ⟨zt rfl, rfl, zt rfl⟩)) ?_
        refine s_becomes_13_1 (by omega) (fun J b1 => ?_)
        have t0 := TC_bec (R.c hl) b1
        refine r_iconst ?_
        refine r_istore_n (ls' := [_, _, _]) (zt rfl) rfl ?_
        refine r_nil ?_
        have key : ∀ d h, h + d = 100 → hot ru (pX n I) x 100 0 = hot ru (pX n I) x d h → ∀ J v, TC n r (wH (pX n I) v) I J → E xs (m + 5) xi_X6_hotter 82 (fun r1 h1 => M xs (m + 6) xi_X7_hotter [.ref 61, .int x] h1 (fun r2 h2 => Q r1 r2 h2)) 30 [.ref 0, .int x, .int (io h)] [] (82, J, L, xF0) := by
          intro d
          induction d using Nat.strongRecOn with
          | _ d ih =>
          intro h hd hr0 J v hJ
          refine E_go 3 rfl ?_
          refine r_iload_n rfl ?_
          refine r_bipush ?_
          refine r_icmp_ge (fun c_33 => ?_) (fun c_33 => ?_)
          · have c_33 := (n_le (a := 100) (b := h) rfl rfl (by omega) (by omega)).mp c_33
            refine E_go 5 rfl ?_
            refine r_iconst ?_
            refine r_iret rfl trivial ?_
            exact fin J _ hJ.1 (by rw [hr0, show d = 0 by omega]; rfl)
          · have c_33 := (not_congr (n_le (a := 100) (b := h) rfl rfl (by omega) (by omega))).mp c_33
            refine r_aload_n rfl ?_
            refine r_getA (q := 13) (by decide) rfl rfl (by decide) ?_
            refine r_iload_n rfl ?_
            refine r_putI rfl rfl (by decide) ?_
            refine r_aload_n rfl ?_
            refine r_aload_n rfl ?_
            refine r_getA (q := 13) (by decide) rfl rfl (by decide) ?_
            refine r_virtual (vs := []) (as := [_]) (by decide) (zl rfl) rfl rfl (zl rfl) (Nat.le_refl _) (Or.inr (Or.inr ⟨zt rfl, rfl, zt rfl⟩)) ?_
            refine w_thoughtC (by omega) (R.c hl) (hJ.heat (v := io h)) (fun K k1 k2 => ?_)
            refine r_aload_n rfl ?_
            refine r_getA (q := 19) (by decide) rfl rfl (by decide) ?_
            refine r_virtual (vs := []) (as := []) (by decide) (zl rfl) rfl rfl (zl rfl) (Nat.le_refl _) (Or.inr (Or.inr ⟨zt rfl, rfl, zt rfl⟩)) ?_
            refine s_joyOfAll (by omega) (n := n) k2.1.2.1 h5 ?_
            rw [hD_s k2 rfl]
            refine r_iload_n rfl ?_
            refine r_icmp_lt (fun c_60 => ?_) (fun c_60 => ?_)
            · refine E_go 4 rfl ?_
              refine r_iincN (y := io (h + 1)) (ls' := [_, _, _]) rfl (zt rfl) (n_add (a := h) (b := 1) rfl rfl) rfl ?_
              refine r_goto ?_
              exact ih (d - 1) (by omega) (h + 1) (by omega) (hr0.trans (hot_y (by omega) c_60)) K _ k1
            · refine r_iload_n rfl ?_
              refine r_iret rfl trivial ?_
              exact fin K _ k1.1 (by rw [hr0]; exact hot_n (by omega) c_60)
        exact key 100 0 rfl rfl J _ t0
      · exact absurd ((jle (x := x) (b := 9999) rfl (by omega)).mpr (by omega)) c_11
  · refine M_go (ls := [_, _, _]) (ml := 3) rfl rfl rfl (zl rfl) rfl ?_
    refine r_iload_n rfl ?_
    refine r_sipush ?_
    refine r_icmp_lt (fun c_4 => ?_) (fun c_4 => ?_)
    · refine E_go 1 rfl ?_
      refine r_bipush ?_
      refine r_iret rfl trivial ?_
      refine M_go (ls := [_, _, _]) (ml := 3) rfl rfl rfl (zl rfl) rfl ?_
      refine r_iload_n rfl ?_
      refine r_i2l ?_
      refine r_ldc2_w ?_
      refine r_ldc2_w ?_
      refine r_static (vs := [_, _, _]) (by decide) (zl rfl) rfl rfl (zl rfl) (Nat.le_refl _) rfl ?_
      refine s_inr (by omega) (x := x) (lo := -9999) (hi := 9999) (Int32.toInt_toInt64 _) (by decide) (by decide) ?_
      rw [if_neg hk]
      refine r_if_ne (fun c_11 => ?_) (fun c_11 => ?_)
      · have c_11 := (not_congr (n_eq (a := 0) (b := 0) rfl rfl (by omega) (by omega))).mp c_11
        omega
      · have c_11 := (n_eq (a := 0) (b := 0) rfl rfl (by omega) (by omega)).mp c_11
        refine r_bipush ?_
        refine r_iret rfl trivial ?_
        exact hQ _ _ _ R.rel
    · refine r_iload_n rfl ?_
      refine r_sipush ?_
      refine r_icmp_le (fun c_11 => ?_) (fun c_11 => ?_)
      · exact absurd ⟨by have := mt lt_int.mpr c_4; rw [m9999] at this; omega, (jle (x := x) (b := 9999) rfl (by omega)).mp c_11⟩ hk
      · refine r_nil ?_
        refine E_go 1 rfl ?_
        refine r_bipush ?_
        refine r_iret rfl trivial ?_
        refine M_go (ls := [_, _, _]) (ml := 3) rfl rfl rfl (zl rfl) rfl ?_
        refine r_iload_n rfl ?_
        refine r_i2l ?_
        refine r_ldc2_w ?_
        refine r_ldc2_w ?_
        refine r_static (vs := [_, _, _]) (by decide) (zl rfl) rfl rfl (zl rfl) (Nat.le_refl _) rfl ?_
        refine s_inr (by omega) (x := x) (lo := -9999) (hi := 9999) (Int32.toInt_toInt64 _) (by decide) (by decide) ?_
        rw [if_neg hk]
        refine r_if_ne (fun c_11 => ?_) (fun c_11 => ?_)
        · have c_11 := (not_congr (n_eq (a := 0) (b := 0) rfl rfl (by omega) (by omega))).mp c_11
          omega
        · have c_11 := (n_eq (a := 0) (b := 0) rfl rfl (by omega) (by omega)).mp c_11
          refine r_bipush ?_
          refine r_iret rfl trivial ?_
          exact hQ _ _ _ R.rel

def tzB (x : Int32) : Int32 := io (tz x.toNatClampNeg)

theorem ntz_v : ∀ k, k < 32 → 0 < k → (tz k = 0 ∧ (io k ^^^ -1) &&& (io k - 1) = io 0) ∨ (tz k = 1 ∧ (io k ^^^ -1) &&& (io k - 1) = io 1) ∨ (tz k = 2 ∧ (io k ^^^ -1) &&& (io k - 1) = io 3) ∨ (tz k = 3 ∧ (io k ^^^ -1) &&& (io k - 1) = io 7) ∨ (tz k = 4 ∧ (io k ^^^ -1) &&& (io k - 1) = io 15) := by decide +kernel

set_option maxRecDepth 10000 in
theorem s_ntz {xs : xSc} {m : Nat} (hm : 1 ≤ m) {x : Int32} {h : xHp} {Q : Value → xHp → Prop} (hx : ∃ k, k < 32 ∧ 0 < k ∧ x = io k) (hQ : Q (.int (tzB x)) h) : M xs m xi_J6_numberOfTrailingZeros_0f7a4 [.int x] h Q := by
  obtain ⟨m, rfl⟩ : ∃ k, m = k + 1 := ⟨m - 1, by omega⟩
  obtain ⟨k, hk, hk0, rfl⟩ := hx
  rcases ntz_v k hk hk0 with e | e | e | e | e
  · obtain ⟨e1, e2⟩ := e
    refine M_go (ls := [_, _]) (ml := 2) rfl rfl rfl (zl rfl) rfl ?_
    refine r_iload_n rfl ?_
    refine r_iconst ?_
    refine r_ixor ?_
    refine r_iload_n rfl ?_
    refine r_iconst ?_
    refine r_isub ?_
    refine r_iand ?_
    rw [e2]
    refine r_istore_n (ls' := [_, _]) (zt rfl) rfl ?_
    refine r_iload_n rfl ?_
    refine r_if_gt (fun c_9 => ?_) (fun c_9 => ?_)
    · have c_9 := (n_lt (a := 0) (b := 0) rfl rfl (by omega) (by omega)).mp c_9
      omega
    · have c_9 := (not_congr (n_lt (a := 0) (b := 0) rfl rfl (by omega) (by omega))).mp c_9
      refine r_iload_n rfl ?_
      refine r_bipush ?_
      refine r_iand ?_
      refine r_iret rfl trivial ?_
      refine qi hQ ?_
      unfold tzB
      rw [io_nat (by omega), e1]
      rfl
  · obtain ⟨e1, e2⟩ := e
    refine M_go (ls := [_, _]) (ml := 2) rfl rfl rfl (zl rfl) rfl ?_
    refine r_iload_n rfl ?_
    refine r_iconst ?_
    refine r_ixor ?_
    refine r_iload_n rfl ?_
    refine r_iconst ?_
    refine r_isub ?_
    refine r_iand ?_
    rw [e2]
    refine r_istore_n (ls' := [_, _]) (zt rfl) rfl ?_
    refine r_iload_n rfl ?_
    refine r_if_gt (fun c_9 => ?_) (fun c_9 => ?_)
    · have c_9 := (n_lt (a := 0) (b := 1) rfl rfl (by omega) (by omega)).mp c_9
      refine E_go 1 rfl ?_
      refine r_iconst ?_
      refine r_istore_n (ls' := [_, _]) (zt rfl) rfl ?_
      refine r_iload_n rfl ?_
      refine r_ldc_w ?_
      refine r_icmp_le (fun c_23 => ?_) (fun c_23 => ?_)
      · have c_23 := (n_le (a := 1) (b := 65536) rfl rfl (by omega) (by omega)).mp c_23
        refine E_go 2 rfl ?_
        refine r_iload_n rfl ?_
        refine r_sipush ?_
        refine r_icmp_le (fun c_38 => ?_) (fun c_38 => ?_)
        · have c_38 := (n_le (a := 1) (b := 256) rfl rfl (by omega) (by omega)).mp c_38
          refine E_go 3 rfl ?_
          refine r_iload_n rfl ?_
          refine r_bipush ?_
          refine r_icmp_le (fun c_52 => ?_) (fun c_52 => ?_)
          · have c_52 := (n_le (a := 1) (b := 16) rfl rfl (by omega) (by omega)).mp c_52
            refine E_go 4 rfl ?_
            refine r_iload_n rfl ?_
            refine r_iconst ?_
            refine r_icmp_le (fun c_64 => ?_) (fun c_64 => ?_)
            · have c_64 := (n_le (a := 1) (b := 4) rfl rfl (by omega) (by omega)).mp c_64
              refine E_go 5 rfl ?_
              refine r_iload_n rfl ?_
              refine r_iload_n rfl ?_
              refine r_iconst ?_
              refine r_iushr ?_
              refine r_iadd ?_
              refine r_iret rfl trivial ?_
              refine qi hQ ?_
              unfold tzB
              rw [io_nat (by omega), e1]
              rfl
            · have c_64 := (not_congr (n_le (a := 1) (b := 4) rfl rfl (by omega) (by omega))).mp c_64
              omega
          · have c_52 := (not_congr (n_le (a := 1) (b := 16) rfl rfl (by omega) (by omega))).mp c_52
            omega
        · have c_38 := (not_congr (n_le (a := 1) (b := 256) rfl rfl (by omega) (by omega))).mp c_38
          omega
      · have c_23 := (not_congr (n_le (a := 1) (b := 65536) rfl rfl (by omega) (by omega))).mp c_23
        omega
    · have c_9 := (not_congr (n_lt (a := 0) (b := 1) rfl rfl (by omega) (by omega))).mp c_9
      omega
  · obtain ⟨e1, e2⟩ := e
    refine M_go (ls := [_, _]) (ml := 2) rfl rfl rfl (zl rfl) rfl ?_
    refine r_iload_n rfl ?_
    refine r_iconst ?_
    refine r_ixor ?_
    refine r_iload_n rfl ?_
    refine r_iconst ?_
    refine r_isub ?_
    refine r_iand ?_
    rw [e2]
    refine r_istore_n (ls' := [_, _]) (zt rfl) rfl ?_
    refine r_iload_n rfl ?_
    refine r_if_gt (fun c_9 => ?_) (fun c_9 => ?_)
    · have c_9 := (n_lt (a := 0) (b := 3) rfl rfl (by omega) (by omega)).mp c_9
      refine E_go 1 rfl ?_
      refine r_iconst ?_
      refine r_istore_n (ls' := [_, _]) (zt rfl) rfl ?_
      refine r_iload_n rfl ?_
      refine r_ldc_w ?_
      refine r_icmp_le (fun c_23 => ?_) (fun c_23 => ?_)
      · have c_23 := (n_le (a := 3) (b := 65536) rfl rfl (by omega) (by omega)).mp c_23
        refine E_go 2 rfl ?_
        refine r_iload_n rfl ?_
        refine r_sipush ?_
        refine r_icmp_le (fun c_38 => ?_) (fun c_38 => ?_)
        · have c_38 := (n_le (a := 3) (b := 256) rfl rfl (by omega) (by omega)).mp c_38
          refine E_go 3 rfl ?_
          refine r_iload_n rfl ?_
          refine r_bipush ?_
          refine r_icmp_le (fun c_52 => ?_) (fun c_52 => ?_)
          · have c_52 := (n_le (a := 3) (b := 16) rfl rfl (by omega) (by omega)).mp c_52
            refine E_go 4 rfl ?_
            refine r_iload_n rfl ?_
            refine r_iconst ?_
            refine r_icmp_le (fun c_64 => ?_) (fun c_64 => ?_)
            · have c_64 := (n_le (a := 3) (b := 4) rfl rfl (by omega) (by omega)).mp c_64
              refine E_go 5 rfl ?_
              refine r_iload_n rfl ?_
              refine r_iload_n rfl ?_
              refine r_iconst ?_
              refine r_iushr ?_
              refine r_iadd ?_
              refine r_iret rfl trivial ?_
              refine qi hQ ?_
              unfold tzB
              rw [io_nat (by omega), e1]
              rfl
            · have c_64 := (not_congr (n_le (a := 3) (b := 4) rfl rfl (by omega) (by omega))).mp c_64
              omega
          · have c_52 := (not_congr (n_le (a := 3) (b := 16) rfl rfl (by omega) (by omega))).mp c_52
            omega
        · have c_38 := (not_congr (n_le (a := 3) (b := 256) rfl rfl (by omega) (by omega))).mp c_38
          omega
      · have c_23 := (not_congr (n_le (a := 3) (b := 65536) rfl rfl (by omega) (by omega))).mp c_23
        omega
    · have c_9 := (not_congr (n_lt (a := 0) (b := 3) rfl rfl (by omega) (by omega))).mp c_9
      omega
  · obtain ⟨e1, e2⟩ := e
    refine M_go (ls := [_, _]) (ml := 2) rfl rfl rfl (zl rfl) rfl ?_
    refine r_iload_n rfl ?_
    refine r_iconst ?_
    refine r_ixor ?_
    refine r_iload_n rfl ?_
    refine r_iconst ?_
    refine r_isub ?_
    refine r_iand ?_
    rw [e2]
    refine r_istore_n (ls' := [_, _]) (zt rfl) rfl ?_
    refine r_iload_n rfl ?_
    refine r_if_gt (fun c_9 => ?_) (fun c_9 => ?_)
    · have c_9 := (n_lt (a := 0) (b := 7) rfl rfl (by omega) (by omega)).mp c_9
      refine E_go 1 rfl ?_
      refine r_iconst ?_
      refine r_istore_n (ls' := [_, _]) (zt rfl) rfl ?_
      refine r_iload_n rfl ?_
      refine r_ldc_w ?_
      refine r_icmp_le (fun c_23 => ?_) (fun c_23 => ?_)
      · have c_23 := (n_le (a := 7) (b := 65536) rfl rfl (by omega) (by omega)).mp c_23
        refine E_go 2 rfl ?_
        refine r_iload_n rfl ?_
        refine r_sipush ?_
        refine r_icmp_le (fun c_38 => ?_) (fun c_38 => ?_)
        · have c_38 := (n_le (a := 7) (b := 256) rfl rfl (by omega) (by omega)).mp c_38
          refine E_go 3 rfl ?_
          refine r_iload_n rfl ?_
          refine r_bipush ?_
          refine r_icmp_le (fun c_52 => ?_) (fun c_52 => ?_)
          · have c_52 := (n_le (a := 7) (b := 16) rfl rfl (by omega) (by omega)).mp c_52
            refine E_go 4 rfl ?_
            refine r_iload_n rfl ?_
            refine r_iconst ?_
            refine r_icmp_le (fun c_64 => ?_) (fun c_64 => ?_)
            · have c_64 := (n_le (a := 7) (b := 4) rfl rfl (by omega) (by omega)).mp c_64
              omega
            · have c_64 := (not_congr (n_le (a := 7) (b := 4) rfl rfl (by omega) (by omega))).mp c_64
              refine r_iincN (y := io 3) (ls' := [_, _]) rfl (zt rfl) rfl rfl ?_
              refine r_iload_n rfl ?_
              refine r_iconst ?_
              refine r_iushr ?_
              refine r_istore_n (ls' := [_, _]) (zt rfl) rfl ?_
              refine r_nil ?_
              refine E_go 5 rfl ?_
              refine r_iload_n rfl ?_
              refine r_iload_n rfl ?_
              refine r_iconst ?_
              refine r_iushr ?_
              refine r_iadd ?_
              refine r_iret rfl trivial ?_
              refine qi hQ ?_
              unfold tzB
              rw [io_nat (by omega), e1]
              rfl
          · have c_52 := (not_congr (n_le (a := 7) (b := 16) rfl rfl (by omega) (by omega))).mp c_52
            omega
        · have c_38 := (not_congr (n_le (a := 7) (b := 256) rfl rfl (by omega) (by omega))).mp c_38
          omega
      · have c_23 := (not_congr (n_le (a := 7) (b := 65536) rfl rfl (by omega) (by omega))).mp c_23
        omega
    · have c_9 := (not_congr (n_lt (a := 0) (b := 7) rfl rfl (by omega) (by omega))).mp c_9
      omega
  · obtain ⟨e1, e2⟩ := e
    refine M_go (ls := [_, _]) (ml := 2) rfl rfl rfl (zl rfl) rfl ?_
    refine r_iload_n rfl ?_
    refine r_iconst ?_
    refine r_ixor ?_
    refine r_iload_n rfl ?_
    refine r_iconst ?_
    refine r_isub ?_
    refine r_iand ?_
    rw [e2]
    refine r_istore_n (ls' := [_, _]) (zt rfl) rfl ?_
    refine r_iload_n rfl ?_
    refine r_if_gt (fun c_9 => ?_) (fun c_9 => ?_)
    · have c_9 := (n_lt (a := 0) (b := 15) rfl rfl (by omega) (by omega)).mp c_9
      refine E_go 1 rfl ?_
      refine r_iconst ?_
      refine r_istore_n (ls' := [_, _]) (zt rfl) rfl ?_
      refine r_iload_n rfl ?_
      refine r_ldc_w ?_
      refine r_icmp_le (fun c_23 => ?_) (fun c_23 => ?_)
      · have c_23 := (n_le (a := 15) (b := 65536) rfl rfl (by omega) (by omega)).mp c_23
        refine E_go 2 rfl ?_
        refine r_iload_n rfl ?_
        refine r_sipush ?_
        refine r_icmp_le (fun c_38 => ?_) (fun c_38 => ?_)
        · have c_38 := (n_le (a := 15) (b := 256) rfl rfl (by omega) (by omega)).mp c_38
          refine E_go 3 rfl ?_
          refine r_iload_n rfl ?_
          refine r_bipush ?_
          refine r_icmp_le (fun c_52 => ?_) (fun c_52 => ?_)
          · have c_52 := (n_le (a := 15) (b := 16) rfl rfl (by omega) (by omega)).mp c_52
            refine E_go 4 rfl ?_
            refine r_iload_n rfl ?_
            refine r_iconst ?_
            refine r_icmp_le (fun c_64 => ?_) (fun c_64 => ?_)
            · have c_64 := (n_le (a := 15) (b := 4) rfl rfl (by omega) (by omega)).mp c_64
              omega
            · have c_64 := (not_congr (n_le (a := 15) (b := 4) rfl rfl (by omega) (by omega))).mp c_64
              refine r_iincN (y := io 3) (ls' := [_, _]) rfl (zt rfl) rfl rfl ?_
              refine r_iload_n rfl ?_
              refine r_iconst ?_
              refine r_iushr ?_
              refine r_istore_n (ls' := [_, _]) (zt rfl) rfl ?_
              refine r_nil ?_
              refine E_go 5 rfl ?_
              refine r_iload_n rfl ?_
              refine r_iload_n rfl ?_
              refine r_iconst ?_
              refine r_iushr ?_
              refine r_iadd ?_
              refine r_iret rfl trivial ?_
              refine qi hQ ?_
              unfold tzB
              rw [io_nat (by omega), e1]
              rfl
          · have c_52 := (not_congr (n_le (a := 15) (b := 16) rfl rfl (by omega) (by omega))).mp c_52
            omega
        · have c_38 := (not_congr (n_le (a := 15) (b := 256) rfl rfl (by omega) (by omega))).mp c_38
          omega
      · have c_23 := (not_congr (n_le (a := 15) (b := 65536) rfl rfl (by omega) (by omega))).mp c_23
        omega
    · have c_9 := (not_congr (n_lt (a := 0) (b := 15) rfl rfl (by omega) (by omega))).mp c_9
      omega

/-- the first minute and aunt, of what was denied -/
def fdn (f : Nat → Int32) (m : Nat) : Int32 := io (10 * m + tz (f m).toNatClampNeg)

set_option maxRecDepth 10000 in
theorem s_firstDenied {xs : xSc} {m : Nat} {I : Nat → Nat → Int32} {L : Nat → Nat → Int64} {Q : Value → xHp → Prop} (hm : 65 ≤ m) {n r : Nat} {ru : Ru} {X : Pot} (h : MC n r ru I) (hX : pEq (mP n (I 61 7) I) X) (ho : okX X) (hQ1 : ∀ K L3, gF I K → ∀ u, u < 6 → (∀ j, j < u → dn ru X j = 0) → ¬ dn ru X u = 0 → Q (.int (fdn (dn ru X) u)) (Hp K L3)) (hQ0 : ∀ K L3, gF I K → (∀ j, j < 6 → dn ru X j = 0) → Q (.int (-1)) (Hp K L3)) : M xs m xi_X7_firstDenied [.ref 61] (Hp I L) Q := by
  obtain ⟨m, rfl⟩ : ∃ k, m = k + 1 := ⟨m - 1, by omega⟩
  have h5 := h.1.2.1
  have hXn : X.2.1 = n := hX.2.1.symm
  have h5x : X.2.1 ≤ 5 := by rw [hXn]; exact h5
  refine M_go (ls := [_, _, _]) (ml := 3) rfl rfl rfl (zl rfl) rfl ?_
  refine r_aload_n rfl ?_
  refine r_aload_n rfl ?_
  refine r_getI (by decide) rfl rfl (by decide) rfl ?_
  refine r_virtual (vs := []) (as := [_]) (by decide) (zl rfl) rfl rfl (zl rfl) (Nat.le_refl _) (Or.inr (Or.inr ⟨zt rfl, rfl, zt rfl⟩)) ?_
  refine w_lives (by omega) h hX ho (fun K L3 k1 k2 => ?_)
  have hn : K 61 12 = io n := (k1.2 12 (by omega)).trans h.1.1
  refine r_iconst ?_
  refine r_istore_n (ls' := [_, _, _]) (zt rfl) rfl ?_
  refine r_nil ?_
  have key : ∀ d u, u + d = 6 → (∀ j, j < u → dn ru X j = 0) → ∀ x2, E xs m xi_X7_firstDenied 82 Q 10 [.ref 61, .int (io u), x2] [] (82, K, L3, xF0) := by
    intro d
    induction d using Nat.strongRecOn with
    | _ d ih =>
    intro u hd hz x2
    refine E_go 1 rfl ?_
    refine r_iload_n rfl ?_
    refine r_bipush ?_
    refine r_icmp_ge (fun c_13 => ?_) (fun c_13 => ?_)
    · have c_13 := (n_le (a := 6) (b := u) rfl rfl (by omega) (by omega)).mp c_13
      refine E_go 5 rfl ?_
      refine r_iconst ?_
      refine r_iret rfl trivial ?_
      exact hQ0 K L3 k1 (fun j hj => hz j (by omega))
    · have c_13 := (not_congr (n_le (a := 6) (b := u) rfl rfl (by omega) (by omega))).mp c_13
      refine r_iconst ?_
      refine r_istore_n (ls' := [_, _, _]) (zt rfl) rfl ?_
      refine r_nil ?_
      have hu : u < 6 := by omega
      obtain ⟨k, hk, ek⟩ := dn_n (ru := ru) (X := X) h5x u
      rw [hXn] at hk
      have hnext : dn ru X u = 0 → E xs m xi_X7_firstDenied 82 Q 10 [.ref 61, .int (io (u + 1)), .int (io n)] [] (82, K, L3, xF0) := fun z => ih (d - 1) (by omega) (u + 1) (by omega) (all_succ hz z) _
      have key2 : ∀ d a, a + d = n → (∀ b, b < a → ¬ tb (io k) b) → E xs m xi_X7_firstDenied 82 Q 18 [.ref 61, .int (io u), .int (io a)] [] (82, K, L3, xF0) := by
        intro d
        induction d using Nat.strongRecOn with
        | _ d ih =>
        intro a hd hb
        refine E_go 2 rfl ?_
        refine r_iload_n rfl ?_
        refine r_aload_n rfl ?_
        refine r_getI (by decide) rfl rfl (by decide) hn ?_
        refine r_icmp_ge (fun c_23 => ?_) (fun c_23 => ?_)
        · have c_23 := (n_le (a := n) (b := a) rfl rfl (by omega) (by omega)).mp c_23
          refine E_go 4 rfl ?_
          refine r_iincN (y := io (u + 1)) (ls' := [_, _, _]) rfl (zt rfl) (n_add (a := u) (b := 1) rfl rfl) rfl ?_
          refine r_goto ?_
          have ea : a = n := by omega
          subst ea
          have ez : k = 0 := tz_0 a (by omega) k hk hb
          exact hnext (by rw [ek, ez]; rfl)
        · have c_23 := (not_congr (n_le (a := n) (b := a) rfl rfl (by omega) (by omega))).mp c_23
          refine r_aload_n rfl ?_
          refine r_getA (q := 74) (by decide) rfl rfl (by decide) ?_
          refine r_iload_n rfl ?_
          refine r_iaload (by decide) rfl (by decide) (ixE rfl (show u < 6 by omega) (by decide)) (mD_d k2 hu) ?_
          refine r_iload_n rfl ?_
          refine r_ishr ?_
          refine r_iconst ?_
          refine r_iand ?_
          refine r_iconst ?_
          refine r_icmp_ne (fun c_37 => ?_) (fun c_37 => ?_)
          · refine E_go 3 rfl ?_
            refine r_iincN (y := io (a + 1)) (ls' := [_, _, _]) rfl (zt rfl) (n_add (a := a) (b := 1) rfl rfl) rfl ?_
            refine r_goto ?_
            exact ih (d - 1) (by omega) (a + 1) (by omega) (all_succ hb (by rw [← ek]; exact c_37))
          · refine r_bipush ?_
            refine r_iload_n rfl ?_
            refine r_imul ?_
            refine r_iload_n rfl ?_
            refine r_iadd ?_
            refine r_iret rfl trivial ?_
            have ea : tz k = a := tz_b k (by have := two5 h5; omega) a (by omega) hb (by have q := c_37; rw [ek] at q; exact q)
            have q := hQ1 K L3 k1 u hu hz (by rw [ek]; exact fun z => absurd c_37 (by rw [ek, z]; exact tb_0 a (by omega)))
            unfold fdn at q
            rw [ek, io_nat (by have := two5 h5; omega), ea] at q
            rw [show (10 : Int32) * io u + io a = io (10 * u + a) from n_add (n_mul (a := 10) rfl rfl) rfl]
            exact q
      exact key2 n 0 (by omega) (fun b hb => absurd hb (by omega))
  exact key 6 0 rfl (fun j hj => absurd hj (by omega)) _

set_option maxRecDepth 10000 in
theorem tz_breaks {xs : xSc} {m : Nat} {I : Nat → Nat → Int32} {L : Nat → Nat → Int64} {Q : Value → Value → xHp → Prop} (hm : 90 ≤ m) (hR : Rel I) {x : Int32} (hQ : ∀ (x : Int32) J L2, Rel J → Q (.int x) (.int x) (Hp J L2)) : M xs m xi_X6_breaks [.ref 0, .int x] (Hp I L) (fun r1 h1 => M xs m xi_X7_breaks [.ref 61, .int x] h1 (fun r2 h2 => Q r1 r2 h2)) := by
  obtain ⟨m, rfl⟩ : ∃ k, m = k + 6 := ⟨m - 6, by omega⟩
  obtain ⟨n, tc, r, tp, R⟩ := hR
  have h5 := R.n5
  have hr6 := R.r6
  have ht6 := R.t6
  have hrt := R.rt
  have hp160 := R.2.2.1.1.1
  obtain ⟨ru, hl⟩ := R.rl
  by_cases hy : inN 2 x
  · obtain ⟨k, hk, rfl⟩ := inN_ex hy (by omega)
    have ek : k = 0 ∨ k = 1 := by omega
    rcases ek with rfl | rfl
    · refine M_go (ls := [_, _, _]) (ml := 3) rfl rfl rfl (zl rfl) rfl ?_
      refine r_iload_n rfl ?_
      refine r_static (vs := [_]) (by decide) (zl rfl) rfl rfl (zl rfl) (Nat.le_refl _) rfl ?_
      refine s_isEither (by omega) ?_
      rw [if_pos (inN_io (by omega) (by omega))]
      refine r_if_ne (fun c_4 => ?_) (fun c_4 => ?_)
      · have c_4 := (not_congr (n_eq (a := 1) (b := 0) rfl rfl (by omega) (by omega))).mp c_4
        refine E_go 1 rfl ?_
        refine r_aload_n rfl ?_
        refine r_aload_n rfl ?_
        refine r_getA (q := 1) (by decide) rfl rfl (by decide) ?_
        refine r_virtual (vs := []) (as := [_]) (by decide) (zl rfl) rfl rfl (zl rfl) (Nat.le_refl _) (Or.inr (Or.inr ⟨zt rfl, rfl, zt rfl⟩)) ?_
        refine w_think (by omega) (R.c hl) (fun J1 k1 k2 => ?_)
        have f1 := k1.fS (by omega) (by omega)
        have R1 := R.f f1
        refine r_aload_n rfl ?_
        refine r_getA (q := 19) (by decide) rfl rfl (by decide) ?_
        refine r_virtual (vs := []) (as := []) (by decide) (zl rfl) rfl rfl (zl rfl) (Nat.le_refl _) (Or.inr (Or.inr ⟨zt rfl, rfl, zt rfl⟩)) ?_
        refine s_firstBreach (by omega) ?_
        rw [fbr_c (g := (dn ru (pX n I))) (fun j _ hj => hD_d k2 (by omega))]
        rcases fbr_cs (f := (dn ru (pX n I))) 6 0 with ⟨u, _, hu, hz, hnz, e⟩ | ⟨hz, e⟩
        · rw [e]
          refine r_istore_n (ls' := [_, _, _]) (zt rfl) rfl ?_
          refine r_iload_n rfl ?_
          refine r_iconst ?_
          refine r_icmp_eq (fun c_28 => ?_) (fun c_28 => ?_)
          · exact absurd c_28 (io_m1 (by omega))
          · refine r_iload_n rfl ?_
            refine r_iconst ?_
            refine r_icmp_ne (fun c_33 => ?_) (fun c_33 => ?_)
            · have c_33 := (not_congr (n_eq (a := 0) (b := 1) rfl rfl (by omega) (by omega))).mp c_33
              refine E_go 3 rfl ?_
              refine r_aload_n rfl ?_
              refine r_getA (q := 19) (by decide) rfl rfl (by decide) ?_
              refine r_getA (q := 26) (by decide) rfl rfl (by decide) ?_
              refine r_iload_n rfl ?_
              refine r_iaload (by decide) rfl (by decide) (ixE rfl (show u < 6 by omega) (by decide)) (hD_d k2 (m := u) (by omega)) ?_
              refine r_static (vs := [_]) (by decide) (zl rfl) rfl rfl (zl rfl) (Nat.le_refl _) rfl ?_
              refine s_ntz (by omega) ?_ ?_
              · obtain ⟨k, hk, ek⟩ := dn_n (ru := ru) (X := pX n I) h5 u
                exact ⟨k, Nat.lt_of_lt_of_le hk (two5 h5), Nat.pos_of_ne_zero fun z => hnz (by rw [ek, z]; rfl), ek⟩
              refine r_iret rfl trivial ?_
              refine M_go (ls := [_, _, _]) (ml := 3) rfl rfl rfl (zl rfl) rfl ?_
              refine r_iload_n rfl ?_
              refine r_i2l ?_
              refine r_lconst ?_
              refine r_lconst ?_
              refine r_static (vs := [_, _, _]) (by decide) (zl rfl) rfl rfl (zl rfl) (Nat.le_refl _) rfl ?_
              refine s_in0 (by omega) (x := (io 0)) (k := 2) (Int32.toInt_toInt64 _) i64_0 rfl ?_
              rw [if_pos (inN_io (by omega) (by omega))]
              refine r_if_ne (fun c_7 => ?_) (fun c_7 => ?_)
              · have c_7 := (not_congr (n_eq (a := 1) (b := 0) rfl rfl (by omega) (by omega))).mp c_7
                refine E_go 1 rfl ?_
                refine r_aload_n rfl ?_
                refine r_virtual (vs := []) (as := []) (by decide) (zl rfl) rfl rfl (zl rfl) (Nat.le_refl _) (Or.inr (Or.inr ⟨zt rfl, rfl, zt rfl⟩)) ?_
                have hk6 : u < 6 := by omega
                refine s_firstDenied (X := pX n I) (by omega) (R1.m (hl.f f1 hr6)) (R1.eM f1) R.okX (fun K L3 q1 v hv hzv hnv => ?_) (fun K L3 q1 q2 => absurd (q2 u hk6) hnz)
                have ev : v = u := by
                  rcases Nat.lt_trichotomy v u with c | c | c
                  · exact absurd (hz v (by omega) c) hnv
                  · exact c
                  · exact absurd (hzv u c) hnz
                subst ev
                have tzh : tz ((dn ru (pX n I)) v).toNatClampNeg < 5 := by
                  obtain ⟨k, hk, ek⟩ := dn_n (ru := ru) (X := pX n I) h5 v
                  have hk0 : 0 < k := Nat.pos_of_ne_zero fun z => hnz (by rw [ek, z]; rfl)
                  have h32 := two5 h5
                  have ht := tz_l n (by omega) k hk hk0
                  rw [ek, io_nat (Nat.lt_of_lt_of_le hk (show 2 ^ n ≤ 2147483648 by omega))]
                  omega
                refine r_istore_n (ls' := [_, _, _]) (zt rfl) rfl ?_
                refine r_iload_n rfl ?_
                refine r_iconst ?_
                refine r_icmp_ne (fun c_20 => ?_) (fun c_20 => ?_)
                · refine E_go 2 rfl ?_
                  refine r_iload_n rfl ?_
                  refine r_if_ne (fun c_28 => ?_) (fun c_28 => ?_)
                  · have c_28 := (not_congr (n_eq (a := 0) (b := 0) rfl rfl (by omega) (by omega))).mp c_28
                    omega
                  · have c_28 := (n_eq (a := 0) (b := 0) rfl rfl (by omega) (by omega)).mp c_28
                    refine r_iload_n rfl ?_
                    refine r_bipush ?_
                    refine r_irem (by decide) ?_
                    refine r_goto ?_
                    refine E_go 4 rfl ?_
                    refine r_iret rfl trivial ?_
                    obtain ⟨k, hk, ek⟩ := dn_n (ru := ru) (X := pX n I) h5 v
                    have hk0 : 0 < k := Nat.pos_of_ne_zero fun z => hnz (by rw [ek, z]; rfl)
                    have ht := tz_l n (by omega) k hk hk0
                    have h32 : k < 32 := by have := two5 h5; exact Nat.lt_of_lt_of_le hk this
                    unfold tzB fdn
                    rw [ek, io_nat (by omega), show io (10 * v + tz k) - io (10 * v + tz k) / 10 * 10 = io ((10 * v + tz k) % 10) from n_rem rfl rfl (by omega) (by omega), show (10 * v + tz k) % 10 = tz k by omega]
                    exact hQ _ _ _ (R1.f q1.fS).rel
                · exact absurd c_20 (io_m1 (by have := tzh; omega))
              · have c_7 := (n_eq (a := 1) (b := 0) rfl rfl (by omega) (by omega)).mp c_7
                omega
            · have c_33 := (n_eq (a := 0) (b := 1) rfl rfl (by omega) (by omega)).mp c_33
              omega
        · rw [e]
          refine r_istore_n (ls' := [_, _, _]) (zt rfl) rfl ?_
          refine r_iload_n rfl ?_
          refine r_iconst ?_
          refine r_icmp_eq (fun c_28 => ?_) (fun c_28 => ?_)
          · refine E_go 2 rfl ?_
            refine r_iload_n rfl ?_
            refine r_iret rfl trivial ?_
            refine M_go (ls := [_, _, _]) (ml := 3) rfl rfl rfl (zl rfl) rfl ?_
            refine r_iload_n rfl ?_
            refine r_i2l ?_
            refine r_lconst ?_
            refine r_lconst ?_
            refine r_static (vs := [_, _, _]) (by decide) (zl rfl) rfl rfl (zl rfl) (Nat.le_refl _) rfl ?_
            refine s_in0 (by omega) (x := (io 0)) (k := 2) (Int32.toInt_toInt64 _) i64_0 rfl ?_
            rw [if_pos (inN_io (by omega) (by omega))]
            refine r_if_ne (fun c_7 => ?_) (fun c_7 => ?_)
            · have c_7 := (not_congr (n_eq (a := 1) (b := 0) rfl rfl (by omega) (by omega))).mp c_7
              refine E_go 1 rfl ?_
              refine r_aload_n rfl ?_
              refine r_virtual (vs := []) (as := []) (by decide) (zl rfl) rfl rfl (zl rfl) (Nat.le_refl _) (Or.inr (Or.inr ⟨zt rfl, rfl, zt rfl⟩)) ?_
              refine s_firstDenied (X := pX n I) (by omega) (R1.m (hl.f f1 hr6)) (R1.eM f1) R.okX (fun K L3 q1 v hv hzv hnv => absurd (hz v (by omega) (by omega)) hnv) (fun K L3 q1 q2 => ?_)
              refine r_istore_n (ls' := [_, _, _]) (zt rfl) rfl ?_
              refine r_iload_n rfl ?_
              refine r_iconst ?_
              refine r_icmp_ne (fun c_20 => ?_) (fun c_20 => ?_)
              · exact absurd rfl c_20
              · refine r_iconst ?_
                refine r_goto ?_
                refine E_go 4 rfl ?_
                refine r_iret rfl trivial ?_
                exact hQ _ _ _ (R1.f q1.fS).rel
            · have c_7 := (n_eq (a := 1) (b := 0) rfl rfl (by omega) (by omega)).mp c_7
              omega
          · exact absurd rfl c_28
      · have c_4 := (n_eq (a := 1) (b := 0) rfl rfl (by omega) (by omega)).mp c_4
        omega
    · refine M_go (ls := [_, _, _]) (ml := 3) rfl rfl rfl (zl rfl) rfl ?_
      refine r_iload_n rfl ?_
      refine r_static (vs := [_]) (by decide) (zl rfl) rfl rfl (zl rfl) (Nat.le_refl _) rfl ?_
      refine s_isEither (by omega) ?_
      rw [if_pos (inN_io (by omega) (by omega))]
      refine r_if_ne (fun c_4 => ?_) (fun c_4 => ?_)
      · have c_4 := (not_congr (n_eq (a := 1) (b := 0) rfl rfl (by omega) (by omega))).mp c_4
        refine E_go 1 rfl ?_
        refine r_aload_n rfl ?_
        refine r_aload_n rfl ?_
        refine r_getA (q := 1) (by decide) rfl rfl (by decide) ?_
        refine r_virtual (vs := []) (as := [_]) (by decide) (zl rfl) rfl rfl (zl rfl) (Nat.le_refl _) (Or.inr (Or.inr ⟨zt rfl, rfl, zt rfl⟩)) ?_
        refine w_think (by omega) (R.c hl) (fun J1 k1 k2 => ?_)
        have f1 := k1.fS (by omega) (by omega)
        have R1 := R.f f1
        refine r_aload_n rfl ?_
        refine r_getA (q := 19) (by decide) rfl rfl (by decide) ?_
        refine r_virtual (vs := []) (as := []) (by decide) (zl rfl) rfl rfl (zl rfl) (Nat.le_refl _) (Or.inr (Or.inr ⟨zt rfl, rfl, zt rfl⟩)) ?_
        refine s_firstBreach (by omega) ?_
        rw [fbr_c (g := (dn ru (pX n I))) (fun j _ hj => hD_d k2 (by omega))]
        rcases fbr_cs (f := (dn ru (pX n I))) 6 0 with ⟨u, _, hu, hz, hnz, e⟩ | ⟨hz, e⟩
        · rw [e]
          refine r_istore_n (ls' := [_, _, _]) (zt rfl) rfl ?_
          refine r_iload_n rfl ?_
          refine r_iconst ?_
          refine r_icmp_eq (fun c_28 => ?_) (fun c_28 => ?_)
          · exact absurd c_28 (io_m1 (by omega))
          · refine r_iload_n rfl ?_
            refine r_iconst ?_
            refine r_icmp_ne (fun c_33 => ?_) (fun c_33 => ?_)
            · have c_33 := (not_congr (n_eq (a := 1) (b := 1) rfl rfl (by omega) (by omega))).mp c_33
              omega
            · have c_33 := (n_eq (a := 1) (b := 1) rfl rfl (by omega) (by omega)).mp c_33
              refine r_nil ?_
              refine E_go 2 rfl ?_
              refine r_iload_n rfl ?_
              refine r_iret rfl trivial ?_
              refine M_go (ls := [_, _, _]) (ml := 3) rfl rfl rfl (zl rfl) rfl ?_
              refine r_iload_n rfl ?_
              refine r_i2l ?_
              refine r_lconst ?_
              refine r_lconst ?_
              refine r_static (vs := [_, _, _]) (by decide) (zl rfl) rfl rfl (zl rfl) (Nat.le_refl _) rfl ?_
              refine s_in0 (by omega) (x := (io 1)) (k := 2) (Int32.toInt_toInt64 _) i64_0 rfl ?_
              rw [if_pos (inN_io (by omega) (by omega))]
              refine r_if_ne (fun c_7 => ?_) (fun c_7 => ?_)
              · have c_7 := (not_congr (n_eq (a := 1) (b := 0) rfl rfl (by omega) (by omega))).mp c_7
                refine E_go 1 rfl ?_
                refine r_aload_n rfl ?_
                refine r_virtual (vs := []) (as := []) (by decide) (zl rfl) rfl rfl (zl rfl) (Nat.le_refl _) (Or.inr (Or.inr ⟨zt rfl, rfl, zt rfl⟩)) ?_
                have hk6 : u < 6 := by omega
                refine s_firstDenied (X := pX n I) (by omega) (R1.m (hl.f f1 hr6)) (R1.eM f1) R.okX (fun K L3 q1 v hv hzv hnv => ?_) (fun K L3 q1 q2 => absurd (q2 u hk6) hnz)
                have ev : v = u := by
                  rcases Nat.lt_trichotomy v u with c | c | c
                  · exact absurd (hz v (by omega) c) hnv
                  · exact c
                  · exact absurd (hzv u c) hnz
                subst ev
                have tzh : tz ((dn ru (pX n I)) v).toNatClampNeg < 5 := by
                  obtain ⟨k, hk, ek⟩ := dn_n (ru := ru) (X := pX n I) h5 v
                  have hk0 : 0 < k := Nat.pos_of_ne_zero fun z => hnz (by rw [ek, z]; rfl)
                  have h32 := two5 h5
                  have ht := tz_l n (by omega) k hk hk0
                  rw [ek, io_nat (Nat.lt_of_lt_of_le hk (show 2 ^ n ≤ 2147483648 by omega))]
                  omega
                refine r_istore_n (ls' := [_, _, _]) (zt rfl) rfl ?_
                refine r_iload_n rfl ?_
                refine r_iconst ?_
                refine r_icmp_ne (fun c_20 => ?_) (fun c_20 => ?_)
                · refine E_go 2 rfl ?_
                  refine r_iload_n rfl ?_
                  refine r_if_ne (fun c_28 => ?_) (fun c_28 => ?_)
                  · have c_28 := (not_congr (n_eq (a := 1) (b := 0) rfl rfl (by omega) (by omega))).mp c_28
                    refine E_go 3 rfl ?_
                    refine r_iload_n rfl ?_
                    refine r_bipush ?_
                    refine r_idiv (by decide) ?_
                    refine r_nil ?_
                    refine E_go 4 rfl ?_
                    refine r_iret rfl trivial ?_
                    obtain ⟨k, hk, ek⟩ := dn_n (ru := ru) (X := pX n I) h5 v
                    have hk0 : 0 < k := Nat.pos_of_ne_zero fun z => hnz (by rw [ek, z]; rfl)
                    have ht := tz_l n (by omega) k hk hk0
                    have h32 : k < 32 := by have := two5 h5; exact Nat.lt_of_lt_of_le hk this
                    unfold fdn
                    rw [ek, io_nat (by omega), show io (10 * v + tz k) / 10 = io ((10 * v + tz k) / 10) from n_div rfl rfl (by omega) (by omega), show (10 * v + tz k) / 10 = v by omega]
                    exact hQ _ _ _ (R1.f q1.fS).rel
                  · have c_28 := (n_eq (a := 1) (b := 0) rfl rfl (by omega) (by omega)).mp c_28
                    omega
                · exact absurd c_20 (io_m1 (by have := tzh; omega))
              · have c_7 := (n_eq (a := 1) (b := 0) rfl rfl (by omega) (by omega)).mp c_7
                omega
        · rw [e]
          refine r_istore_n (ls' := [_, _, _]) (zt rfl) rfl ?_
          refine r_iload_n rfl ?_
          refine r_iconst ?_
          refine r_icmp_eq (fun c_28 => ?_) (fun c_28 => ?_)
          · refine E_go 2 rfl ?_
            refine r_iload_n rfl ?_
            refine r_iret rfl trivial ?_
            refine M_go (ls := [_, _, _]) (ml := 3) rfl rfl rfl (zl rfl) rfl ?_
            refine r_iload_n rfl ?_
            refine r_i2l ?_
            refine r_lconst ?_
            refine r_lconst ?_
            refine r_static (vs := [_, _, _]) (by decide) (zl rfl) rfl rfl (zl rfl) (Nat.le_refl _) rfl ?_
            refine s_in0 (by omega) (x := (io 1)) (k := 2) (Int32.toInt_toInt64 _) i64_0 rfl ?_
            rw [if_pos (inN_io (by omega) (by omega))]
            refine r_if_ne (fun c_7 => ?_) (fun c_7 => ?_)
            · have c_7 := (not_congr (n_eq (a := 1) (b := 0) rfl rfl (by omega) (by omega))).mp c_7
              refine E_go 1 rfl ?_
              refine r_aload_n rfl ?_
              refine r_virtual (vs := []) (as := []) (by decide) (zl rfl) rfl rfl (zl rfl) (Nat.le_refl _) (Or.inr (Or.inr ⟨zt rfl, rfl, zt rfl⟩)) ?_
              refine s_firstDenied (X := pX n I) (by omega) (R1.m (hl.f f1 hr6)) (R1.eM f1) R.okX (fun K L3 q1 v hv hzv hnv => absurd (hz v (by omega) (by omega)) hnv) (fun K L3 q1 q2 => ?_)
              refine r_istore_n (ls' := [_, _, _]) (zt rfl) rfl ?_
              refine r_iload_n rfl ?_
              refine r_iconst ?_
              refine r_icmp_ne (fun c_20 => ?_) (fun c_20 => ?_)
              · exact absurd rfl c_20
              · refine r_iconst ?_
                refine r_goto ?_
                refine E_go 4 rfl ?_
                refine r_iret rfl trivial ?_
                exact hQ _ _ _ (R1.f q1.fS).rel
            · have c_7 := (n_eq (a := 1) (b := 0) rfl rfl (by omega) (by omega)).mp c_7
              omega
          · exact absurd rfl c_28
      · have c_4 := (n_eq (a := 1) (b := 0) rfl rfl (by omega) (by omega)).mp c_4
        omega
  · refine M_go (ls := [_, _, _]) (ml := 3) rfl rfl rfl (zl rfl) rfl ?_
    refine r_iload_n rfl ?_
    refine r_static (vs := [_]) (by decide) (zl rfl) rfl rfl (zl rfl) (Nat.le_refl _) rfl ?_
    refine s_isEither (by omega) ?_
    rw [if_neg hy]
    refine r_if_ne (fun c_4 => ?_) (fun c_4 => ?_)
    · have c_4 := (not_congr (n_eq (a := 0) (b := 0) rfl rfl (by omega) (by omega))).mp c_4
      omega
    · have c_4 := (n_eq (a := 0) (b := 0) rfl rfl (by omega) (by omega)).mp c_4
      refine r_bipush ?_
      refine r_iret rfl trivial ?_
      refine M_go (ls := [_, _, _]) (ml := 3) rfl rfl rfl (zl rfl) rfl ?_
      refine r_iload_n rfl ?_
      refine r_i2l ?_
      refine r_lconst ?_
      refine r_lconst ?_
      refine r_static (vs := [_, _, _]) (by decide) (zl rfl) rfl rfl (zl rfl) (Nat.le_refl _) rfl ?_
      refine s_in0 (by omega) (x := x) (k := 2) (Int32.toInt_toInt64 _) i64_0 rfl ?_
      rw [if_neg hy]
      refine r_if_ne (fun c_7 => ?_) (fun c_7 => ?_)
      · have c_7 := (not_congr (n_eq (a := 0) (b := 0) rfl rfl (by omega) (by omega))).mp c_7
        omega
      · have c_7 := (n_eq (a := 0) (b := 0) rfl rfl (by omega) (by omega)).mp c_7
        refine r_bipush ?_
        refine r_iret rfl trivial ?_
        exact hQ _ _ _ R.rel
