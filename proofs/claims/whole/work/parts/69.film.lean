/-! calls: film, copy -/

/-- all but sheet s stands -/
def RY (s n tc r tp : Nat) (I : Nat → Nat → Int32) : Prop := RA n I ∧ RT tc r I ∧ RP tp I ∧ RI n tc I ∧ ∀ t, t < 4 → ¬ t = s → RHs t I
section
variable {s n tc r tp : Nat} {v : Int32} {I J : Nat → Nat → Int32} {ru : Ru}
theorem RX.y (h : RX n tc r tp I) : RY s n tc r tp I := ⟨h.1, h.2.1, h.2.2.1, h.2.2.2.1, fun t ht _ => h.2.2.2.2 t ht⟩
theorem RHs.f {t : Nat} (ht : t < 4) (h : RHs t I) (f : fS I J) : RHs t J := by
  unfold RHs at h ⊢
  rw [f.1 (53 + 2 * t) (by omega), f.1 (54 + 2 * t) (by omega), f.1 78 (by omega), f.1 79 (by omega), f.1 80 (by omega), f.1 81 (by omega)]
  exact h
theorem RY.f (h : RY s n tc r tp I) (f : fS I J) : RY s n tc r tp J := ⟨h.1.f f, h.2.1.f f, h.2.2.1.f f, h.2.2.2.1.f f, fun t ht hn => RHs.f ht (h.2.2.2.2 t ht hn) f⟩
theorem RY.e (h : RY s n tc r tp I) (e : eS s I J) (hs : s < 4) : RY s n tc r tp J := by
  have f : ∀ p, ¬ (53 ≤ p ∧ p ≤ 60) → ¬ (78 ≤ p ∧ p ≤ 81) → J p = I p := fun p h1 h2 => e.1 p (by omega)
  refine ⟨h.1.g ?_ ?_ ?_ ?_ ?_ ?_ ?_ ?_ ?_ ?_ ?_ ?_ ?_ ?_, h.2.1.g ?_ ?_ ?_ ?_ ?_ ?_ (fun p h1 h2 => f p (by omega) (by omega)), h.2.2.1.g ?_ ?_ ?_ ?_, h.2.2.2.1.g ?_ ?_ (fun p h1 h2 => f p (by omega) (by omega)) ?_ ?_ (fun k _ _ => by rw [f 61 (by omega) (by omega)]), fun t ht c => ?_⟩
  any_goals exact f _ (by omega) (by omega)
  any_goals exact congrFun (f _ (by omega) (by omega)) _
  have q := h.2.2.2.2 t ht c
  obtain ⟨⟨a1, a2, a3⟩, a4⟩ := e.2 t ht c
  unfold RHs at q ⊢
  rw [e.1 (53 + 2 * t) (by omega), e.1 (54 + 2 * t) (by omega), a1, a2, a3]
  rcases q with q | ⟨so, z, q1, q2, q3, q4⟩
  · exact Or.inl q
  · exact Or.inr ⟨so, z, q1, q2, q3, fun i hi => by rw [a4 i (by omega)]; exact q4 i hi⟩
theorem RY.x (h : RY s n tc r tp I) (k : RHs s I) : RX n tc r tp I := ⟨h.1, h.2.1, h.2.2.1, h.2.2.2.1, fun t ht => by
  by_cases c : t = s
  · subst c; exact k
  · exact h.2.2.2.2 t ht c⟩
theorem MC.e (h : MC n r ru I) (e : eS s I J) (hs : s < 4) : MC n r ru J := by
  obtain ⟨⟨h1, h2, h3, h4⟩, c, k1, k2⟩ := h
  exact ⟨⟨by rw [e.1 61 (by omega)]; exact h1, h2, by rw [e.1 61 (by omega)]; exact h3, h4⟩, c, mTx_s (e.1 62 (by omega)) (e.1 63 (by omega)) k1, k2⟩
theorem mP_e (e : eS s I J) (hs : s < 4) : mP n (J 61 7) J = mP n (I 61 7) I := by
  unfold mP
  rw [e.1 61 (by omega), e.1 65 (by omega), mNu_g (e.1 66 (by omega)), mTh_g (e.1 66 (by omega)), mPl_g (e.1 66 (by omega))]
end
/-- heats behind the minutes -/
def ht (ru : Ru) (X : Pot) (i : Nat) : Int32 := (hri ru X i).1
theorem ht_n {ru : Ru} {X : Pot} (h : okX X) (i : Nat) : isN 100 (ht ru X i) := (hrs_ok h (i + 1)).1
theorem i8_n : ∀ k, k < 100 → (io k).toInt8.toInt32 = io k := by decide +kernel
theorem ht_8 {ru : Ru} {X : Pot} (h : okX X) (i : Nat) : (ht ru X i).toInt8.toInt32 = ht ru X i := by
  obtain ⟨k, hk, e⟩ := ht_n (ru := ru) h i
  rw [e, i8_n k hk]

set_option maxRecDepth 10000 in
theorem s_put0 {xs : xSc} {m : Nat} {I : Nat → Nat → Int32} {L : Nat → Nat → Int64} {Q : Value → xHp → Prop} (hm : 1 ≤ m) {s i : Nat} {v : Int32} (hs : s < 4) (hi : i < 40) (h0 : I (53 + 2 * s) 0 = 0) (hQ : Q .null (Hp (up2 I (54 + 2 * s) i v.toInt8.toInt32) L)) : M xs m xi_X3_put [.ref (53 + 2 * s), .int (io i), .int v] (Hp I L) Q := by
  obtain ⟨m, rfl⟩ : ∃ k, m = k + 1 := ⟨m - 1, by omega⟩
  refine M_go (ls := [_, _, _]) (ml := 3) rfl rfl rfl (zl rfl) rfl ?_
  refine r_aload_n rfl ?_
  refine r_getA (q := (54 + 2 * s)) (by decide) (shf hs) (shK s hs).1 (shK s hs).2.1 ?_
  refine r_iload_n rfl ?_
  refine r_aload_n rfl ?_
  refine r_getI (by decide) rfl (shK s hs).1 (shK s hs).2.1 h0 ?_
  refine r_if_ne (fun c_9 => ?_) (fun c_9 => ?_)
  · have c_9 := (not_congr (n_eq (a := 0) (b := 0) rfl rfl (by omega) (by omega))).mp c_9
    omega
  · have c_9 := (n_eq (a := 0) (b := 0) rfl rfl (by omega) (by omega)).mp c_9
    refine r_iload_n rfl ?_
    refine r_i2b ?_
    refine r_goto ?_
    refine E_go 3 rfl ?_
    refine r_iastore (shK s hs).2.2.2.2.1 (shK s hs).2.2.2.2.2.2 (ixQ rfl (show i < 40 by omega) (by decide) (shK s hs).2.2.2.2.2.1) ?_
    refine r_ret rfl ?_
    exact hQ

set_option maxRecDepth 10000 in
theorem tz_film {xs : xSc} {m : Nat} {I : Nat → Nat → Int32} {L : Nat → Nat → Int64} {Q : Value → Value → xHp → Prop} (hm : 90 ≤ m) (hR : Rel I) {x y : Int32} (hQ : ∀ (x : Int32) J L2, Rel J → Q (.int x) (.int x) (Hp J L2)) : M xs m xi_X6_film [.ref 0, .int x, .int y] (Hp I L) (fun r1 h1 => M xs m xi_X7_film [.ref 61, .int x, .int y] h1 (fun r2 h2 => Q r1 r2 h2)) := by
  obtain ⟨m, rfl⟩ : ∃ k, m = k + 6 := ⟨m - 6, by omega⟩
  obtain ⟨n, tc, r, tp, R⟩ := hR
  have h5 := R.n5
  have hr6 := R.r6
  have ht6 := R.t6
  have hrt := R.rt
  have hp160 := R.2.2.1.1.1
  by_cases hx : inN 4 x
  · obtain ⟨s, hs, rfl⟩ := inN_ex hx (by omega)
    by_cases hy : inN 7 y
    · obtain ⟨k, hk, rfl⟩ := inN_ex hy (by omega)
      obtain ⟨ru, hl⟩ := R.rl
      refine M_go (ls := [_, _, _, _, _]) (ml := 5) rfl rfl rfl (zl rfl) rfl ?_
      refine r_iload_n rfl ?_
      refine r_static (vs := [_]) (by decide) (zl rfl) rfl rfl (zl rfl) (Nat.le_refl _) rfl ?_
      refine s_isSheet (by omega) ?_
      rw [if_pos (inN_io hs (by omega))]
      refine r_if_eq (fun c_4 => ?_) (fun c_4 => ?_)
      · have c_4 := (n_eq (a := 1) (b := 0) rfl rfl (by omega) (by omega)).mp c_4
        omega
      · have c_4 := (not_congr (n_eq (a := 1) (b := 0) rfl rfl (by omega) (by omega))).mp c_4
        refine r_iload_n rfl ?_
        refine r_if_lt (fun c_8 => ?_) (fun c_8 => ?_)
        · have c_8 := (n_lt (a := k) (b := 0) rfl rfl (by omega) (by omega)).mp c_8
          omega
        · have c_8 := (not_congr (n_lt (a := k) (b := 0) rfl rfl (by omega) (by omega))).mp c_8
          refine r_iload_n rfl ?_
          refine r_bipush ?_
          refine r_icmp_le (fun c_14 => ?_) (fun c_14 => ?_)
          · have c_14 := (n_le (a := k) (b := 6) rfl rfl (by omega) (by omega)).mp c_14
            refine E_go 2 rfl ?_
            refine r_aload_n rfl ?_
            refine r_aload_n rfl ?_
            refine r_getA (q := 1) (by decide) rfl rfl (by decide) ?_
            refine r_virtual (vs := []) (as := [_]) (by decide) (zl rfl) rfl rfl (zl rfl) (Nat.le_refl _) (Or.inr (Or.inr ⟨zt rfl, rfl, zt rfl⟩)) ?_
            refine w_think (by omega) (R.c hl) (fun J1 k1 k2 => ?_)
            have f1 := k1.fS (by omega) (by omega)
            have R1 := R.f f1
            refine r_aload_n rfl ?_
            refine r_getA (q := 34) (by decide) rfl rfl (by decide) ?_
            refine r_iload_n rfl ?_
            refine r_aaload (by decide) (by decide) (ixE rfl (show s < 4 by omega) (by decide)) (shK s hs).2.2.1 ?_
            refine r_astore_n (ls' := [_, _, _, _, _]) (zt rfl) rfl ?_
            refine r_aload_n rfl ?_
            refine r_iconst ?_
            refine r_iload_n rfl ?_
            refine r_virtual (vs := []) (as := [_, _]) (by decide) (zl rfl) rfl rfl (zl rfl) (Nat.le_refl _) (Or.inr (Or.inr ⟨zt rfl, (shK s hs).1, (shK s hs).2.1⟩)) ?_
            refine s_shBecomes (by omega) hs (fun J2 j1 j2 j3 j4 => ?_)
            refine r_iconst ?_
            refine r_istore (ls' := [_, _, _, _, _]) (zt rfl) rfl ?_
            refine r_nil ?_
            have hc : ∀ J : Nat → Nat → Int32, (∀ p, ¬ (p = 53 + 2 * s ∨ p = 54 + 2 * s) → J p = J1 p) → ∀ i, i < 6 → J 23 i = (ht ru (pX n I)) i := fun J e i hi => by rw [e 23 (by omega)]; exact (k2.2 i hi).1
            have fin : ∀ J : Nat → Nat → Int32, (eS s J1 J ∧ (J (53 + 2 * s) 0 = 0 ∧ J (53 + 2 * s) 1 = io k) ∧ (∀ p, ¬ (p = 53 + 2 * s ∨ p = 54 + 2 * s) → J p = J1 p) ∧ ∀ j, j < k → J (54 + 2 * s) j = (ht ru (pX n I)) j) → M xs (m + 6) xi_X7_film [.ref 61, .int (io s), .int (io k)] (Hp J L) (fun r2 h2 => Q (.int (io k)) r2 h2) := by
              intro J hJ
              have hJ : eS s J1 J ∧ (J (53 + 2 * s) 0 = 0 ∧ J (53 + 2 * s) 1 = io k) ∧ ∀ j, j < k → J (54 + 2 * s) j = (ht ru (pX n I)) j := ⟨hJ.1, hJ.2.1, hJ.2.2.2⟩
              refine M_go (ls := [_, _, _, _]) (ml := 4) rfl rfl rfl (zl rfl) rfl ?_
              refine r_iload_n rfl ?_
              refine r_static (vs := [_]) (by decide) (zl rfl) rfl rfl (zl rfl) (Nat.le_refl _) rfl ?_
              refine s_misSheet (by omega) ?_
              rw [if_pos (inN_io hs (by omega))]
              refine r_if_eq (fun c_4 => ?_) (fun c_4 => ?_)
              · have c_4 := (n_eq (a := 1) (b := 0) rfl rfl (by omega) (by omega)).mp c_4
                omega
              · have c_4 := (not_congr (n_eq (a := 1) (b := 0) rfl rfl (by omega) (by omega))).mp c_4
                refine r_iload_n rfl ?_
                refine r_i2l ?_
                refine r_lconst ?_
                refine r_ldc2_w ?_
                refine r_static (vs := [_, _, _]) (by decide) (zl rfl) rfl rfl (zl rfl) (Nat.le_refl _) rfl ?_
                refine s_in0 (by omega) (x := (io k)) (k := 7) (Int32.toInt_toInt64 _) i64_0 rfl ?_
                rw [if_pos (inN_io hk (by omega))]
                refine r_if_ne (fun c_16 => ?_) (fun c_16 => ?_)
                · have c_16 := (not_congr (n_eq (a := 1) (b := 0) rfl rfl (by omega) (by omega))).mp c_16
                  refine E_go 2 rfl ?_
                  refine r_aload_n rfl ?_
                  refine r_aload_n rfl ?_
                  refine r_getI (by decide) rfl rfl (by decide) rfl ?_
                  refine r_virtual (vs := []) (as := [_]) (by decide) (zl rfl) rfl rfl (zl rfl) (Nat.le_refl _) (Or.inr (Or.inr ⟨zt rfl, rfl, zt rfl⟩)) ?_
                  refine w_lives (X := pX n I) (by omega) ((R1.m (hl.f f1 hr6)).e hJ.1 hs) (by rw [mP_e hJ.1 hs]; exact R1.eM f1) R.okX (fun K0 L3 g1 g2 => ?_)
                  refine r_aload_n rfl ?_
                  refine r_iload_n rfl ?_
                  refine r_iconst ?_
                  refine r_iload_n rfl ?_
                  refine r_virtual (vs := []) (as := [_, _, _]) (by decide) (zl rfl) rfl rfl (zl rfl) (Nat.le_refl _) (Or.inr (Or.inr ⟨zt rfl, rfl, zt rfl⟩)) ?_
                  refine s_msheet (so := 0) (by omega) hs (by omega) (by omega) (fun K1 e1 e2 e3 e4 => ?_)
                  refine r_pop rfl ?_
                  refine r_iconst ?_
                  refine r_istore_n (ls' := [_, _, _, _]) (zt rfl) rfl ?_
                  refine r_nil ?_
                  have hb : ∀ K : Nat → Nat → Int32, eS s K0 K → ∀ j, j < 6 → K 71 j = (ht ru (pX n I)) j := fun K e j hj => by rw [e.1 71 (by omega)]; exact (g2.2 j hj).1
                  have fin : ∀ (K : Nat → Nat → Int32) L2, (eS s K0 K ∧ (K 78 s = 1 ∧ K 79 s = 0 ∧ K 80 s = io k) ∧ (∀ p, p < 61 → K p = K0 p) ∧ ∀ j, j < k → K 81 (40 * s + j) = (ht ru (pX n I)) j) → Q (.int (io k)) (.int (io k)) (Hp K L2) := by
                    intro K L2 hK
                    refine hQ _ _ _ (((((R1.y (s := s)).e hJ.1 hs).f g1.fS).e hK.1 hs).x (Or.inr ⟨0, k, ⟨by omega, by omega⟩, ⟨?_, ?_⟩, hK.2.1, fun j hj => ?_⟩)).rel
                    · rw [hK.2.2.1 _ (by omega), g1.1 _ (by omega)]; exact hJ.2.1.1
                    · rw [hK.2.2.1 _ (by omega), g1.1 _ (by omega)]; exact hJ.2.1.2
                    · rw [hK.2.2.2 j hj, hK.2.2.1 _ (by omega), g1.1 _ (by omega)]; exact (hJ.2.2 j hj).symm
                  have key : ∀ d i, i + d = k → ∀ (K : Nat → Nat → Int32) L2, (eS s K0 K ∧ (K 78 s = 1 ∧ K 79 s = 0 ∧ K 80 s = io k) ∧ (∀ p, p < 61 → K p = K0 p) ∧ ∀ j, j < i → K 81 (40 * s + j) = (ht ru (pX n I)) j) → E xs (m + 5) xi_X7_film 82 (fun r2 h2 => Q (.int (io k)) r2 h2) 40 [.ref 61, .int (io s), .int (io k), .int (io i)] [] (82, K, L2, xF0) := by
                    intro d
                    induction d using Nat.strongRecOn with
                    | _ d ih =>
                    intro i hd K L2 hK
                    refine E_go 3 rfl ?_
                    refine r_iload_n rfl ?_
                    refine r_iload_n rfl ?_
                    refine r_icmp_ge (fun c_42 => ?_) (fun c_42 => ?_)
                    · have c_42 := (n_le (a := k) (b := i) rfl rfl (by omega) (by omega)).mp c_42
                      refine E_go 4 rfl ?_
                      refine r_iload_n rfl ?_
                      refine r_iret rfl trivial ?_
                      have ei : i = k := by omega
                      subst ei
                      exact fin K _ hK
                    · have c_42 := (not_congr (n_le (a := k) (b := i) rfl rfl (by omega) (by omega))).mp c_42
                      refine r_aload_n rfl ?_
                      refine r_getA (q := 81) (by decide) rfl rfl (by decide) ?_
                      refine r_bipush ?_
                      refine r_iload_n rfl ?_
                      refine r_imul ?_
                      refine r_iload_n rfl ?_
                      refine r_iadd ?_
                      refine r_aload_n rfl ?_
                      refine r_getA (q := 71) (by decide) rfl rfl (by decide) ?_
                      refine r_iload_n rfl ?_
                      refine r_iaload (by decide) rfl (by decide) (ixE rfl (show i < 6 by omega) (by decide)) (hb K hK.1 i (by omega)) ?_
                      refine r_iastore rfl (by decide) (ixE (n_add (a := (40 * s)) (b := i) (n_mul (a := 40) (b := s) rfl rfl) rfl) (show ((40 * s) + i) < 160 by omega) (by decide)) ?_
                      refine r_iincN (y := io (i + 1)) (ls' := [_, _, _, _]) rfl (zt rfl) (n_add (a := i) (b := 1) rfl rfl) rfl ?_
                      refine r_goto ?_
                      refine ih (d - 1) (by omega) (i + 1) (by omega) _ _ ⟨hK.1.trans (eS.i hs (by omega)), by rw [up2_q (by omega), up2_q (by omega), up2_q (by omega)]; exact hK.2.1, fun p hp => by rw [up2_q (by omega)]; exact hK.2.2.1 p hp, all_succ (fun b hb => by rw [up2_k (by omega)]; exact hK.2.2.2 b hb) up2_at⟩
                  exact key k 0 (by omega) K1 _ ⟨e1, e2, e3, fun j hj => absurd hj (by omega)⟩
                · have c_16 := (n_eq (a := 1) (b := 0) rfl rfl (by omega) (by omega)).mp c_16
                  omega
            have key : ∀ d i, i + d = k → ∀ J : Nat → Nat → Int32, (eS s J1 J ∧ (J (53 + 2 * s) 0 = 0 ∧ J (53 + 2 * s) 1 = io k) ∧ (∀ p, ¬ (p = 53 + 2 * s ∨ p = 54 + 2 * s) → J p = J1 p) ∧ ∀ j, j < i → J (54 + 2 * s) j = (ht ru (pX n I)) j) → E xs (m + 5) xi_X6_film 82 (fun r1 h1 => M xs (m + 6) xi_X7_film [.ref 61, .int (io s), .int (io k)] h1 (fun r2 h2 => Q r1 r2 h2)) 44 [.ref 0, .int (io s), .int (io k), .ref (53 + 2 * s), .int (io i)] [] (82, J, L, xF0) := by
              intro d
              induction d using Nat.strongRecOn with
              | _ d ih =>
              intro i hd J hJ
              refine E_go 3 rfl ?_
              refine r_iload rfl ?_
              refine r_iload_n rfl ?_
              refine r_icmp_ge (fun c_47 => ?_) (fun c_47 => ?_)
              · have c_47 := (n_le (a := k) (b := i) rfl rfl (by omega) (by omega)).mp c_47
                refine E_go 4 rfl ?_
                refine r_iload_n rfl ?_
                refine r_iret rfl trivial ?_
                have ei : i = k := by omega
                subst ei
                exact fin J hJ
              · have c_47 := (not_congr (n_le (a := k) (b := i) rfl rfl (by omega) (by omega))).mp c_47
                refine r_aload_n rfl ?_
                refine r_iload rfl ?_
                refine r_aload_n rfl ?_
                refine r_getA (q := 19) (by decide) rfl rfl (by decide) ?_
                refine r_getA (q := 23) (by decide) rfl rfl (by decide) ?_
                refine r_iload rfl ?_
                refine r_iaload (by decide) rfl (by decide) (ixE rfl (show i < 6 by omega) (by decide)) (hc J hJ.2.2.1 i (by omega)) ?_
                refine r_virtual (vs := []) (as := [_, _]) (by decide) (zl rfl) rfl rfl (zl rfl) (Nat.le_refl _) (Or.inr (Or.inr ⟨zt rfl, (shK s hs).1, (shK s hs).2.1⟩)) ?_
                refine s_put0 (by omega) hs (by omega) hJ.2.1.1 ?_
                rw [ht_8 R.okX]
                refine r_iincN (y := io (i + 1)) (ls' := [_, _, _, _, _]) rfl (zt rfl) (n_add (a := i) (b := 1) rfl rfl) rfl ?_
                refine r_goto ?_
                refine ih (d - 1) (by omega) (i + 1) (by omega) _ ⟨hJ.1.trans (eS.c hs (by omega)), by rw [up2_q (by omega)]; exact hJ.2.1, fun p hp => by rw [up2_q (by omega)]; exact hJ.2.2.1 p hp, all_succ (fun b hb => by rw [up2_k (by omega)]; exact hJ.2.2.2 b hb) up2_at⟩
            exact key k 0 (by omega) J2 ⟨eS_b hs j1, ⟨j2, j3⟩, j1, fun j hj => absurd hj (by omega)⟩
          · have c_14 := (not_congr (n_le (a := k) (b := 6) rfl rfl (by omega) (by omega))).mp c_14
            omega
    · refine M_go (ls := [_, _, _, _, _]) (ml := 5) rfl rfl rfl (zl rfl) rfl ?_
      refine r_iload_n rfl ?_
      refine r_static (vs := [_]) (by decide) (zl rfl) rfl rfl (zl rfl) (Nat.le_refl _) rfl ?_
      refine s_isSheet (by omega) ?_
      rw [if_pos (inN_io hs (by omega))]
      refine r_if_eq (fun c_4 => ?_) (fun c_4 => ?_)
      · have c_4 := (n_eq (a := 1) (b := 0) rfl rfl (by omega) (by omega)).mp c_4
        omega
      · have c_4 := (not_congr (n_eq (a := 1) (b := 0) rfl rfl (by omega) (by omega))).mp c_4
        refine r_iload_n rfl ?_
        refine r_if_lt (fun c_8 => ?_) (fun c_8 => ?_)
        · have c_8 := (jlt (b := 0) rfl (by omega)).mp c_8
          refine E_go 1 rfl ?_
          refine r_bipush ?_
          refine r_iret rfl trivial ?_
          refine M_go (ls := [_, _, _, _]) (ml := 4) rfl rfl rfl (zl rfl) rfl ?_
          refine r_iload_n rfl ?_
          refine r_static (vs := [_]) (by decide) (zl rfl) rfl rfl (zl rfl) (Nat.le_refl _) rfl ?_
          refine s_misSheet (by omega) ?_
          rw [if_pos (inN_io hs (by omega))]
          refine r_if_eq (fun c_4 => ?_) (fun c_4 => ?_)
          · have c_4 := (n_eq (a := 1) (b := 0) rfl rfl (by omega) (by omega)).mp c_4
            omega
          · have c_4 := (not_congr (n_eq (a := 1) (b := 0) rfl rfl (by omega) (by omega))).mp c_4
            refine r_iload_n rfl ?_
            refine r_i2l ?_
            refine r_lconst ?_
            refine r_ldc2_w ?_
            refine r_static (vs := [_, _, _]) (by decide) (zl rfl) rfl rfl (zl rfl) (Nat.le_refl _) rfl ?_
            refine s_in0 (by omega) (x := y) (k := 7) (Int32.toInt_toInt64 _) i64_0 rfl ?_
            rw [if_neg hy]
            refine r_if_ne (fun c_16 => ?_) (fun c_16 => ?_)
            · have c_16 := (not_congr (n_eq (a := 0) (b := 0) rfl rfl (by omega) (by omega))).mp c_16
              omega
            · have c_16 := (n_eq (a := 0) (b := 0) rfl rfl (by omega) (by omega)).mp c_16
              refine r_nil ?_
              refine E_go 1 rfl ?_
              refine r_bipush ?_
              refine r_iret rfl trivial ?_
              exact hQ _ _ _ R.rel
        · have c_8 := (not_congr (jlt (b := 0) rfl (by omega))).mp c_8
          refine r_iload_n rfl ?_
          refine r_bipush ?_
          refine r_icmp_le (fun c_14 => ?_) (fun c_14 => ?_)
          · have c_14 := (jle (b := 6) rfl (by omega)).mp c_14
            exact absurd (show 0 ≤ y.toInt ∧ y.toInt < 7 by omega) hy
          · have c_14 := (not_congr (jle (b := 6) rfl (by omega))).mp c_14
            refine r_nil ?_
            refine E_go 1 rfl ?_
            refine r_bipush ?_
            refine r_iret rfl trivial ?_
            refine M_go (ls := [_, _, _, _]) (ml := 4) rfl rfl rfl (zl rfl) rfl ?_
            refine r_iload_n rfl ?_
            refine r_static (vs := [_]) (by decide) (zl rfl) rfl rfl (zl rfl) (Nat.le_refl _) rfl ?_
            refine s_misSheet (by omega) ?_
            rw [if_pos (inN_io hs (by omega))]
            refine r_if_eq (fun c_4 => ?_) (fun c_4 => ?_)
            · have c_4 := (n_eq (a := 1) (b := 0) rfl rfl (by omega) (by omega)).mp c_4
              omega
            · have c_4 := (not_congr (n_eq (a := 1) (b := 0) rfl rfl (by omega) (by omega))).mp c_4
              refine r_iload_n rfl ?_
              refine r_i2l ?_
              refine r_lconst ?_
              refine r_ldc2_w ?_
              refine r_static (vs := [_, _, _]) (by decide) (zl rfl) rfl rfl (zl rfl) (Nat.le_refl _) rfl ?_
              refine s_in0 (by omega) (x := y) (k := 7) (Int32.toInt_toInt64 _) i64_0 rfl ?_
              rw [if_neg hy]
              refine r_if_ne (fun c_16 => ?_) (fun c_16 => ?_)
              · have c_16 := (not_congr (n_eq (a := 0) (b := 0) rfl rfl (by omega) (by omega))).mp c_16
                omega
              · have c_16 := (n_eq (a := 0) (b := 0) rfl rfl (by omega) (by omega)).mp c_16
                refine r_nil ?_
                refine E_go 1 rfl ?_
                refine r_bipush ?_
                refine r_iret rfl trivial ?_
                exact hQ _ _ _ R.rel
  · refine M_go (ls := [_, _, _, _, _]) (ml := 5) rfl rfl rfl (zl rfl) rfl ?_
    refine r_iload_n rfl ?_
    refine r_static (vs := [_]) (by decide) (zl rfl) rfl rfl (zl rfl) (Nat.le_refl _) rfl ?_
    refine s_isSheet (by omega) ?_
    rw [if_neg hx]
    refine r_if_eq (fun c_4 => ?_) (fun c_4 => ?_)
    · have c_4 := (n_eq (a := 0) (b := 0) rfl rfl (by omega) (by omega)).mp c_4
      refine E_go 1 rfl ?_
      refine r_bipush ?_
      refine r_iret rfl trivial ?_
      refine M_go (ls := [_, _, _, _]) (ml := 4) rfl rfl rfl (zl rfl) rfl ?_
      refine r_iload_n rfl ?_
      refine r_static (vs := [_]) (by decide) (zl rfl) rfl rfl (zl rfl) (Nat.le_refl _) rfl ?_
      refine s_misSheet (by omega) ?_
      rw [if_neg hx]
      refine r_if_eq (fun c_4 => ?_) (fun c_4 => ?_)
      · have c_4 := (n_eq (a := 0) (b := 0) rfl rfl (by omega) (by omega)).mp c_4
        refine E_go 1 rfl ?_
        refine r_bipush ?_
        refine r_iret rfl trivial ?_
        exact hQ _ _ _ R.rel
      · have c_4 := (not_congr (n_eq (a := 0) (b := 0) rfl rfl (by omega) (by omega))).mp c_4
        omega
    · have c_4 := (not_congr (n_eq (a := 0) (b := 0) rfl rfl (by omega) (by omega))).mp c_4
      omega

abbrev okR (z : Nat) (x y : Int32) : Prop := 0 ≤ x.toInt ∧ 0 ≤ y.toInt ∧ x.toInt + y.toInt ≤ z
theorem ls_z {z : Nat} {x : Int32} (hz : z ≤ 40) (hx : 0 ≤ x.toInt) : (io z - x).toInt = z - x.toInt := by
  have := x.toInt_lt
  rw [sub_int (by rw [io_int (by omega)]; omega) (by rw [io_int (by omega)]; omega), io_int (by omega)]

set_option maxRecDepth 10000 in
theorem s_holds {xs : xSc} {m : Nat} {I : Nat → Nat → Int32} {L : Nat → Nat → Int64} {Q : Value → xHp → Prop} (hm : 1 ≤ m) {s z : Nat} (hs : s < 4) (hz1 : I (53 + 2 * s) 1 = io z) (hz : z ≤ 40) {x y : Int32} (hQ : Q (.int (if okR z x y then 1 else 0)) (Hp I L)) : M xs m xi_X3_holds [.ref (53 + 2 * s), .int x, .int y] (Hp I L) Q := by
  obtain ⟨m, rfl⟩ : ∃ k, m = k + 1 := ⟨m - 1, by omega⟩
  refine M_go (ls := [_, _, _]) (ml := 3) rfl rfl rfl (zl rfl) rfl ?_
  refine r_iload_n rfl ?_
  refine r_if_lt (fun c_1 => ?_) (fun c_1 => ?_)
  · have c_1 := (jlt (b := 0) rfl (by omega)).mp c_1
    refine E_go 1 rfl ?_
    refine r_iconst ?_
    refine r_nil ?_
    refine E_go 2 rfl ?_
    refine r_iret rfl (by first | exact Or.inl rfl | exact Or.inr rfl) ?_
    refine qb hQ ?_
    by_cases q0 : okR z x y
    · exact Or.inl ⟨q0, by first | rfl | exact absurd q0 (fun ⟨q1, q2, q3⟩ => by first | omega | (rw [lt_int, ls_z hz (by omega)] at c_23; omega))⟩
    · exact Or.inr ⟨q0, by first | rfl | exact absurd ⟨by omega, by omega, by rw [lt_int, ls_z hz (by omega)] at c_23; omega⟩ q0⟩
  · have c_1 := (not_congr (jlt (b := 0) rfl (by omega))).mp c_1
    refine r_iload_n rfl ?_
    refine r_if_lt (fun c_5 => ?_) (fun c_5 => ?_)
    · have c_5 := (jlt (b := 0) rfl (by omega)).mp c_5
      refine E_go 1 rfl ?_
      refine r_iconst ?_
      refine r_nil ?_
      refine E_go 2 rfl ?_
      refine r_iret rfl (by first | exact Or.inl rfl | exact Or.inr rfl) ?_
      refine qb hQ ?_
      by_cases q0 : okR z x y
      · exact Or.inl ⟨q0, by first | rfl | exact absurd q0 (fun ⟨q1, q2, q3⟩ => by first | omega | (rw [lt_int, ls_z hz (by omega)] at c_23; omega))⟩
      · exact Or.inr ⟨q0, by first | rfl | exact absurd ⟨by omega, by omega, by rw [lt_int, ls_z hz (by omega)] at c_23; omega⟩ q0⟩
    · have c_5 := (not_congr (jlt (b := 0) rfl (by omega))).mp c_5
      refine r_iload_n rfl ?_
      refine r_aload_n rfl ?_
      refine r_getI (by decide) rfl (shK s hs).1 (shK s hs).2.1 hz1 ?_
      refine r_icmp_gt (fun c_13 => ?_) (fun c_13 => ?_)
      · have c_13 := (klt (b := z) rfl (by omega)).mp c_13
        refine E_go 1 rfl ?_
        refine r_iconst ?_
        refine r_nil ?_
        refine E_go 2 rfl ?_
        refine r_iret rfl (by first | exact Or.inl rfl | exact Or.inr rfl) ?_
        refine qb hQ ?_
        by_cases q0 : okR z x y
        · exact Or.inl ⟨q0, by first | rfl | exact absurd q0 (fun ⟨q1, q2, q3⟩ => by first | omega | (rw [lt_int, ls_z hz (by omega)] at c_23; omega))⟩
        · exact Or.inr ⟨q0, by first | rfl | exact absurd ⟨by omega, by omega, by rw [lt_int, ls_z hz (by omega)] at c_23; omega⟩ q0⟩
      · have c_13 := (not_congr (klt (b := z) rfl (by omega))).mp c_13
        refine r_iload_n rfl ?_
        refine r_aload_n rfl ?_
        refine r_getI (by decide) rfl (shK s hs).1 (shK s hs).2.1 hz1 ?_
        refine r_iload_n rfl ?_
        refine r_isub ?_
        refine r_icmp_gt (fun c_23 => ?_) (fun c_23 => ?_)
        · refine E_go 1 rfl ?_
          refine r_iconst ?_
          refine r_nil ?_
          refine E_go 2 rfl ?_
          refine r_iret rfl (by first | exact Or.inl rfl | exact Or.inr rfl) ?_
          refine qb hQ ?_
          by_cases q0 : okR z x y
          · exact Or.inl ⟨q0, by first | rfl | exact absurd q0 (fun ⟨q1, q2, q3⟩ => by first | omega | (rw [lt_int, ls_z hz (by omega)] at c_23; omega))⟩
          · exact Or.inr ⟨q0, by first | rfl | exact absurd ⟨by omega, by omega, by rw [lt_int, ls_z hz (by omega)] at c_23; omega⟩ q0⟩
        · refine r_iconst ?_
          refine r_goto ?_
          refine E_go 2 rfl ?_
          refine r_iret rfl (by first | exact Or.inl rfl | exact Or.inr rfl) ?_
          refine qb hQ ?_
          by_cases q0 : okR z x y
          · exact Or.inl ⟨q0, by first | rfl | exact absurd q0 (fun ⟨q1, q2, q3⟩ => by first | omega | (rw [lt_int, ls_z hz (by omega)] at c_23; omega))⟩
          · exact Or.inr ⟨q0, by first | rfl | exact absurd ⟨by omega, by omega, by rw [lt_int, ls_z hz (by omega)] at c_23; omega⟩ q0⟩
