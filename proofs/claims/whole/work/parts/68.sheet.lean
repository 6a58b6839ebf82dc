/-! calls: sheets -/

theorem shK : ∀ s, s < 4 → xKd (53 + 2 * s) = 2 ∧ 53 + 2 * s < 82 ∧ xF0 34 s = some (53 + 2 * s) ∧ xF0 (53 + 2 * s) 2 = some (54 + 2 * s) ∧ xKd (54 + 2 * s) = 7 ∧ xLn (54 + 2 * s) = 40 ∧ 54 + 2 * s < 82 := by decide +kernel
theorem shf {s : Nat} (h : s < 4) {I : Nat → Nat → Int32} {L : Nat → Nat → Int64} : xVal (82, I, L, xF0) (53 + 2 * s) 2 (xFt 2 2) = .ref (54 + 2 * s) := by
  show va_rf (xF0 (53 + 2 * s) 2) = _
  rw [(shK s h).2.2.2.1]
  rfl
/-- all but sheet s is as it was -/
def eS (s : Nat) (I J : Nat → Nat → Int32) : Prop := (∀ p, ¬ (p = 53 + 2 * s ∨ p = 54 + 2 * s ∨ (78 ≤ p ∧ p ≤ 81)) → J p = I p) ∧ ∀ t, t < 4 → ¬ t = s → (J 78 t = I 78 t ∧ J 79 t = I 79 t ∧ J 80 t = I 80 t) ∧ ∀ i, i < 40 → J 81 (40 * t + i) = I 81 (40 * t + i)
theorem eS.refl {s : Nat} {I : Nat → Nat → Int32} : eS s I I := ⟨fun _ _ => rfl, fun _ _ _ => ⟨⟨rfl, rfl, rfl⟩, fun _ _ => rfl⟩⟩
theorem eS.trans {s : Nat} {I J K : Nat → Nat → Int32} (h : eS s I J) (k : eS s J K) : eS s I K := ⟨fun p hp => by rw [k.1 p hp, h.1 p hp], fun t ht hn => by
  obtain ⟨⟨a1, a2, a3⟩, a4⟩ := h.2 t ht hn
  obtain ⟨⟨b1, b2, b3⟩, b4⟩ := k.2 t ht hn
  exact ⟨⟨by rw [b1, a1], by rw [b2, a2], by rw [b3, a3]⟩, fun i hi => by rw [b4 i hi, a4 i hi]⟩⟩
theorem eS.c {s p k : Nat} {v : Int32} {I : Nat → Nat → Int32} (hs : s < 4) (hp : p = 53 + 2 * s ∨ p = 54 + 2 * s) : eS s I (up2 I p k v) :=
  ⟨fun q hq => up2_q (by omega), fun t _ _ => ⟨⟨by rw [up2_q (by omega)], by rw [up2_q (by omega)], by rw [up2_q (by omega)]⟩, fun i _ => by rw [up2_q (by omega)]⟩⟩
theorem eS.m {s p : Nat} {v : Int32} {I : Nat → Nat → Int32} (hs : s < 4) (hp : p = 78 ∨ p = 79 ∨ p = 80) : eS s I (up2 I p s v) := by
  refine ⟨fun q hq => up2_q (by omega), fun t ht hn => ⟨⟨?_, ?_, ?_⟩, fun i _ => by rw [up2_q (by omega)]⟩⟩
  · by_cases c : p = 78
    · subst c; rw [up2_k hn]
    · rw [up2_q (by omega)]
  · by_cases c : p = 79
    · subst c; rw [up2_k hn]
    · rw [up2_q (by omega)]
  · by_cases c : p = 80
    · subst c; rw [up2_k hn]
    · rw [up2_q (by omega)]
theorem eS.i {s k : Nat} {v : Int32} {I : Nat → Nat → Int32} (hs : s < 4) (hk : 40 * s ≤ k ∧ k < 40 * s + 40) : eS s I (up2 I 81 k v) :=
  ⟨fun q hq => up2_q (by omega), fun t ht hn => ⟨⟨by rw [up2_q (by omega)], by rw [up2_q (by omega)], by rw [up2_q (by omega)]⟩, fun i hi => by rw [up2_k (by omega)]⟩⟩
theorem RX.sh {n tc r tp s : Nat} {I J : Nat → Nat → Int32} (h : RX n tc r tp I) (hs : s < 4) (e : eS s I J) (k : RHs s J) : RX n tc r tp J := by
  have f : ∀ p, ¬ (53 ≤ p ∧ p ≤ 60) → ¬ (78 ≤ p ∧ p ≤ 81) → J p = I p := fun p h1 h2 => e.1 p (by omega)
  refine ⟨h.1.g ?_ ?_ ?_ ?_ ?_ ?_ ?_ ?_ ?_ ?_ ?_ ?_ ?_ ?_, h.2.1.g ?_ ?_ ?_ ?_ ?_ ?_ (fun p h1 h2 => f p (by omega) (by omega)), h.2.2.1.g ?_ ?_ ?_ ?_, h.2.2.2.1.g ?_ ?_ (fun p h1 h2 => f p (by omega) (by omega)) ?_ ?_ (fun k _ _ => by rw [f 61 (by omega) (by omega)]), fun t ht => ?_⟩
  any_goals exact f _ (by omega) (by omega)
  any_goals exact congrFun (f _ (by omega) (by omega)) _
  by_cases c : t = s
  · subst c; exact k
  · have q := h.2.2.2.2 t ht
    obtain ⟨⟨a1, a2, a3⟩, a4⟩ := e.2 t ht c
    unfold RHs at q ⊢
    rw [e.1 (53 + 2 * t) (by omega), e.1 (54 + 2 * t) (by omega), a1, a2, a3]
    rcases q with q | ⟨so, z, q1, q2, q3, q4⟩
    · exact Or.inl q
    · exact Or.inr ⟨so, z, q1, q2, q3, fun i hi => by rw [a4 i (by omega)]; exact q4 i hi⟩

set_option maxRecDepth 10000 in
theorem s_shBecomes {xs : xSc} {m : Nat} {I : Nat → Nat → Int32} {L : Nat → Nat → Int64} {Q : Value → xHp → Prop} (hm : 1 ≤ m) {s : Nat} {x y : Int32} (hs : s < 4) (hQ : ∀ J, (∀ q, ¬ (q = 53 + 2 * s ∨ q = 54 + 2 * s) → J q = I q) → J (53 + 2 * s) 0 = x → J (53 + 2 * s) 1 = y → (∀ i, i < 40 → J (54 + 2 * s) i = 0) → Q .null (Hp J L)) : M xs m xi_X3_becomes [.ref (53 + 2 * s), .int x, .int y] (Hp I L) Q := by
  obtain ⟨m, rfl⟩ : ∃ k, m = k + 1 := ⟨m - 1, by omega⟩
  have key : ∀ d k, k + d = 40 → ∀ J, ((∀ q, ¬ (q = 53 + 2 * s ∨ q = 54 + 2 * s) → J q = I q) ∧ J (53 + 2 * s) 0 = x ∧ J (53 + 2 * s) 1 = y ∧ ∀ i, i < k → J (54 + 2 * s) i = 0) → E xs m xi_X3_becomes 82 Q 12 [.ref (53 + 2 * s), .int x, .int y, .int (io k)] [] (82, J, L, xF0) := by
    intro d
    induction d using Nat.strongRecOn with
    | _ d ih =>
    intro k hd J hJ
    refine E_go 1 rfl ?_
    refine r_iload_n rfl ?_
    refine r_bipush ?_
    refine r_icmp_ge (fun c_15 => ?_) (fun c_15 => ?_)
    · have c_15 := (n_le (a := 40) (b := k) rfl rfl (by omega) (by omega)).mp c_15
      refine E_go 2 rfl ?_
      refine r_ret rfl ?_
      have e : k = 40 := by omega
      subst e
      exact hQ _ hJ.1 hJ.2.1 hJ.2.2.1 hJ.2.2.2
    · have c_15 := (not_congr (n_le (a := 40) (b := k) rfl rfl (by omega) (by omega))).mp c_15
      refine r_aload_n rfl ?_
      refine r_getA (q := (54 + 2 * s)) (by decide) (shf hs) (shK s hs).1 (shK s hs).2.1 ?_
      refine r_iload_n rfl ?_
      refine r_iconst ?_
      refine r_iastore (shK s hs).2.2.2.2.1 (shK s hs).2.2.2.2.2.2 (ixQ rfl (show k < 40 by omega) (by decide) (shK s hs).2.2.2.2.2.1) ?_
      refine r_iincN (y := io (k + 1)) (ls' := [_, _, _, _]) rfl (zt rfl) (n_add (a := k) (b := 1) rfl rfl) rfl ?_
      refine r_goto ?_
      refine ih (d - 1) (by omega) (k + 1) (by omega) _ ⟨fun q hq => by rw [up2_q (by omega)]; exact hJ.1 q hq, by rw [up2_q (by omega)]; exact hJ.2.1, by rw [up2_q (by omega)]; exact hJ.2.2.1, all_succ (fun b hb => by rw [up2_k (by omega)]; exact hJ.2.2.2 b hb) up2_at⟩
  refine M_go (ls := [_, _, _, _]) (ml := 4) rfl rfl rfl (zl rfl) rfl ?_
  refine r_aload_n rfl ?_
  refine r_iload_n rfl ?_
  refine r_putI rfl (shK s hs).1 (shK s hs).2.1 ?_
  refine r_aload_n rfl ?_
  refine r_iload_n rfl ?_
  refine r_putI rfl (shK s hs).1 (shK s hs).2.1 ?_
  refine r_iconst ?_
  refine r_istore_n (ls' := [_, _, _, _]) (zt rfl) rfl ?_
  refine r_nil ?_
  exact key 40 0 rfl _ ⟨fun q hq => by rw [up2_q (by omega), up2_q (by omega)], by rw [up2_k (by omega), up2_at], by rw [up2_at], fun b hb => absurd hb (by omega)⟩

set_option maxRecDepth 10000 in
theorem s_msheet {xs : xSc} {m : Nat} {I : Nat → Nat → Int32} {L : Nat → Nat → Int64} {Q : Value → xHp → Prop} (hm : 3 ≤ m) {s so z : Nat} (hs : s < 4) (hso : so < 3) (hz : z ≤ 40) (hQ : ∀ J, eS s I J → (J 78 s = 1 ∧ J 79 s = io so ∧ J 80 s = io z) → (∀ p, p < 61 → J p = I p) → (∀ i, i < z → J 81 (40 * s + i) = 0) → Q (.int 1) (Hp J L)) : M xs m xi_X7_sheet [.ref 61, .int (io s), .int (io so), .int (io z)] (Hp I L) Q := by
  obtain ⟨m, rfl⟩ : ∃ k, m = k + 1 := ⟨m - 1, by omega⟩
  have key : ∀ d k, k + d = z → ∀ J, (eS s I J ∧ (J 78 s = 1 ∧ J 79 s = io so ∧ J 80 s = io z) ∧ (∀ p, p < 61 → J p = I p) ∧ ∀ i, i < k → J 81 (40 * s + i) = 0) → E xs m xi_X7_sheet 82 Q 77 [.ref 61, .int (io s), .int (io so), .int (io z), .int (io k)] [] (82, J, L, xF0) := by
    intro d
    induction d using Nat.strongRecOn with
    | _ d ih =>
    intro k hd J hJ
    refine E_go 6 rfl ?_
    refine r_iload rfl ?_
    refine r_iload_n rfl ?_
    refine r_icmp_ge (fun c_80 => ?_) (fun c_80 => ?_)
    · have c_80 := (n_le (a := z) (b := k) rfl rfl (by omega) (by omega)).mp c_80
      refine E_go 7 rfl ?_
      refine r_iconst ?_
      refine r_iret rfl trivial ?_
      have e : k = z := by omega
      subst e
      exact hQ _ hJ.1 hJ.2.1 hJ.2.2.1 hJ.2.2.2
    · have c_80 := (not_congr (n_le (a := z) (b := k) rfl rfl (by omega) (by omega))).mp c_80
      refine r_iload_n rfl ?_
      refine r_if_lt (fun c_84 => ?_) (fun c_84 => ?_)
      · have c_84 := (n_lt (a := so) (b := 0) rfl rfl (by omega) (by omega)).mp c_84
        omega
      · have c_84 := (not_congr (n_lt (a := so) (b := 0) rfl rfl (by omega) (by omega))).mp c_84
        refine r_aload_n rfl ?_
        refine r_getA (q := 81) (by decide) rfl rfl (by decide) ?_
        refine r_bipush ?_
        refine r_iload_n rfl ?_
        refine r_imul ?_
        refine r_iload rfl ?_
        refine r_iadd ?_
        refine r_iconst ?_
        refine r_iastore rfl (by decide) (ixE (n_add (a := (40 * s)) (b := k) (n_mul (a := 40) (b := s) rfl rfl) rfl) (show ((40 * s) + k) < 160 by omega) (by decide)) ?_
        refine r_iincN (y := io (k + 1)) (ls' := [_, _, _, _, _]) rfl (zt rfl) (n_add (a := k) (b := 1) rfl rfl) rfl ?_
        refine r_goto ?_
        refine ih (d - 1) (by omega) (k + 1) (by omega) _ ⟨hJ.1.trans (eS.i hs (by omega)), by rw [up2_q (by omega), up2_q (by omega), up2_q (by omega)]; exact hJ.2.1, fun p hp => by rw [up2_q (by omega)]; exact hJ.2.2.1 p hp, all_succ (fun b hb => by rw [up2_k (by omega)]; exact hJ.2.2.2 b hb) up2_at⟩
  refine M_go (ls := [_, _, _, _, _]) (ml := 5) rfl rfl rfl (zl rfl) rfl ?_
  refine r_iload_n rfl ?_
  refine r_static (vs := [_]) (by decide) (zl rfl) rfl rfl (zl rfl) (Nat.le_refl _) rfl ?_
  refine s_misSheet (by omega) ?_
  rw [if_pos (inN_io hs (by omega))]
  refine r_if_eq (fun c_4 => ?_) (fun c_4 => ?_)
  · have c_4 := (n_eq (a := 1) (b := 0) rfl rfl (by omega) (by omega)).mp c_4
    omega
  · have c_4 := (not_congr (n_eq (a := 1) (b := 0) rfl rfl (by omega) (by omega))).mp c_4
    refine r_iload_n rfl ?_
    refine r_i2l ?_
    refine r_ldc2_w ?_
    refine r_ldc2_w ?_
    refine r_static (vs := [_, _, _]) (by decide) (zl rfl) rfl rfl (zl rfl) (Nat.le_refl _) rfl ?_
    refine s_inr (by omega) (x := io so) (lo := -1) (hi := 2) (Int32.toInt_toInt64 _) (by decide) (by decide) ?_
    rw [if_pos (by rw [io_int (by omega)]; omega)]
    refine r_if_eq (fun c_18 => ?_) (fun c_18 => ?_)
    · have c_18 := (n_eq (a := 1) (b := 0) rfl rfl (by omega) (by omega)).mp c_18
      omega
    · have c_18 := (not_congr (n_eq (a := 1) (b := 0) rfl rfl (by omega) (by omega))).mp c_18
      refine r_iload_n rfl ?_
      refine r_if_lt (fun c_22 => ?_) (fun c_22 => ?_)
      · have c_22 := (n_lt (a := so) (b := 0) rfl rfl (by omega) (by omega)).mp c_22
        omega
      · have c_22 := (not_congr (n_lt (a := so) (b := 0) rfl rfl (by omega) (by omega))).mp c_22
        refine r_iload_n rfl ?_
        refine r_bipush ?_
        refine r_icmp_le (fun c_28 => ?_) (fun c_28 => ?_)
        · have c_28 := (n_le (a := z) (b := 40) rfl rfl (by omega) (by omega)).mp c_28
          refine E_go 2 rfl ?_
          refine r_iload_n rfl ?_
          refine r_if_lt (fun c_35 => ?_) (fun c_35 => ?_)
          · have c_35 := (n_lt (a := so) (b := 0) rfl rfl (by omega) (by omega)).mp c_35
            omega
          · have c_35 := (not_congr (n_lt (a := so) (b := 0) rfl rfl (by omega) (by omega))).mp c_35
            refine r_iload_n rfl ?_
            refine r_if_ge (fun c_39 => ?_) (fun c_39 => ?_)
            · have c_39 := (n_le (a := 0) (b := z) rfl rfl (by omega) (by omega)).mp c_39
              refine E_go 3 rfl ?_
              refine r_aload_n rfl ?_
              refine r_getA (q := 78) (by decide) rfl rfl (by decide) ?_
              refine r_iload_n rfl ?_
              refine r_iload_n rfl ?_
              refine r_if_lt (fun c_51 => ?_) (fun c_51 => ?_)
              · have c_51 := (n_lt (a := so) (b := 0) rfl rfl (by omega) (by omega)).mp c_51
                omega
              · have c_51 := (not_congr (n_lt (a := so) (b := 0) rfl rfl (by omega) (by omega))).mp c_51
                refine r_iconst ?_
                refine r_goto ?_
                refine E_go 5 rfl ?_
                refine r_bastore rfl (by decide) (ixE rfl (show s < 4 by omega) (by decide)) (by first | exact Or.inl rfl | exact Or.inr rfl) ?_
                refine r_aload_n rfl ?_
                refine r_getA (q := 79) (by decide) rfl rfl (by decide) ?_
                refine r_iload_n rfl ?_
                refine r_iload_n rfl ?_
                refine r_iastore rfl (by decide) (ixE rfl (show s < 4 by omega) (by decide)) ?_
                refine r_aload_n rfl ?_
                refine r_getA (q := 80) (by decide) rfl rfl (by decide) ?_
                refine r_iload_n rfl ?_
                refine r_iload_n rfl ?_
                refine r_iastore rfl (by decide) (ixE rfl (show s < 4 by omega) (by decide)) ?_
                refine r_iconst ?_
                refine r_istore (ls' := [_, _, _, _, _]) (zt rfl) rfl ?_
                refine r_nil ?_
                exact key z 0 (by omega) _ ⟨((eS.m hs (by omega)).trans (eS.m hs (by omega))).trans (eS.m hs (by omega)), ⟨by rw [up2_q (by omega), up2_q (by omega), up2_at], by rw [up2_q (by omega), up2_at], by rw [up2_at]⟩, fun p hp => by rw [up2_q (by omega), up2_q (by omega), up2_q (by omega)], fun b hb => absurd hb (by omega)⟩
            · have c_39 := (not_congr (n_le (a := 0) (b := z) rfl rfl (by omega) (by omega))).mp c_39
              omega
        · have c_28 := (not_congr (n_le (a := z) (b := 40) rfl rfl (by omega) (by omega))).mp c_28
          omega

theorem eS_b {s : Nat} (hs : s < 4) {I J : Nat → Nat → Int32} (h : ∀ q, ¬ (q = 53 + 2 * s ∨ q = 54 + 2 * s) → J q = I q) : eS s I J := ⟨fun p hp => h p (by omega), fun t ht hn => ⟨⟨by rw [h 78 (by omega)], by rw [h 79 (by omega)], by rw [h 80 (by omega)]⟩, fun i _ => by rw [h 81 (by omega)]⟩⟩
theorem m1i : (-1 : Int32).toInt = -1 := by decide

set_option maxRecDepth 10000 in
theorem tz_sheet {xs : xSc} {m : Nat} {I : Nat → Nat → Int32} {L : Nat → Nat → Int64} {Q : Value → Value → xHp → Prop} (hm : 90 ≤ m) (hR : Rel I) {x y z : Int32} (hQ : ∀ (x : Int32) J L2, Rel J → Q (.int x) (.int x) (Hp J L2)) : M xs m xi_X6_sheet [.ref 0, .int x, .int y, .int z] (Hp I L) (fun r1 h1 => M xs m xi_X7_sheet [.ref 61, .int x, .int y, .int z] h1 (fun r2 h2 => Q r1 r2 h2)) := by
  obtain ⟨m, rfl⟩ : ∃ k, m = k + 6 := ⟨m - 6, by omega⟩
  obtain ⟨n, tc, r, tp, R⟩ := hR
  have h5 := R.n5
  have hr6 := R.r6
  have ht6 := R.t6
  have hrt := R.rt
  have hp160 := R.2.2.1.1.1
  by_cases hx : inN 4 x
  · obtain ⟨s, hs, rfl⟩ := inN_ex hx (by omega)
    by_cases hm1 : y = -1
    · subst hm1
      refine M_go (ls := [_, _, _, _]) (ml := 4) rfl rfl rfl (zl rfl) rfl ?_
      refine r_iload_n rfl ?_
      refine r_static (vs := [_]) (by decide) (zl rfl) rfl rfl (zl rfl) (Nat.le_refl _) rfl ?_
      refine s_isSheet (by omega) ?_
      rw [if_pos (inN_io hs (by omega))]
      refine r_if_eq (fun c_4 => ?_) (fun c_4 => ?_)
      · have c_4 := (n_eq (a := 1) (b := 0) rfl rfl (by omega) (by omega)).mp c_4
        omega
      · have c_4 := (not_congr (n_eq (a := 1) (b := 0) rfl rfl (by omega) (by omega))).mp c_4
        refine r_iload_n rfl ?_
        refine r_iconst ?_
        refine r_icmp_eq (fun c_9 => ?_) (fun c_9 => ?_)
        · refine E_go 2 rfl ?_
          refine r_iload_n rfl ?_
          refine r_iconst ?_
          refine r_icmp_eq (fun c_24 => ?_) (fun c_24 => ?_)
          · refine E_go 3 rfl ?_
            refine r_iload_n rfl ?_
            refine r_iconst ?_
            refine r_icmp_eq (fun c_38 => ?_) (fun c_38 => ?_)
            · refine E_go 4 rfl ?_
              refine r_aload_n rfl ?_
              refine r_getA (q := 34) (by decide) rfl rfl (by decide) ?_
              refine r_iload_n rfl ?_
              refine r_aaload (by decide) (by decide) (ixE rfl (show s < 4 by omega) (by decide)) (shK s hs).2.2.1 ?_
              refine r_iload_n rfl ?_
              refine r_iload_n rfl ?_
              refine r_iconst ?_
              refine r_icmp_ne (fun c_57 => ?_) (fun c_57 => ?_)
              · exact absurd rfl c_57
              · refine r_iconst ?_
                refine r_goto ?_
                refine E_go 6 rfl ?_
                refine r_virtual (vs := []) (as := [_, _]) (by decide) (zl rfl) rfl rfl (zl rfl) (Nat.le_refl _) (Or.inr (Or.inr ⟨zt rfl, (shK s hs).1, (shK s hs).2.1⟩)) ?_
                refine s_shBecomes (by omega) hs (fun J j1 j2 j3 j4 => ?_)
                refine r_iconst ?_
                refine r_iret rfl trivial ?_
                refine M_go (ls := [_, _, _, _, _]) (ml := 5) rfl rfl rfl (zl rfl) rfl ?_
                refine r_iload_n rfl ?_
                refine r_static (vs := [_]) (by decide) (zl rfl) rfl rfl (zl rfl) (Nat.le_refl _) rfl ?_
                refine s_misSheet (by omega) ?_
                rw [if_pos (inN_io hs (by omega))]
                refine r_if_eq (fun c_4 => ?_) (fun c_4 => ?_)
                · have c_4 := (n_eq (a := 1) (b := 0) rfl rfl (by omega) (by omega)).mp c_4
                  omega
                · have c_4 := (not_congr (n_eq (a := 1) (b := 0) rfl rfl (by omega) (by omega))).mp c_4
                  refine r_iload_n rfl ?_
                  refine r_i2l ?_
                  refine r_ldc2_w ?_
                  refine r_ldc2_w ?_
                  refine r_static (vs := [_, _, _]) (by decide) (zl rfl) rfl rfl (zl rfl) (Nat.le_refl _) rfl ?_
                  refine s_inr (by omega) (x := -1) (lo := -1) (hi := 2) (Int32.toInt_toInt64 _) (by decide) (by decide) ?_
                  rw [if_pos (by decide)]
                  refine r_if_eq (fun c_18 => ?_) (fun c_18 => ?_)
                  · have c_18 := (n_eq (a := 1) (b := 0) rfl rfl (by omega) (by omega)).mp c_18
                    omega
                  · have c_18 := (not_congr (n_eq (a := 1) (b := 0) rfl rfl (by omega) (by omega))).mp c_18
                    refine r_iload_n rfl ?_
                    refine r_if_lt (fun c_22 => ?_) (fun c_22 => ?_)
                    · refine E_go 2 rfl ?_
                      refine r_iload_n rfl ?_
                      refine r_if_lt (fun c_35 => ?_) (fun c_35 => ?_)
                      · refine E_go 3 rfl ?_
                        refine r_aload_n rfl ?_
                        refine r_getA (q := 78) (by decide) rfl rfl (by decide) ?_
                        refine r_iload_n rfl ?_
                        refine r_iload_n rfl ?_
                        refine r_if_lt (fun c_51 => ?_) (fun c_51 => ?_)
                        · refine E_go 4 rfl ?_
                          refine r_iconst ?_
                          refine r_nil ?_
                          refine E_go 5 rfl ?_
                          refine r_bastore rfl (by decide) (ixE rfl (show s < 4 by omega) (by decide)) (by first | exact Or.inl rfl | exact Or.inr rfl) ?_
                          refine r_aload_n rfl ?_
                          refine r_getA (q := 79) (by decide) rfl rfl (by decide) ?_
                          refine r_iload_n rfl ?_
                          refine r_iload_n rfl ?_
                          refine r_iastore rfl (by decide) (ixE rfl (show s < 4 by omega) (by decide)) ?_
                          refine r_aload_n rfl ?_
                          refine r_getA (q := 80) (by decide) rfl rfl (by decide) ?_
                          refine r_iload_n rfl ?_
                          refine r_iload_n rfl ?_
                          refine r_iastore rfl (by decide) (ixE rfl (show s < 4 by omega) (by decide)) ?_
                          refine r_iconst ?_
                          refine r_istore (ls' := [_, _, _, _, _]) (zt rfl) rfl ?_
                          refine r_nil ?_
                          refine E_go 6 rfl ?_
                          refine r_iload rfl ?_
                          refine r_iload_n rfl ?_
                          refine r_icmp_ge (fun c_80 => ?_) (fun c_80 => ?_)
                          · refine E_go 7 rfl ?_
                            refine r_iconst ?_
                            refine r_iret rfl trivial ?_
                            refine hQ _ _ _ (R.sh hs (((eS_b hs j1).trans (eS.m hs (by omega))).trans ((eS.m hs (by omega)).trans (eS.m hs (by omega)))) (Or.inl ⟨?_, ?_⟩)).rel
                            · rw [up2_q (by omega), up2_q (by omega), up2_q (by omega)]; exact j2
                            · rw [up2_q (by omega), up2_q (by omega), up2_at]
                          · refine r_iload_n rfl ?_
                            refine r_if_lt (fun c_84 => ?_) (fun c_84 => ?_)
                            · refine E_go 7 rfl ?_
                              refine r_iconst ?_
                              refine r_iret rfl trivial ?_
                              refine hQ _ _ _ (R.sh hs (((eS_b hs j1).trans (eS.m hs (by omega))).trans ((eS.m hs (by omega)).trans (eS.m hs (by omega)))) (Or.inl ⟨?_, ?_⟩)).rel
                              · rw [up2_q (by omega), up2_q (by omega), up2_q (by omega)]; exact j2
                              · rw [up2_q (by omega), up2_q (by omega), up2_at]
                            · exact absurd (by decide) c_84
                        · exact absurd (by decide) c_51
                      · exact absurd (by decide) c_35
                    · exact absurd (by decide) c_22
            · exact absurd rfl c_38
          · exact absurd rfl c_24
        · exact absurd rfl c_9
    · by_cases hso0 : inN 3 y
      · obtain ⟨so, hso, rfl⟩ := inN_ex hso0 (by omega)
        by_cases hz : 40 < z.toInt
        · refine M_go (ls := [_, _, _, _]) (ml := 4) rfl rfl rfl (zl rfl) rfl ?_
          refine r_iload_n rfl ?_
          refine r_static (vs := [_]) (by decide) (zl rfl) rfl rfl (zl rfl) (Nat.le_refl _) rfl ?_
          refine s_isSheet (by omega) ?_
          rw [if_pos (inN_io hs (by omega))]
          refine r_if_eq (fun c_4 => ?_) (fun c_4 => ?_)
          · have c_4 := (n_eq (a := 1) (b := 0) rfl rfl (by omega) (by omega)).mp c_4
            omega
          · have c_4 := (not_congr (n_eq (a := 1) (b := 0) rfl rfl (by omega) (by omega))).mp c_4
            refine r_iload_n rfl ?_
            refine r_iconst ?_
            refine r_icmp_eq (fun c_9 => ?_) (fun c_9 => ?_)
            · exact absurd c_9 (io_m1 (by omega))
            · refine r_iload_n rfl ?_
              refine r_static (vs := [_]) (by decide) (zl rfl) rfl rfl (zl rfl) (Nat.le_refl _) rfl ?_
              refine s_isSort (by omega) ?_
              rw [if_pos (inN_io hso (by omega))]
              refine r_if_ne (fun c_16 => ?_) (fun c_16 => ?_)
              · have c_16 := (not_congr (n_eq (a := 1) (b := 0) rfl rfl (by omega) (by omega))).mp c_16
                refine E_go 2 rfl ?_
                refine r_iload_n rfl ?_
                refine r_iconst ?_
                refine r_icmp_eq (fun c_24 => ?_) (fun c_24 => ?_)
                · exact absurd c_24 (io_m1 (by omega))
                · refine r_iload_n rfl ?_
                  refine r_bipush ?_
                  refine r_icmp_le (fun c_30 => ?_) (fun c_30 => ?_)
                  · have c_30 := (jle (b := 40) rfl (by omega)).mp c_30
                    omega
                  · have c_30 := (not_congr (jle (b := 40) rfl (by omega))).mp c_30
                    refine r_bipush ?_
                    refine r_iret rfl trivial ?_
                    refine M_go (ls := [_, _, _, _, _]) (ml := 5) rfl rfl rfl (zl rfl) rfl ?_
                    refine r_iload_n rfl ?_
                    refine r_static (vs := [_]) (by decide) (zl rfl) rfl rfl (zl rfl) (Nat.le_refl _) rfl ?_
                    refine s_misSheet (by omega) ?_
                    rw [if_pos (inN_io hs (by omega))]
                    refine r_if_eq (fun c_4 => ?_) (fun c_4 => ?_)
                    · have c_4 := (n_eq (a := 1) (b := 0) rfl rfl (by omega) (by omega)).mp c_4
                      omega
                    · have c_4 := (not_congr (n_eq (a := 1) (b := 0) rfl rfl (by omega) (by omega))).mp c_4
                      refine r_iload_n rfl ?_
                      refine r_i2l ?_
                      refine r_ldc2_w ?_
                      refine r_ldc2_w ?_
                      refine r_static (vs := [_, _, _]) (by decide) (zl rfl) rfl rfl (zl rfl) (Nat.le_refl _) rfl ?_
                      refine s_inr (by omega) (x := io so) (lo := -1) (hi := 2) (Int32.toInt_toInt64 _) (by decide) (by decide) ?_
                      rw [if_pos (by rw [io_int (by omega)]; omega)]
                      refine r_if_eq (fun c_18 => ?_) (fun c_18 => ?_)
                      · have c_18 := (n_eq (a := 1) (b := 0) rfl rfl (by omega) (by omega)).mp c_18
                        omega
                      · have c_18 := (not_congr (n_eq (a := 1) (b := 0) rfl rfl (by omega) (by omega))).mp c_18
                        refine r_iload_n rfl ?_
                        refine r_if_lt (fun c_22 => ?_) (fun c_22 => ?_)
                        · have c_22 := (n_lt (a := so) (b := 0) rfl rfl (by omega) (by omega)).mp c_22
                          omega
                        · have c_22 := (not_congr (n_lt (a := so) (b := 0) rfl rfl (by omega) (by omega))).mp c_22
                          refine r_iload_n rfl ?_
                          refine r_bipush ?_
                          refine r_icmp_le (fun c_28 => ?_) (fun c_28 => ?_)
                          · have c_28 := (jle (b := 40) rfl (by omega)).mp c_28
                            omega
                          · have c_28 := (not_congr (jle (b := 40) rfl (by omega))).mp c_28
                            refine r_nil ?_
                            refine E_go 1 rfl ?_
                            refine r_bipush ?_
                            refine r_iret rfl trivial ?_
                            exact hQ _ _ _ R.rel
              · have c_16 := (n_eq (a := 1) (b := 0) rfl rfl (by omega) (by omega)).mp c_16
                omega
        · by_cases hz0 : z.toInt < 0
          · refine M_go (ls := [_, _, _, _]) (ml := 4) rfl rfl rfl (zl rfl) rfl ?_
            refine r_iload_n rfl ?_
            refine r_static (vs := [_]) (by decide) (zl rfl) rfl rfl (zl rfl) (Nat.le_refl _) rfl ?_
            refine s_isSheet (by omega) ?_
            rw [if_pos (inN_io hs (by omega))]
            refine r_if_eq (fun c_4 => ?_) (fun c_4 => ?_)
            · have c_4 := (n_eq (a := 1) (b := 0) rfl rfl (by omega) (by omega)).mp c_4
              omega
            · have c_4 := (not_congr (n_eq (a := 1) (b := 0) rfl rfl (by omega) (by omega))).mp c_4
              refine r_iload_n rfl ?_
              refine r_iconst ?_
              refine r_icmp_eq (fun c_9 => ?_) (fun c_9 => ?_)
              · exact absurd c_9 (io_m1 (by omega))
              · refine r_iload_n rfl ?_
                refine r_static (vs := [_]) (by decide) (zl rfl) rfl rfl (zl rfl) (Nat.le_refl _) rfl ?_
                refine s_isSort (by omega) ?_
                rw [if_pos (inN_io hso (by omega))]
                refine r_if_ne (fun c_16 => ?_) (fun c_16 => ?_)
                · have c_16 := (not_congr (n_eq (a := 1) (b := 0) rfl rfl (by omega) (by omega))).mp c_16
                  refine E_go 2 rfl ?_
                  refine r_iload_n rfl ?_
                  refine r_iconst ?_
                  refine r_icmp_eq (fun c_24 => ?_) (fun c_24 => ?_)
                  · exact absurd c_24 (io_m1 (by omega))
                  · refine r_iload_n rfl ?_
                    refine r_bipush ?_
                    refine r_icmp_le (fun c_30 => ?_) (fun c_30 => ?_)
                    · have c_30 := (jle (b := 40) rfl (by omega)).mp c_30
                      refine E_go 3 rfl ?_
                      refine r_iload_n rfl ?_
                      refine r_iconst ?_
                      refine r_icmp_eq (fun c_38 => ?_) (fun c_38 => ?_)
                      · exact absurd c_38 (io_m1 (by omega))
                      · refine r_iload_n rfl ?_
                        refine r_if_ge (fun c_42 => ?_) (fun c_42 => ?_)
                        · have c_42 := (kle (b := 0) rfl (by omega)).mp c_42
                          omega
                        · have c_42 := (not_congr (kle (b := 0) rfl (by omega))).mp c_42
                          refine r_bipush ?_
                          refine r_iret rfl trivial ?_
                          refine M_go (ls := [_, _, _, _, _]) (ml := 5) rfl rfl rfl (zl rfl) rfl ?_
                          refine r_iload_n rfl ?_
                          refine r_static (vs := [_]) (by decide) (zl rfl) rfl rfl (zl rfl) (Nat.le_refl _) rfl ?_
                          refine s_misSheet (by omega) ?_
                          rw [if_pos (inN_io hs (by omega))]
                          refine r_if_eq (fun c_4 => ?_) (fun c_4 => ?_)
                          · have c_4 := (n_eq (a := 1) (b := 0) rfl rfl (by omega) (by omega)).mp c_4
                            omega
                          · have c_4 := (not_congr (n_eq (a := 1) (b := 0) rfl rfl (by omega) (by omega))).mp c_4
                            refine r_iload_n rfl ?_
                            refine r_i2l ?_
                            refine r_ldc2_w ?_
                            refine r_ldc2_w ?_
                            refine r_static (vs := [_, _, _]) (by decide) (zl rfl) rfl rfl (zl rfl) (Nat.le_refl _) rfl ?_
                            refine s_inr (by omega) (x := io so) (lo := -1) (hi := 2) (Int32.toInt_toInt64 _) (by decide) (by decide) ?_
                            rw [if_pos (by rw [io_int (by omega)]; omega)]
                            refine r_if_eq (fun c_18 => ?_) (fun c_18 => ?_)
                            · have c_18 := (n_eq (a := 1) (b := 0) rfl rfl (by omega) (by omega)).mp c_18
                              omega
                            · have c_18 := (not_congr (n_eq (a := 1) (b := 0) rfl rfl (by omega) (by omega))).mp c_18
                              refine r_iload_n rfl ?_
                              refine r_if_lt (fun c_22 => ?_) (fun c_22 => ?_)
                              · have c_22 := (n_lt (a := so) (b := 0) rfl rfl (by omega) (by omega)).mp c_22
                                omega
                              · have c_22 := (not_congr (n_lt (a := so) (b := 0) rfl rfl (by omega) (by omega))).mp c_22
                                refine r_iload_n rfl ?_
                                refine r_bipush ?_
                                refine r_icmp_le (fun c_28 => ?_) (fun c_28 => ?_)
                                · have c_28 := (jle (b := 40) rfl (by omega)).mp c_28
                                  refine E_go 2 rfl ?_
                                  refine r_iload_n rfl ?_
                                  refine r_if_lt (fun c_35 => ?_) (fun c_35 => ?_)
                                  · have c_35 := (n_lt (a := so) (b := 0) rfl rfl (by omega) (by omega)).mp c_35
                                    omega
                                  · have c_35 := (not_congr (n_lt (a := so) (b := 0) rfl rfl (by omega) (by omega))).mp c_35
                                    refine r_iload_n rfl ?_
                                    refine r_if_ge (fun c_39 => ?_) (fun c_39 => ?_)
                                    · have c_39 := (kle (b := 0) rfl (by omega)).mp c_39
                                      omega
                                    · have c_39 := (not_congr (kle (b := 0) rfl (by omega))).mp c_39
                                      refine r_bipush ?_
                                      refine r_iret rfl trivial ?_
                                      exact hQ _ _ _ R.rel
                                · have c_28 := (not_congr (jle (b := 40) rfl (by omega))).mp c_28
                                  omega
                    · have c_30 := (not_congr (jle (b := 40) rfl (by omega))).mp c_30
                      omega
                · have c_16 := (n_eq (a := 1) (b := 0) rfl rfl (by omega) (by omega)).mp c_16
                  omega
          · obtain ⟨z, hz41, rfl⟩ := inN_ex (n := 41) (x := z) ⟨by omega, by omega⟩ (by omega)
            refine M_go (ls := [_, _, _, _]) (ml := 4) rfl rfl rfl (zl rfl) rfl ?_
            refine r_iload_n rfl ?_
            refine r_static (vs := [_]) (by decide) (zl rfl) rfl rfl (zl rfl) (Nat.le_refl _) rfl ?_
            refine s_isSheet (by omega) ?_
            rw [if_pos (inN_io hs (by omega))]
            refine r_if_eq (fun c_4 => ?_) (fun c_4 => ?_)
            · have c_4 := (n_eq (a := 1) (b := 0) rfl rfl (by omega) (by omega)).mp c_4
              omega
            · have c_4 := (not_congr (n_eq (a := 1) (b := 0) rfl rfl (by omega) (by omega))).mp c_4
              refine r_iload_n rfl ?_
              refine r_iconst ?_
              refine r_icmp_eq (fun c_9 => ?_) (fun c_9 => ?_)
              · exact absurd c_9 (io_m1 (by omega))
              · refine r_iload_n rfl ?_
                refine r_static (vs := [_]) (by decide) (zl rfl) rfl rfl (zl rfl) (Nat.le_refl _) rfl ?_
                refine s_isSort (by omega) ?_
                rw [if_pos (inN_io hso (by omega))]
                refine r_if_ne (fun c_16 => ?_) (fun c_16 => ?_)
                · have c_16 := (not_congr (n_eq (a := 1) (b := 0) rfl rfl (by omega) (by omega))).mp c_16
                  refine E_go 2 rfl ?_
                  refine r_iload_n rfl ?_
                  refine r_iconst ?_
                  refine r_icmp_eq (fun c_24 => ?_) (fun c_24 => ?_)
                  · exact absurd c_24 (io_m1 (by omega))
                  · refine r_iload_n rfl ?_
                    refine r_bipush ?_
                    refine r_icmp_le (fun c_30 => ?_) (fun c_30 => ?_)
                    · have c_30 := (n_le (a := z) (b := 40) rfl rfl (by omega) (by omega)).mp c_30
                      refine E_go 3 rfl ?_
                      refine r_iload_n rfl ?_
                      refine r_iconst ?_
                      refine r_icmp_eq (fun c_38 => ?_) (fun c_38 => ?_)
                      · exact absurd c_38 (io_m1 (by omega))
                      · refine r_iload_n rfl ?_
                        refine r_if_ge (fun c_42 => ?_) (fun c_42 => ?_)
                        · have c_42 := (n_le (a := 0) (b := z) rfl rfl (by omega) (by omega)).mp c_42
                          refine E_go 4 rfl ?_
                          refine r_aload_n rfl ?_
                          refine r_getA (q := 34) (by decide) rfl rfl (by decide) ?_
                          refine r_iload_n rfl ?_
                          refine r_aaload (by decide) (by decide) (ixE rfl (show s < 4 by omega) (by decide)) (shK s hs).2.2.1 ?_
                          refine r_iload_n rfl ?_
                          refine r_iload_n rfl ?_
                          refine r_iconst ?_
                          refine r_icmp_ne (fun c_57 => ?_) (fun c_57 => ?_)
                          · refine E_go 5 rfl ?_
                            refine r_iload_n rfl ?_
                            refine r_nil ?_
                            refine E_go 6 rfl ?_
                            refine r_virtual (vs := []) (as := [_, _]) (by decide) (zl rfl) rfl rfl (zl rfl) (Nat.le_refl _) (Or.inr (Or.inr ⟨zt rfl, (shK s hs).1, (shK s hs).2.1⟩)) ?_
                            refine s_shBecomes (by omega) hs (fun J j1 j2 j3 j4 => ?_)
                            refine r_iconst ?_
                            refine r_iret rfl trivial ?_
                            refine s_msheet (by omega) hs hso (by omega) (fun K k1 k2 k3 k4 => ?_)
                            refine hQ _ _ _ (R.sh hs ((eS_b hs j1).trans k1) (Or.inr ⟨so, z, ⟨hso, by omega⟩, ⟨?_, ?_⟩, k2, fun i hi => ?_⟩)).rel
                            · rw [k3 _ (by omega)]; exact j2
                            · rw [k3 _ (by omega)]; exact j3
                            · rw [k4 i hi, k3 _ (by omega)]; exact (j4 i (by omega)).symm
                          · exact absurd c_57 (io_m1 (by omega))
                        · have c_42 := (not_congr (n_le (a := 0) (b := z) rfl rfl (by omega) (by omega))).mp c_42
                          omega
                    · have c_30 := (not_congr (n_le (a := z) (b := 40) rfl rfl (by omega) (by omega))).mp c_30
                      omega
                · have c_16 := (n_eq (a := 1) (b := 0) rfl rfl (by omega) (by omega)).mp c_16
                  omega
      · refine M_go (ls := [_, _, _, _]) (ml := 4) rfl rfl rfl (zl rfl) rfl ?_
        refine r_iload_n rfl ?_
        refine r_static (vs := [_]) (by decide) (zl rfl) rfl rfl (zl rfl) (Nat.le_refl _) rfl ?_
        refine s_isSheet (by omega) ?_
        rw [if_pos (inN_io hs (by omega))]
        refine r_if_eq (fun c_4 => ?_) (fun c_4 => ?_)
        · have c_4 := (n_eq (a := 1) (b := 0) rfl rfl (by omega) (by omega)).mp c_4
          omega
        · have c_4 := (not_congr (n_eq (a := 1) (b := 0) rfl rfl (by omega) (by omega))).mp c_4
          refine r_iload_n rfl ?_
          refine r_iconst ?_
          refine r_icmp_eq (fun c_9 => ?_) (fun c_9 => ?_)
          · exact absurd c_9 hm1
          · refine r_iload_n rfl ?_
            refine r_static (vs := [_]) (by decide) (zl rfl) rfl rfl (zl rfl) (Nat.le_refl _) rfl ?_
            refine s_isSort (by omega) ?_
            rw [if_neg hso0]
            refine r_if_ne (fun c_16 => ?_) (fun c_16 => ?_)
            · have c_16 := (not_congr (n_eq (a := 0) (b := 0) rfl rfl (by omega) (by omega))).mp c_16
              omega
            · have c_16 := (n_eq (a := 0) (b := 0) rfl rfl (by omega) (by omega)).mp c_16
              refine r_nil ?_
              refine E_go 1 rfl ?_
              refine r_bipush ?_
              refine r_iret rfl trivial ?_
              refine M_go (ls := [_, _, _, _, _]) (ml := 5) rfl rfl rfl (zl rfl) rfl ?_
              refine r_iload_n rfl ?_
              refine r_static (vs := [_]) (by decide) (zl rfl) rfl rfl (zl rfl) (Nat.le_refl _) rfl ?_
              refine s_misSheet (by omega) ?_
              rw [if_pos (inN_io hs (by omega))]
              refine r_if_eq (fun c_4 => ?_) (fun c_4 => ?_)
              · have c_4 := (n_eq (a := 1) (b := 0) rfl rfl (by omega) (by omega)).mp c_4
                omega
              · have c_4 := (not_congr (n_eq (a := 1) (b := 0) rfl rfl (by omega) (by omega))).mp c_4
                refine r_iload_n rfl ?_
                refine r_i2l ?_
                refine r_ldc2_w ?_
                refine r_ldc2_w ?_
                refine r_static (vs := [_, _, _]) (by decide) (zl rfl) rfl rfl (zl rfl) (Nat.le_refl _) rfl ?_
                refine s_inr (by omega) (x := y) (lo := -1) (hi := 2) (Int32.toInt_toInt64 _) (by decide) (by decide) ?_
                rw [if_neg (fun q => hso0 ⟨by have : ¬ y.toInt = -1 := fun e => hm1 (eq_int.mpr (by rw [e, m1i])); omega, by omega⟩)]
                refine r_if_eq (fun c_18 => ?_) (fun c_18 => ?_)
                · have c_18 := (n_eq (a := 0) (b := 0) rfl rfl (by omega) (by omega)).mp c_18
                  refine E_go 1 rfl ?_
                  refine r_bipush ?_
                  refine r_iret rfl trivial ?_
                  exact hQ _ _ _ R.rel
                · have c_18 := (not_congr (n_eq (a := 0) (b := 0) rfl rfl (by omega) (by omega))).mp c_18
                  omega
  · refine M_go (ls := [_, _, _, _]) (ml := 4) rfl rfl rfl (zl rfl) rfl ?_
    refine r_iload_n rfl ?_
    refine r_static (vs := [_]) (by decide) (zl rfl) rfl rfl (zl rfl) (Nat.le_refl _) rfl ?_
    refine s_isSheet (by omega) ?_
    rw [if_neg hx]
    refine r_if_eq (fun c_4 => ?_) (fun c_4 => ?_)
    · have c_4 := (n_eq (a := 0) (b := 0) rfl rfl (by omega) (by omega)).mp c_4
      refine E_go 1 rfl ?_
      refine r_bipush ?_
      refine r_iret rfl trivial ?_
      refine M_go (ls := [_, _, _, _, _]) (ml := 5) rfl rfl rfl (zl rfl) rfl ?_
      refine r_iload_n rfl ?_
      refine r_static (vs := [_]) (by decide) (zl rfl) rfl rfl (zl rfl) (Nat.le_refl _) rfl ?_
      refine s_misSheet (by omega) ?_
      rw [if_neg hx]
      refine r_if_eq (fun c_4 => ?_) (fun c_4 => ?_)
      · have c_4 := (n_eq (a := 0) (b := 0) rfl rfl (by omega) (by omega)).mp c_4
        refine E_go 1 rfl ?_
        refine r_bipush ?_
        refine r_iret rfl trivial ?_
        exact hQ _ _ _ R.rel
      · have c_4 := (not_congr (n_eq (a := 0) (b := 0) rfl rfl (by omega) (by omega))).mp c_4
        omega
    · have c_4 := (not_congr (n_eq (a := 0) (b := 0) rfl rfl (by omega) (by omega))).mp c_4
      omega

set_option maxRecDepth 10000 in
theorem tz_cell {xs : xSc} {m : Nat} {I : Nat → Nat → Int32} {L : Nat → Nat → Int64} {Q : Value → Value → xHp → Prop} (hm : 90 ≤ m) (hR : Rel I) {x y z : Int32} (hQ : ∀ (x : Int32) J L2, Rel J → Q (.int x) (.int x) (Hp J L2)) : M xs m xi_X6_cell [.ref 0, .int x, .int y, .int z] (Hp I L) (fun r1 h1 => M xs m xi_X7_cell [.ref 61, .int x, .int y, .int z] h1 (fun r2 h2 => Q r1 r2 h2)) := by
  obtain ⟨m, rfl⟩ : ∃ k, m = k + 6 := ⟨m - 6, by omega⟩
  obtain ⟨n, tc, r, tp, R⟩ := hR
  have h5 := R.n5
  have hr6 := R.r6
  have ht6 := R.t6
  have hrt := R.rt
  have hp160 := R.2.2.1.1.1
  by_cases hx : inN 4 x
  · obtain ⟨s, hs, rfl⟩ := inN_ex hx (by omega)
    rcases R.2.2.2.2 s hs with ⟨q1, q2⟩ | ⟨so, zz, ⟨hso, hzz⟩, q2, q3, q4⟩
    · refine M_go (ls := [_, _, _, _, _]) (ml := 5) rfl rfl rfl (zl rfl) rfl ?_
      refine r_iload_n rfl ?_
      refine r_static (vs := [_]) (by decide) (zl rfl) rfl rfl (zl rfl) (Nat.le_refl _) rfl ?_
      refine s_isSheet (by omega) ?_
      rw [if_pos (inN_io hs (by omega))]
      refine r_if_ne (fun c_4 => ?_) (fun c_4 => ?_)
      · have c_4 := (not_congr (n_eq (a := 1) (b := 0) rfl rfl (by omega) (by omega))).mp c_4
        refine E_go 1 rfl ?_
        refine r_aload_n rfl ?_
        refine r_getA (q := 34) (by decide) rfl rfl (by decide) ?_
        refine r_iload_n rfl ?_
        refine r_aaload (by decide) (by decide) (ixE rfl (show s < 4 by omega) (by decide)) (shK s hs).2.2.1 ?_
        refine r_astore (ls' := [_, _, _, _, _]) (zt rfl) rfl ?_
        refine r_aload rfl ?_
        refine r_getI (by decide) rfl (shK s hs).1 (shK s hs).2.1 q1 ?_
        refine r_iconst ?_
        refine r_icmp_ne (fun c_24 => ?_) (fun c_24 => ?_)
        · exact absurd rfl c_24
        · refine r_bipush ?_
          refine r_iret rfl trivial ?_
          refine M_go (ls := [_, _, _, _]) (ml := 4) rfl rfl rfl (zl rfl) rfl ?_
          refine r_iload_n rfl ?_
          refine r_static (vs := [_]) (by decide) (zl rfl) rfl rfl (zl rfl) (Nat.le_refl _) rfl ?_
          refine s_misSheet (by omega) ?_
          rw [if_pos (inN_io hs (by omega))]
          refine r_if_ne (fun c_4 => ?_) (fun c_4 => ?_)
          · have c_4 := (not_congr (n_eq (a := 1) (b := 0) rfl rfl (by omega) (by omega))).mp c_4
            refine E_go 1 rfl ?_
            refine r_aload_n rfl ?_
            refine r_getA (q := 78) (by decide) rfl rfl (by decide) ?_
            refine r_iload_n rfl ?_
            refine r_baload (by decide) rfl (by decide) (ixE rfl (show s < 4 by omega) (by decide)) q2 ?_
            refine r_if_ne (fun c_16 => ?_) (fun c_16 => ?_)
            · have c_16 := (not_congr (n_eq (a := 0) (b := 0) rfl rfl (by omega) (by omega))).mp c_16
              omega
            · have c_16 := (n_eq (a := 0) (b := 0) rfl rfl (by omega) (by omega)).mp c_16
              refine r_bipush ?_
              refine r_iret rfl trivial ?_
              exact hQ _ _ _ R.rel
          · have c_4 := (n_eq (a := 1) (b := 0) rfl rfl (by omega) (by omega)).mp c_4
            omega
      · have c_4 := (n_eq (a := 1) (b := 0) rfl rfl (by omega) (by omega)).mp c_4
        omega
    · have ek : so = 0 ∨ so = 1 ∨ so = 2 := by omega
      rcases ek with rfl | rfl | rfl
      · by_cases hy : inN zz y
        · obtain ⟨i, hi, rfl⟩ := inN_ex hy (by omega)
          refine M_go (ls := [_, _, _, _, _]) (ml := 5) rfl rfl rfl (zl rfl) rfl ?_
          refine r_iload_n rfl ?_
          refine r_static (vs := [_]) (by decide) (zl rfl) rfl rfl (zl rfl) (Nat.le_refl _) rfl ?_
          refine s_isSheet (by omega) ?_
          rw [if_pos (inN_io hs (by omega))]
          refine r_if_ne (fun c_4 => ?_) (fun c_4 => ?_)
          · have c_4 := (not_congr (n_eq (a := 1) (b := 0) rfl rfl (by omega) (by omega))).mp c_4
            refine E_go 1 rfl ?_
            refine r_aload_n rfl ?_
            refine r_getA (q := 34) (by decide) rfl rfl (by decide) ?_
            refine r_iload_n rfl ?_
            refine r_aaload (by decide) (by decide) (ixE rfl (show s < 4 by omega) (by decide)) (shK s hs).2.2.1 ?_
            refine r_astore (ls' := [_, _, _, _, _]) (zt rfl) rfl ?_
            refine r_aload rfl ?_
            refine r_getI (by decide) rfl (shK s hs).1 (shK s hs).2.1 q2.1 ?_
            refine r_iconst ?_
            refine r_icmp_ne (fun c_24 => ?_) (fun c_24 => ?_)
            · refine E_go 2 rfl ?_
              refine r_iload_n rfl ?_
              refine r_if_lt (fun c_31 => ?_) (fun c_31 => ?_)
              · have c_31 := (n_lt (a := i) (b := 0) rfl rfl (by omega) (by omega)).mp c_31
                omega
              · have c_31 := (not_congr (n_lt (a := i) (b := 0) rfl rfl (by omega) (by omega))).mp c_31
                refine r_iload_n rfl ?_
                refine r_aload rfl ?_
                refine r_getI (by decide) rfl (shK s hs).1 (shK s hs).2.1 q2.2 ?_
                refine r_icmp_lt (fun c_40 => ?_) (fun c_40 => ?_)
                · have c_40 := (n_lt (a := i) (b := zz) rfl rfl (by omega) (by omega)).mp c_40
                  refine E_go 4 rfl ?_
                  refine r_aload rfl ?_
                  refine r_iload_n rfl ?_
                  refine r_iload_n rfl ?_
                  refine r_virtual (vs := []) (as := [_, _]) (by decide) (zl rfl) rfl rfl (zl rfl) (Nat.le_refl _) (Or.inr (Or.inr ⟨zt rfl, (shK s hs).1, (shK s hs).2.1⟩)) ?_
                  refine M_go (ls := [_, _, _]) (ml := 3) rfl rfl rfl (zl rfl) rfl ?_
                  refine r_aload_n rfl ?_
                  refine r_getA (q := (54 + 2 * s)) (by decide) (shf hs) (shK s hs).1 (shK s hs).2.1 ?_
                  refine r_iload_n rfl ?_
                  refine r_aload_n rfl ?_
                  refine r_getI (by decide) rfl (shK s hs).1 (shK s hs).2.1 q2.1 ?_
                  refine r_if_ne (fun c_50_9 => ?_) (fun c_50_9 => ?_)
                  · have c_50_9 := (not_congr (n_eq (a := 0) (b := 0) rfl rfl (by omega) (by omega))).mp c_50_9
                    omega
                  · have c_50_9 := (n_eq (a := 0) (b := 0) rfl rfl (by omega) (by omega)).mp c_50_9
                    refine r_iload_n rfl ?_
                    refine r_i2b ?_
                    refine r_goto ?_
                    refine E_go 3 rfl ?_
                    refine r_iastore (shK s hs).2.2.2.2.1 (shK s hs).2.2.2.2.2.2 (ixQ rfl (show i < 40 by omega) (by decide) (shK s hs).2.2.2.2.2.1) ?_
                    refine r_ret rfl ?_
                    refine r_iconst ?_
                    refine r_iret rfl trivial ?_
                    refine M_go (ls := [_, _, _, _]) (ml := 4) rfl rfl rfl (zl rfl) rfl ?_
                    refine r_iload_n rfl ?_
                    refine r_static (vs := [_]) (by decide) (zl rfl) rfl rfl (zl rfl) (Nat.le_refl _) rfl ?_
                    refine s_misSheet (by omega) ?_
                    rw [if_pos (inN_io hs (by omega))]
                    refine r_if_ne (fun c_4 => ?_) (fun c_4 => ?_)
                    · have c_4 := (not_congr (n_eq (a := 1) (b := 0) rfl rfl (by omega) (by omega))).mp c_4
                      refine E_go 1 rfl ?_
                      refine r_aload_n rfl ?_
                      refine r_getA (q := 78) (by decide) rfl rfl (by decide) ?_
                      refine r_iload_n rfl ?_
                      refine r_baload (by decide) rfl (by decide) (ixE rfl (show s < 4 by omega) (by decide)) ((congrFun (up2_q (by omega)) _).trans q3.1) ?_
                      refine r_if_ne (fun c_16 => ?_) (fun c_16 => ?_)
                      · have c_16 := (not_congr (n_eq (a := 1) (b := 0) rfl rfl (by omega) (by omega))).mp c_16
                        refine E_go 2 rfl ?_
                        refine r_iload_n rfl ?_
                        refine r_i2l ?_
                        refine r_lconst ?_
                        refine r_aload_n rfl ?_
                        refine r_getA (q := 80) (by decide) rfl rfl (by decide) ?_
                        refine r_iload_n rfl ?_
                        refine r_iaload (by decide) rfl (by decide) (ixE rfl (show s < 4 by omega) (by decide)) ((congrFun (up2_q (by omega)) _).trans q3.2.2) ?_
                        refine r_iconst ?_
                        refine r_isub ?_
                        refine r_i2l ?_
                        refine r_static (vs := [_, _, _]) (by decide) (zl rfl) rfl rfl (zl rfl) (Nat.le_refl _) rfl ?_
                        refine s_in0 (by omega) (x := (io i)) (k := zz) (Int32.toInt_toInt64 _) i64_0 (by rw [Int32.toInt_toInt64, sub_int (by rw [io_int (by omega), show (1 : Int32).toInt = 1 from rfl]; omega) (by rw [io_int (by omega), show (1 : Int32).toInt = 1 from rfl]; omega), io_int (by omega)]; rfl) ?_
                        rw [if_pos (inN_io hi (by omega))]
                        refine r_if_ne (fun c_37 => ?_) (fun c_37 => ?_)
                        · have c_37 := (not_congr (n_eq (a := 1) (b := 0) rfl rfl (by omega) (by omega))).mp c_37
                          refine E_go 3 rfl ?_
                          refine r_aload_n rfl ?_
                          refine r_getA (q := 81) (by decide) rfl rfl (by decide) ?_
                          refine r_bipush ?_
                          refine r_iload_n rfl ?_
                          refine r_imul ?_
                          refine r_iload_n rfl ?_
                          refine r_iadd ?_
                          refine r_aload_n rfl ?_
                          refine r_getA (q := 79) (by decide) rfl rfl (by decide) ?_
                          refine r_iload_n rfl ?_
                          refine r_iaload (by decide) rfl (by decide) (ixE rfl (show s < 4 by omega) (by decide)) ((congrFun (up2_q (by omega)) _).trans q3.2.1) ?_
                          refine r_if_ne (fun c_59 => ?_) (fun c_59 => ?_)
                          · have c_59 := (not_congr (n_eq (a := 0) (b := 0) rfl rfl (by omega) (by omega))).mp c_59
                            omega
                          · have c_59 := (n_eq (a := 0) (b := 0) rfl rfl (by omega) (by omega)).mp c_59
                            refine r_iload_n rfl ?_
                            refine r_i2b ?_
                            refine r_goto ?_
                            refine E_go 6 rfl ?_
                            refine r_iastore rfl (by decide) (ixE (n_add (a := (40 * s)) (b := i) (n_mul (a := 40) (b := s) rfl rfl) rfl) (show ((40 * s) + i) < 160 by omega) (by decide)) ?_
                            refine r_iconst ?_
                            refine r_iret rfl trivial ?_
                            refine hQ _ _ _ (R.sh hs ((eS.c hs (by omega)).trans (eS.i hs (by omega))) (Or.inr ⟨0, zz, ⟨by omega, by omega⟩, ⟨?_, ?_⟩, ⟨?_, ?_, ?_⟩, fun j hj => ?_⟩)).rel
                            · rw [up2_q (by omega), up2_q (by omega)]; exact q2.1
                            · rw [up2_q (by omega), up2_q (by omega)]; exact q2.2
                            · rw [up2_q (by omega), up2_q (by omega)]; exact q3.1
                            · rw [up2_q (by omega), up2_q (by omega)]; exact q3.2.1
                            · rw [up2_q (by omega), up2_q (by omega)]; exact q3.2.2
                            · by_cases c : j = i
                              · subst c
                                rw [up2_at, up2_q (by omega), up2_at]
                              · rw [up2_k (by omega), up2_q (by omega), up2_q (by omega), up2_k c]; exact q4 j hj
                        · have c_37 := (n_eq (a := 1) (b := 0) rfl rfl (by omega) (by omega)).mp c_37
                          omega
                      · have c_16 := (n_eq (a := 1) (b := 0) rfl rfl (by omega) (by omega)).mp c_16
                        omega
                    · have c_4 := (n_eq (a := 1) (b := 0) rfl rfl (by omega) (by omega)).mp c_4
                      omega
                · have c_40 := (not_congr (n_lt (a := i) (b := zz) rfl rfl (by omega) (by omega))).mp c_40
                  omega
            · exact absurd c_24 (io_m1 (by omega))
          · have c_4 := (n_eq (a := 1) (b := 0) rfl rfl (by omega) (by omega)).mp c_4
            omega
        · have hy2 : ¬ (0 ≤ y.toInt ∧ y.toInt < zz) := hy
          refine M_go (ls := [_, _, _, _, _]) (ml := 5) rfl rfl rfl (zl rfl) rfl ?_
          refine r_iload_n rfl ?_
          refine r_static (vs := [_]) (by decide) (zl rfl) rfl rfl (zl rfl) (Nat.le_refl _) rfl ?_
          refine s_isSheet (by omega) ?_
          rw [if_pos (inN_io hs (by omega))]
          refine r_if_ne (fun c_4 => ?_) (fun c_4 => ?_)
          · have c_4 := (not_congr (n_eq (a := 1) (b := 0) rfl rfl (by omega) (by omega))).mp c_4
            refine E_go 1 rfl ?_
            refine r_aload_n rfl ?_
            refine r_getA (q := 34) (by decide) rfl rfl (by decide) ?_
            refine r_iload_n rfl ?_
            refine r_aaload (by decide) (by decide) (ixE rfl (show s < 4 by omega) (by decide)) (shK s hs).2.2.1 ?_
            refine r_astore (ls' := [_, _, _, _, _]) (zt rfl) rfl ?_
            refine r_aload rfl ?_
            refine r_getI (by decide) rfl (shK s hs).1 (shK s hs).2.1 q2.1 ?_
            refine r_iconst ?_
            refine r_icmp_ne (fun c_24 => ?_) (fun c_24 => ?_)
            · refine E_go 2 rfl ?_
              refine r_iload_n rfl ?_
              refine r_if_lt (fun c_31 => ?_) (fun c_31 => ?_)
              · have c_31 := (jlt (b := 0) rfl (by omega)).mp c_31
                refine E_go 3 rfl ?_
                refine r_bipush ?_
                refine r_iret rfl trivial ?_
                refine M_go (ls := [_, _, _, _]) (ml := 4) rfl rfl rfl (zl rfl) rfl ?_
                refine r_iload_n rfl ?_
                refine r_static (vs := [_]) (by decide) (zl rfl) rfl rfl (zl rfl) (Nat.le_refl _) rfl ?_
                refine s_misSheet (by omega) ?_
                rw [if_pos (inN_io hs (by omega))]
                refine r_if_ne (fun c_4 => ?_) (fun c_4 => ?_)
                · have c_4 := (not_congr (n_eq (a := 1) (b := 0) rfl rfl (by omega) (by omega))).mp c_4
                  refine E_go 1 rfl ?_
                  refine r_aload_n rfl ?_
                  refine r_getA (q := 78) (by decide) rfl rfl (by decide) ?_
                  refine r_iload_n rfl ?_
                  refine r_baload (by decide) rfl (by decide) (ixE rfl (show s < 4 by omega) (by decide)) q3.1 ?_
                  refine r_if_ne (fun c_16 => ?_) (fun c_16 => ?_)
                  · have c_16 := (not_congr (n_eq (a := 1) (b := 0) rfl rfl (by omega) (by omega))).mp c_16
                    refine E_go 2 rfl ?_
                    refine r_iload_n rfl ?_
                    refine r_i2l ?_
                    refine r_lconst ?_
                    refine r_aload_n rfl ?_
                    refine r_getA (q := 80) (by decide) rfl rfl (by decide) ?_
                    refine r_iload_n rfl ?_
                    refine r_iaload (by decide) rfl (by decide) (ixE rfl (show s < 4 by omega) (by decide)) q3.2.2 ?_
                    refine r_iconst ?_
                    refine r_isub ?_
                    refine r_i2l ?_
                    refine r_static (vs := [_, _, _]) (by decide) (zl rfl) rfl rfl (zl rfl) (Nat.le_refl _) rfl ?_
                    refine s_in0 (by omega) (x := y) (k := zz) (Int32.toInt_toInt64 _) i64_0 (by rw [Int32.toInt_toInt64, sub_int (by rw [io_int (by omega), show (1 : Int32).toInt = 1 from rfl]; omega) (by rw [io_int (by omega), show (1 : Int32).toInt = 1 from rfl]; omega), io_int (by omega)]; rfl) ?_
                    rw [if_neg hy]
                    refine r_if_ne (fun c_37 => ?_) (fun c_37 => ?_)
                    · have c_37 := (not_congr (n_eq (a := 0) (b := 0) rfl rfl (by omega) (by omega))).mp c_37
                      omega
                    · have c_37 := (n_eq (a := 0) (b := 0) rfl rfl (by omega) (by omega)).mp c_37
                      refine r_bipush ?_
                      refine r_iret rfl trivial ?_
                      exact hQ _ _ _ R.rel
                  · have c_16 := (n_eq (a := 1) (b := 0) rfl rfl (by omega) (by omega)).mp c_16
                    omega
                · have c_4 := (n_eq (a := 1) (b := 0) rfl rfl (by omega) (by omega)).mp c_4
                  omega
              · have c_31 := (not_congr (jlt (b := 0) rfl (by omega))).mp c_31
                refine r_iload_n rfl ?_
                refine r_aload rfl ?_
                refine r_getI (by decide) rfl (shK s hs).1 (shK s hs).2.1 q2.2 ?_
                refine r_icmp_lt (fun c_40 => ?_) (fun c_40 => ?_)
                · have c_40 := (jlt (b := zz) rfl (by omega)).mp c_40
                  omega
                · have c_40 := (not_congr (jlt (b := zz) rfl (by omega))).mp c_40
                  refine r_nil ?_
                  refine E_go 3 rfl ?_
                  refine r_bipush ?_
                  refine r_iret rfl trivial ?_
                  refine M_go (ls := [_, _, _, _]) (ml := 4) rfl rfl rfl (zl rfl) rfl ?_
                  refine r_iload_n rfl ?_
                  refine r_static (vs := [_]) (by decide) (zl rfl) rfl rfl (zl rfl) (Nat.le_refl _) rfl ?_
                  refine s_misSheet (by omega) ?_
                  rw [if_pos (inN_io hs (by omega))]
                  refine r_if_ne (fun c_4 => ?_) (fun c_4 => ?_)
                  · have c_4 := (not_congr (n_eq (a := 1) (b := 0) rfl rfl (by omega) (by omega))).mp c_4
                    refine E_go 1 rfl ?_
                    refine r_aload_n rfl ?_
                    refine r_getA (q := 78) (by decide) rfl rfl (by decide) ?_
                    refine r_iload_n rfl ?_
                    refine r_baload (by decide) rfl (by decide) (ixE rfl (show s < 4 by omega) (by decide)) q3.1 ?_
                    refine r_if_ne (fun c_16 => ?_) (fun c_16 => ?_)
                    · have c_16 := (not_congr (n_eq (a := 1) (b := 0) rfl rfl (by omega) (by omega))).mp c_16
                      refine E_go 2 rfl ?_
                      refine r_iload_n rfl ?_
                      refine r_i2l ?_
                      refine r_lconst ?_
                      refine r_aload_n rfl ?_
                      refine r_getA (q := 80) (by decide) rfl rfl (by decide) ?_
                      refine r_iload_n rfl ?_
                      refine r_iaload (by decide) rfl (by decide) (ixE rfl (show s < 4 by omega) (by decide)) q3.2.2 ?_
                      refine r_iconst ?_
                      refine r_isub ?_
                      refine r_i2l ?_
                      refine r_static (vs := [_, _, _]) (by decide) (zl rfl) rfl rfl (zl rfl) (Nat.le_refl _) rfl ?_
                      refine s_in0 (by omega) (x := y) (k := zz) (Int32.toInt_toInt64 _) i64_0 (by rw [Int32.toInt_toInt64, sub_int (by rw [io_int (by omega), show (1 : Int32).toInt = 1 from rfl]; omega) (by rw [io_int (by omega), show (1 : Int32).toInt = 1 from rfl]; omega), io_int (by omega)]; rfl) ?_
                      rw [if_neg hy]
                      refine r_if_ne (fun c_37 => ?_) (fun c_37 => ?_)
                      · have c_37 := (not_congr (n_eq (a := 0) (b := 0) rfl rfl (by omega) (by omega))).mp c_37
                        omega
                      · have c_37 := (n_eq (a := 0) (b := 0) rfl rfl (by omega) (by omega)).mp c_37
                        refine r_bipush ?_
                        refine r_iret rfl trivial ?_
                        exact hQ _ _ _ R.rel
                    · have c_16 := (n_eq (a := 1) (b := 0) rfl rfl (by omega) (by omega)).mp c_16
                      omega
                  · have c_4 := (n_eq (a := 1) (b := 0) rfl rfl (by omega) (by omega)).mp c_4
                    omega
            · exact absurd c_24 (io_m1 (by omega))
          · have c_4 := (n_eq (a := 1) (b := 0) rfl rfl (by omega) (by omega)).mp c_4
            omega
      · by_cases hy : inN zz y
        · obtain ⟨i, hi, rfl⟩ := inN_ex hy (by omega)
          refine M_go (ls := [_, _, _, _, _]) (ml := 5) rfl rfl rfl (zl rfl) rfl ?_
          refine r_iload_n rfl ?_
          refine r_static (vs := [_]) (by decide) (zl rfl) rfl rfl (zl rfl) (Nat.le_refl _) rfl ?_
          refine s_isSheet (by omega) ?_
          rw [if_pos (inN_io hs (by omega))]
          refine r_if_ne (fun c_4 => ?_) (fun c_4 => ?_)
          · have c_4 := (not_congr (n_eq (a := 1) (b := 0) rfl rfl (by omega) (by omega))).mp c_4
            refine E_go 1 rfl ?_
            refine r_aload_n rfl ?_
            refine r_getA (q := 34) (by decide) rfl rfl (by decide) ?_
            refine r_iload_n rfl ?_
            refine r_aaload (by decide) (by decide) (ixE rfl (show s < 4 by omega) (by decide)) (shK s hs).2.2.1 ?_
            refine r_astore (ls' := [_, _, _, _, _]) (zt rfl) rfl ?_
            refine r_aload rfl ?_
            refine r_getI (by decide) rfl (shK s hs).1 (shK s hs).2.1 q2.1 ?_
            refine r_iconst ?_
            refine r_icmp_ne (fun c_24 => ?_) (fun c_24 => ?_)
            · refine E_go 2 rfl ?_
              refine r_iload_n rfl ?_
              refine r_if_lt (fun c_31 => ?_) (fun c_31 => ?_)
              · have c_31 := (n_lt (a := i) (b := 0) rfl rfl (by omega) (by omega)).mp c_31
                omega
              · have c_31 := (not_congr (n_lt (a := i) (b := 0) rfl rfl (by omega) (by omega))).mp c_31
                refine r_iload_n rfl ?_
                refine r_aload rfl ?_
                refine r_getI (by decide) rfl (shK s hs).1 (shK s hs).2.1 q2.2 ?_
                refine r_icmp_lt (fun c_40 => ?_) (fun c_40 => ?_)
                · have c_40 := (n_lt (a := i) (b := zz) rfl rfl (by omega) (by omega)).mp c_40
                  refine E_go 4 rfl ?_
                  refine r_aload rfl ?_
                  refine r_iload_n rfl ?_
                  refine r_iload_n rfl ?_
                  refine r_virtual (vs := []) (as := [_, _]) (by decide) (zl rfl) rfl rfl (zl rfl) (Nat.le_refl _) (Or.inr (Or.inr ⟨zt rfl, (shK s hs).1, (shK s hs).2.1⟩)) ?_
                  refine M_go (ls := [_, _, _]) (ml := 3) rfl rfl rfl (zl rfl) rfl ?_
                  refine r_aload_n rfl ?_
                  refine r_getA (q := (54 + 2 * s)) (by decide) (shf hs) (shK s hs).1 (shK s hs).2.1 ?_
                  refine r_iload_n rfl ?_
                  refine r_aload_n rfl ?_
                  refine r_getI (by decide) rfl (shK s hs).1 (shK s hs).2.1 q2.1 ?_
                  refine r_if_ne (fun c_50_9 => ?_) (fun c_50_9 => ?_)
                  · have c_50_9 := (not_congr (n_eq (a := 1) (b := 0) rfl rfl (by omega) (by omega))).mp c_50_9
                    refine E_go 1 rfl ?_
                    refine r_aload_n rfl ?_
                    refine r_getI (by decide) rfl (shK s hs).1 (shK s hs).2.1 q2.1 ?_
                    refine r_iconst ?_
                    refine r_icmp_ne (fun c_50_22 => ?_) (fun c_50_22 => ?_)
                    · have c_50_22 := (not_congr (n_eq (a := 1) (b := 1) rfl rfl (by omega) (by omega))).mp c_50_22
                      omega
                    · have c_50_22 := (n_eq (a := 1) (b := 1) rfl rfl (by omega) (by omega)).mp c_50_22
                      refine r_iload_n rfl ?_
                      refine r_i2s ?_
                      refine r_goto ?_
                      refine E_go 3 rfl ?_
                      refine r_iastore (shK s hs).2.2.2.2.1 (shK s hs).2.2.2.2.2.2 (ixQ rfl (show i < 40 by omega) (by decide) (shK s hs).2.2.2.2.2.1) ?_
                      refine r_ret rfl ?_
                      refine r_iconst ?_
                      refine r_iret rfl trivial ?_
                      refine M_go (ls := [_, _, _, _]) (ml := 4) rfl rfl rfl (zl rfl) rfl ?_
                      refine r_iload_n rfl ?_
                      refine r_static (vs := [_]) (by decide) (zl rfl) rfl rfl (zl rfl) (Nat.le_refl _) rfl ?_
                      refine s_misSheet (by omega) ?_
                      rw [if_pos (inN_io hs (by omega))]
                      refine r_if_ne (fun c_4 => ?_) (fun c_4 => ?_)
                      · have c_4 := (not_congr (n_eq (a := 1) (b := 0) rfl rfl (by omega) (by omega))).mp c_4
                        refine E_go 1 rfl ?_
                        refine r_aload_n rfl ?_
                        refine r_getA (q := 78) (by decide) rfl rfl (by decide) ?_
                        refine r_iload_n rfl ?_
                        refine r_baload (by decide) rfl (by decide) (ixE rfl (show s < 4 by omega) (by decide)) ((congrFun (up2_q (by omega)) _).trans q3.1) ?_
                        refine r_if_ne (fun c_16 => ?_) (fun c_16 => ?_)
                        · have c_16 := (not_congr (n_eq (a := 1) (b := 0) rfl rfl (by omega) (by omega))).mp c_16
                          refine E_go 2 rfl ?_
                          refine r_iload_n rfl ?_
                          refine r_i2l ?_
                          refine r_lconst ?_
                          refine r_aload_n rfl ?_
                          refine r_getA (q := 80) (by decide) rfl rfl (by decide) ?_
                          refine r_iload_n rfl ?_
                          refine r_iaload (by decide) rfl (by decide) (ixE rfl (show s < 4 by omega) (by decide)) ((congrFun (up2_q (by omega)) _).trans q3.2.2) ?_
                          refine r_iconst ?_
                          refine r_isub ?_
                          refine r_i2l ?_
                          refine r_static (vs := [_, _, _]) (by decide) (zl rfl) rfl rfl (zl rfl) (Nat.le_refl _) rfl ?_
                          refine s_in0 (by omega) (x := (io i)) (k := zz) (Int32.toInt_toInt64 _) i64_0 (by rw [Int32.toInt_toInt64, sub_int (by rw [io_int (by omega), show (1 : Int32).toInt = 1 from rfl]; omega) (by rw [io_int (by omega), show (1 : Int32).toInt = 1 from rfl]; omega), io_int (by omega)]; rfl) ?_
                          rw [if_pos (inN_io hi (by omega))]
                          refine r_if_ne (fun c_37 => ?_) (fun c_37 => ?_)
                          · have c_37 := (not_congr (n_eq (a := 1) (b := 0) rfl rfl (by omega) (by omega))).mp c_37
                            refine E_go 3 rfl ?_
                            refine r_aload_n rfl ?_
                            refine r_getA (q := 81) (by decide) rfl rfl (by decide) ?_
                            refine r_bipush ?_
                            refine r_iload_n rfl ?_
                            refine r_imul ?_
                            refine r_iload_n rfl ?_
                            refine r_iadd ?_
                            refine r_aload_n rfl ?_
                            refine r_getA (q := 79) (by decide) rfl rfl (by decide) ?_
                            refine r_iload_n rfl ?_
                            refine r_iaload (by decide) rfl (by decide) (ixE rfl (show s < 4 by omega) (by decide)) ((congrFun (up2_q (by omega)) _).trans q3.2.1) ?_
                            refine r_if_ne (fun c_59 => ?_) (fun c_59 => ?_)
                            · have c_59 := (not_congr (n_eq (a := 1) (b := 0) rfl rfl (by omega) (by omega))).mp c_59
                              refine E_go 4 rfl ?_
                              refine r_aload_n rfl ?_
                              refine r_getA (q := 79) (by decide) rfl rfl (by decide) ?_
                              refine r_iload_n rfl ?_
                              refine r_iaload (by decide) rfl (by decide) (ixE rfl (show s < 4 by omega) (by decide)) ((congrFun (up2_q (by omega)) _).trans q3.2.1) ?_
                              refine r_iconst ?_
                              refine r_icmp_ne (fun c_74 => ?_) (fun c_74 => ?_)
                              · have c_74 := (not_congr (n_eq (a := 1) (b := 1) rfl rfl (by omega) (by omega))).mp c_74
                                omega
                              · have c_74 := (n_eq (a := 1) (b := 1) rfl rfl (by omega) (by omega)).mp c_74
                                refine r_iload_n rfl ?_
                                refine r_i2s ?_
                                refine r_goto ?_
                                refine E_go 6 rfl ?_
                                refine r_iastore rfl (by decide) (ixE (n_add (a := (40 * s)) (b := i) (n_mul (a := 40) (b := s) rfl rfl) rfl) (show ((40 * s) + i) < 160 by omega) (by decide)) ?_
                                refine r_iconst ?_
                                refine r_iret rfl trivial ?_
                                refine hQ _ _ _ (R.sh hs ((eS.c hs (by omega)).trans (eS.i hs (by omega))) (Or.inr ⟨1, zz, ⟨by omega, by omega⟩, ⟨?_, ?_⟩, ⟨?_, ?_, ?_⟩, fun j hj => ?_⟩)).rel
                                · rw [up2_q (by omega), up2_q (by omega)]; exact q2.1
                                · rw [up2_q (by omega), up2_q (by omega)]; exact q2.2
                                · rw [up2_q (by omega), up2_q (by omega)]; exact q3.1
                                · rw [up2_q (by omega), up2_q (by omega)]; exact q3.2.1
                                · rw [up2_q (by omega), up2_q (by omega)]; exact q3.2.2
                                · by_cases c : j = i
                                  · subst c
                                    rw [up2_at, up2_q (by omega), up2_at]
                                  · rw [up2_k (by omega), up2_q (by omega), up2_q (by omega), up2_k c]; exact q4 j hj
                            · have c_59 := (n_eq (a := 1) (b := 0) rfl rfl (by omega) (by omega)).mp c_59
                              omega
                          · have c_37 := (n_eq (a := 1) (b := 0) rfl rfl (by omega) (by omega)).mp c_37
                            omega
                        · have c_16 := (n_eq (a := 1) (b := 0) rfl rfl (by omega) (by omega)).mp c_16
                          omega
                      · have c_4 := (n_eq (a := 1) (b := 0) rfl rfl (by omega) (by omega)).mp c_4
                        omega
                  · have c_50_9 := (n_eq (a := 1) (b := 0) rfl rfl (by omega) (by omega)).mp c_50_9
                    omega
                · have c_40 := (not_congr (n_lt (a := i) (b := zz) rfl rfl (by omega) (by omega))).mp c_40
                  omega
            · exact absurd c_24 (io_m1 (by omega))
          · have c_4 := (n_eq (a := 1) (b := 0) rfl rfl (by omega) (by omega)).mp c_4
            omega
        · have hy2 : ¬ (0 ≤ y.toInt ∧ y.toInt < zz) := hy
          refine M_go (ls := [_, _, _, _, _]) (ml := 5) rfl rfl rfl (zl rfl) rfl ?_
          refine r_iload_n rfl ?_
          refine r_static (vs := [_]) (by decide) (zl rfl) rfl rfl (zl rfl) (Nat.le_refl _) rfl ?_
          refine s_isSheet (by omega) ?_
          rw [if_pos (inN_io hs (by omega))]
          refine r_if_ne (fun c_4 => ?_) (fun c_4 => ?_)
          · have c_4 := (not_congr (n_eq (a := 1) (b := 0) rfl rfl (by omega) (by omega))).mp c_4
            refine E_go 1 rfl ?_
            refine r_aload_n rfl ?_
            refine r_getA (q := 34) (by decide) rfl rfl (by decide) ?_
            refine r_iload_n rfl ?_
            refine r_aaload (by decide) (by decide) (ixE rfl (show s < 4 by omega) (by decide)) (shK s hs).2.2.1 ?_
            refine r_astore (ls' := [_, _, _, _, _]) (zt rfl) rfl ?_
            refine r_aload rfl ?_
            refine r_getI (by decide) rfl (shK s hs).1 (shK s hs).2.1 q2.1 ?_
            refine r_iconst ?_
            refine r_icmp_ne (fun c_24 => ?_) (fun c_24 => ?_)
            · refine E_go 2 rfl ?_
              refine r_iload_n rfl ?_
              refine r_if_lt (fun c_31 => ?_) (fun c_31 => ?_)
              · have c_31 := (jlt (b := 0) rfl (by omega)).mp c_31
                refine E_go 3 rfl ?_
                refine r_bipush ?_
                refine r_iret rfl trivial ?_
                refine M_go (ls := [_, _, _, _]) (ml := 4) rfl rfl rfl (zl rfl) rfl ?_
                refine r_iload_n rfl ?_
                refine r_static (vs := [_]) (by decide) (zl rfl) rfl rfl (zl rfl) (Nat.le_refl _) rfl ?_
                refine s_misSheet (by omega) ?_
                rw [if_pos (inN_io hs (by omega))]
                refine r_if_ne (fun c_4 => ?_) (fun c_4 => ?_)
                · have c_4 := (not_congr (n_eq (a := 1) (b := 0) rfl rfl (by omega) (by omega))).mp c_4
                  refine E_go 1 rfl ?_
                  refine r_aload_n rfl ?_
                  refine r_getA (q := 78) (by decide) rfl rfl (by decide) ?_
                  refine r_iload_n rfl ?_
                  refine r_baload (by decide) rfl (by decide) (ixE rfl (show s < 4 by omega) (by decide)) q3.1 ?_
                  refine r_if_ne (fun c_16 => ?_) (fun c_16 => ?_)
                  · have c_16 := (not_congr (n_eq (a := 1) (b := 0) rfl rfl (by omega) (by omega))).mp c_16
                    refine E_go 2 rfl ?_
                    refine r_iload_n rfl ?_
                    refine r_i2l ?_
                    refine r_lconst ?_
                    refine r_aload_n rfl ?_
                    refine r_getA (q := 80) (by decide) rfl rfl (by decide) ?_
                    refine r_iload_n rfl ?_
                    refine r_iaload (by decide) rfl (by decide) (ixE rfl (show s < 4 by omega) (by decide)) q3.2.2 ?_
                    refine r_iconst ?_
                    refine r_isub ?_
                    refine r_i2l ?_
                    refine r_static (vs := [_, _, _]) (by decide) (zl rfl) rfl rfl (zl rfl) (Nat.le_refl _) rfl ?_
                    refine s_in0 (by omega) (x := y) (k := zz) (Int32.toInt_toInt64 _) i64_0 (by rw [Int32.toInt_toInt64, sub_int (by rw [io_int (by omega), show (1 : Int32).toInt = 1 from rfl]; omega) (by rw [io_int (by omega), show (1 : Int32).toInt = 1 from rfl]; omega), io_int (by omega)]; rfl) ?_
                    rw [if_neg hy]
                    refine r_if_ne (fun c_37 => ?_) (fun c_37 => ?_)
                    · have c_37 := (not_congr (n_eq (a := 0) (b := 0) rfl rfl (by omega) (by omega))).mp c_37
                      omega
                    · have c_37 := (n_eq (a := 0) (b := 0) rfl rfl (by omega) (by omega)).mp c_37
                      refine r_bipush ?_
                      refine r_iret rfl trivial ?_
                      exact hQ _ _ _ R.rel
                  · have c_16 := (n_eq (a := 1) (b := 0) rfl rfl (by omega) (by omega)).mp c_16
                    omega
                · have c_4 := (n_eq (a := 1) (b := 0) rfl rfl (by omega) (by omega)).mp c_4
                  omega
              · have c_31 := (not_congr (jlt (b := 0) rfl (by omega))).mp c_31
                refine r_iload_n rfl ?_
                refine r_aload rfl ?_
                refine r_getI (by decide) rfl (shK s hs).1 (shK s hs).2.1 q2.2 ?_
                refine r_icmp_lt (fun c_40 => ?_) (fun c_40 => ?_)
                · have c_40 := (jlt (b := zz) rfl (by omega)).mp c_40
                  omega
                · have c_40 := (not_congr (jlt (b := zz) rfl (by omega))).mp c_40
                  refine r_nil ?_
                  refine E_go 3 rfl ?_
                  refine r_bipush ?_
                  refine r_iret rfl trivial ?_
                  refine M_go (ls := [_, _, _, _]) (ml := 4) rfl rfl rfl (zl rfl) rfl ?_
                  refine r_iload_n rfl ?_
                  refine r_static (vs := [_]) (by decide) (zl rfl) rfl rfl (zl rfl) (Nat.le_refl _) rfl ?_
                  refine s_misSheet (by omega) ?_
                  rw [if_pos (inN_io hs (by omega))]
                  refine r_if_ne (fun c_4 => ?_) (fun c_4 => ?_)
                  · have c_4 := (not_congr (n_eq (a := 1) (b := 0) rfl rfl (by omega) (by omega))).mp c_4
                    refine E_go 1 rfl ?_
                    refine r_aload_n rfl ?_
                    refine r_getA (q := 78) (by decide) rfl rfl (by decide) ?_
                    refine r_iload_n rfl ?_
                    refine r_baload (by decide) rfl (by decide) (ixE rfl (show s < 4 by omega) (by decide)) q3.1 ?_
                    refine r_if_ne (fun c_16 => ?_) (fun c_16 => ?_)
                    · have c_16 := (not_congr (n_eq (a := 1) (b := 0) rfl rfl (by omega) (by omega))).mp c_16
                      refine E_go 2 rfl ?_
                      refine r_iload_n rfl ?_
                      refine r_i2l ?_
                      refine r_lconst ?_
                      refine r_aload_n rfl ?_
                      refine r_getA (q := 80) (by decide) rfl rfl (by decide) ?_
                      refine r_iload_n rfl ?_
                      refine r_iaload (by decide) rfl (by decide) (ixE rfl (show s < 4 by omega) (by decide)) q3.2.2 ?_
                      refine r_iconst ?_
                      refine r_isub ?_
                      refine r_i2l ?_
                      refine r_static (vs := [_, _, _]) (by decide) (zl rfl) rfl rfl (zl rfl) (Nat.le_refl _) rfl ?_
                      refine s_in0 (by omega) (x := y) (k := zz) (Int32.toInt_toInt64 _) i64_0 (by rw [Int32.toInt_toInt64, sub_int (by rw [io_int (by omega), show (1 : Int32).toInt = 1 from rfl]; omega) (by rw [io_int (by omega), show (1 : Int32).toInt = 1 from rfl]; omega), io_int (by omega)]; rfl) ?_
                      rw [if_neg hy]
                      refine r_if_ne (fun c_37 => ?_) (fun c_37 => ?_)
                      · have c_37 := (not_congr (n_eq (a := 0) (b := 0) rfl rfl (by omega) (by omega))).mp c_37
                        omega
                      · have c_37 := (n_eq (a := 0) (b := 0) rfl rfl (by omega) (by omega)).mp c_37
                        refine r_bipush ?_
                        refine r_iret rfl trivial ?_
                        exact hQ _ _ _ R.rel
                    · have c_16 := (n_eq (a := 1) (b := 0) rfl rfl (by omega) (by omega)).mp c_16
                      omega
                  · have c_4 := (n_eq (a := 1) (b := 0) rfl rfl (by omega) (by omega)).mp c_4
                    omega
            · exact absurd c_24 (io_m1 (by omega))
          · have c_4 := (n_eq (a := 1) (b := 0) rfl rfl (by omega) (by omega)).mp c_4
            omega
      · by_cases hy : inN zz y
        · obtain ⟨i, hi, rfl⟩ := inN_ex hy (by omega)
          refine M_go (ls := [_, _, _, _, _]) (ml := 5) rfl rfl rfl (zl rfl) rfl ?_
          refine r_iload_n rfl ?_
          refine r_static (vs := [_]) (by decide) (zl rfl) rfl rfl (zl rfl) (Nat.le_refl _) rfl ?_
          refine s_isSheet (by omega) ?_
          rw [if_pos (inN_io hs (by omega))]
          refine r_if_ne (fun c_4 => ?_) (fun c_4 => ?_)
          · have c_4 := (not_congr (n_eq (a := 1) (b := 0) rfl rfl (by omega) (by omega))).mp c_4
            refine E_go 1 rfl ?_
            refine r_aload_n rfl ?_
            refine r_getA (q := 34) (by decide) rfl rfl (by decide) ?_
            refine r_iload_n rfl ?_
            refine r_aaload (by decide) (by decide) (ixE rfl (show s < 4 by omega) (by decide)) (shK s hs).2.2.1 ?_
            refine r_astore (ls' := [_, _, _, _, _]) (zt rfl) rfl ?_
            refine r_aload rfl ?_
            refine r_getI (by decide) rfl (shK s hs).1 (shK s hs).2.1 q2.1 ?_
            refine r_iconst ?_
            refine r_icmp_ne (fun c_24 => ?_) (fun c_24 => ?_)
            · refine E_go 2 rfl ?_
              refine r_iload_n rfl ?_
              refine r_if_lt (fun c_31 => ?_) (fun c_31 => ?_)
              · have c_31 := (n_lt (a := i) (b := 0) rfl rfl (by omega) (by omega)).mp c_31
                omega
              · have c_31 := (not_congr (n_lt (a := i) (b := 0) rfl rfl (by omega) (by omega))).mp c_31
                refine r_iload_n rfl ?_
                refine r_aload rfl ?_
                refine r_getI (by decide) rfl (shK s hs).1 (shK s hs).2.1 q2.2 ?_
                refine r_icmp_lt (fun c_40 => ?_) (fun c_40 => ?_)
                · have c_40 := (n_lt (a := i) (b := zz) rfl rfl (by omega) (by omega)).mp c_40
                  refine E_go 4 rfl ?_
                  refine r_aload rfl ?_
                  refine r_iload_n rfl ?_
                  refine r_iload_n rfl ?_
                  refine r_virtual (vs := []) (as := [_, _]) (by decide) (zl rfl) rfl rfl (zl rfl) (Nat.le_refl _) (Or.inr (Or.inr ⟨zt rfl, (shK s hs).1, (shK s hs).2.1⟩)) ?_
                  refine M_go (ls := [_, _, _]) (ml := 3) rfl rfl rfl (zl rfl) rfl ?_
                  refine r_aload_n rfl ?_
                  refine r_getA (q := (54 + 2 * s)) (by decide) (shf hs) (shK s hs).1 (shK s hs).2.1 ?_
                  refine r_iload_n rfl ?_
                  refine r_aload_n rfl ?_
                  refine r_getI (by decide) rfl (shK s hs).1 (shK s hs).2.1 q2.1 ?_
                  refine r_if_ne (fun c_50_9 => ?_) (fun c_50_9 => ?_)
                  · have c_50_9 := (not_congr (n_eq (a := 2) (b := 0) rfl rfl (by omega) (by omega))).mp c_50_9
                    refine E_go 1 rfl ?_
                    refine r_aload_n rfl ?_
                    refine r_getI (by decide) rfl (shK s hs).1 (shK s hs).2.1 q2.1 ?_
                    refine r_iconst ?_
                    refine r_icmp_ne (fun c_50_22 => ?_) (fun c_50_22 => ?_)
                    · have c_50_22 := (not_congr (n_eq (a := 2) (b := 1) rfl rfl (by omega) (by omega))).mp c_50_22
                      refine E_go 2 rfl ?_
                      refine r_iload_n rfl ?_
                      refine r_nil ?_
                      refine E_go 3 rfl ?_
                      refine r_iastore (shK s hs).2.2.2.2.1 (shK s hs).2.2.2.2.2.2 (ixQ rfl (show i < 40 by omega) (by decide) (shK s hs).2.2.2.2.2.1) ?_
                      refine r_ret rfl ?_
                      refine r_iconst ?_
                      refine r_iret rfl trivial ?_
                      refine M_go (ls := [_, _, _, _]) (ml := 4) rfl rfl rfl (zl rfl) rfl ?_
                      refine r_iload_n rfl ?_
                      refine r_static (vs := [_]) (by decide) (zl rfl) rfl rfl (zl rfl) (Nat.le_refl _) rfl ?_
                      refine s_misSheet (by omega) ?_
                      rw [if_pos (inN_io hs (by omega))]
                      refine r_if_ne (fun c_4 => ?_) (fun c_4 => ?_)
                      · have c_4 := (not_congr (n_eq (a := 1) (b := 0) rfl rfl (by omega) (by omega))).mp c_4
                        refine E_go 1 rfl ?_
                        refine r_aload_n rfl ?_
                        refine r_getA (q := 78) (by decide) rfl rfl (by decide) ?_
                        refine r_iload_n rfl ?_
                        refine r_baload (by decide) rfl (by decide) (ixE rfl (show s < 4 by omega) (by decide)) ((congrFun (up2_q (by omega)) _).trans q3.1) ?_
                        refine r_if_ne (fun c_16 => ?_) (fun c_16 => ?_)
                        · have c_16 := (not_congr (n_eq (a := 1) (b := 0) rfl rfl (by omega) (by omega))).mp c_16
                          refine E_go 2 rfl ?_
                          refine r_iload_n rfl ?_
                          refine r_i2l ?_
                          refine r_lconst ?_
                          refine r_aload_n rfl ?_
                          refine r_getA (q := 80) (by decide) rfl rfl (by decide) ?_
                          refine r_iload_n rfl ?_
                          refine r_iaload (by decide) rfl (by decide) (ixE rfl (show s < 4 by omega) (by decide)) ((congrFun (up2_q (by omega)) _).trans q3.2.2) ?_
                          refine r_iconst ?_
                          refine r_isub ?_
                          refine r_i2l ?_
                          refine r_static (vs := [_, _, _]) (by decide) (zl rfl) rfl rfl (zl rfl) (Nat.le_refl _) rfl ?_
                          refine s_in0 (by omega) (x := (io i)) (k := zz) (Int32.toInt_toInt64 _) i64_0 (by rw [Int32.toInt_toInt64, sub_int (by rw [io_int (by omega), show (1 : Int32).toInt = 1 from rfl]; omega) (by rw [io_int (by omega), show (1 : Int32).toInt = 1 from rfl]; omega), io_int (by omega)]; rfl) ?_
                          rw [if_pos (inN_io hi (by omega))]
                          refine r_if_ne (fun c_37 => ?_) (fun c_37 => ?_)
                          · have c_37 := (not_congr (n_eq (a := 1) (b := 0) rfl rfl (by omega) (by omega))).mp c_37
                            refine E_go 3 rfl ?_
                            refine r_aload_n rfl ?_
                            refine r_getA (q := 81) (by decide) rfl rfl (by decide) ?_
                            refine r_bipush ?_
                            refine r_iload_n rfl ?_
                            refine r_imul ?_
                            refine r_iload_n rfl ?_
                            refine r_iadd ?_
                            refine r_aload_n rfl ?_
                            refine r_getA (q := 79) (by decide) rfl rfl (by decide) ?_
                            refine r_iload_n rfl ?_
                            refine r_iaload (by decide) rfl (by decide) (ixE rfl (show s < 4 by omega) (by decide)) ((congrFun (up2_q (by omega)) _).trans q3.2.1) ?_
                            refine r_if_ne (fun c_59 => ?_) (fun c_59 => ?_)
                            · have c_59 := (not_congr (n_eq (a := 2) (b := 0) rfl rfl (by omega) (by omega))).mp c_59
                              refine E_go 4 rfl ?_
                              refine r_aload_n rfl ?_
                              refine r_getA (q := 79) (by decide) rfl rfl (by decide) ?_
                              refine r_iload_n rfl ?_
                              refine r_iaload (by decide) rfl (by decide) (ixE rfl (show s < 4 by omega) (by decide)) ((congrFun (up2_q (by omega)) _).trans q3.2.1) ?_
                              refine r_iconst ?_
                              refine r_icmp_ne (fun c_74 => ?_) (fun c_74 => ?_)
                              · have c_74 := (not_congr (n_eq (a := 2) (b := 1) rfl rfl (by omega) (by omega))).mp c_74
                                refine E_go 5 rfl ?_
                                refine r_iload_n rfl ?_
                                refine r_nil ?_
                                refine E_go 6 rfl ?_
                                refine r_iastore rfl (by decide) (ixE (n_add (a := (40 * s)) (b := i) (n_mul (a := 40) (b := s) rfl rfl) rfl) (show ((40 * s) + i) < 160 by omega) (by decide)) ?_
                                refine r_iconst ?_
                                refine r_iret rfl trivial ?_
                                refine hQ _ _ _ (R.sh hs ((eS.c hs (by omega)).trans (eS.i hs (by omega))) (Or.inr ⟨2, zz, ⟨by omega, by omega⟩, ⟨?_, ?_⟩, ⟨?_, ?_, ?_⟩, fun j hj => ?_⟩)).rel
                                · rw [up2_q (by omega), up2_q (by omega)]; exact q2.1
                                · rw [up2_q (by omega), up2_q (by omega)]; exact q2.2
                                · rw [up2_q (by omega), up2_q (by omega)]; exact q3.1
                                · rw [up2_q (by omega), up2_q (by omega)]; exact q3.2.1
                                · rw [up2_q (by omega), up2_q (by omega)]; exact q3.2.2
                                · by_cases c : j = i
                                  · subst c
                                    rw [up2_at, up2_q (by omega), up2_at]
                                  · rw [up2_k (by omega), up2_q (by omega), up2_q (by omega), up2_k c]; exact q4 j hj
                              · have c_74 := (n_eq (a := 2) (b := 1) rfl rfl (by omega) (by omega)).mp c_74
                                omega
                            · have c_59 := (n_eq (a := 2) (b := 0) rfl rfl (by omega) (by omega)).mp c_59
                              omega
                          · have c_37 := (n_eq (a := 1) (b := 0) rfl rfl (by omega) (by omega)).mp c_37
                            omega
                        · have c_16 := (n_eq (a := 1) (b := 0) rfl rfl (by omega) (by omega)).mp c_16
                          omega
                      · have c_4 := (n_eq (a := 1) (b := 0) rfl rfl (by omega) (by omega)).mp c_4
                        omega
                    · have c_50_22 := (n_eq (a := 2) (b := 1) rfl rfl (by omega) (by omega)).mp c_50_22
                      omega
                  · have c_50_9 := (n_eq (a := 2) (b := 0) rfl rfl (by omega) (by omega)).mp c_50_9
                    omega
                · have c_40 := (not_congr (n_lt (a := i) (b := zz) rfl rfl (by omega) (by omega))).mp c_40
                  omega
            · exact absurd c_24 (io_m1 (by omega))
          · have c_4 := (n_eq (a := 1) (b := 0) rfl rfl (by omega) (by omega)).mp c_4
            omega
        · have hy2 : ¬ (0 ≤ y.toInt ∧ y.toInt < zz) := hy
          refine M_go (ls := [_, _, _, _, _]) (ml := 5) rfl rfl rfl (zl rfl) rfl ?_
          refine r_iload_n rfl ?_
          refine r_static (vs := [_]) (by decide) (zl rfl) rfl rfl (zl rfl) (Nat.le_refl _) rfl ?_
          refine s_isSheet (by omega) ?_
          rw [if_pos (inN_io hs (by omega))]
          refine r_if_ne (fun c_4 => ?_) (fun c_4 => ?_)
          · have c_4 := (not_congr (n_eq (a := 1) (b := 0) rfl rfl (by omega) (by omega))).mp c_4
            refine E_go 1 rfl ?_
            refine r_aload_n rfl ?_
            refine r_getA (q := 34) (by decide) rfl rfl (by decide) ?_
            refine r_iload_n rfl ?_
            refine r_aaload (by decide) (by decide) (ixE rfl (show s < 4 by omega) (by decide)) (shK s hs).2.2.1 ?_
            refine r_astore (ls' := [_, _, _, _, _]) (zt rfl) rfl ?_
            refine r_aload rfl ?_
            refine r_getI (by decide) rfl (shK s hs).1 (shK s hs).2.1 q2.1 ?_
            refine r_iconst ?_
            refine r_icmp_ne (fun c_24 => ?_) (fun c_24 => ?_)
            · refine E_go 2 rfl ?_
              refine r_iload_n rfl ?_
              refine r_if_lt (fun c_31 => ?_) (fun c_31 => ?_)
              · have c_31 := (jlt (b := 0) rfl (by omega)).mp c_31
                refine E_go 3 rfl ?_
                refine r_bipush ?_
                refine r_iret rfl trivial ?_
                refine M_go (ls := [_, _, _, _]) (ml := 4) rfl rfl rfl (zl rfl) rfl ?_
                refine r_iload_n rfl ?_
                refine r_static (vs := [_]) (by decide) (zl rfl) rfl rfl (zl rfl) (Nat.le_refl _) rfl ?_
                refine s_misSheet (by omega) ?_
                rw [if_pos (inN_io hs (by omega))]
                refine r_if_ne (fun c_4 => ?_) (fun c_4 => ?_)
                · have c_4 := (not_congr (n_eq (a := 1) (b := 0) rfl rfl (by omega) (by omega))).mp c_4
                  refine E_go 1 rfl ?_
                  refine r_aload_n rfl ?_
                  refine r_getA (q := 78) (by decide) rfl rfl (by decide) ?_
                  refine r_iload_n rfl ?_
                  refine r_baload (by decide) rfl (by decide) (ixE rfl (show s < 4 by omega) (by decide)) q3.1 ?_
                  refine r_if_ne (fun c_16 => ?_) (fun c_16 => ?_)
                  · have c_16 := (not_congr (n_eq (a := 1) (b := 0) rfl rfl (by omega) (by omega))).mp c_16
                    refine E_go 2 rfl ?_
                    refine r_iload_n rfl ?_
                    refine r_i2l ?_
                    refine r_lconst ?_
                    refine r_aload_n rfl ?_
                    refine r_getA (q := 80) (by decide) rfl rfl (by decide) ?_
                    refine r_iload_n rfl ?_
                    refine r_iaload (by decide) rfl (by decide) (ixE rfl (show s < 4 by omega) (by decide)) q3.2.2 ?_
                    refine r_iconst ?_
                    refine r_isub ?_
                    refine r_i2l ?_
                    refine r_static (vs := [_, _, _]) (by decide) (zl rfl) rfl rfl (zl rfl) (Nat.le_refl _) rfl ?_
                    refine s_in0 (by omega) (x := y) (k := zz) (Int32.toInt_toInt64 _) i64_0 (by rw [Int32.toInt_toInt64, sub_int (by rw [io_int (by omega), show (1 : Int32).toInt = 1 from rfl]; omega) (by rw [io_int (by omega), show (1 : Int32).toInt = 1 from rfl]; omega), io_int (by omega)]; rfl) ?_
                    rw [if_neg hy]
                    refine r_if_ne (fun c_37 => ?_) (fun c_37 => ?_)
                    · have c_37 := (not_congr (n_eq (a := 0) (b := 0) rfl rfl (by omega) (by omega))).mp c_37
                      omega
                    · have c_37 := (n_eq (a := 0) (b := 0) rfl rfl (by omega) (by omega)).mp c_37
                      refine r_bipush ?_
                      refine r_iret rfl trivial ?_
                      exact hQ _ _ _ R.rel
                  · have c_16 := (n_eq (a := 1) (b := 0) rfl rfl (by omega) (by omega)).mp c_16
                    omega
                · have c_4 := (n_eq (a := 1) (b := 0) rfl rfl (by omega) (by omega)).mp c_4
                  omega
              · have c_31 := (not_congr (jlt (b := 0) rfl (by omega))).mp c_31
                refine r_iload_n rfl ?_
                refine r_aload rfl ?_
                refine r_getI (by decide) rfl (shK s hs).1 (shK s hs).2.1 q2.2 ?_
                refine r_icmp_lt (fun c_40 => ?_) (fun c_40 => ?_)
                · have c_40 := (jlt (b := zz) rfl (by omega)).mp c_40
                  omega
                · have c_40 := (not_congr (jlt (b := zz) rfl (by omega))).mp c_40
                  refine r_nil ?_
                  refine E_go 3 rfl ?_
                  refine r_bipush ?_
                  refine r_iret rfl trivial ?_
                  refine M_go (ls := [_, _, _, _]) (ml := 4) rfl rfl rfl (zl rfl) rfl ?_
                  refine r_iload_n rfl ?_
                  refine r_static (vs := [_]) (by decide) (zl rfl) rfl rfl (zl rfl) (Nat.le_refl _) rfl ?_
                  refine s_misSheet (by omega) ?_
                  rw [if_pos (inN_io hs (by omega))]
                  refine r_if_ne (fun c_4 => ?_) (fun c_4 => ?_)
                  · have c_4 := (not_congr (n_eq (a := 1) (b := 0) rfl rfl (by omega) (by omega))).mp c_4
                    refine E_go 1 rfl ?_
                    refine r_aload_n rfl ?_
                    refine r_getA (q := 78) (by decide) rfl rfl (by decide) ?_
                    refine r_iload_n rfl ?_
                    refine r_baload (by decide) rfl (by decide) (ixE rfl (show s < 4 by omega) (by decide)) q3.1 ?_
                    refine r_if_ne (fun c_16 => ?_) (fun c_16 => ?_)
                    · have c_16 := (not_congr (n_eq (a := 1) (b := 0) rfl rfl (by omega) (by omega))).mp c_16
                      refine E_go 2 rfl ?_
                      refine r_iload_n rfl ?_
                      refine r_i2l ?_
                      refine r_lconst ?_
                      refine r_aload_n rfl ?_
                      refine r_getA (q := 80) (by decide) rfl rfl (by decide) ?_
                      refine r_iload_n rfl ?_
                      refine r_iaload (by decide) rfl (by decide) (ixE rfl (show s < 4 by omega) (by decide)) q3.2.2 ?_
                      refine r_iconst ?_
                      refine r_isub ?_
                      refine r_i2l ?_
                      refine r_static (vs := [_, _, _]) (by decide) (zl rfl) rfl rfl (zl rfl) (Nat.le_refl _) rfl ?_
                      refine s_in0 (by omega) (x := y) (k := zz) (Int32.toInt_toInt64 _) i64_0 (by rw [Int32.toInt_toInt64, sub_int (by rw [io_int (by omega), show (1 : Int32).toInt = 1 from rfl]; omega) (by rw [io_int (by omega), show (1 : Int32).toInt = 1 from rfl]; omega), io_int (by omega)]; rfl) ?_
                      rw [if_neg hy]
                      refine r_if_ne (fun c_37 => ?_) (fun c_37 => ?_)
                      · have c_37 := (not_congr (n_eq (a := 0) (b := 0) rfl rfl (by omega) (by omega))).mp c_37
                        omega
                      · have c_37 := (n_eq (a := 0) (b := 0) rfl rfl (by omega) (by omega)).mp c_37
                        refine r_bipush ?_
                        refine r_iret rfl trivial ?_
                        exact hQ _ _ _ R.rel
                    · have c_16 := (n_eq (a := 1) (b := 0) rfl rfl (by omega) (by omega)).mp c_16
                      omega
                  · have c_4 := (n_eq (a := 1) (b := 0) rfl rfl (by omega) (by omega)).mp c_4
                    omega
            · exact absurd c_24 (io_m1 (by omega))
          · have c_4 := (n_eq (a := 1) (b := 0) rfl rfl (by omega) (by omega)).mp c_4
            omega
  · refine M_go (ls := [_, _, _, _, _]) (ml := 5) rfl rfl rfl (zl rfl) rfl ?_
    refine r_iload_n rfl ?_
    refine r_static (vs := [_]) (by decide) (zl rfl) rfl rfl (zl rfl) (Nat.le_refl _) rfl ?_
    refine s_isSheet (by omega) ?_
    rw [if_neg hx]
    refine r_if_ne (fun c_4 => ?_) (fun c_4 => ?_)
    · have c_4 := (not_congr (n_eq (a := 0) (b := 0) rfl rfl (by omega) (by omega))).mp c_4
      omega
    · have c_4 := (n_eq (a := 0) (b := 0) rfl rfl (by omega) (by omega)).mp c_4
      refine r_bipush ?_
      refine r_iret rfl trivial ?_
      refine M_go (ls := [_, _, _, _]) (ml := 4) rfl rfl rfl (zl rfl) rfl ?_
      refine r_iload_n rfl ?_
      refine r_static (vs := [_]) (by decide) (zl rfl) rfl rfl (zl rfl) (Nat.le_refl _) rfl ?_
      refine s_misSheet (by omega) ?_
      rw [if_neg hx]
      refine r_if_ne (fun c_4 => ?_) (fun c_4 => ?_)
      · have c_4 := (not_congr (n_eq (a := 0) (b := 0) rfl rfl (by omega) (by omega))).mp c_4
        omega
      · have c_4 := (n_eq (a := 0) (b := 0) rfl rfl (by omega) (by omega)).mp c_4
        refine r_bipush ?_
        refine r_iret rfl trivial ?_
        exact hQ _ _ _ R.rel
