/-! calls: copy -/

theorem cpy_at {f g : Nat → Int32} {i j n b : Nat} (hi : i < 2147483648) (hj : j < 2147483648) (hn : n < 2147483648) : va_cpy f g (io i).toNatClampNeg (io j).toNatClampNeg (io n).toNatClampNeg b = if j ≤ b ∧ b < j + n then f (i + (b - j)) else g b := by
  rw [io_nat hi, io_nat hj, io_nat hn]
  rfl
theorem va_uq {f : Nat → Nat → Int32} {k : Nat} {v : Nat → Int32} : va_up f k v k = v := by simp [va_up]
/-- n cells from place a on, of what was from place b on *, else as it was -/
def cpd (a b k n : Nat) (I J : Nat → Nat → Int32) : Prop := (∀ p, ¬ p = 81 → J p = I p) ∧ (∀ c, k ≤ c → c < n → J 81 (a + c) = I 81 (b + c)) ∧ ∀ q, ¬ (a + k ≤ q ∧ q < a + n) → J 81 q = I 81 q
theorem okR_n {z : Nat} {x y : Int32} (h : okR z x y) (hz : z ≤ 40) : ∃ i n, (i + n ≤ z ∧ x = io i) ∧ y = io n := by
  obtain ⟨h1, h2, h3⟩ := h
  obtain ⟨i, hi, rfl⟩ := inN_ex (n := 41) (x := x) ⟨h1, by omega⟩ (by omega)
  obtain ⟨n, hn, rfl⟩ := inN_ex (n := 41) (x := y) ⟨h2, by omega⟩ (by omega)
  rw [io_int (by omega), io_int (by omega)] at h3
  exact ⟨i, n, ⟨by omega, rfl⟩, rfl⟩

set_option maxRecDepth 10000 in
theorem s_mcp0 {xs : xSc} {m : Nat} {I : Nat → Nat → Int32} {L : Nat → Nat → Int64} {Q : Value → xHp → Prop} {s u i j n : Nat} (hs : s < 4) (hu : u < 4) (hi : i + n ≤ 40) (hj : j + n ≤ 40) (hd : ¬ (s = u ∧ i < j)) (hQ : ∀ J, cpd (40 * u + j) (40 * s + i) 0 n I J → Q (.int (io n)) (Hp J L)) : ∀ x8, E xs m xi_X7_copy 82 Q 121 [.ref 61, .int (io s), .int (io i), .int (io u), .int (io j), .int (io n), .int (io 0), .int (io 0), x8] [] (82, I, L, xF0) := by
  have key : ∀ d k, k + d = n → ∀ (J : Nat → Nat → Int32) x8, cpd (40 * u + j) (40 * s + i) 0 k I J → E xs m xi_X7_copy 82 Q 121 [.ref 61, .int (io s), .int (io i), .int (io u), .int (io j), .int (io n), .int (io 0), .int (io k), x8] [] (82, J, L, xF0) := by
    intro d
    induction d using Nat.strongRecOn with
    | _ d ih =>
    intro k hk J x8 hJ
    refine E_go 10 rfl ?_
    refine r_iload rfl ?_
    refine r_iload rfl ?_
    refine r_icmp_ge (fun c_125 => ?_) (fun c_125 => ?_)
    · have c_125 := (n_le (a := n) (b := k) rfl rfl (by omega) (by omega)).mp c_125
      refine E_go 13 rfl ?_
      refine r_iload rfl ?_
      refine r_iret rfl trivial ?_
      have e : k = n := by omega
      subst e
      exact hQ _ hJ
    · have c_125 := (not_congr (n_le (a := n) (b := k) rfl rfl (by omega) (by omega))).mp c_125
      refine r_iload rfl ?_
      refine r_if_eq (fun c_130 => ?_) (fun c_130 => ?_)
      · have c_130 := (n_eq (a := 0) (b := 0) rfl rfl (by omega) (by omega)).mp c_130
        refine E_go 11 rfl ?_
        refine r_iload rfl ?_
        refine r_nil ?_
        refine E_go 12 rfl ?_
        refine r_istore (ls' := [_, _, _, _, _, _, _, _, _]) (zt rfl) rfl ?_
        refine r_aload_n rfl ?_
        refine r_getA (q := 81) (by decide) rfl rfl (by decide) ?_
        refine r_bipush ?_
        refine r_iload_n rfl ?_
        refine r_imul ?_
        refine r_iload rfl ?_
        refine r_iadd ?_
        refine r_iload rfl ?_
        refine r_iadd ?_
        refine r_aload_n rfl ?_
        refine r_getA (q := 81) (by decide) rfl rfl (by decide) ?_
        refine r_bipush ?_
        refine r_iload_n rfl ?_
        refine r_imul ?_
        refine r_iload_n rfl ?_
        refine r_iadd ?_
        refine r_iload rfl ?_
        refine r_iadd ?_
        refine r_iaload (by decide) rfl (by decide) (ixE (n_add (a := ((40 * s) + i)) (b := k) (n_add (a := (40 * s)) (b := i) (n_mul (a := 40) (b := s) rfl rfl) rfl) rfl) (show (((40 * s) + i) + k) < 160 by omega) (by decide)) (hJ.2.2 _ (by omega)) ?_
        refine r_iastore rfl (by decide) (ixE (n_add (a := ((40 * u) + j)) (b := k) (n_add (a := (40 * u)) (b := j) (n_mul (a := 40) (b := u) rfl rfl) rfl) rfl) (show (((40 * u) + j) + k) < 160 by omega) (by decide)) ?_
        refine r_iincN (y := io (k + 1)) (ls' := [_, _, _, _, _, _, _, _, _]) rfl (zt rfl) (n_add (a := k) (b := 1) rfl rfl) rfl ?_
        refine r_goto ?_
        refine ih (d - 1) (by omega) (k + 1) (by omega) _ _ ⟨fun p hp => by rw [up2_q hp]; exact hJ.1 p hp, fun c hc0 hc => ?_, fun q hq => by rw [up2_k (by omega)]; exact hJ.2.2 q (by omega)⟩
        by_cases e : c = k
        · subst e; rw [up2_at]
        · rw [up2_k (by omega)]; exact hJ.2.1 c (by omega) (by omega)
      · have c_130 := (not_congr (n_eq (a := 0) (b := 0) rfl rfl (by omega) (by omega))).mp c_130
        omega
  exact fun x8 => key n 0 (by omega) I x8 ⟨fun _ _ => rfl, fun c _ _ => False.elim (by omega), fun _ _ => rfl⟩

set_option maxRecDepth 10000 in
theorem s_mcp1 {xs : xSc} {m : Nat} {I : Nat → Nat → Int32} {L : Nat → Nat → Int64} {Q : Value → xHp → Prop} {s u i j n : Nat} (hs : s < 4) (hu : u < 4) (hi : i + n ≤ 40) (hj : j + n ≤ 40) (hd : (s = u ∧ i < j)) (hQ : ∀ J, cpd (40 * u + j) (40 * s + i) 0 n I J → Q (.int (io n)) (Hp J L)) : ∀ x8, E xs m xi_X7_copy 82 Q 121 [.ref 61, .int (io s), .int (io i), .int (io u), .int (io j), .int (io n), .int (io 1), .int (io 0), x8] [] (82, I, L, xF0) := by
  have key : ∀ d k, k + d = n → ∀ (J : Nat → Nat → Int32) x8, cpd (40 * u + j) (40 * s + i) (n - k) n I J → E xs m xi_X7_copy 82 Q 121 [.ref 61, .int (io s), .int (io i), .int (io u), .int (io j), .int (io n), .int (io 1), .int (io k), x8] [] (82, J, L, xF0) := by
    intro d
    induction d using Nat.strongRecOn with
    | _ d ih =>
    intro k hk J x8 hJ
    refine E_go 10 rfl ?_
    refine r_iload rfl ?_
    refine r_iload rfl ?_
    refine r_icmp_ge (fun c_125 => ?_) (fun c_125 => ?_)
    · have c_125 := (n_le (a := n) (b := k) rfl rfl (by omega) (by omega)).mp c_125
      refine E_go 13 rfl ?_
      refine r_iload rfl ?_
      refine r_iret rfl trivial ?_
      have e : k = n := by omega
      subst e
      rw [Nat.sub_self] at hJ
      exact hQ _ hJ
    · have c_125 := (not_congr (n_le (a := n) (b := k) rfl rfl (by omega) (by omega))).mp c_125
      refine r_iload rfl ?_
      refine r_if_eq (fun c_130 => ?_) (fun c_130 => ?_)
      · have c_130 := (n_eq (a := 1) (b := 0) rfl rfl (by omega) (by omega)).mp c_130
        omega
      · have c_130 := (not_congr (n_eq (a := 1) (b := 0) rfl rfl (by omega) (by omega))).mp c_130
        refine r_iload rfl ?_
        refine r_iconst ?_
        refine r_isub ?_
        refine r_iload rfl ?_
        refine r_isub ?_
        refine r_goto ?_
        refine E_go 12 rfl ?_
        refine r_istore (ls' := [_, _, _, _, _, _, _, _, _]) (zt rfl) rfl ?_
        refine r_aload_n rfl ?_
        refine r_getA (q := 81) (by decide) rfl rfl (by decide) ?_
        refine r_bipush ?_
        refine r_iload_n rfl ?_
        refine r_imul ?_
        refine r_iload rfl ?_
        refine r_iadd ?_
        refine r_iload rfl ?_
        refine r_iadd ?_
        refine r_aload_n rfl ?_
        refine r_getA (q := 81) (by decide) rfl rfl (by decide) ?_
        refine r_bipush ?_
        refine r_iload_n rfl ?_
        refine r_imul ?_
        refine r_iload_n rfl ?_
        refine r_iadd ?_
        refine r_iload rfl ?_
        refine r_iadd ?_
        refine r_iaload (by decide) rfl (by decide) (ixE (n_add (a := ((40 * s) + i)) (b := ((n - 1) - k)) (n_add (a := (40 * s)) (b := i) (n_mul (a := 40) (b := s) rfl rfl) rfl) (n_sub (a := (n - 1)) (b := k) (n_sub (a := n) (b := 1) rfl rfl (by omega)) rfl (by omega))) (show (((40 * s) + i) + ((n - 1) - k)) < 160 by omega) (by decide)) (hJ.2.2 _ (by omega)) ?_
        refine r_iastore rfl (by decide) (ixE (n_add (a := ((40 * u) + j)) (b := ((n - 1) - k)) (n_add (a := (40 * u)) (b := j) (n_mul (a := 40) (b := u) rfl rfl) rfl) (n_sub (a := (n - 1)) (b := k) (n_sub (a := n) (b := 1) rfl rfl (by omega)) rfl (by omega))) (show (((40 * u) + j) + ((n - 1) - k)) < 160 by omega) (by decide)) ?_
        refine r_iincN (y := io (k + 1)) (ls' := [_, _, _, _, _, _, _, _, _]) rfl (zt rfl) (n_add (a := k) (b := 1) rfl rfl) rfl ?_
        refine r_goto ?_
        refine ih (d - 1) (by omega) (k + 1) (by omega) _ _ ⟨fun p hp => by rw [up2_q hp]; exact hJ.1 p hp, fun c hc0 hc => ?_, fun q hq => by rw [up2_k (by omega)]; exact hJ.2.2 q (by omega)⟩
        by_cases e : c = n - 1 - k
        · subst e; rw [up2_at]
        · rw [up2_k (by omega)]; exact hJ.2.1 c (by omega) (by omega)
  exact fun x8 => key n 0 (by omega) I x8 ⟨fun _ _ => rfl, fun c _ _ => False.elim (by omega), fun _ _ => rfl⟩

theorem io_n0 {i : Nat} (h : i < 2147483648) : ¬ io i < 0 := fun q => by rw [lt_int, io_int h] at q; exact absurd q (by show ¬ ((i : Int) < 0); omega)

set_option maxRecDepth 10000 in
theorem tz_copy {xs : xSc} {m : Nat} {I : Nat → Nat → Int32} {L : Nat → Nat → Int64} {Q : Value → Value → xHp → Prop} (hm : 90 ≤ m) (hR : Rel I) {x y z w v : Int32} (hQ : ∀ (x : Int32) J L2, Rel J → Q (.int x) (.int x) (Hp J L2)) : M xs m xi_X6_copy [.ref 0, .int x, .int y, .int z, .int w, .int v] (Hp I L) (fun r1 h1 => M xs m xi_X7_copy [.ref 61, .int x, .int y, .int z, .int w, .int v] h1 (fun r2 h2 => Q r1 r2 h2)) := by
  obtain ⟨m, rfl⟩ : ∃ k, m = k + 6 := ⟨m - 6, by omega⟩
  obtain ⟨n, tc, r, tp, R⟩ := hR
  have h5 := R.n5
  have hr6 := R.r6
  have ht6 := R.t6
  have hrt := R.rt
  have hp160 := R.2.2.1.1.1
  by_cases hx : inN 4 x
  · by_cases hz : inN 4 z
    · obtain ⟨s, hs, rfl⟩ := inN_ex hx (by omega)
      obtain ⟨u, hu, rfl⟩ := inN_ex hz (by omega)
      rcases R.2.2.2.2 s hs with ⟨p1, p2⟩ | ⟨so, zs, p1, p2, p3, p4⟩
      · rcases R.2.2.2.2 u hu with ⟨q1, q2⟩ | ⟨sp, zu, qb, q2, q3, q4⟩
        · refine M_go (ls := [_, _, _, _, _, _, _, _]) (ml := 8) rfl rfl rfl (zl rfl) rfl ?_
          refine r_iload_n rfl ?_
          refine r_static (vs := [_]) (by decide) (zl rfl) rfl rfl (zl rfl) (Nat.le_refl _) rfl ?_
          refine s_isSheet (by omega) ?_
          rw [if_pos (inN_io hs (by omega))]
          refine r_if_eq (fun c_4 => ?_) (fun c_4 => ?_)
          · have c_4 := (n_eq (a := 1) (b := 0) rfl rfl (by omega) (by omega)).mp c_4
            omega
          · have c_4 := (not_congr (n_eq (a := 1) (b := 0) rfl rfl (by omega) (by omega))).mp c_4
            refine r_iload_n rfl ?_
            refine r_static (vs := [_]) (by decide) (zl rfl) rfl rfl (zl rfl) (Nat.le_refl _) rfl ?_
            refine s_isSheet (by omega) ?_
            rw [if_pos (inN_io hu (by omega))]
            refine r_if_ne (fun c_11 => ?_) (fun c_11 => ?_)
            · have c_11 := (not_congr (n_eq (a := 1) (b := 0) rfl rfl (by omega) (by omega))).mp c_11
              refine E_go 2 rfl ?_
              refine r_aload_n rfl ?_
              refine r_getA (q := 34) (by decide) rfl rfl (by decide) ?_
              refine r_iload_n rfl ?_
              refine r_aaload (by decide) (by decide) (ixE rfl (show s < 4 by omega) (by decide)) (shK s hs).2.2.1 ?_
              refine r_astore (ls' := [_, _, _, _, _, _, _, _]) (zt rfl) rfl ?_
              refine r_aload_n rfl ?_
              refine r_getA (q := 34) (by decide) rfl rfl (by decide) ?_
              refine r_iload_n rfl ?_
              refine r_aaload (by decide) (by decide) (ixE rfl (show u < 4 by omega) (by decide)) (shK u hu).2.2.1 ?_
              refine r_astore (ls' := [_, _, _, _, _, _, _, _]) (zt rfl) rfl ?_
              refine r_aload rfl ?_
              refine r_getI (by decide) rfl (shK s hs).1 (shK s hs).2.1 p1 ?_
              refine r_iconst ?_
              refine r_icmp_eq (fun c_39 => ?_) (fun c_39 => ?_)
              · refine E_go 3 rfl ?_
                refine r_bipush ?_
                refine r_iret rfl trivial ?_
                refine M_go (ls := [_, _, _, _, _, _, _, _, _]) (ml := 9) rfl rfl rfl (zl rfl) rfl ?_
                refine r_iload_n rfl ?_
                refine r_static (vs := [_]) (by decide) (zl rfl) rfl rfl (zl rfl) (Nat.le_refl _) rfl ?_
                refine s_misSheet (by omega) ?_
                rw [if_pos (inN_io hs (by omega))]
                refine r_if_eq (fun c_4 => ?_) (fun c_4 => ?_)
                · have c_4 := (n_eq (a := 1) (b := 0) rfl rfl (by omega) (by omega)).mp c_4
                  omega
                · have c_4 := (not_congr (n_eq (a := 1) (b := 0) rfl rfl (by omega) (by omega))).mp c_4
                  refine r_iload_n rfl ?_
                  refine r_static (vs := [_]) (by decide) (zl rfl) rfl rfl (zl rfl) (Nat.le_refl _) rfl ?_
                  refine s_misSheet (by omega) ?_
                  rw [if_pos (inN_io hu (by omega))]
                  refine r_if_ne (fun c_11 => ?_) (fun c_11 => ?_)
                  · have c_11 := (not_congr (n_eq (a := 1) (b := 0) rfl rfl (by omega) (by omega))).mp c_11
                    refine E_go 2 rfl ?_
                    refine r_aload_n rfl ?_
                    refine r_getA (q := 78) (by decide) rfl rfl (by decide) ?_
                    refine r_iload_n rfl ?_
                    refine r_baload (by decide) rfl (by decide) (ixE rfl (show s < 4 by omega) (by decide)) p2 ?_
                    refine r_if_eq (fun c_23 => ?_) (fun c_23 => ?_)
                    · have c_23 := (n_eq (a := 0) (b := 0) rfl rfl (by omega) (by omega)).mp c_23
                      refine E_go 3 rfl ?_
                      refine r_bipush ?_
                      refine r_iret rfl trivial ?_
                      exact hQ _ _ _ R.rel
                    · have c_23 := (not_congr (n_eq (a := 0) (b := 0) rfl rfl (by omega) (by omega))).mp c_23
                      omega
                  · have c_11 := (n_eq (a := 1) (b := 0) rfl rfl (by omega) (by omega)).mp c_11
                    omega
              · exact absurd rfl c_39
            · have c_11 := (n_eq (a := 1) (b := 0) rfl rfl (by omega) (by omega)).mp c_11
              omega
        · refine M_go (ls := [_, _, _, _, _, _, _, _]) (ml := 8) rfl rfl rfl (zl rfl) rfl ?_
          refine r_iload_n rfl ?_
          refine r_static (vs := [_]) (by decide) (zl rfl) rfl rfl (zl rfl) (Nat.le_refl _) rfl ?_
          refine s_isSheet (by omega) ?_
          rw [if_pos (inN_io hs (by omega))]
          refine r_if_eq (fun c_4 => ?_) (fun c_4 => ?_)
          · have c_4 := (n_eq (a := 1) (b := 0) rfl rfl (by omega) (by omega)).mp c_4
            omega
          · have c_4 := (not_congr (n_eq (a := 1) (b := 0) rfl rfl (by omega) (by omega))).mp c_4
            refine r_iload_n rfl ?_
            refine r_static (vs := [_]) (by decide) (zl rfl) rfl rfl (zl rfl) (Nat.le_refl _) rfl ?_
            refine s_isSheet (by omega) ?_
            rw [if_pos (inN_io hu (by omega))]
            refine r_if_ne (fun c_11 => ?_) (fun c_11 => ?_)
            · have c_11 := (not_congr (n_eq (a := 1) (b := 0) rfl rfl (by omega) (by omega))).mp c_11
              refine E_go 2 rfl ?_
              refine r_aload_n rfl ?_
              refine r_getA (q := 34) (by decide) rfl rfl (by decide) ?_
              refine r_iload_n rfl ?_
              refine r_aaload (by decide) (by decide) (ixE rfl (show s < 4 by omega) (by decide)) (shK s hs).2.2.1 ?_
              refine r_astore (ls' := [_, _, _, _, _, _, _, _]) (zt rfl) rfl ?_
              refine r_aload_n rfl ?_
              refine r_getA (q := 34) (by decide) rfl rfl (by decide) ?_
              refine r_iload_n rfl ?_
              refine r_aaload (by decide) (by decide) (ixE rfl (show u < 4 by omega) (by decide)) (shK u hu).2.2.1 ?_
              refine r_astore (ls' := [_, _, _, _, _, _, _, _]) (zt rfl) rfl ?_
              refine r_aload rfl ?_
              refine r_getI (by decide) rfl (shK s hs).1 (shK s hs).2.1 p1 ?_
              refine r_iconst ?_
              refine r_icmp_eq (fun c_39 => ?_) (fun c_39 => ?_)
              · refine E_go 3 rfl ?_
                refine r_bipush ?_
                refine r_iret rfl trivial ?_
                refine M_go (ls := [_, _, _, _, _, _, _, _, _]) (ml := 9) rfl rfl rfl (zl rfl) rfl ?_
                refine r_iload_n rfl ?_
                refine r_static (vs := [_]) (by decide) (zl rfl) rfl rfl (zl rfl) (Nat.le_refl _) rfl ?_
                refine s_misSheet (by omega) ?_
                rw [if_pos (inN_io hs (by omega))]
                refine r_if_eq (fun c_4 => ?_) (fun c_4 => ?_)
                · have c_4 := (n_eq (a := 1) (b := 0) rfl rfl (by omega) (by omega)).mp c_4
                  omega
                · have c_4 := (not_congr (n_eq (a := 1) (b := 0) rfl rfl (by omega) (by omega))).mp c_4
                  refine r_iload_n rfl ?_
                  refine r_static (vs := [_]) (by decide) (zl rfl) rfl rfl (zl rfl) (Nat.le_refl _) rfl ?_
                  refine s_misSheet (by omega) ?_
                  rw [if_pos (inN_io hu (by omega))]
                  refine r_if_ne (fun c_11 => ?_) (fun c_11 => ?_)
                  · have c_11 := (not_congr (n_eq (a := 1) (b := 0) rfl rfl (by omega) (by omega))).mp c_11
                    refine E_go 2 rfl ?_
                    refine r_aload_n rfl ?_
                    refine r_getA (q := 78) (by decide) rfl rfl (by decide) ?_
                    refine r_iload_n rfl ?_
                    refine r_baload (by decide) rfl (by decide) (ixE rfl (show s < 4 by omega) (by decide)) p2 ?_
                    refine r_if_eq (fun c_23 => ?_) (fun c_23 => ?_)
                    · have c_23 := (n_eq (a := 0) (b := 0) rfl rfl (by omega) (by omega)).mp c_23
                      refine E_go 3 rfl ?_
                      refine r_bipush ?_
                      refine r_iret rfl trivial ?_
                      exact hQ _ _ _ R.rel
                    · have c_23 := (not_congr (n_eq (a := 0) (b := 0) rfl rfl (by omega) (by omega))).mp c_23
                      omega
                  · have c_11 := (n_eq (a := 1) (b := 0) rfl rfl (by omega) (by omega)).mp c_11
                    omega
              · exact absurd rfl c_39
            · have c_11 := (n_eq (a := 1) (b := 0) rfl rfl (by omega) (by omega)).mp c_11
              omega
      · have hso := p1.1
        have hzs := p1.2
        rcases R.2.2.2.2 u hu with ⟨q1, q2⟩ | ⟨sp, zu, qb, q2, q3, q4⟩
        · refine M_go (ls := [_, _, _, _, _, _, _, _]) (ml := 8) rfl rfl rfl (zl rfl) rfl ?_
          refine r_iload_n rfl ?_
          refine r_static (vs := [_]) (by decide) (zl rfl) rfl rfl (zl rfl) (Nat.le_refl _) rfl ?_
          refine s_isSheet (by omega) ?_
          rw [if_pos (inN_io hs (by omega))]
          refine r_if_eq (fun c_4 => ?_) (fun c_4 => ?_)
          · have c_4 := (n_eq (a := 1) (b := 0) rfl rfl (by omega) (by omega)).mp c_4
            omega
          · have c_4 := (not_congr (n_eq (a := 1) (b := 0) rfl rfl (by omega) (by omega))).mp c_4
            refine r_iload_n rfl ?_
            refine r_static (vs := [_]) (by decide) (zl rfl) rfl rfl (zl rfl) (Nat.le_refl _) rfl ?_
            refine s_isSheet (by omega) ?_
            rw [if_pos (inN_io hu (by omega))]
            refine r_if_ne (fun c_11 => ?_) (fun c_11 => ?_)
            · have c_11 := (not_congr (n_eq (a := 1) (b := 0) rfl rfl (by omega) (by omega))).mp c_11
              refine E_go 2 rfl ?_
              refine r_aload_n rfl ?_
              refine r_getA (q := 34) (by decide) rfl rfl (by decide) ?_
              refine r_iload_n rfl ?_
              refine r_aaload (by decide) (by decide) (ixE rfl (show s < 4 by omega) (by decide)) (shK s hs).2.2.1 ?_
              refine r_astore (ls' := [_, _, _, _, _, _, _, _]) (zt rfl) rfl ?_
              refine r_aload_n rfl ?_
              refine r_getA (q := 34) (by decide) rfl rfl (by decide) ?_
              refine r_iload_n rfl ?_
              refine r_aaload (by decide) (by decide) (ixE rfl (show u < 4 by omega) (by decide)) (shK u hu).2.2.1 ?_
              refine r_astore (ls' := [_, _, _, _, _, _, _, _]) (zt rfl) rfl ?_
              refine r_aload rfl ?_
              refine r_getI (by decide) rfl (shK s hs).1 (shK s hs).2.1 p2.1 ?_
              refine r_iconst ?_
              refine r_icmp_eq (fun c_39 => ?_) (fun c_39 => ?_)
              · exact absurd c_39 (io_m1 (by omega))
              · refine r_aload rfl ?_
                refine r_getI (by decide) rfl (shK u hu).1 (shK u hu).2.1 q1 ?_
                refine r_iconst ?_
                refine r_icmp_ne (fun c_48 => ?_) (fun c_48 => ?_)
                · exact absurd rfl c_48
                · refine r_nil ?_
                  refine E_go 3 rfl ?_
                  refine r_bipush ?_
                  refine r_iret rfl trivial ?_
                  refine M_go (ls := [_, _, _, _, _, _, _, _, _]) (ml := 9) rfl rfl rfl (zl rfl) rfl ?_
                  refine r_iload_n rfl ?_
                  refine r_static (vs := [_]) (by decide) (zl rfl) rfl rfl (zl rfl) (Nat.le_refl _) rfl ?_
                  refine s_misSheet (by omega) ?_
                  rw [if_pos (inN_io hs (by omega))]
                  refine r_if_eq (fun c_4 => ?_) (fun c_4 => ?_)
                  · have c_4 := (n_eq (a := 1) (b := 0) rfl rfl (by omega) (by omega)).mp c_4
                    omega
                  · have c_4 := (not_congr (n_eq (a := 1) (b := 0) rfl rfl (by omega) (by omega))).mp c_4
                    refine r_iload_n rfl ?_
                    refine r_static (vs := [_]) (by decide) (zl rfl) rfl rfl (zl rfl) (Nat.le_refl _) rfl ?_
                    refine s_misSheet (by omega) ?_
                    rw [if_pos (inN_io hu (by omega))]
                    refine r_if_ne (fun c_11 => ?_) (fun c_11 => ?_)
                    · have c_11 := (not_congr (n_eq (a := 1) (b := 0) rfl rfl (by omega) (by omega))).mp c_11
                      refine E_go 2 rfl ?_
                      refine r_aload_n rfl ?_
                      refine r_getA (q := 78) (by decide) rfl rfl (by decide) ?_
                      refine r_iload_n rfl ?_
                      refine r_baload (by decide) rfl (by decide) (ixE rfl (show s < 4 by omega) (by decide)) p3.1 ?_
                      refine r_if_eq (fun c_23 => ?_) (fun c_23 => ?_)
                      · have c_23 := (n_eq (a := 1) (b := 0) rfl rfl (by omega) (by omega)).mp c_23
                        omega
                      · have c_23 := (not_congr (n_eq (a := 1) (b := 0) rfl rfl (by omega) (by omega))).mp c_23
                        refine r_aload_n rfl ?_
                        refine r_getA (q := 78) (by decide) rfl rfl (by decide) ?_
                        refine r_iload_n rfl ?_
                        refine r_baload (by decide) rfl (by decide) (ixE rfl (show u < 4 by omega) (by decide)) q2 ?_
                        refine r_if_ne (fun c_32 => ?_) (fun c_32 => ?_)
                        · have c_32 := (not_congr (n_eq (a := 0) (b := 0) rfl rfl (by omega) (by omega))).mp c_32
                          omega
                        · have c_32 := (n_eq (a := 0) (b := 0) rfl rfl (by omega) (by omega)).mp c_32
                          refine r_nil ?_
                          refine E_go 3 rfl ?_
                          refine r_bipush ?_
                          refine r_iret rfl trivial ?_
                          exact hQ _ _ _ R.rel
                    · have c_11 := (n_eq (a := 1) (b := 0) rfl rfl (by omega) (by omega)).mp c_11
                      omega
            · have c_11 := (n_eq (a := 1) (b := 0) rfl rfl (by omega) (by omega)).mp c_11
              omega
        · have hsp := qb.1
          have hzu := qb.2
          by_cases ne : so = sp
          · subst ne
            by_cases h1 : okR zs y v
            · by_cases h2 : okR zu w v
              · obtain ⟨i, nn, ⟨hi, rfl⟩, rfl⟩ := okR_n h1 p1.2
                obtain ⟨j, n2, ⟨hj, rfl⟩, hn2⟩ := okR_n h2 qb.2
                have en : nn = n2 := (io_inj (by omega) (by omega)).mp hn2
                subst en
                have fin : ∀ J : Nat → Nat → Int32, (∀ p, ¬ p = 54 + 2 * u → J p = I p) → (∀ b, J (54 + 2 * u) b = if j ≤ b ∧ b < j + nn then I (54 + 2 * s) (i + (b - j)) else I (54 + 2 * u) b) → M xs (m + 6) xi_X7_copy [.ref 61, .int (io s), .int (io i), .int (io u), .int (io j), .int (io nn)] (Hp J L) (fun r2 h2 => Q (.int (io nn)) r2 h2) := by
                  intro J j1 j2
                  have fin2 : ∀ (K : Nat → Nat → Int32) L2, cpd (40 * u + j) (40 * s + i) 0 nn J K → Q (.int (io nn)) (.int (io nn)) (Hp K L2) := by
                    intro K L2 k
                    refine hQ _ _ _ (R.sh hu ⟨fun p hp => by rw [k.1 p (by omega), j1 p (by omega)], fun t ht hn => ⟨⟨by rw [k.1 78 (by omega), j1 78 (by omega)], by rw [k.1 79 (by omega), j1 79 (by omega)], by rw [k.1 80 (by omega), j1 80 (by omega)]⟩, fun b hb => by rw [k.2.2 _ (by omega), j1 81 (by omega)]⟩⟩ (Or.inr ⟨so, zu, ⟨p1.1, qb.2⟩, ⟨?_, ?_⟩, ⟨?_, ?_, ?_⟩, fun b hb => ?_⟩)).rel
                    · rw [k.1 _ (by omega), j1 _ (by omega)]; exact q2.1
                    · rw [k.1 _ (by omega), j1 _ (by omega)]; exact q2.2
                    · rw [k.1 _ (by omega), j1 _ (by omega)]; exact q3.1
                    · rw [k.1 _ (by omega), j1 _ (by omega)]; exact q3.2.1
                    · rw [k.1 _ (by omega), j1 _ (by omega)]; exact q3.2.2
                    · rw [k.1 (54 + 2 * u) (by omega), j2 b]
                      by_cases c : j ≤ b ∧ b < j + nn
                      · rw [if_pos c]
                        have e := k.2.1 (b - j) (by omega) (by omega)
                        rw [show 40 * u + j + (b - j) = 40 * u + b by omega, j1 81 (by omega), show 40 * s + i + (b - j) = 40 * s + (i + (b - j)) by omega] at e
                        rw [e]; exact p4 _ (by omega)
                      · rw [if_neg c, k.2.2 _ (by omega), j1 81 (by omega)]; exact q4 b hb
                  refine M_go (ls := [_, _, _, _, _, _, _, _, _]) (ml := 9) rfl rfl rfl (zl rfl) rfl ?_
                  refine r_iload_n rfl ?_
                  refine r_static (vs := [_]) (by decide) (zl rfl) rfl rfl (zl rfl) (Nat.le_refl _) rfl ?_
                  refine s_misSheet (by omega) ?_
                  rw [if_pos (inN_io hs (by omega))]
                  refine r_if_eq (fun c_4 => ?_) (fun c_4 => ?_)
                  · have c_4 := (n_eq (a := 1) (b := 0) rfl rfl (by omega) (by omega)).mp c_4
                    omega
                  · have c_4 := (not_congr (n_eq (a := 1) (b := 0) rfl rfl (by omega) (by omega))).mp c_4
                    refine r_iload_n rfl ?_
                    refine r_static (vs := [_]) (by decide) (zl rfl) rfl rfl (zl rfl) (Nat.le_refl _) rfl ?_
                    refine s_misSheet (by omega) ?_
                    rw [if_pos (inN_io hu (by omega))]
                    refine r_if_ne (fun c_11 => ?_) (fun c_11 => ?_)
                    · have c_11 := (not_congr (n_eq (a := 1) (b := 0) rfl rfl (by omega) (by omega))).mp c_11
                      refine E_go 2 rfl ?_
                      refine r_aload_n rfl ?_
                      refine r_getA (q := 78) (by decide) rfl rfl (by decide) ?_
                      refine r_iload_n rfl ?_
                      refine r_baload (by decide) rfl (by decide) (ixE rfl (show s < 4 by omega) (by decide)) ((congrFun (j1 78 (by omega)) _).trans p3.1) ?_
                      refine r_if_eq (fun c_23 => ?_) (fun c_23 => ?_)
                      · have c_23 := (n_eq (a := 1) (b := 0) rfl rfl (by omega) (by omega)).mp c_23
                        omega
                      · have c_23 := (not_congr (n_eq (a := 1) (b := 0) rfl rfl (by omega) (by omega))).mp c_23
                        refine r_aload_n rfl ?_
                        refine r_getA (q := 78) (by decide) rfl rfl (by decide) ?_
                        refine r_iload_n rfl ?_
                        refine r_baload (by decide) rfl (by decide) (ixE rfl (show u < 4 by omega) (by decide)) ((congrFun (j1 78 (by omega)) _).trans q3.1) ?_
                        refine r_if_ne (fun c_32 => ?_) (fun c_32 => ?_)
                        · have c_32 := (not_congr (n_eq (a := 1) (b := 0) rfl rfl (by omega) (by omega))).mp c_32
                          refine E_go 4 rfl ?_
                          refine r_aload_n rfl ?_
                          refine r_getA (q := 79) (by decide) rfl rfl (by decide) ?_
                          refine r_iload_n rfl ?_
                          refine r_iaload (by decide) rfl (by decide) (ixE rfl (show s < 4 by omega) (by decide)) ((congrFun (j1 79 (by omega)) _).trans p3.2.1) ?_
                          refine r_aload_n rfl ?_
                          refine r_getA (q := 79) (by decide) rfl rfl (by decide) ?_
                          refine r_iload_n rfl ?_
                          refine r_iaload (by decide) rfl (by decide) (ixE rfl (show u < 4 by omega) (by decide)) ((congrFun (j1 79 (by omega)) _).trans q3.2.1) ?_
                          refine r_icmp_eq (fun c_50 => ?_) (fun c_50 => ?_)
                          · have c_50 := (n_eq (a := so) (b := so) rfl rfl (by omega) (by omega)).mp c_50
                            refine E_go 5 rfl ?_
                            refine r_iload rfl ?_
                            refine r_if_lt (fun c_58 => ?_) (fun c_58 => ?_)
                            · have c_58 := (n_lt (a := nn) (b := 0) rfl rfl (by omega) (by omega)).mp c_58
                              omega
                            · have c_58 := (not_congr (n_lt (a := nn) (b := 0) rfl rfl (by omega) (by omega))).mp c_58
                              refine r_iload_n rfl ?_
                              refine r_if_lt (fun c_62 => ?_) (fun c_62 => ?_)
                              · have c_62 := (n_lt (a := i) (b := 0) rfl rfl (by omega) (by omega)).mp c_62
                                omega
                              · have c_62 := (not_congr (n_lt (a := i) (b := 0) rfl rfl (by omega) (by omega))).mp c_62
                                refine r_iload rfl ?_
                                refine r_if_lt (fun c_67 => ?_) (fun c_67 => ?_)
                                · have c_67 := (n_lt (a := j) (b := 0) rfl rfl (by omega) (by omega)).mp c_67
                                  omega
                                · have c_67 := (not_congr (n_lt (a := j) (b := 0) rfl rfl (by omega) (by omega))).mp c_67
                                  refine r_iload_n rfl ?_
                                  refine r_aload_n rfl ?_
                                  refine r_getA (q := 80) (by decide) rfl rfl (by decide) ?_
                                  refine r_iload_n rfl ?_
                                  refine r_iaload (by decide) rfl (by decide) (ixE rfl (show s < 4 by omega) (by decide)) ((congrFun (j1 80 (by omega)) _).trans p3.2.2) ?_
                                  refine r_iload rfl ?_
                                  refine r_isub ?_
                                  refine r_icmp_gt (fun c_80 => ?_) (fun c_80 => ?_)
                                  · have c_80 := (n_lt (a := (zs - nn)) (b := i) (n_sub (a := zs) (b := nn) rfl rfl (by omega)) rfl (by omega) (by omega)).mp c_80
                                    omega
                                  · have c_80 := (not_congr (n_lt (a := (zs - nn)) (b := i) (n_sub (a := zs) (b := nn) rfl rfl (by omega)) rfl (by omega) (by omega))).mp c_80
                                    refine r_iload rfl ?_
                                    refine r_aload_n rfl ?_
                                    refine r_getA (q := 80) (by decide) rfl rfl (by decide) ?_
                                    refine r_iload_n rfl ?_
                                    refine r_iaload (by decide) rfl (by decide) (ixE rfl (show u < 4 by omega) (by decide)) ((congrFun (j1 80 (by omega)) _).trans q3.2.2) ?_
                                    refine r_iload rfl ?_
                                    refine r_isub ?_
                                    refine r_icmp_le (fun c_94 => ?_) (fun c_94 => ?_)
                                    · have c_94 := (n_le (a := j) (b := (zu - nn)) rfl (n_sub (a := zu) (b := nn) rfl rfl (by omega)) (by omega) (by omega)).mp c_94
                                      refine E_go 7 rfl ?_
                                      refine r_iload_n rfl ?_
                                      refine r_iload_n rfl ?_
                                      refine r_icmp_ne (fun c_102 => ?_) (fun c_102 => ?_)
                                      · have c_102 := (not_congr (n_eq (a := s) (b := u) rfl rfl (by omega) (by omega))).mp c_102
                                        refine E_go 8 rfl ?_
                                        refine r_iconst ?_
                                        refine r_nil ?_
                                        refine E_go 9 rfl ?_
                                        refine r_istore (ls' := [_, _, _, _, _, _, _, _, _]) (zt rfl) rfl ?_
                                        refine r_iconst ?_
                                        refine r_istore (ls' := [_, _, _, _, _, _, _, _, _]) (zt rfl) rfl ?_
                                        refine r_nil ?_
                                        refine s_mcp0 hs hu (by omega) (by omega) (by omega) (fun K k => ?_) _
                                        exact fin2 K _ k
                                      · have c_102 := (n_eq (a := s) (b := u) rfl rfl (by omega) (by omega)).mp c_102
                                        refine r_iload_n rfl ?_
                                        refine r_iload rfl ?_
                                        refine r_icmp_ge (fun c_108 => ?_) (fun c_108 => ?_)
                                        · have c_108 := (n_le (a := j) (b := i) rfl rfl (by omega) (by omega)).mp c_108
                                          refine E_go 8 rfl ?_
                                          refine r_iconst ?_
                                          refine r_nil ?_
                                          refine E_go 9 rfl ?_
                                          refine r_istore (ls' := [_, _, _, _, _, _, _, _, _]) (zt rfl) rfl ?_
                                          refine r_iconst ?_
                                          refine r_istore (ls' := [_, _, _, _, _, _, _, _, _]) (zt rfl) rfl ?_
                                          refine r_nil ?_
                                          refine s_mcp0 hs hu (by omega) (by omega) (by omega) (fun K k => ?_) _
                                          exact fin2 K _ k
                                        · have c_108 := (not_congr (n_le (a := j) (b := i) rfl rfl (by omega) (by omega))).mp c_108
                                          refine r_iconst ?_
                                          refine r_goto ?_
                                          refine E_go 9 rfl ?_
                                          refine r_istore (ls' := [_, _, _, _, _, _, _, _, _]) (zt rfl) rfl ?_
                                          refine r_iconst ?_
                                          refine r_istore (ls' := [_, _, _, _, _, _, _, _, _]) (zt rfl) rfl ?_
                                          refine r_nil ?_
                                          refine s_mcp1 hs hu (by omega) (by omega) (by omega) (fun K k => ?_) _
                                          exact fin2 K _ k
                                    · have c_94 := (not_congr (n_le (a := j) (b := (zu - nn)) rfl (n_sub (a := zu) (b := nn) rfl rfl (by omega)) (by omega) (by omega))).mp c_94
                                      omega
                          · have c_50 := (not_congr (n_eq (a := so) (b := so) rfl rfl (by omega) (by omega))).mp c_50
                            omega
                        · have c_32 := (n_eq (a := 1) (b := 0) rfl rfl (by omega) (by omega)).mp c_32
                          omega
                    · have c_11 := (n_eq (a := 1) (b := 0) rfl rfl (by omega) (by omega)).mp c_11
                      omega
                refine M_go (ls := [_, _, _, _, _, _, _, _]) (ml := 8) rfl rfl rfl (zl rfl) rfl ?_
                refine r_iload_n rfl ?_
                refine r_static (vs := [_]) (by decide) (zl rfl) rfl rfl (zl rfl) (Nat.le_refl _) rfl ?_
                refine s_isSheet (by omega) ?_
                rw [if_pos (inN_io hs (by omega))]
                refine r_if_eq (fun c_4 => ?_) (fun c_4 => ?_)
                · have c_4 := (n_eq (a := 1) (b := 0) rfl rfl (by omega) (by omega)).mp c_4
                  omega
                · have c_4 := (not_congr (n_eq (a := 1) (b := 0) rfl rfl (by omega) (by omega))).mp c_4
                  refine r_iload_n rfl ?_
                  refine r_static (vs := [_]) (by decide) (zl rfl) rfl rfl (zl rfl) (Nat.le_refl _) rfl ?_
                  refine s_isSheet (by omega) ?_
                  rw [if_pos (inN_io hu (by omega))]
                  refine r_if_ne (fun c_11 => ?_) (fun c_11 => ?_)
                  · have c_11 := (not_congr (n_eq (a := 1) (b := 0) rfl rfl (by omega) (by omega))).mp c_11
                    refine E_go 2 rfl ?_
                    refine r_aload_n rfl ?_
                    refine r_getA (q := 34) (by decide) rfl rfl (by decide) ?_
                    refine r_iload_n rfl ?_
                    refine r_aaload (by decide) (by decide) (ixE rfl (show s < 4 by omega) (by decide)) (shK s hs).2.2.1 ?_
                    refine r_astore (ls' := [_, _, _, _, _, _, _, _]) (zt rfl) rfl ?_
                    refine r_aload_n rfl ?_
                    refine r_getA (q := 34) (by decide) rfl rfl (by decide) ?_
                    refine r_iload_n rfl ?_
                    refine r_aaload (by decide) (by decide) (ixE rfl (show u < 4 by omega) (by decide)) (shK u hu).2.2.1 ?_
                    refine r_astore (ls' := [_, _, _, _, _, _, _, _]) (zt rfl) rfl ?_
                    refine r_aload rfl ?_
                    refine r_getI (by decide) rfl (shK s hs).1 (shK s hs).2.1 p2.1 ?_
                    refine r_iconst ?_
                    refine r_icmp_eq (fun c_39 => ?_) (fun c_39 => ?_)
                    · exact absurd c_39 (io_m1 (by omega))
                    · refine r_aload rfl ?_
                      refine r_getI (by decide) rfl (shK u hu).1 (shK u hu).2.1 q2.1 ?_
                      refine r_iconst ?_
                      refine r_icmp_ne (fun c_48 => ?_) (fun c_48 => ?_)
                      · refine E_go 4 rfl ?_
                        refine r_aload rfl ?_
                        refine r_getI (by decide) rfl (shK s hs).1 (shK s hs).2.1 p2.1 ?_
                        refine r_aload rfl ?_
                        refine r_getI (by decide) rfl (shK u hu).1 (shK u hu).2.1 q2.1 ?_
                        refine r_icmp_eq (fun c_64 => ?_) (fun c_64 => ?_)
                        · have c_64 := (n_eq (a := so) (b := so) rfl rfl (by omega) (by omega)).mp c_64
                          refine E_go 5 rfl ?_
                          refine r_aload rfl ?_
                          refine r_iload_n rfl ?_
                          refine r_iload rfl ?_
                          refine r_virtual (vs := []) (as := [_, _]) (by decide) (zl rfl) rfl rfl (zl rfl) (Nat.le_refl _) (Or.inr (Or.inr ⟨zt rfl, (shK s hs).1, (shK s hs).2.1⟩)) ?_
                          refine s_holds (by omega) hs p2.2 p1.2 ?_
                          rw [if_pos h1]
                          refine r_if_eq (fun c_78 => ?_) (fun c_78 => ?_)
                          · have c_78 := (n_eq (a := 1) (b := 0) rfl rfl (by omega) (by omega)).mp c_78
                            omega
                          · have c_78 := (not_congr (n_eq (a := 1) (b := 0) rfl rfl (by omega) (by omega))).mp c_78
                            refine r_aload rfl ?_
                            refine r_iload rfl ?_
                            refine r_iload rfl ?_
                            refine r_virtual (vs := []) (as := [_, _]) (by decide) (zl rfl) rfl rfl (zl rfl) (Nat.le_refl _) (Or.inr (Or.inr ⟨zt rfl, (shK u hu).1, (shK u hu).2.1⟩)) ?_
                            refine s_holds (by omega) hu q2.2 qb.2 ?_
                            rw [if_pos h2]
                            refine r_if_ne (fun c_90 => ?_) (fun c_90 => ?_)
                            · have c_90 := (not_congr (n_eq (a := 1) (b := 0) rfl rfl (by omega) (by omega))).mp c_90
                              refine E_go 7 rfl ?_
                              refine r_aload rfl ?_
                              refine r_getA (q := (54 + 2 * s)) (by decide) (shf hs) (shK s hs).1 (shK s hs).2.1 ?_
                              refine r_iload_n rfl ?_
                              refine r_aload rfl ?_
                              refine r_getA (q := (54 + 2 * u)) (by decide) (shf hu) (shK u hu).1 (shK u hu).2.1 ?_
                              refine r_iload rfl ?_
                              refine r_iload rfl ?_
                              refine r_copy rfl ⟨(shK s hs).2.2.2.2.1, (shK u hu).2.2.2.2.1, (shK s hs).2.2.2.2.2.2, (shK u hu).2.2.2.2.2.2⟩ ⟨io_n0 (by omega), io_n0 (by omega), io_n0 (by omega)⟩ (by rw [io_nat (by omega), io_nat (by omega), (shK s hs).2.2.2.2.2.1]; omega) (by rw [io_nat (by omega), io_nat (by omega), (shK u hu).2.2.2.2.2.1]; omega) (zl rfl) ?_
                              refine r_iload rfl ?_
                              refine r_iret rfl trivial ?_
                              refine fin _ (fun p hp => va_u hp) (fun b => ?_)
                              exact (congrFun va_uq b).trans (cpy_at (by omega) (by omega) (by omega))
                            · have c_90 := (n_eq (a := 1) (b := 0) rfl rfl (by omega) (by omega)).mp c_90
                              omega
                        · have c_64 := (not_congr (n_eq (a := so) (b := so) rfl rfl (by omega) (by omega))).mp c_64
                          omega
                      · exact absurd c_48 (io_m1 (by omega))
                  · have c_11 := (n_eq (a := 1) (b := 0) rfl rfl (by omega) (by omega)).mp c_11
                    omega
              · have hno : ¬ (okR zs y v ∧ okR zu w v) := fun q => h2 q.2
                refine M_go (ls := [_, _, _, _, _, _, _, _]) (ml := 8) rfl rfl rfl (zl rfl) rfl ?_
                refine r_iload_n rfl ?_
                refine r_static (vs := [_]) (by decide) (zl rfl) rfl rfl (zl rfl) (Nat.le_refl _) rfl ?_
                refine s_isSheet (by omega) ?_
                rw [if_pos (inN_io hs (by omega))]
                refine r_if_eq (fun c_4 => ?_) (fun c_4 => ?_)
                · have c_4 := (n_eq (a := 1) (b := 0) rfl rfl (by omega) (by omega)).mp c_4
                  omega
                · have c_4 := (not_congr (n_eq (a := 1) (b := 0) rfl rfl (by omega) (by omega))).mp c_4
                  refine r_iload_n rfl ?_
                  refine r_static (vs := [_]) (by decide) (zl rfl) rfl rfl (zl rfl) (Nat.le_refl _) rfl ?_
                  refine s_isSheet (by omega) ?_
                  rw [if_pos (inN_io hu (by omega))]
                  refine r_if_ne (fun c_11 => ?_) (fun c_11 => ?_)
                  · have c_11 := (not_congr (n_eq (a := 1) (b := 0) rfl rfl (by omega) (by omega))).mp c_11
                    refine E_go 2 rfl ?_
                    refine r_aload_n rfl ?_
                    refine r_getA (q := 34) (by decide) rfl rfl (by decide) ?_
                    refine r_iload_n rfl ?_
                    refine r_aaload (by decide) (by decide) (ixE rfl (show s < 4 by omega) (by decide)) (shK s hs).2.2.1 ?_
                    refine r_astore (ls' := [_, _, _, _, _, _, _, _]) (zt rfl) rfl ?_
                    refine r_aload_n rfl ?_
                    refine r_getA (q := 34) (by decide) rfl rfl (by decide) ?_
                    refine r_iload_n rfl ?_
                    refine r_aaload (by decide) (by decide) (ixE rfl (show u < 4 by omega) (by decide)) (shK u hu).2.2.1 ?_
                    refine r_astore (ls' := [_, _, _, _, _, _, _, _]) (zt rfl) rfl ?_
                    refine r_aload rfl ?_
                    refine r_getI (by decide) rfl (shK s hs).1 (shK s hs).2.1 p2.1 ?_
                    refine r_iconst ?_
                    refine r_icmp_eq (fun c_39 => ?_) (fun c_39 => ?_)
                    · exact absurd c_39 (io_m1 (by omega))
                    · refine r_aload rfl ?_
                      refine r_getI (by decide) rfl (shK u hu).1 (shK u hu).2.1 q2.1 ?_
                      refine r_iconst ?_
                      refine r_icmp_ne (fun c_48 => ?_) (fun c_48 => ?_)
                      · refine E_go 4 rfl ?_
                        refine r_aload rfl ?_
                        refine r_getI (by decide) rfl (shK s hs).1 (shK s hs).2.1 p2.1 ?_
                        refine r_aload rfl ?_
                        refine r_getI (by decide) rfl (shK u hu).1 (shK u hu).2.1 q2.1 ?_
                        refine r_icmp_eq (fun c_64 => ?_) (fun c_64 => ?_)
                        · have c_64 := (n_eq (a := so) (b := so) rfl rfl (by omega) (by omega)).mp c_64
                          refine E_go 5 rfl ?_
                          refine r_aload rfl ?_
                          refine r_iload_n rfl ?_
                          refine r_iload rfl ?_
                          refine r_virtual (vs := []) (as := [_, _]) (by decide) (zl rfl) rfl rfl (zl rfl) (Nat.le_refl _) (Or.inr (Or.inr ⟨zt rfl, (shK s hs).1, (shK s hs).2.1⟩)) ?_
                          refine s_holds (by omega) hs p2.2 p1.2 ?_
                          rw [if_pos h1]
                          refine r_if_eq (fun c_78 => ?_) (fun c_78 => ?_)
                          · have c_78 := (n_eq (a := 1) (b := 0) rfl rfl (by omega) (by omega)).mp c_78
                            omega
                          · have c_78 := (not_congr (n_eq (a := 1) (b := 0) rfl rfl (by omega) (by omega))).mp c_78
                            refine r_aload rfl ?_
                            refine r_iload rfl ?_
                            refine r_iload rfl ?_
                            refine r_virtual (vs := []) (as := [_, _]) (by decide) (zl rfl) rfl rfl (zl rfl) (Nat.le_refl _) (Or.inr (Or.inr ⟨zt rfl, (shK u hu).1, (shK u hu).2.1⟩)) ?_
                            refine s_holds (by omega) hu q2.2 qb.2 ?_
                            rw [if_neg h2]
                            refine r_if_ne (fun c_90 => ?_) (fun c_90 => ?_)
                            · have c_90 := (not_congr (n_eq (a := 0) (b := 0) rfl rfl (by omega) (by omega))).mp c_90
                              omega
                            · have c_90 := (n_eq (a := 0) (b := 0) rfl rfl (by omega) (by omega)).mp c_90
                              refine r_nil ?_
                              refine E_go 6 rfl ?_
                              refine r_bipush ?_
                              refine r_iret rfl trivial ?_
                              refine M_go (ls := [_, _, _, _, _, _, _, _, _]) (ml := 9) rfl rfl rfl (zl rfl) rfl ?_
                              refine r_iload_n rfl ?_
                              refine r_static (vs := [_]) (by decide) (zl rfl) rfl rfl (zl rfl) (Nat.le_refl _) rfl ?_
                              refine s_misSheet (by omega) ?_
                              rw [if_pos (inN_io hs (by omega))]
                              refine r_if_eq (fun c_4 => ?_) (fun c_4 => ?_)
                              · have c_4 := (n_eq (a := 1) (b := 0) rfl rfl (by omega) (by omega)).mp c_4
                                omega
                              · have c_4 := (not_congr (n_eq (a := 1) (b := 0) rfl rfl (by omega) (by omega))).mp c_4
                                refine r_iload_n rfl ?_
                                refine r_static (vs := [_]) (by decide) (zl rfl) rfl rfl (zl rfl) (Nat.le_refl _) rfl ?_
                                refine s_misSheet (by omega) ?_
                                rw [if_pos (inN_io hu (by omega))]
                                refine r_if_ne (fun c_11 => ?_) (fun c_11 => ?_)
                                · have c_11 := (not_congr (n_eq (a := 1) (b := 0) rfl rfl (by omega) (by omega))).mp c_11
                                  refine E_go 2 rfl ?_
                                  refine r_aload_n rfl ?_
                                  refine r_getA (q := 78) (by decide) rfl rfl (by decide) ?_
                                  refine r_iload_n rfl ?_
                                  refine r_baload (by decide) rfl (by decide) (ixE rfl (show s < 4 by omega) (by decide)) p3.1 ?_
                                  refine r_if_eq (fun c_23 => ?_) (fun c_23 => ?_)
                                  · have c_23 := (n_eq (a := 1) (b := 0) rfl rfl (by omega) (by omega)).mp c_23
                                    omega
                                  · have c_23 := (not_congr (n_eq (a := 1) (b := 0) rfl rfl (by omega) (by omega))).mp c_23
                                    refine r_aload_n rfl ?_
                                    refine r_getA (q := 78) (by decide) rfl rfl (by decide) ?_
                                    refine r_iload_n rfl ?_
                                    refine r_baload (by decide) rfl (by decide) (ixE rfl (show u < 4 by omega) (by decide)) q3.1 ?_
                                    refine r_if_ne (fun c_32 => ?_) (fun c_32 => ?_)
                                    · have c_32 := (not_congr (n_eq (a := 1) (b := 0) rfl rfl (by omega) (by omega))).mp c_32
                                      refine E_go 4 rfl ?_
                                      refine r_aload_n rfl ?_
                                      refine r_getA (q := 79) (by decide) rfl rfl (by decide) ?_
                                      refine r_iload_n rfl ?_
                                      refine r_iaload (by decide) rfl (by decide) (ixE rfl (show s < 4 by omega) (by decide)) p3.2.1 ?_
                                      refine r_aload_n rfl ?_
                                      refine r_getA (q := 79) (by decide) rfl rfl (by decide) ?_
                                      refine r_iload_n rfl ?_
                                      refine r_iaload (by decide) rfl (by decide) (ixE rfl (show u < 4 by omega) (by decide)) q3.2.1 ?_
                                      refine r_icmp_eq (fun c_50 => ?_) (fun c_50 => ?_)
                                      · have c_50 := (n_eq (a := so) (b := so) rfl rfl (by omega) (by omega)).mp c_50
                                        refine E_go 5 rfl ?_
                                        refine r_iload rfl ?_
                                        refine r_if_lt (fun c_58 => ?_) (fun c_58 => ?_)
                                        · have c_58 := (jlt (b := 0) rfl (by omega)).mp c_58
                                          refine E_go 6 rfl ?_
                                          refine r_bipush ?_
                                          refine r_iret rfl trivial ?_
                                          exact hQ _ _ _ R.rel
                                        · have c_58 := (not_congr (jlt (b := 0) rfl (by omega))).mp c_58
                                          refine r_iload_n rfl ?_
                                          refine r_if_lt (fun c_62 => ?_) (fun c_62 => ?_)
                                          · have c_62 := (jlt (b := 0) rfl (by omega)).mp c_62
                                            refine E_go 6 rfl ?_
                                            refine r_bipush ?_
                                            refine r_iret rfl trivial ?_
                                            exact hQ _ _ _ R.rel
                                          · have c_62 := (not_congr (jlt (b := 0) rfl (by omega))).mp c_62
                                            refine r_iload rfl ?_
                                            refine r_if_lt (fun c_67 => ?_) (fun c_67 => ?_)
                                            · have c_67 := (jlt (b := 0) rfl (by omega)).mp c_67
                                              refine E_go 6 rfl ?_
                                              refine r_bipush ?_
                                              refine r_iret rfl trivial ?_
                                              exact hQ _ _ _ R.rel
                                            · have c_67 := (not_congr (jlt (b := 0) rfl (by omega))).mp c_67
                                              refine r_iload_n rfl ?_
                                              refine r_aload_n rfl ?_
                                              refine r_getA (q := 80) (by decide) rfl rfl (by decide) ?_
                                              refine r_iload_n rfl ?_
                                              refine r_iaload (by decide) rfl (by decide) (ixE rfl (show s < 4 by omega) (by decide)) p3.2.2 ?_
                                              refine r_iload rfl ?_
                                              refine r_isub ?_
                                              refine r_icmp_gt (fun c_80 => ?_) (fun c_80 => ?_)
                                              · refine E_go 6 rfl ?_
                                                refine r_bipush ?_
                                                refine r_iret rfl trivial ?_
                                                exact hQ _ _ _ R.rel
                                              · refine r_iload rfl ?_
                                                refine r_aload_n rfl ?_
                                                refine r_getA (q := 80) (by decide) rfl rfl (by decide) ?_
                                                refine r_iload_n rfl ?_
                                                refine r_iaload (by decide) rfl (by decide) (ixE rfl (show u < 4 by omega) (by decide)) q3.2.2 ?_
                                                refine r_iload rfl ?_
                                                refine r_isub ?_
                                                refine r_icmp_le (fun c_94 => ?_) (fun c_94 => ?_)
                                                · exact (hno ⟨⟨by omega, by omega, by rw [lt_int, ls_z p1.2 (by omega)] at c_80; omega⟩, ⟨by omega, by omega, by rw [le_int, ls_z qb.2 (by omega)] at c_94; omega⟩⟩).elim
                                                · refine r_nil ?_
                                                  refine E_go 6 rfl ?_
                                                  refine r_bipush ?_
                                                  refine r_iret rfl trivial ?_
                                                  exact hQ _ _ _ R.rel
                                      · have c_50 := (not_congr (n_eq (a := so) (b := so) rfl rfl (by omega) (by omega))).mp c_50
                                        omega
                                    · have c_32 := (n_eq (a := 1) (b := 0) rfl rfl (by omega) (by omega)).mp c_32
                                      omega
                                · have c_11 := (n_eq (a := 1) (b := 0) rfl rfl (by omega) (by omega)).mp c_11
                                  omega
                        · have c_64 := (not_congr (n_eq (a := so) (b := so) rfl rfl (by omega) (by omega))).mp c_64
                          omega
                      · exact absurd c_48 (io_m1 (by omega))
                  · have c_11 := (n_eq (a := 1) (b := 0) rfl rfl (by omega) (by omega)).mp c_11
                    omega
            · have hno : ¬ (okR zs y v ∧ okR zu w v) := fun q => h1 q.1
              refine M_go (ls := [_, _, _, _, _, _, _, _]) (ml := 8) rfl rfl rfl (zl rfl) rfl ?_
              refine r_iload_n rfl ?_
              refine r_static (vs := [_]) (by decide) (zl rfl) rfl rfl (zl rfl) (Nat.le_refl _) rfl ?_
              refine s_isSheet (by omega) ?_
              rw [if_pos (inN_io hs (by omega))]
              refine r_if_eq (fun c_4 => ?_) (fun c_4 => ?_)
              · have c_4 := (n_eq (a := 1) (b := 0) rfl rfl (by omega) (by omega)).mp c_4
                omega
              · have c_4 := (not_congr (n_eq (a := 1) (b := 0) rfl rfl (by omega) (by omega))).mp c_4
                refine r_iload_n rfl ?_
                refine r_static (vs := [_]) (by decide) (zl rfl) rfl rfl (zl rfl) (Nat.le_refl _) rfl ?_
                refine s_isSheet (by omega) ?_
                rw [if_pos (inN_io hu (by omega))]
                refine r_if_ne (fun c_11 => ?_) (fun c_11 => ?_)
                · have c_11 := (not_congr (n_eq (a := 1) (b := 0) rfl rfl (by omega) (by omega))).mp c_11
                  refine E_go 2 rfl ?_
                  refine r_aload_n rfl ?_
                  refine r_getA (q := 34) (by decide) rfl rfl (by decide) ?_
                  refine r_iload_n rfl ?_
                  refine r_aaload (by decide) (by decide) (ixE rfl (show s < 4 by omega) (by decide)) (shK s hs).2.2.1 ?_
                  refine r_astore (ls' := [_, _, _, _, _, _, _, _]) (zt rfl) rfl ?_
                  refine r_aload_n rfl ?_
                  refine r_getA (q := 34) (by decide) rfl rfl (by decide) ?_
                  refine r_iload_n rfl ?_
                  refine r_aaload (by decide) (by decide) (ixE rfl (show u < 4 by omega) (by decide)) (shK u hu).2.2.1 ?_
                  refine r_astore (ls' := [_, _, _, _, _, _, _, _]) (zt rfl) rfl ?_
                  refine r_aload rfl ?_
                  refine r_getI (by decide) rfl (shK s hs).1 (shK s hs).2.1 p2.1 ?_
                  refine r_iconst ?_
                  refine r_icmp_eq (fun c_39 => ?_) (fun c_39 => ?_)
                  · exact absurd c_39 (io_m1 (by omega))
                  · refine r_aload rfl ?_
                    refine r_getI (by decide) rfl (shK u hu).1 (shK u hu).2.1 q2.1 ?_
                    refine r_iconst ?_
                    refine r_icmp_ne (fun c_48 => ?_) (fun c_48 => ?_)
                    · refine E_go 4 rfl ?_
                      refine r_aload rfl ?_
                      refine r_getI (by decide) rfl (shK s hs).1 (shK s hs).2.1 p2.1 ?_
                      refine r_aload rfl ?_
                      refine r_getI (by decide) rfl (shK u hu).1 (shK u hu).2.1 q2.1 ?_
                      refine r_icmp_eq (fun c_64 => ?_) (fun c_64 => ?_)
                      · have c_64 := (n_eq (a := so) (b := so) rfl rfl (by omega) (by omega)).mp c_64
                        refine E_go 5 rfl ?_
                        refine r_aload rfl ?_
                        refine r_iload_n rfl ?_
                        refine r_iload rfl ?_
                        refine r_virtual (vs := []) (as := [_, _]) (by decide) (zl rfl) rfl rfl (zl rfl) (Nat.le_refl _) (Or.inr (Or.inr ⟨zt rfl, (shK s hs).1, (shK s hs).2.1⟩)) ?_
                        refine s_holds (by omega) hs p2.2 p1.2 ?_
                        rw [if_neg h1]
                        refine r_if_eq (fun c_78 => ?_) (fun c_78 => ?_)
                        · have c_78 := (n_eq (a := 0) (b := 0) rfl rfl (by omega) (by omega)).mp c_78
                          refine E_go 6 rfl ?_
                          refine r_bipush ?_
                          refine r_iret rfl trivial ?_
                          refine M_go (ls := [_, _, _, _, _, _, _, _, _]) (ml := 9) rfl rfl rfl (zl rfl) rfl ?_
                          refine r_iload_n rfl ?_
                          refine r_static (vs := [_]) (by decide) (zl rfl) rfl rfl (zl rfl) (Nat.le_refl _) rfl ?_
                          refine s_misSheet (by omega) ?_
                          rw [if_pos (inN_io hs (by omega))]
                          refine r_if_eq (fun c_4 => ?_) (fun c_4 => ?_)
                          · have c_4 := (n_eq (a := 1) (b := 0) rfl rfl (by omega) (by omega)).mp c_4
                            omega
                          · have c_4 := (not_congr (n_eq (a := 1) (b := 0) rfl rfl (by omega) (by omega))).mp c_4
                            refine r_iload_n rfl ?_
                            refine r_static (vs := [_]) (by decide) (zl rfl) rfl rfl (zl rfl) (Nat.le_refl _) rfl ?_
                            refine s_misSheet (by omega) ?_
                            rw [if_pos (inN_io hu (by omega))]
                            refine r_if_ne (fun c_11 => ?_) (fun c_11 => ?_)
                            · have c_11 := (not_congr (n_eq (a := 1) (b := 0) rfl rfl (by omega) (by omega))).mp c_11
                              refine E_go 2 rfl ?_
                              refine r_aload_n rfl ?_
                              refine r_getA (q := 78) (by decide) rfl rfl (by decide) ?_
                              refine r_iload_n rfl ?_
                              refine r_baload (by decide) rfl (by decide) (ixE rfl (show s < 4 by omega) (by decide)) p3.1 ?_
                              refine r_if_eq (fun c_23 => ?_) (fun c_23 => ?_)
                              · have c_23 := (n_eq (a := 1) (b := 0) rfl rfl (by omega) (by omega)).mp c_23
                                omega
                              · have c_23 := (not_congr (n_eq (a := 1) (b := 0) rfl rfl (by omega) (by omega))).mp c_23
                                refine r_aload_n rfl ?_
                                refine r_getA (q := 78) (by decide) rfl rfl (by decide) ?_
                                refine r_iload_n rfl ?_
                                refine r_baload (by decide) rfl (by decide) (ixE rfl (show u < 4 by omega) (by decide)) q3.1 ?_
                                refine r_if_ne (fun c_32 => ?_) (fun c_32 => ?_)
                                · have c_32 := (not_congr (n_eq (a := 1) (b := 0) rfl rfl (by omega) (by omega))).mp c_32
                                  refine E_go 4 rfl ?_
                                  refine r_aload_n rfl ?_
                                  refine r_getA (q := 79) (by decide) rfl rfl (by decide) ?_
                                  refine r_iload_n rfl ?_
                                  refine r_iaload (by decide) rfl (by decide) (ixE rfl (show s < 4 by omega) (by decide)) p3.2.1 ?_
                                  refine r_aload_n rfl ?_
                                  refine r_getA (q := 79) (by decide) rfl rfl (by decide) ?_
                                  refine r_iload_n rfl ?_
                                  refine r_iaload (by decide) rfl (by decide) (ixE rfl (show u < 4 by omega) (by decide)) q3.2.1 ?_
                                  refine r_icmp_eq (fun c_50 => ?_) (fun c_50 => ?_)
                                  · have c_50 := (n_eq (a := so) (b := so) rfl rfl (by omega) (by omega)).mp c_50
                                    refine E_go 5 rfl ?_
                                    refine r_iload rfl ?_
                                    refine r_if_lt (fun c_58 => ?_) (fun c_58 => ?_)
                                    · have c_58 := (jlt (b := 0) rfl (by omega)).mp c_58
                                      refine E_go 6 rfl ?_
                                      refine r_bipush ?_
                                      refine r_iret rfl trivial ?_
                                      exact hQ _ _ _ R.rel
                                    · have c_58 := (not_congr (jlt (b := 0) rfl (by omega))).mp c_58
                                      refine r_iload_n rfl ?_
                                      refine r_if_lt (fun c_62 => ?_) (fun c_62 => ?_)
                                      · have c_62 := (jlt (b := 0) rfl (by omega)).mp c_62
                                        refine E_go 6 rfl ?_
                                        refine r_bipush ?_
                                        refine r_iret rfl trivial ?_
                                        exact hQ _ _ _ R.rel
                                      · have c_62 := (not_congr (jlt (b := 0) rfl (by omega))).mp c_62
                                        refine r_iload rfl ?_
                                        refine r_if_lt (fun c_67 => ?_) (fun c_67 => ?_)
                                        · have c_67 := (jlt (b := 0) rfl (by omega)).mp c_67
                                          refine E_go 6 rfl ?_
                                          refine r_bipush ?_
                                          refine r_iret rfl trivial ?_
                                          exact hQ _ _ _ R.rel
                                        · have c_67 := (not_congr (jlt (b := 0) rfl (by omega))).mp c_67
                                          refine r_iload_n rfl ?_
                                          refine r_aload_n rfl ?_
                                          refine r_getA (q := 80) (by decide) rfl rfl (by decide) ?_
                                          refine r_iload_n rfl ?_
                                          refine r_iaload (by decide) rfl (by decide) (ixE rfl (show s < 4 by omega) (by decide)) p3.2.2 ?_
                                          refine r_iload rfl ?_
                                          refine r_isub ?_
                                          refine r_icmp_gt (fun c_80 => ?_) (fun c_80 => ?_)
                                          · refine E_go 6 rfl ?_
                                            refine r_bipush ?_
                                            refine r_iret rfl trivial ?_
                                            exact hQ _ _ _ R.rel
                                          · refine r_iload rfl ?_
                                            refine r_aload_n rfl ?_
                                            refine r_getA (q := 80) (by decide) rfl rfl (by decide) ?_
                                            refine r_iload_n rfl ?_
                                            refine r_iaload (by decide) rfl (by decide) (ixE rfl (show u < 4 by omega) (by decide)) q3.2.2 ?_
                                            refine r_iload rfl ?_
                                            refine r_isub ?_
                                            refine r_icmp_le (fun c_94 => ?_) (fun c_94 => ?_)
                                            · exact (hno ⟨⟨by omega, by omega, by rw [lt_int, ls_z p1.2 (by omega)] at c_80; omega⟩, ⟨by omega, by omega, by rw [le_int, ls_z qb.2 (by omega)] at c_94; omega⟩⟩).elim
                                            · refine r_nil ?_
                                              refine E_go 6 rfl ?_
                                              refine r_bipush ?_
                                              refine r_iret rfl trivial ?_
                                              exact hQ _ _ _ R.rel
                                  · have c_50 := (not_congr (n_eq (a := so) (b := so) rfl rfl (by omega) (by omega))).mp c_50
                                    omega
                                · have c_32 := (n_eq (a := 1) (b := 0) rfl rfl (by omega) (by omega)).mp c_32
                                  omega
                            · have c_11 := (n_eq (a := 1) (b := 0) rfl rfl (by omega) (by omega)).mp c_11
                              omega
                        · have c_78 := (not_congr (n_eq (a := 0) (b := 0) rfl rfl (by omega) (by omega))).mp c_78
                          omega
                      · have c_64 := (not_congr (n_eq (a := so) (b := so) rfl rfl (by omega) (by omega))).mp c_64
                        omega
                    · exact absurd c_48 (io_m1 (by omega))
                · have c_11 := (n_eq (a := 1) (b := 0) rfl rfl (by omega) (by omega)).mp c_11
                  omega
          · refine M_go (ls := [_, _, _, _, _, _, _, _]) (ml := 8) rfl rfl rfl (zl rfl) rfl ?_
            refine r_iload_n rfl ?_
            refine r_static (vs := [_]) (by decide) (zl rfl) rfl rfl (zl rfl) (Nat.le_refl _) rfl ?_
            refine s_isSheet (by omega) ?_
            rw [if_pos (inN_io hs (by omega))]
            refine r_if_eq (fun c_4 => ?_) (fun c_4 => ?_)
            · have c_4 := (n_eq (a := 1) (b := 0) rfl rfl (by omega) (by omega)).mp c_4
              omega
            · have c_4 := (not_congr (n_eq (a := 1) (b := 0) rfl rfl (by omega) (by omega))).mp c_4
              refine r_iload_n rfl ?_
              refine r_static (vs := [_]) (by decide) (zl rfl) rfl rfl (zl rfl) (Nat.le_refl _) rfl ?_
              refine s_isSheet (by omega) ?_
              rw [if_pos (inN_io hu (by omega))]
              refine r_if_ne (fun c_11 => ?_) (fun c_11 => ?_)
              · have c_11 := (not_congr (n_eq (a := 1) (b := 0) rfl rfl (by omega) (by omega))).mp c_11
                refine E_go 2 rfl ?_
                refine r_aload_n rfl ?_
                refine r_getA (q := 34) (by decide) rfl rfl (by decide) ?_
                refine r_iload_n rfl ?_
                refine r_aaload (by decide) (by decide) (ixE rfl (show s < 4 by omega) (by decide)) (shK s hs).2.2.1 ?_
                refine r_astore (ls' := [_, _, _, _, _, _, _, _]) (zt rfl) rfl ?_
                refine r_aload_n rfl ?_
                refine r_getA (q := 34) (by decide) rfl rfl (by decide) ?_
                refine r_iload_n rfl ?_
                refine r_aaload (by decide) (by decide) (ixE rfl (show u < 4 by omega) (by decide)) (shK u hu).2.2.1 ?_
                refine r_astore (ls' := [_, _, _, _, _, _, _, _]) (zt rfl) rfl ?_
                refine r_aload rfl ?_
                refine r_getI (by decide) rfl (shK s hs).1 (shK s hs).2.1 p2.1 ?_
                refine r_iconst ?_
                refine r_icmp_eq (fun c_39 => ?_) (fun c_39 => ?_)
                · exact absurd c_39 (io_m1 (by omega))
                · refine r_aload rfl ?_
                  refine r_getI (by decide) rfl (shK u hu).1 (shK u hu).2.1 q2.1 ?_
                  refine r_iconst ?_
                  refine r_icmp_ne (fun c_48 => ?_) (fun c_48 => ?_)
                  · refine E_go 4 rfl ?_
                    refine r_aload rfl ?_
                    refine r_getI (by decide) rfl (shK s hs).1 (shK s hs).2.1 p2.1 ?_
                    refine r_aload rfl ?_
                    refine r_getI (by decide) rfl (shK u hu).1 (shK u hu).2.1 q2.1 ?_
                    refine r_icmp_eq (fun c_64 => ?_) (fun c_64 => ?_)
                    · have c_64 := (n_eq (a := so) (b := sp) rfl rfl (by omega) (by omega)).mp c_64
                      exact (ne c_64).elim
                    · have c_64 := (not_congr (n_eq (a := so) (b := sp) rfl rfl (by omega) (by omega))).mp c_64
                      refine r_bipush ?_
                      refine r_iret rfl trivial ?_
                      refine M_go (ls := [_, _, _, _, _, _, _, _, _]) (ml := 9) rfl rfl rfl (zl rfl) rfl ?_
                      refine r_iload_n rfl ?_
                      refine r_static (vs := [_]) (by decide) (zl rfl) rfl rfl (zl rfl) (Nat.le_refl _) rfl ?_
                      refine s_misSheet (by omega) ?_
                      rw [if_pos (inN_io hs (by omega))]
                      refine r_if_eq (fun c_4 => ?_) (fun c_4 => ?_)
                      · have c_4 := (n_eq (a := 1) (b := 0) rfl rfl (by omega) (by omega)).mp c_4
                        omega
                      · have c_4 := (not_congr (n_eq (a := 1) (b := 0) rfl rfl (by omega) (by omega))).mp c_4
                        refine r_iload_n rfl ?_
                        refine r_static (vs := [_]) (by decide) (zl rfl) rfl rfl (zl rfl) (Nat.le_refl _) rfl ?_
                        refine s_misSheet (by omega) ?_
                        rw [if_pos (inN_io hu (by omega))]
                        refine r_if_ne (fun c_11 => ?_) (fun c_11 => ?_)
                        · have c_11 := (not_congr (n_eq (a := 1) (b := 0) rfl rfl (by omega) (by omega))).mp c_11
                          refine E_go 2 rfl ?_
                          refine r_aload_n rfl ?_
                          refine r_getA (q := 78) (by decide) rfl rfl (by decide) ?_
                          refine r_iload_n rfl ?_
                          refine r_baload (by decide) rfl (by decide) (ixE rfl (show s < 4 by omega) (by decide)) p3.1 ?_
                          refine r_if_eq (fun c_23 => ?_) (fun c_23 => ?_)
                          · have c_23 := (n_eq (a := 1) (b := 0) rfl rfl (by omega) (by omega)).mp c_23
                            omega
                          · have c_23 := (not_congr (n_eq (a := 1) (b := 0) rfl rfl (by omega) (by omega))).mp c_23
                            refine r_aload_n rfl ?_
                            refine r_getA (q := 78) (by decide) rfl rfl (by decide) ?_
                            refine r_iload_n rfl ?_
                            refine r_baload (by decide) rfl (by decide) (ixE rfl (show u < 4 by omega) (by decide)) q3.1 ?_
                            refine r_if_ne (fun c_32 => ?_) (fun c_32 => ?_)
                            · have c_32 := (not_congr (n_eq (a := 1) (b := 0) rfl rfl (by omega) (by omega))).mp c_32
                              refine E_go 4 rfl ?_
                              refine r_aload_n rfl ?_
                              refine r_getA (q := 79) (by decide) rfl rfl (by decide) ?_
                              refine r_iload_n rfl ?_
                              refine r_iaload (by decide) rfl (by decide) (ixE rfl (show s < 4 by omega) (by decide)) p3.2.1 ?_
                              refine r_aload_n rfl ?_
                              refine r_getA (q := 79) (by decide) rfl rfl (by decide) ?_
                              refine r_iload_n rfl ?_
                              refine r_iaload (by decide) rfl (by decide) (ixE rfl (show u < 4 by omega) (by decide)) q3.2.1 ?_
                              refine r_icmp_eq (fun c_50 => ?_) (fun c_50 => ?_)
                              · have c_50 := (n_eq (a := so) (b := sp) rfl rfl (by omega) (by omega)).mp c_50
                                exact (ne c_50).elim
                              · have c_50 := (not_congr (n_eq (a := so) (b := sp) rfl rfl (by omega) (by omega))).mp c_50
                                refine r_bipush ?_
                                refine r_iret rfl trivial ?_
                                exact hQ _ _ _ R.rel
                            · have c_32 := (n_eq (a := 1) (b := 0) rfl rfl (by omega) (by omega)).mp c_32
                              omega
                        · have c_11 := (n_eq (a := 1) (b := 0) rfl rfl (by omega) (by omega)).mp c_11
                          omega
                  · exact absurd c_48 (io_m1 (by omega))
              · have c_11 := (n_eq (a := 1) (b := 0) rfl rfl (by omega) (by omega)).mp c_11
                omega
    · refine M_go (ls := [_, _, _, _, _, _, _, _]) (ml := 8) rfl rfl rfl (zl rfl) rfl ?_
      refine r_iload_n rfl ?_
      refine r_static (vs := [_]) (by decide) (zl rfl) rfl rfl (zl rfl) (Nat.le_refl _) rfl ?_
      refine s_isSheet (by omega) ?_
      rw [if_pos hx]
      refine r_if_eq (fun c_4 => ?_) (fun c_4 => ?_)
      · have c_4 := (n_eq (a := 1) (b := 0) rfl rfl (by omega) (by omega)).mp c_4
        omega
      · have c_4 := (not_congr (n_eq (a := 1) (b := 0) rfl rfl (by omega) (by omega))).mp c_4
        refine r_iload_n rfl ?_
        refine r_static (vs := [_]) (by decide) (zl rfl) rfl rfl (zl rfl) (Nat.le_refl _) rfl ?_
        refine s_isSheet (by omega) ?_
        rw [if_neg hz]
        refine r_if_ne (fun c_11 => ?_) (fun c_11 => ?_)
        · have c_11 := (not_congr (n_eq (a := 0) (b := 0) rfl rfl (by omega) (by omega))).mp c_11
          omega
        · have c_11 := (n_eq (a := 0) (b := 0) rfl rfl (by omega) (by omega)).mp c_11
          refine r_nil ?_
          refine E_go 1 rfl ?_
          refine r_bipush ?_
          refine r_iret rfl trivial ?_
          refine M_go (ls := [_, _, _, _, _, _, _, _, _]) (ml := 9) rfl rfl rfl (zl rfl) rfl ?_
          refine r_iload_n rfl ?_
          refine r_static (vs := [_]) (by decide) (zl rfl) rfl rfl (zl rfl) (Nat.le_refl _) rfl ?_
          refine s_misSheet (by omega) ?_
          rw [if_pos hx]
          refine r_if_eq (fun c_4 => ?_) (fun c_4 => ?_)
          · have c_4 := (n_eq (a := 1) (b := 0) rfl rfl (by omega) (by omega)).mp c_4
            omega
          · have c_4 := (not_congr (n_eq (a := 1) (b := 0) rfl rfl (by omega) (by omega))).mp c_4
            refine r_iload_n rfl ?_
            refine r_static (vs := [_]) (by decide) (zl rfl) rfl rfl (zl rfl) (Nat.le_refl _) rfl ?_
            refine s_misSheet (by omega) ?_
            rw [if_neg hz]
            refine r_if_ne (fun c_11 => ?_) (fun c_11 => ?_)
            · have c_11 := (not_congr (n_eq (a := 0) (b := 0) rfl rfl (by omega) (by omega))).mp c_11
              omega
            · have c_11 := (n_eq (a := 0) (b := 0) rfl rfl (by omega) (by omega)).mp c_11
              refine r_nil ?_
              refine E_go 1 rfl ?_
              refine r_bipush ?_
              refine r_iret rfl trivial ?_
              exact hQ _ _ _ R.rel
  · refine M_go (ls := [_, _, _, _, _, _, _, _]) (ml := 8) rfl rfl rfl (zl rfl) rfl ?_
    refine r_iload_n rfl ?_
    refine r_static (vs := [_]) (by decide) (zl rfl) rfl rfl (zl rfl) (Nat.le_refl _) rfl ?_
    refine s_isSheet (by omega) ?_
    rw [if_neg hx]
    refine r_if_eq (fun c_4 => ?_) (fun c_4 => ?_)
    · have c_4 := (n_eq (a := 0) (b := 0) rfl rfl (by omega) (by omega)).mp c_4
      refine E_go 1 rfl ?_
      refine r_bipush ?_
      refine r_iret rfl trivial ?_
      refine M_go (ls := [_, _, _, _, _, _, _, _, _]) (ml := 9) rfl rfl rfl (zl rfl) rfl ?_
      refine r_iload_n rfl ?_
      refine r_static (vs := [_]) (by decide) (zl rfl) rfl rfl (zl rfl) (Nat.le_refl _) rfl ?_
      refine s_misSheet (by omega) ?_
      rw [if_neg hx]
      refine r_if_eq (fun c_4 => ?_) (fun c_4 => ?_)
      · have c_4 := (n_eq (a := 0) (b := 0) rfl rfl (by omega) (by omega)).mp c_4
        refine E_go 1 rfl ?_
        refine r_bipush ?_
        refine r_iret rfl trivial ?_
        exact hQ _ _ _ R.rel
      · have c_4 := (not_congr (n_eq (a := 0) (b := 0) rfl rfl (by omega) (by omega))).mp c_4
        omega
    · have c_4 := (not_congr (n_eq (a := 0) (b := 0) rfl rfl (by omega) (by omega))).mp c_4
      omega
