/-! calls: aunts -/

abbrev Mem : Type := Nat → Nat → Int32
theorem up2_cg {J K : Mem} {p q k : Nat} {v : Int32} (h : J p = K p) : up2 J q k v p = up2 K q k v p := by
  by_cases c : p = q
  · subst c; rw [up2_p, up2_p, h]
  · rw [up2_q c, up2_q c, h]
/-- aunts are seated from a row, one after another: how many there are, how many came, all places -/
def auS (g : Nat → Int32) (c : Nat) (t : (Nat × Nat) × Mem) : (Nat × Nat) × Mem := if okG (g (3 * c)) (g (3 * c + 1)) (g (3 * c + 2)) ∧ t.1.1 < 5 then ((t.1.1 + 1, t.1.2 + 1), sM t.1.1 (g (3 * c)) (g (3 * c + 1)) (g (3 * c + 2)) (sC t.1.1 (g (3 * c)) (g (3 * c + 1)) (g (3 * c + 2)) t.2)) else t
def au (g : Nat → Int32) (n : Nat) (I : Mem) : Nat → (Nat × Nat) × Mem
  | 0 => ((n, 0), I)
  | c + 1 => auS g c (au g n I c)
section
variable {g : Nat → Int32} {n : Nat} {I : Mem}
theorem au_y {c : Nat} (h : okG (g (3 * c)) (g (3 * c + 1)) (g (3 * c + 2))) (h2 : (au g n I c).1.1 < 5) : au g n I (c + 1) = (((au g n I c).1.1 + 1, (au g n I c).1.2 + 1), sM (au g n I c).1.1 (g (3 * c)) (g (3 * c + 1)) (g (3 * c + 2)) (sC (au g n I c).1.1 (g (3 * c)) (g (3 * c + 1)) (g (3 * c + 2)) (au g n I c).2)) := if_pos ⟨h, h2⟩
theorem au_n {c : Nat} (h : ¬ (okG (g (3 * c)) (g (3 * c + 1)) (g (3 * c + 2)) ∧ (au g n I c).1.1 < 5)) : au g n I (c + 1) = au g n I c := if_neg h
theorem au_cs (c : Nat) : (okG (g (3 * c)) (g (3 * c + 1)) (g (3 * c + 2)) ∧ (au g n I c).1.1 < 5) ∨ ¬ (okG (g (3 * c)) (g (3 * c + 1)) (g (3 * c + 2)) ∧ (au g n I c).1.1 < 5) := Decidable.em _
theorem au_R {tc r tp : Nat} (R : RX n tc r tp I) : ∀ c, RX (au g n I c).1.1 tc r tp (au g n I c).2
  | 0 => R
  | c + 1 => by
    rcases au_cs (g := g) (n := n) (I := I) c with h | h
    · rw [au_y h.1 h.2]; exact (au_R R c).seat h.2 h.1
    · rw [au_n h]; exact au_R R c
theorem sM_f {k u v : Int32} {a p : Nat} (h : ¬ (p = 61 ∨ (65 ≤ p ∧ p ≤ 67))) : sM a k u v I p = I p := by
  unfold sM
  rw [up2_q (by omega), up2_q (by omega), up2_q (by omega), up2_q (by omega), up2_q (by omega), up2_q (by omega)]
theorem sC_f {k u v : Int32} {a p : Nat} (h : ¬ (1 ≤ p ∧ p ≤ 6)) : sC a k u v I p = I p := by
  unfold sC
  rw [up2_q (by omega), up2_q (by omega), up2_q (by omega), up2_q (by omega), up2_q (by omega), up2_q (by omega)]
theorem sM_cg {k u v : Int32} {a p : Nat} {J K : Mem} (h : J p = K p) : sM a k u v J p = sM a k u v K p := up2_cg (up2_cg (up2_cg (up2_cg (up2_cg (up2_cg h)))))
theorem sC_cg {k u v : Int32} {a p : Nat} {J K : Mem} (h : J p = K p) : sC a k u v J p = sC a k u v K p := up2_cg (up2_cg (up2_cg (up2_cg (up2_cg (up2_cg h)))))
theorem au_c : ∀ c, (au g n I c).1.2 ≤ c
  | 0 => Nat.le_refl _
  | c + 1 => by
    have q := au_c c
    rcases au_cs (g := g) (n := n) (I := I) c with h | h
    · rw [au_y h.1 h.2]; exact Nat.succ_le_succ q
    · rw [au_n h]; omega
theorem au_f : ∀ c p, ¬ ((1 ≤ p ∧ p ≤ 6) ∨ p = 61 ∨ (65 ≤ p ∧ p ≤ 67)) → (au g n I c).2 p = I p
  | 0, _, _ => rfl
  | c + 1, p, hp => by
    have q := au_f c p hp
    rcases au_cs (g := g) (n := n) (I := I) c with h | h
    · rw [au_y h.1 h.2]
      show sM _ _ _ _ (sC _ _ _ _ _) p = _
      rw [sM_f (by omega), sC_f (by omega)]; exact q
    · rw [au_n h]; exact q
/-- the class after c; the model after c -/
def auC (g : Nat → Int32) (n : Nat) (I : Mem) (c : Nat) (C : Mem) : Prop := (∀ p, ¬ (1 ≤ p ∧ p ≤ 6) → C p = I p) ∧ ∀ p, (1 ≤ p ∧ p ≤ 6) → C p = (au g n I c).2 p
def auM (g : Nat → Int32) (n : Nat) (I : Mem) (c : Nat) (C M : Mem) : Prop := (∀ p, ¬ (p = 61 ∨ (65 ≤ p ∧ p ≤ 67)) → M p = C p) ∧ ∀ p, (p = 61 ∨ (65 ≤ p ∧ p ≤ 67)) → M p = (au g n I c).2 p
theorem auC.z : auC g n I 0 I := ⟨fun _ _ => rfl, fun _ _ => rfl⟩
theorem auC.nn {c : Nat} {C : Mem} (k : auC g n I c C) (h : ¬ (okG (g (3 * c)) (g (3 * c + 1)) (g (3 * c + 2)) ∧ (au g n I c).1.1 < 5)) : auC g n I (c + 1) C := by
  unfold auC
  rw [au_n h]
  exact k
theorem auC.y {c : Nat} {C : Mem} (k : auC g n I c C) (h : okG (g (3 * c)) (g (3 * c + 1)) (g (3 * c + 2))) (h2 : (au g n I c).1.1 < 5) : auC g n I (c + 1) (sC (au g n I c).1.1 (g (3 * c)) (g (3 * c + 1)) (g (3 * c + 2)) C) := by
  unfold auC
  rw [au_y h h2]
  refine ⟨fun p hp => ?_, fun p hp => ?_⟩
  · rw [sC_f hp]; exact k.1 p hp
  · show _ = sM _ _ _ _ (sC _ _ _ _ _) p
    rw [sM_f (by omega)]; exact sC_cg (k.2 p hp)
theorem auM.z {C : Mem} (h : auC g n I 0 C ∨ ∀ p, ¬ (1 ≤ p ∧ p ≤ 6) → C p = I p) : auM g n I 0 C C := ⟨fun _ _ => rfl, fun p hp => by
  rcases h with h | h
  · exact h.1 p (by omega)
  · exact h p (by omega)⟩
theorem auM.nn {c : Nat} {C M : Mem} (k : auM g n I c C M) (h : ¬ (okG (g (3 * c)) (g (3 * c + 1)) (g (3 * c + 2)) ∧ (au g n I c).1.1 < 5)) : auM g n I (c + 1) C M := by
  unfold auM
  rw [au_n h]
  exact k
theorem auM.y {c : Nat} {C M : Mem} (k : auM g n I c C M) (h : okG (g (3 * c)) (g (3 * c + 1)) (g (3 * c + 2))) (h2 : (au g n I c).1.1 < 5) : auM g n I (c + 1) C (sM (au g n I c).1.1 (g (3 * c)) (g (3 * c + 1)) (g (3 * c + 2)) M) := by
  unfold auM
  rw [au_y h h2]
  refine ⟨fun p hp => ?_, fun p hp => ?_⟩
  · rw [sM_f hp]; exact k.1 p hp
  · show _ = sM _ _ _ _ (sC _ _ _ _ _) p
    exact sM_cg (by rw [sC_f (by omega)]; exact k.2 p hp)
theorem auM.eq {c : Nat} {C M : Mem} (k : auC g n I c C) (l : auM g n I c C M) : M = (au g n I c).2 := by
  funext p
  by_cases h : p = 61 ∨ (65 ≤ p ∧ p ≤ 67)
  · exact l.2 p h
  · rw [l.1 p h]
    by_cases h2 : 1 ≤ p ∧ p ≤ 6
    · exact k.2 p h2
    · rw [k.1 p h2, au_f c p (by omega)]
end
theorem rs_z {z c : Nat} (hz : z ≤ 40) (hc : c ≤ 5) : (io z - 3 * io c - 3).toInt = (z : Int) - 3 * c - 3 := by
  have e : (3 : Int32) * io c = io (3 * c) := n_mul (a := 3) (b := c) rfl rfl
  have e3 : (3 : Int32).toInt = 3 := by decide
  have e2 : (io z - io (3 * c)).toInt = (z : Int) - (3 * c : Nat) := by
    rw [sub_int (by rw [io_int (by omega), io_int (by omega)]; omega) (by rw [io_int (by omega), io_int (by omega)]; omega), io_int (by omega), io_int (by omega)]
  rw [e, sub_int (by rw [e2, e3]; omega) (by rw [e2, e3]; omega), e2, e3]
  omega
theorem okR3 {z i c : Nat} (h : i + 3 * c < 2147483648) : okR z (io (i + 3 * c)) 3 ↔ i + 3 * c + 3 ≤ z := by
  have e3 : (3 : Int32).toInt = 3 := by decide
  unfold okR
  rw [io_int h, e3]
  constructor
  · intro q; omega
  · intro q; exact ⟨by omega, by omega, by omega⟩
theorem add30 {y : Int32} : y + 3 * 0 = y := by
  rw [show (3 : Int32) * 0 = 0 from rfl, Int32.add_zero]

set_option maxRecDepth 10000 in
theorem tz_aunts {xs : xSc} {m : Nat} {I : Nat → Nat → Int32} {L : Nat → Nat → Int64} {Q : Value → Value → xHp → Prop} (hm : 90 ≤ m) (hR : Rel I) {x y z w : Int32} (hQ : ∀ (x : Int32) J L2, Rel J → Q (.int x) (.int x) (Hp J L2)) : M xs m xi_X6_aunts [.ref 0, .int x, .int y, .int z, .int w] (Hp I L) (fun r1 h1 => M xs m xi_X7_aunts [.ref 61, .int x, .int y, .int z, .int w] h1 (fun r2 h2 => Q r1 r2 h2)) := by
  obtain ⟨m, rfl⟩ : ∃ k, m = k + 6 := ⟨m - 6, by omega⟩
  obtain ⟨n, tc, r, tp, R⟩ := hR
  have h5 := R.n5
  have hr6 := R.r6
  have ht6 := R.t6
  have hrt := R.rt
  have hp160 := R.2.2.1.1.1
  by_cases hx : inN 4 x
  · by_cases hy : inN 3 y
    · by_cases hw : inN 6 w
      · obtain ⟨s, hs, rfl⟩ := inN_ex hx (by omega)
        obtain ⟨sp, hsp, rfl⟩ := inN_ex hy (by omega)
        obtain ⟨k, hk, rfl⟩ := inN_ex hw (by omega)
        rcases R.2.2.2.2 s hs with ⟨p1, p2⟩ | ⟨so, zs, p1, p2, p3, p4⟩
        · refine M_go (ls := [_, _, _, _, _, _, _, _, _]) (ml := 9) rfl rfl rfl (zl rfl) rfl ?_
          refine r_iload_n rfl ?_
          refine r_static (vs := [_]) (by decide) (zl rfl) rfl rfl (zl rfl) (Nat.le_refl _) rfl ?_
          refine s_isSheet (by omega) ?_
          rw [if_pos (inN_io hs (by omega))]
          refine r_if_eq (fun c_4 => ?_) (fun c_4 => ?_)
          · have c_4 := (n_eq (a := 1) (b := 0) rfl rfl (by omega) (by omega)).mp c_4
            omega
          · have c_4 := (not_congr (n_eq (a := 1) (b := 0) rfl rfl (by omega) (by omega))).mp c_4
            refine r_iload_n rfl ?_
            refine r_static (vs := [_]) (by decide) (zl rfl) rfl rfl (zl rfl) (Nat.le_refl _) rfl ?_
            refine s_isSort (by omega) ?_
            rw [if_pos (inN_io hsp (by omega))]
            refine r_if_eq (fun c_11 => ?_) (fun c_11 => ?_)
            · have c_11 := (n_eq (a := 1) (b := 0) rfl rfl (by omega) (by omega)).mp c_11
              omega
            · have c_11 := (not_congr (n_eq (a := 1) (b := 0) rfl rfl (by omega) (by omega))).mp c_11
              refine r_iload rfl ?_
              refine r_if_lt (fun c_16 => ?_) (fun c_16 => ?_)
              · have c_16 := (n_lt (a := k) (b := 0) rfl rfl (by omega) (by omega)).mp c_16
                omega
              · have c_16 := (not_congr (n_lt (a := k) (b := 0) rfl rfl (by omega) (by omega))).mp c_16
                refine r_iload rfl ?_
                refine r_iconst ?_
                refine r_icmp_le (fun c_22 => ?_) (fun c_22 => ?_)
                · have c_22 := (n_le (a := k) (b := 5) rfl rfl (by omega) (by omega)).mp c_22
                  refine E_go 2 rfl ?_
                  refine r_aload_n rfl ?_
                  refine r_getA (q := 34) (by decide) rfl rfl (by decide) ?_
                  refine r_iload_n rfl ?_
                  refine r_aaload (by decide) (by decide) (ixE rfl (show s < 4 by omega) (by decide)) (shK s hs).2.2.1 ?_
                  refine r_astore (ls' := [_, _, _, _, _, _, _, _, _]) (zt rfl) rfl ?_
                  refine r_aload rfl ?_
                  refine r_getI (by decide) rfl (shK s hs).1 (shK s hs).2.1 p1 ?_
                  refine r_iconst ?_
                  refine r_icmp_eq (fun c_42 => ?_) (fun c_42 => ?_)
                  · refine E_go 3 rfl ?_
                    refine r_aload rfl ?_
                    refine r_getI (by decide) rfl (shK s hs).1 (shK s hs).2.1 p1 ?_
                    refine r_iconst ?_
                    refine r_icmp_ne (fun c_63 => ?_) (fun c_63 => ?_)
                    · exact absurd rfl c_63
                    · refine r_bipush ?_
                      refine r_iret rfl trivial ?_
                      refine M_go (ls := [_, _, _, _, _, _, _, _]) (ml := 8) rfl rfl rfl (zl rfl) rfl ?_
                      refine r_iload_n rfl ?_
                      refine r_static (vs := [_]) (by decide) (zl rfl) rfl rfl (zl rfl) (Nat.le_refl _) rfl ?_
                      refine s_misSheet (by omega) ?_
                      rw [if_pos (inN_io hs (by omega))]
                      refine r_if_eq (fun c_4 => ?_) (fun c_4 => ?_)
                      · have c_4 := (n_eq (a := 1) (b := 0) rfl rfl (by omega) (by omega)).mp c_4
                        omega
                      · have c_4 := (not_congr (n_eq (a := 1) (b := 0) rfl rfl (by omega) (by omega))).mp c_4
                        refine r_iload_n rfl ?_
                        refine r_i2l ?_
                        refine r_lconst ?_
                        refine r_ldc2_w ?_
                        refine r_static (vs := [_, _, _]) (by decide) (zl rfl) rfl rfl (zl rfl) (Nat.le_refl _) rfl ?_
                        refine s_in0 (by omega) (x := (io sp)) (k := 3) (Int32.toInt_toInt64 _) i64_0 rfl ?_
                        rw [if_pos (inN_io hsp (by omega))]
                        refine r_if_eq (fun c_16 => ?_) (fun c_16 => ?_)
                        · have c_16 := (n_eq (a := 1) (b := 0) rfl rfl (by omega) (by omega)).mp c_16
                          omega
                        · have c_16 := (not_congr (n_eq (a := 1) (b := 0) rfl rfl (by omega) (by omega))).mp c_16
                          refine r_iload rfl ?_
                          refine r_i2l ?_
                          refine r_lconst ?_
                          refine r_ldc2_w ?_
                          refine r_static (vs := [_, _, _]) (by decide) (zl rfl) rfl rfl (zl rfl) (Nat.le_refl _) rfl ?_
                          refine s_in0 (by omega) (x := (io k)) (k := 6) (Int32.toInt_toInt64 _) i64_0 rfl ?_
                          rw [if_pos (inN_io hk (by omega))]
                          refine r_if_ne (fun c_29 => ?_) (fun c_29 => ?_)
                          · have c_29 := (not_congr (n_eq (a := 1) (b := 0) rfl rfl (by omega) (by omega))).mp c_29
                            refine E_go 2 rfl ?_
                            refine r_aload_n rfl ?_
                            refine r_getA (q := 78) (by decide) rfl rfl (by decide) ?_
                            refine r_iload_n rfl ?_
                            refine r_baload (by decide) rfl (by decide) (ixE rfl (show s < 4 by omega) (by decide)) p2 ?_
                            refine r_if_eq (fun c_41 => ?_) (fun c_41 => ?_)
                            · have c_41 := (n_eq (a := 0) (b := 0) rfl rfl (by omega) (by omega)).mp c_41
                              refine E_go 3 rfl ?_
                              refine r_aload_n rfl ?_
                              refine r_getA (q := 78) (by decide) rfl rfl (by decide) ?_
                              refine r_iload_n rfl ?_
                              refine r_baload (by decide) rfl (by decide) (ixE rfl (show s < 4 by omega) (by decide)) p2 ?_
                              refine r_if_ne (fun c_63 => ?_) (fun c_63 => ?_)
                              · have c_63 := (not_congr (n_eq (a := 0) (b := 0) rfl rfl (by omega) (by omega))).mp c_63
                                omega
                              · have c_63 := (n_eq (a := 0) (b := 0) rfl rfl (by omega) (by omega)).mp c_63
                                refine r_bipush ?_
                                refine r_iret rfl trivial ?_
                                exact hQ _ _ _ R.rel
                            · have c_41 := (not_congr (n_eq (a := 0) (b := 0) rfl rfl (by omega) (by omega))).mp c_41
                              omega
                          · have c_29 := (n_eq (a := 1) (b := 0) rfl rfl (by omega) (by omega)).mp c_29
                            omega
                  · exact absurd rfl c_42
                · have c_22 := (not_congr (n_le (a := k) (b := 5) rfl rfl (by omega) (by omega))).mp c_22
                  omega
        · have hso := p1.1
          have hzs := p1.2
          by_cases ne : so = sp
          · subst ne
            by_cases hz : inN 41 z
            · obtain ⟨i, hi, rfl⟩ := inN_ex hz (by omega)
              refine M_go (ls := [_, _, _, _, _, _, _, _, _]) (ml := 9) rfl rfl rfl (zl rfl) rfl ?_
              refine r_iload_n rfl ?_
              refine r_static (vs := [_]) (by decide) (zl rfl) rfl rfl (zl rfl) (Nat.le_refl _) rfl ?_
              refine s_isSheet (by omega) ?_
              rw [if_pos (inN_io hs (by omega))]
              refine r_if_eq (fun c_4 => ?_) (fun c_4 => ?_)
              · have c_4 := (n_eq (a := 1) (b := 0) rfl rfl (by omega) (by omega)).mp c_4
                omega
              · have c_4 := (not_congr (n_eq (a := 1) (b := 0) rfl rfl (by omega) (by omega))).mp c_4
                refine r_iload_n rfl ?_
                refine r_static (vs := [_]) (by decide) (zl rfl) rfl rfl (zl rfl) (Nat.le_refl _) rfl ?_
                refine s_isSort (by omega) ?_
                rw [if_pos (inN_io hsp (by omega))]
                refine r_if_eq (fun c_11 => ?_) (fun c_11 => ?_)
                · have c_11 := (n_eq (a := 1) (b := 0) rfl rfl (by omega) (by omega)).mp c_11
                  omega
                · have c_11 := (not_congr (n_eq (a := 1) (b := 0) rfl rfl (by omega) (by omega))).mp c_11
                  refine r_iload rfl ?_
                  refine r_if_lt (fun c_16 => ?_) (fun c_16 => ?_)
                  · have c_16 := (n_lt (a := k) (b := 0) rfl rfl (by omega) (by omega)).mp c_16
                    omega
                  · have c_16 := (not_congr (n_lt (a := k) (b := 0) rfl rfl (by omega) (by omega))).mp c_16
                    refine r_iload rfl ?_
                    refine r_iconst ?_
                    refine r_icmp_le (fun c_22 => ?_) (fun c_22 => ?_)
                    · have c_22 := (n_le (a := k) (b := 5) rfl rfl (by omega) (by omega)).mp c_22
                      refine E_go 2 rfl ?_
                      refine r_aload_n rfl ?_
                      refine r_getA (q := 34) (by decide) rfl rfl (by decide) ?_
                      refine r_iload_n rfl ?_
                      refine r_aaload (by decide) (by decide) (ixE rfl (show s < 4 by omega) (by decide)) (shK s hs).2.2.1 ?_
                      refine r_astore (ls' := [_, _, _, _, _, _, _, _, _]) (zt rfl) rfl ?_
                      refine r_aload rfl ?_
                      refine r_getI (by decide) rfl (shK s hs).1 (shK s hs).2.1 p2.1 ?_
                      refine r_iconst ?_
                      refine r_icmp_eq (fun c_42 => ?_) (fun c_42 => ?_)
                      · exact absurd c_42 (io_m1 (by omega))
                      · refine r_aload rfl ?_
                        refine r_getI (by decide) rfl (shK s hs).1 (shK s hs).2.1 p2.1 ?_
                        refine r_iload_n rfl ?_
                        refine r_icmp_eq (fun c_51 => ?_) (fun c_51 => ?_)
                        · have c_51 := (n_eq (a := so) (b := so) rfl rfl (by omega) (by omega)).mp c_51
                          refine E_go 3 rfl ?_
                          refine r_aload rfl ?_
                          refine r_getI (by decide) rfl (shK s hs).1 (shK s hs).2.1 p2.1 ?_
                          refine r_iconst ?_
                          refine r_icmp_ne (fun c_63 => ?_) (fun c_63 => ?_)
                          · refine E_go 4 rfl ?_
                            refine r_iconst ?_
                            refine r_istore (ls' := [_, _, _, _, _, _, _, _, _]) (zt rfl) rfl ?_
                            refine r_iconst ?_
                            refine r_istore (ls' := [_, _, _, _, _, _, _, _, _]) (zt rfl) rfl ?_
                            refine r_nil ?_
                            have hcell : ∀ j, i + j < zs → ∀ b, b = 40 * s + i + j → I 81 b = (fun j => I (54 + 2 * s) (i + j)) j := fun j hj b hb => by rw [hb, Nat.add_assoc]; exact p4 (i + j) hj
                            have fin : ∀ e (C : Mem) (v : Int32), auC (fun j => I (54 + 2 * s) (i + j)) n I e C → e ≤ k → (i + 3 * e ≤ zs ∨ e = 0) → ((e = k ∧ v = io (au (fun j => I (54 + 2 * s) (i + j)) n I e).1.2) ∨ (e < k ∧ ¬ i + 3 * e + 3 ≤ zs ∧ v = -12)) → M xs (m + 6) xi_X7_aunts [.ref 61, .int (io s), .int (io so), .int (io i), .int (io k)] (Hp C L) (fun r2 h2 => Q (.int v) r2 h2) := by
                              intro e C v hC hek hlim hx2
                              refine M_go (ls := [_, _, _, _, _, _, _, _]) (ml := 8) rfl rfl rfl (zl rfl) rfl ?_
                              refine r_iload_n rfl ?_
                              refine r_static (vs := [_]) (by decide) (zl rfl) rfl rfl (zl rfl) (Nat.le_refl _) rfl ?_
                              refine s_misSheet (by omega) ?_
                              rw [if_pos (inN_io hs (by omega))]
                              refine r_if_eq (fun c_4 => ?_) (fun c_4 => ?_)
                              · have c_4 := (n_eq (a := 1) (b := 0) rfl rfl (by omega) (by omega)).mp c_4
                                omega
                              · have c_4 := (not_congr (n_eq (a := 1) (b := 0) rfl rfl (by omega) (by omega))).mp c_4
                                refine r_iload_n rfl ?_
                                refine r_i2l ?_
                                refine r_lconst ?_
                                refine r_ldc2_w ?_
                                refine r_static (vs := [_, _, _]) (by decide) (zl rfl) rfl rfl (zl rfl) (Nat.le_refl _) rfl ?_
                                refine s_in0 (by omega) (x := (io so)) (k := 3) (Int32.toInt_toInt64 _) i64_0 rfl ?_
                                rw [if_pos (inN_io hsp (by omega))]
                                refine r_if_eq (fun c_16 => ?_) (fun c_16 => ?_)
                                · have c_16 := (n_eq (a := 1) (b := 0) rfl rfl (by omega) (by omega)).mp c_16
                                  omega
                                · have c_16 := (not_congr (n_eq (a := 1) (b := 0) rfl rfl (by omega) (by omega))).mp c_16
                                  refine r_iload rfl ?_
                                  refine r_i2l ?_
                                  refine r_lconst ?_
                                  refine r_ldc2_w ?_
                                  refine r_static (vs := [_, _, _]) (by decide) (zl rfl) rfl rfl (zl rfl) (Nat.le_refl _) rfl ?_
                                  refine s_in0 (by omega) (x := (io k)) (k := 6) (Int32.toInt_toInt64 _) i64_0 rfl ?_
                                  rw [if_pos (inN_io hk (by omega))]
                                  refine r_if_ne (fun c_29 => ?_) (fun c_29 => ?_)
                                  · have c_29 := (not_congr (n_eq (a := 1) (b := 0) rfl rfl (by omega) (by omega))).mp c_29
                                    refine E_go 2 rfl ?_
                                    refine r_aload_n rfl ?_
                                    refine r_getA (q := 78) (by decide) rfl rfl (by decide) ?_
                                    refine r_iload_n rfl ?_
                                    refine r_baload (by decide) rfl (by decide) (ixE rfl (show s < 4 by omega) (by decide)) ((congrFun (hC.1 78 (by omega)) s).trans p3.1) ?_
                                    refine r_if_eq (fun c_41 => ?_) (fun c_41 => ?_)
                                    · have c_41 := (n_eq (a := 1) (b := 0) rfl rfl (by omega) (by omega)).mp c_41
                                      omega
                                    · have c_41 := (not_congr (n_eq (a := 1) (b := 0) rfl rfl (by omega) (by omega))).mp c_41
                                      refine r_aload_n rfl ?_
                                      refine r_getA (q := 79) (by decide) rfl rfl (by decide) ?_
                                      refine r_iload_n rfl ?_
                                      refine r_iaload (by decide) rfl (by decide) (ixE rfl (show s < 4 by omega) (by decide)) ((congrFun (hC.1 79 (by omega)) s).trans p3.2.1) ?_
                                      refine r_iload_n rfl ?_
                                      refine r_icmp_eq (fun c_51 => ?_) (fun c_51 => ?_)
                                      · have c_51 := (n_eq (a := so) (b := so) rfl rfl (by omega) (by omega)).mp c_51
                                        refine E_go 3 rfl ?_
                                        refine r_aload_n rfl ?_
                                        refine r_getA (q := 78) (by decide) rfl rfl (by decide) ?_
                                        refine r_iload_n rfl ?_
                                        refine r_baload (by decide) rfl (by decide) (ixE rfl (show s < 4 by omega) (by decide)) ((congrFun (hC.1 78 (by omega)) s).trans p3.1) ?_
                                        refine r_if_ne (fun c_63 => ?_) (fun c_63 => ?_)
                                        · have c_63 := (not_congr (n_eq (a := 1) (b := 0) rfl rfl (by omega) (by omega))).mp c_63
                                          refine E_go 4 rfl ?_
                                          refine r_iconst ?_
                                          refine r_istore (ls' := [_, _, _, _, _, _, _, _]) (zt rfl) rfl ?_
                                          refine r_iconst ?_
                                          refine r_istore (ls' := [_, _, _, _, _, _, _, _]) (zt rfl) rfl ?_
                                          refine r_nil ?_
                                          have fin2 : ∀ M L2, auM (fun j => I (54 + 2 * s) (i + j)) n I e C M → Q (.int v) (.int v) (Hp M L2) := by
                                            intro M L2 hM
                                            rw [auM.eq hC hM]
                                            exact hQ _ _ _ (au_R R e).rel
                                          have key : ∀ d c, c + d = e → c ≤ k → ∀ M : Mem, auM (fun j => I (54 + 2 * s) (i + j)) n I c C M → ∀ q, q = (au (fun j => I (54 + 2 * s) (i + j)) n I c).1.2 → ∀ x7, E xs (m + 5) xi_X7_aunts 82 (fun r2 h2 => Q (.int v) r2 h2) 75 [.ref 61, .int (io s), .int (io so), .int (io i), .int (io k), .int (io q), .int (io c), x7] [] (82, M, L, xF0) := by
                                            intro d
                                            induction d using Nat.strongRecOn with
                                            | _ d ih =>
                                            intro c hd hck M hM q hq x7
                                            have hMC : ∀ p, 68 ≤ p → M p = I p := fun p h1 => by rw [hM.1 p (by omega), hC.1 p (by omega)]
                                            have hqc : q ≤ c := by rw [hq]; exact au_c c
                                            refine E_go 5 rfl ?_
                                            refine r_iload rfl ?_
                                            refine r_iload rfl ?_
                                            refine r_icmp_ge (fun c_79 => ?_) (fun c_79 => ?_)
                                            · have c_79 := (n_le (a := k) (b := c) rfl rfl (by omega) (by omega)).mp c_79
                                              refine E_go 10 rfl ?_
                                              refine r_iload rfl ?_
                                              refine r_iret rfl trivial ?_
                                              have ec : e = c := by omega
                                              subst ec
                                              rcases hx2 with z2 | z2
                                              · rw [hq, ← z2.2]
                                                exact fin2 _ _ hM
                                              · exact absurd z2.1 (by omega)
                                            · have c_79 := (not_congr (n_le (a := k) (b := c) rfl rfl (by omega) (by omega))).mp c_79
                                              refine r_iload_n rfl ?_
                                              refine r_if_lt (fun c_83 => ?_) (fun c_83 => ?_)
                                              · have c_83 := (n_lt (a := i) (b := 0) rfl rfl (by omega) (by omega)).mp c_83
                                                omega
                                              · have c_83 := (not_congr (n_lt (a := i) (b := 0) rfl rfl (by omega) (by omega))).mp c_83
                                                refine r_iload_n rfl ?_
                                                refine r_aload_n rfl ?_
                                                refine r_getA (q := 80) (by decide) rfl rfl (by decide) ?_
                                                refine r_iload_n rfl ?_
                                                refine r_iaload (by decide) rfl (by decide) (ixE rfl (show s < 4 by omega) (by decide)) ((congrFun (hMC 80 (by omega)) s).trans p3.2.2) ?_
                                                refine r_iconst ?_
                                                refine r_iload rfl ?_
                                                refine r_imul ?_
                                                refine r_isub ?_
                                                refine r_iconst ?_
                                                refine r_isub ?_
                                                have rz := rs_z p1.2 (show c ≤ 5 by omega)
                                                refine r_icmp_le (fun c_100 => ?_) (fun c_100 => ?_)
                                                · have c_100 := (kle (b := i) rfl (by omega)).mp c_100
                                                  refine E_go 7 rfl ?_
                                                  skip
                                                  have hcb : i + 3 * c + 3 ≤ zs := by omega
                                                  have hce : c < e := by omega
                                                  refine r_bipush ?_
                                                  refine r_iload_n rfl ?_
                                                  refine r_imul ?_
                                                  refine r_iload_n rfl ?_
                                                  refine r_iadd ?_
                                                  refine r_iconst ?_
                                                  refine r_iload rfl ?_
                                                  refine r_imul ?_
                                                  refine r_iadd ?_
                                                  refine r_istore (ls' := [_, _, _, _, _, _, _, _]) (zt rfl) rfl ?_
                                                  refine r_iload rfl ?_
                                                  refine r_aload_n rfl ?_
                                                  refine r_aload_n rfl ?_
                                                  refine r_getA (q := 81) (by decide) rfl rfl (by decide) ?_
                                                  refine r_iload rfl ?_
                                                  refine r_iaload (by decide) rfl (by decide) (ixE (n_add (a := ((40 * s) + i)) (b := (3 * c)) (n_add (a := (40 * s)) (b := i) (n_mul (a := 40) (b := s) rfl rfl) rfl) (n_mul (a := 3) (b := c) rfl rfl)) (show (((40 * s) + i) + (3 * c)) < 160 by omega) (by decide)) ((congrFun (hMC 81 (by omega)) _).trans (hcell (3 * c) (by omega) _ (by omega))) ?_
                                                  refine r_aload_n rfl ?_
                                                  refine r_getA (q := 81) (by decide) rfl rfl (by decide) ?_
                                                  refine r_iload rfl ?_
                                                  refine r_iconst ?_
                                                  refine r_iadd ?_
                                                  refine r_iaload (by decide) rfl (by decide) (ixE (n_add (a := (((40 * s) + i) + (3 * c))) (b := 1) (n_add (a := ((40 * s) + i)) (b := (3 * c)) (n_add (a := (40 * s)) (b := i) (n_mul (a := 40) (b := s) rfl rfl) rfl) (n_mul (a := 3) (b := c) rfl rfl)) rfl) (show ((((40 * s) + i) + (3 * c)) + 1) < 160 by omega) (by decide)) ((congrFun (hMC 81 (by omega)) _).trans (hcell (3 * c + 1) (by omega) _ (by omega))) ?_
                                                  refine r_aload_n rfl ?_
                                                  refine r_getA (q := 81) (by decide) rfl rfl (by decide) ?_
                                                  refine r_iload rfl ?_
                                                  refine r_iconst ?_
                                                  refine r_iadd ?_
                                                  refine r_iaload (by decide) rfl (by decide) (ixE (n_add (a := (((40 * s) + i) + (3 * c))) (b := 2) (n_add (a := ((40 * s) + i)) (b := (3 * c)) (n_add (a := (40 * s)) (b := i) (n_mul (a := 40) (b := s) rfl rfl) rfl) (n_mul (a := 3) (b := c) rfl rfl)) rfl) (show ((((40 * s) + i) + (3 * c)) + 2) < 160 by omega) (by decide)) ((congrFun (hMC 81 (by omega)) _).trans (hcell (3 * c + 2) (by omega) _ (by omega))) ?_
                                                  refine r_virtual (vs := []) (as := [_, _, _]) (by decide) (zl rfl) rfl rfl (zl rfl) (Nat.le_refl _) (Or.inr (Or.inr ⟨zt rfl, rfl, zt rfl⟩)) ?_
                                                  refine s_maunt (n := (au (fun j => I (54 + 2 * s) (i + j)) n I c).1.1) (k := (fun j => I (54 + 2 * s) (i + j)) (3 * c)) (u := (fun j => I (54 + 2 * s) (i + j)) (3 * c + 1)) (p := (fun j => I (54 + 2 * s) (i + j)) (3 * c + 2)) (by omega) (by rw [hM.2 61 (by omega)]; exact (au_R R c).mn) (au_R R c).n5 (fun q1 => ?_) (fun q1 q2 => ?_) (fun q1 q2 => ?_)
                                                  · have nx : ¬ (okG ((fun j => I (54 + 2 * s) (i + j)) (3 * c)) ((fun j => I (54 + 2 * s) (i + j)) (3 * c + 1)) ((fun j => I (54 + 2 * s) (i + j)) (3 * c + 2)) ∧ (au (fun j => I (54 + 2 * s) (i + j)) n I c).1.1 < 5) := fun z => q1 z.1
                                                    refine r_if_lt (fun c_150 => ?_) (fun c_150 => ?_)
                                                    · refine E_go 8 rfl ?_
                                                      refine r_iconst ?_
                                                      refine r_nil ?_
                                                      refine E_go 9 rfl ?_
                                                      refine r_iadd ?_
                                                      refine r_istore (ls' := [_, _, _, _, _, _, _, _]) (zt rfl) rfl ?_
                                                      refine r_iincN (y := io (c + 1)) (ls' := [_, _, _, _, _, _, _, _]) rfl (zt rfl) (n_add (a := c) (b := 1) rfl rfl) rfl ?_
                                                      refine r_goto ?_
                                                      rw [show io q + 0 = io q from Int32.add_zero _]
                                                      exact ih (d - 1) (by omega) (c + 1) (by omega) (by omega) _ (hM.nn nx) q (by rw [au_n nx]; exact hq) _
                                                    · exact absurd (by decide) c_150
                                                  · have nx : ¬ (okG ((fun j => I (54 + 2 * s) (i + j)) (3 * c)) ((fun j => I (54 + 2 * s) (i + j)) (3 * c + 1)) ((fun j => I (54 + 2 * s) (i + j)) (3 * c + 2)) ∧ (au (fun j => I (54 + 2 * s) (i + j)) n I c).1.1 < 5) := fun z => by have := z.2; omega
                                                    refine r_if_lt (fun c_150 => ?_) (fun c_150 => ?_)
                                                    · refine E_go 8 rfl ?_
                                                      refine r_iconst ?_
                                                      refine r_nil ?_
                                                      refine E_go 9 rfl ?_
                                                      refine r_iadd ?_
                                                      refine r_istore (ls' := [_, _, _, _, _, _, _, _]) (zt rfl) rfl ?_
                                                      refine r_iincN (y := io (c + 1)) (ls' := [_, _, _, _, _, _, _, _]) rfl (zt rfl) (n_add (a := c) (b := 1) rfl rfl) rfl ?_
                                                      refine r_goto ?_
                                                      rw [show io q + 0 = io q from Int32.add_zero _]
                                                      exact ih (d - 1) (by omega) (c + 1) (by omega) (by omega) _ (hM.nn nx) q (by rw [au_n nx]; exact hq) _
                                                    · exact absurd (by decide) c_150
                                                  · have a5 : (au (fun j => I (54 + 2 * s) (i + j)) n I c).1.1 < 5 := q2
                                                    refine r_if_lt (fun c_150 => ?_) (fun c_150 => ?_)
                                                    · have c_150 := (n_lt (a := (au (fun j => I (54 + 2 * s) (i + j)) n I c).1.1) (b := 0) rfl rfl (by omega) (by omega)).mp c_150
                                                      omega
                                                    · have c_150 := (not_congr (n_lt (a := (au (fun j => I (54 + 2 * s) (i + j)) n I c).1.1) (b := 0) rfl rfl (by omega) (by omega))).mp c_150
                                                      refine r_iconst ?_
                                                      refine r_goto ?_
                                                      refine E_go 9 rfl ?_
                                                      refine r_iadd ?_
                                                      refine r_istore (ls' := [_, _, _, _, _, _, _, _]) (zt rfl) rfl ?_
                                                      refine r_iincN (y := io (c + 1)) (ls' := [_, _, _, _, _, _, _, _]) rfl (zt rfl) (n_add (a := c) (b := 1) rfl rfl) rfl ?_
                                                      refine r_goto ?_
                                                      rw [show io q + 1 = io (q + 1) from io_succ q]
                                                      exact ih (d - 1) (by omega) (c + 1) (by omega) (by omega) _ (hM.y q1 q2) (q + 1) (by rw [au_y q1 q2, hq]) _
                                                · have c_100 := (not_congr (kle (b := i) rfl (by omega))).mp c_100
                                                  refine r_nil ?_
                                                  refine E_go 6 rfl ?_
                                                  refine r_bipush ?_
                                                  refine r_iret rfl trivial ?_
                                                  have ec : e = c := by omega
                                                  subst ec
                                                  rcases hx2 with z2 | z2
                                                  · exact absurd z2.1 (by omega)
                                                  · rw [← z2.2.2]
                                                    exact fin2 _ _ hM
                                          exact key e 0 (by omega) (by omega) C (auM.z (Or.inr hC.1)) 0 rfl _
                                        · have c_63 := (n_eq (a := 1) (b := 0) rfl rfl (by omega) (by omega)).mp c_63
                                          omega
                                      · have c_51 := (not_congr (n_eq (a := so) (b := so) rfl rfl (by omega) (by omega))).mp c_51
                                        omega
                                  · have c_29 := (n_eq (a := 1) (b := 0) rfl rfl (by omega) (by omega)).mp c_29
                                    omega
                            have key : ∀ d c, c + d = k → (i + 3 * c ≤ zs ∨ c = 0) → ∀ C : Mem, auC (fun j => I (54 + 2 * s) (i + j)) n I c C → ∀ q, q = (au (fun j => I (54 + 2 * s) (i + j)) n I c).1.2 → ∀ x8, E xs (m + 5) xi_X6_aunts 82 (fun r1 h1 => M xs (m + 6) xi_X7_aunts [.ref 61, .int (io s), .int (io so), .int (io i), .int (io k)] h1 (fun r2 h2 => Q r1 r2 h2)) 75 [.ref 0, .int (io s), .int (io so), .int (io i), .int (io k), .ref (53 + 2 * s), .int (io q), .int (io c), x8] [] (82, C, L, xF0) := by
                              intro d
                              induction d using Nat.strongRecOn with
                              | _ d ih =>
                              intro c hd hlim C hC q hq x8
                              have hqc : q ≤ c := by rw [hq]; exact au_c c
                              refine E_go 5 rfl ?_
                              refine r_iload rfl ?_
                              refine r_iload rfl ?_
                              refine r_icmp_ge (fun c_79 => ?_) (fun c_79 => ?_)
                              · have c_79 := (n_le (a := k) (b := c) rfl rfl (by omega) (by omega)).mp c_79
                                refine E_go 8 rfl ?_
                                refine r_iload rfl ?_
                                refine r_iret rfl trivial ?_
                                have ec : k = c := by omega
                                subst ec
                                rw [hq]
                                exact fin k C _ hC (by omega) (by omega) (Or.inl ⟨rfl, rfl⟩)
                              · have c_79 := (not_congr (n_le (a := k) (b := c) rfl rfl (by omega) (by omega))).mp c_79
                                refine r_iload_n rfl ?_
                                refine r_iconst ?_
                                refine r_iload rfl ?_
                                refine r_imul ?_
                                refine r_iadd ?_
                                refine r_istore (ls' := [_, _, _, _, _, _, _, _, _]) (zt rfl) rfl ?_
                                refine r_aload rfl ?_
                                refine r_iload rfl ?_
                                refine r_iconst ?_
                                refine r_virtual (vs := []) (as := [_, _]) (by decide) (zl rfl) rfl rfl (zl rfl) (Nat.le_refl _) (Or.inr (Or.inr ⟨zt rfl, (shK s hs).1, (shK s hs).2.1⟩)) ?_
                                refine s_holds (by omega) hs (by rw [hC.1 _ (by omega)]; exact p2.2) p1.2 ?_
                                rw [show io i + 3 * io c = io (i + 3 * c) from n_add (a := i) (b := 3 * c) rfl (n_mul (a := 3) (b := c) rfl rfl)]
                                by_cases h3 : okR zs (io (i + 3 * c)) 3
                                · rw [if_pos h3]
                                  have hcb : i + 3 * c + 3 ≤ zs := (okR3 (by omega)).mp h3
                                  refine r_if_ne (fun c_98 => ?_) (fun c_98 => ?_)
                                  · have c_98 := (not_congr (n_eq (a := 1) (b := 0) rfl rfl (by omega) (by omega))).mp c_98
                                    refine E_go 6 rfl ?_
                                    refine r_aload_n rfl ?_
                                    refine r_aload rfl ?_
                                    refine r_getA (q := (54 + 2 * s)) (by decide) (shf hs) (shK s hs).1 (shK s hs).2.1 ?_
                                    refine r_iload rfl ?_
                                    refine r_iaload (by decide) (shK s hs).2.2.2.2.1 (shK s hs).2.2.2.2.2.2 (ixQ rfl (show (i + 3 * c) < 40 by omega) (by decide) (shK s hs).2.2.2.2.2.1) (congrFun (hC.1 (54 + 2 * s) (by omega)) _) ?_
                                    refine r_aload rfl ?_
                                    refine r_getA (q := (54 + 2 * s)) (by decide) (shf hs) (shK s hs).1 (shK s hs).2.1 ?_
                                    refine r_iload rfl ?_
                                    refine r_iconst ?_
                                    refine r_iadd ?_
                                    refine r_iaload (by decide) (shK s hs).2.2.2.2.1 (shK s hs).2.2.2.2.2.2 (ixQ (n_add (a := (i + 3 * c)) (b := 1) rfl rfl) (show ((i + 3 * c) + 1) < 40 by omega) (by decide) (shK s hs).2.2.2.2.2.1) (congrFun (hC.1 (54 + 2 * s) (by omega)) _) ?_
                                    refine r_aload rfl ?_
                                    refine r_getA (q := (54 + 2 * s)) (by decide) (shf hs) (shK s hs).1 (shK s hs).2.1 ?_
                                    refine r_iload rfl ?_
                                    refine r_iconst ?_
                                    refine r_iadd ?_
                                    refine r_iaload (by decide) (shK s hs).2.2.2.2.1 (shK s hs).2.2.2.2.2.2 (ixQ (n_add (a := (i + 3 * c)) (b := 2) rfl rfl) (show ((i + 3 * c) + 2) < 40 by omega) (by decide) (shK s hs).2.2.2.2.2.1) (congrFun (hC.1 (54 + 2 * s) (by omega)) _) ?_
                                    refine r_virtual (vs := []) (as := [_, _, _]) (by decide) (zl rfl) rfl rfl (zl rfl) (Nat.le_refl _) (Or.inr (Or.inr ⟨zt rfl, rfl, zt rfl⟩)) ?_
                                    refine s_caunt (n := (au (fun j => I (54 + 2 * s) (i + j)) n I c).1.1) (k := (fun j => I (54 + 2 * s) (i + j)) (3 * c)) (u := (fun j => I (54 + 2 * s) (i + j)) (3 * c + 1)) (p := (fun j => I (54 + 2 * s) (i + j)) (3 * c + 2)) (by omega) (by rw [hC.2 1 (by omega)]; exact (au_R R c).cn) (au_R R c).n5 (fun q1 => ?_) (fun q1 q2 => ?_) (fun q1 q2 => ?_)
                                    · have nx : ¬ (okG ((fun j => I (54 + 2 * s) (i + j)) (3 * c)) ((fun j => I (54 + 2 * s) (i + j)) (3 * c + 1)) ((fun j => I (54 + 2 * s) (i + j)) (3 * c + 2)) ∧ (au (fun j => I (54 + 2 * s) (i + j)) n I c).1.1 < 5) := fun z => q1 z.1
                                      refine r_if_lt (fun c_136 => ?_) (fun c_136 => ?_)
                                      · refine E_go 7 rfl ?_
                                        refine r_iincN (y := io (c + 1)) (ls' := [_, _, _, _, _, _, _, _, _]) rfl (zt rfl) (n_add (a := c) (b := 1) rfl rfl) rfl ?_
                                        refine r_goto ?_
                                        exact ih (d - 1) (by omega) (c + 1) (by omega) (by omega) _ (hC.nn nx) _ (by rw [au_n nx]; exact hq) _
                                      · exact absurd (by decide) c_136
                                    · have nx : ¬ (okG ((fun j => I (54 + 2 * s) (i + j)) (3 * c)) ((fun j => I (54 + 2 * s) (i + j)) (3 * c + 1)) ((fun j => I (54 + 2 * s) (i + j)) (3 * c + 2)) ∧ (au (fun j => I (54 + 2 * s) (i + j)) n I c).1.1 < 5) := fun z => by have := z.2; omega
                                      refine r_if_lt (fun c_136 => ?_) (fun c_136 => ?_)
                                      · refine E_go 7 rfl ?_
                                        refine r_iincN (y := io (c + 1)) (ls' := [_, _, _, _, _, _, _, _, _]) rfl (zt rfl) (n_add (a := c) (b := 1) rfl rfl) rfl ?_
                                        refine r_goto ?_
                                        exact ih (d - 1) (by omega) (c + 1) (by omega) (by omega) _ (hC.nn nx) _ (by rw [au_n nx]; exact hq) _
                                      · exact absurd (by decide) c_136
                                    · have a5 : (au (fun j => I (54 + 2 * s) (i + j)) n I c).1.1 < 5 := q2
                                      refine r_if_lt (fun c_136 => ?_) (fun c_136 => ?_)
                                      · have c_136 := (n_lt (a := (au (fun j => I (54 + 2 * s) (i + j)) n I c).1.1) (b := 0) rfl rfl (by omega) (by omega)).mp c_136
                                        omega
                                      · have c_136 := (not_congr (n_lt (a := (au (fun j => I (54 + 2 * s) (i + j)) n I c).1.1) (b := 0) rfl rfl (by omega) (by omega))).mp c_136
                                        refine r_iincN (y := io (q + 1)) (ls' := [_, _, _, _, _, _, _, _, _]) rfl (zt rfl) (n_add (a := q) (b := 1) rfl rfl) rfl ?_
                                        refine r_nil ?_
                                        refine E_go 7 rfl ?_
                                        refine r_iincN (y := io (c + 1)) (ls' := [_, _, _, _, _, _, _, _, _]) rfl (zt rfl) (n_add (a := c) (b := 1) rfl rfl) rfl ?_
                                        refine r_goto ?_
                                        exact ih (d - 1) (by omega) (c + 1) (by omega) (by omega) _ (hC.y q1 q2) _ (by rw [au_y q1 q2, hq]) _
                                  · have c_98 := (n_eq (a := 1) (b := 0) rfl rfl (by omega) (by omega)).mp c_98
                                    omega
                                · rw [if_neg h3]
                                  have hcb : ¬ i + 3 * c + 3 ≤ zs := fun z => h3 ((okR3 (by omega)).mpr z)
                                  refine r_if_ne (fun c_98 => ?_) (fun c_98 => ?_)
                                  · have c_98 := (not_congr (n_eq (a := 0) (b := 0) rfl rfl (by omega) (by omega))).mp c_98
                                    omega
                                  · have c_98 := (n_eq (a := 0) (b := 0) rfl rfl (by omega) (by omega)).mp c_98
                                    refine r_bipush ?_
                                    refine r_iret rfl trivial ?_
                                    exact fin c C (-12) hC (by omega) (by omega) (Or.inr ⟨by omega, hcb, rfl⟩)
                            exact key k 0 (by omega) (Or.inr rfl) I auC.z 0 rfl _
                          · exact absurd c_63 (io_m1 (by omega))
                        · have c_51 := (not_congr (n_eq (a := so) (b := so) rfl rfl (by omega) (by omega))).mp c_51
                          omega
                    · have c_22 := (not_congr (n_le (a := k) (b := 5) rfl rfl (by omega) (by omega))).mp c_22
                      omega
            · have hz : ¬ (0 ≤ z.toInt ∧ z.toInt < 41) := hz
              refine M_go (ls := [_, _, _, _, _, _, _, _, _]) (ml := 9) rfl rfl rfl (zl rfl) rfl ?_
              refine r_iload_n rfl ?_
              refine r_static (vs := [_]) (by decide) (zl rfl) rfl rfl (zl rfl) (Nat.le_refl _) rfl ?_
              refine s_isSheet (by omega) ?_
              rw [if_pos (inN_io hs (by omega))]
              refine r_if_eq (fun c_4 => ?_) (fun c_4 => ?_)
              · have c_4 := (n_eq (a := 1) (b := 0) rfl rfl (by omega) (by omega)).mp c_4
                omega
              · have c_4 := (not_congr (n_eq (a := 1) (b := 0) rfl rfl (by omega) (by omega))).mp c_4
                refine r_iload_n rfl ?_
                refine r_static (vs := [_]) (by decide) (zl rfl) rfl rfl (zl rfl) (Nat.le_refl _) rfl ?_
                refine s_isSort (by omega) ?_
                rw [if_pos (inN_io hsp (by omega))]
                refine r_if_eq (fun c_11 => ?_) (fun c_11 => ?_)
                · have c_11 := (n_eq (a := 1) (b := 0) rfl rfl (by omega) (by omega)).mp c_11
                  omega
                · have c_11 := (not_congr (n_eq (a := 1) (b := 0) rfl rfl (by omega) (by omega))).mp c_11
                  refine r_iload rfl ?_
                  refine r_if_lt (fun c_16 => ?_) (fun c_16 => ?_)
                  · have c_16 := (n_lt (a := k) (b := 0) rfl rfl (by omega) (by omega)).mp c_16
                    omega
                  · have c_16 := (not_congr (n_lt (a := k) (b := 0) rfl rfl (by omega) (by omega))).mp c_16
                    refine r_iload rfl ?_
                    refine r_iconst ?_
                    refine r_icmp_le (fun c_22 => ?_) (fun c_22 => ?_)
                    · have c_22 := (n_le (a := k) (b := 5) rfl rfl (by omega) (by omega)).mp c_22
                      refine E_go 2 rfl ?_
                      refine r_aload_n rfl ?_
                      refine r_getA (q := 34) (by decide) rfl rfl (by decide) ?_
                      refine r_iload_n rfl ?_
                      refine r_aaload (by decide) (by decide) (ixE rfl (show s < 4 by omega) (by decide)) (shK s hs).2.2.1 ?_
                      refine r_astore (ls' := [_, _, _, _, _, _, _, _, _]) (zt rfl) rfl ?_
                      refine r_aload rfl ?_
                      refine r_getI (by decide) rfl (shK s hs).1 (shK s hs).2.1 p2.1 ?_
                      refine r_iconst ?_
                      refine r_icmp_eq (fun c_42 => ?_) (fun c_42 => ?_)
                      · exact absurd c_42 (io_m1 (by omega))
                      · refine r_aload rfl ?_
                        refine r_getI (by decide) rfl (shK s hs).1 (shK s hs).2.1 p2.1 ?_
                        refine r_iload_n rfl ?_
                        refine r_icmp_eq (fun c_51 => ?_) (fun c_51 => ?_)
                        · have c_51 := (n_eq (a := so) (b := so) rfl rfl (by omega) (by omega)).mp c_51
                          refine E_go 3 rfl ?_
                          refine r_aload rfl ?_
                          refine r_getI (by decide) rfl (shK s hs).1 (shK s hs).2.1 p2.1 ?_
                          refine r_iconst ?_
                          refine r_icmp_ne (fun c_63 => ?_) (fun c_63 => ?_)
                          · refine E_go 4 rfl ?_
                            refine r_iconst ?_
                            refine r_istore (ls' := [_, _, _, _, _, _, _, _, _]) (zt rfl) rfl ?_
                            refine r_iconst ?_
                            refine r_istore (ls' := [_, _, _, _, _, _, _, _, _]) (zt rfl) rfl ?_
                            refine r_nil ?_
                            refine E_go 5 rfl ?_
                            refine r_iload rfl ?_
                            refine r_iload rfl ?_
                            refine r_icmp_ge (fun c_79 => ?_) (fun c_79 => ?_)
                            · have c_79 := (n_le (a := k) (b := 0) rfl rfl (by omega) (by omega)).mp c_79
                              refine E_go 8 rfl ?_
                              refine r_iload rfl ?_
                              refine r_iret rfl trivial ?_
                              refine M_go (ls := [_, _, _, _, _, _, _, _]) (ml := 8) rfl rfl rfl (zl rfl) rfl ?_
                              refine r_iload_n rfl ?_
                              refine r_static (vs := [_]) (by decide) (zl rfl) rfl rfl (zl rfl) (Nat.le_refl _) rfl ?_
                              refine s_misSheet (by omega) ?_
                              rw [if_pos (inN_io hs (by omega))]
                              refine r_if_eq (fun c_4 => ?_) (fun c_4 => ?_)
                              · have c_4 := (n_eq (a := 1) (b := 0) rfl rfl (by omega) (by omega)).mp c_4
                                omega
                              · have c_4 := (not_congr (n_eq (a := 1) (b := 0) rfl rfl (by omega) (by omega))).mp c_4
                                refine r_iload_n rfl ?_
                                refine r_i2l ?_
                                refine r_lconst ?_
                                refine r_ldc2_w ?_
                                refine r_static (vs := [_, _, _]) (by decide) (zl rfl) rfl rfl (zl rfl) (Nat.le_refl _) rfl ?_
                                refine s_in0 (by omega) (x := (io so)) (k := 3) (Int32.toInt_toInt64 _) i64_0 rfl ?_
                                rw [if_pos (inN_io hsp (by omega))]
                                refine r_if_eq (fun c_16 => ?_) (fun c_16 => ?_)
                                · have c_16 := (n_eq (a := 1) (b := 0) rfl rfl (by omega) (by omega)).mp c_16
                                  omega
                                · have c_16 := (not_congr (n_eq (a := 1) (b := 0) rfl rfl (by omega) (by omega))).mp c_16
                                  refine r_iload rfl ?_
                                  refine r_i2l ?_
                                  refine r_lconst ?_
                                  refine r_ldc2_w ?_
                                  refine r_static (vs := [_, _, _]) (by decide) (zl rfl) rfl rfl (zl rfl) (Nat.le_refl _) rfl ?_
                                  refine s_in0 (by omega) (x := (io k)) (k := 6) (Int32.toInt_toInt64 _) i64_0 rfl ?_
                                  rw [if_pos (inN_io hk (by omega))]
                                  refine r_if_ne (fun c_29 => ?_) (fun c_29 => ?_)
                                  · have c_29 := (not_congr (n_eq (a := 1) (b := 0) rfl rfl (by omega) (by omega))).mp c_29
                                    refine E_go 2 rfl ?_
                                    refine r_aload_n rfl ?_
                                    refine r_getA (q := 78) (by decide) rfl rfl (by decide) ?_
                                    refine r_iload_n rfl ?_
                                    refine r_baload (by decide) rfl (by decide) (ixE rfl (show s < 4 by omega) (by decide)) p3.1 ?_
                                    refine r_if_eq (fun c_41 => ?_) (fun c_41 => ?_)
                                    · have c_41 := (n_eq (a := 1) (b := 0) rfl rfl (by omega) (by omega)).mp c_41
                                      omega
                                    · have c_41 := (not_congr (n_eq (a := 1) (b := 0) rfl rfl (by omega) (by omega))).mp c_41
                                      refine r_aload_n rfl ?_
                                      refine r_getA (q := 79) (by decide) rfl rfl (by decide) ?_
                                      refine r_iload_n rfl ?_
                                      refine r_iaload (by decide) rfl (by decide) (ixE rfl (show s < 4 by omega) (by decide)) p3.2.1 ?_
                                      refine r_iload_n rfl ?_
                                      refine r_icmp_eq (fun c_51 => ?_) (fun c_51 => ?_)
                                      · have c_51 := (n_eq (a := so) (b := so) rfl rfl (by omega) (by omega)).mp c_51
                                        refine E_go 3 rfl ?_
                                        refine r_aload_n rfl ?_
                                        refine r_getA (q := 78) (by decide) rfl rfl (by decide) ?_
                                        refine r_iload_n rfl ?_
                                        refine r_baload (by decide) rfl (by decide) (ixE rfl (show s < 4 by omega) (by decide)) p3.1 ?_
                                        refine r_if_ne (fun c_63 => ?_) (fun c_63 => ?_)
                                        · have c_63 := (not_congr (n_eq (a := 1) (b := 0) rfl rfl (by omega) (by omega))).mp c_63
                                          refine E_go 4 rfl ?_
                                          refine r_iconst ?_
                                          refine r_istore (ls' := [_, _, _, _, _, _, _, _]) (zt rfl) rfl ?_
                                          refine r_iconst ?_
                                          refine r_istore (ls' := [_, _, _, _, _, _, _, _]) (zt rfl) rfl ?_
                                          refine r_nil ?_
                                          refine E_go 5 rfl ?_
                                          refine r_iload rfl ?_
                                          refine r_iload rfl ?_
                                          refine r_icmp_ge (fun c_79 => ?_) (fun c_79 => ?_)
                                          · have c_79 := (n_le (a := k) (b := 0) rfl rfl (by omega) (by omega)).mp c_79
                                            refine E_go 10 rfl ?_
                                            refine r_iload rfl ?_
                                            refine r_iret rfl trivial ?_
                                            first | exact hQ _ _ _ R.rel | omega
                                          · have c_79 := (not_congr (n_le (a := k) (b := 0) rfl rfl (by omega) (by omega))).mp c_79
                                            refine r_iload_n rfl ?_
                                            refine r_if_lt (fun c_83 => ?_) (fun c_83 => ?_)
                                            · have c_83 := (jlt (b := 0) rfl (by omega)).mp c_83
                                              refine E_go 6 rfl ?_
                                              refine r_bipush ?_
                                              refine r_iret rfl trivial ?_
                                              first | exact hQ _ _ _ R.rel | omega
                                            · have c_83 := (not_congr (jlt (b := 0) rfl (by omega))).mp c_83
                                              refine r_iload_n rfl ?_
                                              refine r_aload_n rfl ?_
                                              refine r_getA (q := 80) (by decide) rfl rfl (by decide) ?_
                                              refine r_iload_n rfl ?_
                                              refine r_iaload (by decide) rfl (by decide) (ixE rfl (show s < 4 by omega) (by decide)) p3.2.2 ?_
                                              refine r_iconst ?_
                                              refine r_iload rfl ?_
                                              refine r_imul ?_
                                              refine r_isub ?_
                                              refine r_iconst ?_
                                              refine r_isub ?_
                                              have rz := rs_z p1.2 (show 0 ≤ 5 by omega)
                                              have rz : (io zs - 3 * 0 - 3).toInt = (zs : Int) - 3 * (0 : Nat) - 3 := rz
                                              refine r_icmp_le (fun c_100 => ?_) (fun c_100 => ?_)
                                              · rw [le_int, rz] at c_100; exact (hz ⟨by omega, by omega⟩).elim
                                              · refine r_nil ?_
                                                refine E_go 6 rfl ?_
                                                refine r_bipush ?_
                                                refine r_iret rfl trivial ?_
                                                first | exact hQ _ _ _ R.rel | omega
                                        · have c_63 := (n_eq (a := 1) (b := 0) rfl rfl (by omega) (by omega)).mp c_63
                                          omega
                                      · have c_51 := (not_congr (n_eq (a := so) (b := so) rfl rfl (by omega) (by omega))).mp c_51
                                        omega
                                  · have c_29 := (n_eq (a := 1) (b := 0) rfl rfl (by omega) (by omega)).mp c_29
                                    omega
                            · have c_79 := (not_congr (n_le (a := k) (b := 0) rfl rfl (by omega) (by omega))).mp c_79
                              refine r_iload_n rfl ?_
                              refine r_iconst ?_
                              refine r_iload rfl ?_
                              refine r_imul ?_
                              refine r_iadd ?_
                              refine r_istore (ls' := [_, _, _, _, _, _, _, _, _]) (zt rfl) rfl ?_
                              refine r_aload rfl ?_
                              refine r_iload rfl ?_
                              refine r_iconst ?_
                              refine r_virtual (vs := []) (as := [_, _]) (by decide) (zl rfl) rfl rfl (zl rfl) (Nat.le_refl _) (Or.inr (Or.inr ⟨zt rfl, (shK s hs).1, (shK s hs).2.1⟩)) ?_
                              refine s_holds (by omega) hs p2.2 p1.2 ?_
                              rw [if_neg (fun q => hz (by rw [add30] at q; have q2 := q.2.2; rw [show (3 : Int32).toInt = 3 from rfl] at q2; exact ⟨q.1, by have := p1.2; omega⟩))]
                              refine r_if_ne (fun c_98 => ?_) (fun c_98 => ?_)
                              · have c_98 := (not_congr (n_eq (a := 0) (b := 0) rfl rfl (by omega) (by omega))).mp c_98
                                omega
                              · have c_98 := (n_eq (a := 0) (b := 0) rfl rfl (by omega) (by omega)).mp c_98
                                refine r_bipush ?_
                                refine r_iret rfl trivial ?_
                                refine M_go (ls := [_, _, _, _, _, _, _, _]) (ml := 8) rfl rfl rfl (zl rfl) rfl ?_
                                refine r_iload_n rfl ?_
                                refine r_static (vs := [_]) (by decide) (zl rfl) rfl rfl (zl rfl) (Nat.le_refl _) rfl ?_
                                refine s_misSheet (by omega) ?_
                                rw [if_pos (inN_io hs (by omega))]
                                refine r_if_eq (fun c_4 => ?_) (fun c_4 => ?_)
                                · have c_4 := (n_eq (a := 1) (b := 0) rfl rfl (by omega) (by omega)).mp c_4
                                  omega
                                · have c_4 := (not_congr (n_eq (a := 1) (b := 0) rfl rfl (by omega) (by omega))).mp c_4
                                  refine r_iload_n rfl ?_
                                  refine r_i2l ?_
                                  refine r_lconst ?_
                                  refine r_ldc2_w ?_
                                  refine r_static (vs := [_, _, _]) (by decide) (zl rfl) rfl rfl (zl rfl) (Nat.le_refl _) rfl ?_
                                  refine s_in0 (by omega) (x := (io so)) (k := 3) (Int32.toInt_toInt64 _) i64_0 rfl ?_
                                  rw [if_pos (inN_io hsp (by omega))]
                                  refine r_if_eq (fun c_16 => ?_) (fun c_16 => ?_)
                                  · have c_16 := (n_eq (a := 1) (b := 0) rfl rfl (by omega) (by omega)).mp c_16
                                    omega
                                  · have c_16 := (not_congr (n_eq (a := 1) (b := 0) rfl rfl (by omega) (by omega))).mp c_16
                                    refine r_iload rfl ?_
                                    refine r_i2l ?_
                                    refine r_lconst ?_
                                    refine r_ldc2_w ?_
                                    refine r_static (vs := [_, _, _]) (by decide) (zl rfl) rfl rfl (zl rfl) (Nat.le_refl _) rfl ?_
                                    refine s_in0 (by omega) (x := (io k)) (k := 6) (Int32.toInt_toInt64 _) i64_0 rfl ?_
                                    rw [if_pos (inN_io hk (by omega))]
                                    refine r_if_ne (fun c_29 => ?_) (fun c_29 => ?_)
                                    · have c_29 := (not_congr (n_eq (a := 1) (b := 0) rfl rfl (by omega) (by omega))).mp c_29
                                      refine E_go 2 rfl ?_
                                      refine r_aload_n rfl ?_
                                      refine r_getA (q := 78) (by decide) rfl rfl (by decide) ?_
                                      refine r_iload_n rfl ?_
                                      refine r_baload (by decide) rfl (by decide) (ixE rfl (show s < 4 by omega) (by decide)) p3.1 ?_
                                      refine r_if_eq (fun c_41 => ?_) (fun c_41 => ?_)
                                      · have c_41 := (n_eq (a := 1) (b := 0) rfl rfl (by omega) (by omega)).mp c_41
                                        omega
                                      · have c_41 := (not_congr (n_eq (a := 1) (b := 0) rfl rfl (by omega) (by omega))).mp c_41
                                        refine r_aload_n rfl ?_
                                        refine r_getA (q := 79) (by decide) rfl rfl (by decide) ?_
                                        refine r_iload_n rfl ?_
                                        refine r_iaload (by decide) rfl (by decide) (ixE rfl (show s < 4 by omega) (by decide)) p3.2.1 ?_
                                        refine r_iload_n rfl ?_
                                        refine r_icmp_eq (fun c_51 => ?_) (fun c_51 => ?_)
                                        · have c_51 := (n_eq (a := so) (b := so) rfl rfl (by omega) (by omega)).mp c_51
                                          refine E_go 3 rfl ?_
                                          refine r_aload_n rfl ?_
                                          refine r_getA (q := 78) (by decide) rfl rfl (by decide) ?_
                                          refine r_iload_n rfl ?_
                                          refine r_baload (by decide) rfl (by decide) (ixE rfl (show s < 4 by omega) (by decide)) p3.1 ?_
                                          refine r_if_ne (fun c_63 => ?_) (fun c_63 => ?_)
                                          · have c_63 := (not_congr (n_eq (a := 1) (b := 0) rfl rfl (by omega) (by omega))).mp c_63
                                            refine E_go 4 rfl ?_
                                            refine r_iconst ?_
                                            refine r_istore (ls' := [_, _, _, _, _, _, _, _]) (zt rfl) rfl ?_
                                            refine r_iconst ?_
                                            refine r_istore (ls' := [_, _, _, _, _, _, _, _]) (zt rfl) rfl ?_
                                            refine r_nil ?_
                                            refine E_go 5 rfl ?_
                                            refine r_iload rfl ?_
                                            refine r_iload rfl ?_
                                            refine r_icmp_ge (fun c_79 => ?_) (fun c_79 => ?_)
                                            · have c_79 := (n_le (a := k) (b := 0) rfl rfl (by omega) (by omega)).mp c_79
                                              refine E_go 10 rfl ?_
                                              refine r_iload rfl ?_
                                              refine r_iret rfl trivial ?_
                                              first | exact hQ _ _ _ R.rel | omega
                                            · have c_79 := (not_congr (n_le (a := k) (b := 0) rfl rfl (by omega) (by omega))).mp c_79
                                              refine r_iload_n rfl ?_
                                              refine r_if_lt (fun c_83 => ?_) (fun c_83 => ?_)
                                              · have c_83 := (jlt (b := 0) rfl (by omega)).mp c_83
                                                refine E_go 6 rfl ?_
                                                refine r_bipush ?_
                                                refine r_iret rfl trivial ?_
                                                first | exact hQ _ _ _ R.rel | omega
                                              · have c_83 := (not_congr (jlt (b := 0) rfl (by omega))).mp c_83
                                                refine r_iload_n rfl ?_
                                                refine r_aload_n rfl ?_
                                                refine r_getA (q := 80) (by decide) rfl rfl (by decide) ?_
                                                refine r_iload_n rfl ?_
                                                refine r_iaload (by decide) rfl (by decide) (ixE rfl (show s < 4 by omega) (by decide)) p3.2.2 ?_
                                                refine r_iconst ?_
                                                refine r_iload rfl ?_
                                                refine r_imul ?_
                                                refine r_isub ?_
                                                refine r_iconst ?_
                                                refine r_isub ?_
                                                have rz := rs_z p1.2 (show 0 ≤ 5 by omega)
                                                have rz : (io zs - 3 * 0 - 3).toInt = (zs : Int) - 3 * (0 : Nat) - 3 := rz
                                                refine r_icmp_le (fun c_100 => ?_) (fun c_100 => ?_)
                                                · rw [le_int, rz] at c_100; exact (hz ⟨by omega, by omega⟩).elim
                                                · refine r_nil ?_
                                                  refine E_go 6 rfl ?_
                                                  refine r_bipush ?_
                                                  refine r_iret rfl trivial ?_
                                                  first | exact hQ _ _ _ R.rel | omega
                                          · have c_63 := (n_eq (a := 1) (b := 0) rfl rfl (by omega) (by omega)).mp c_63
                                            omega
                                        · have c_51 := (not_congr (n_eq (a := so) (b := so) rfl rfl (by omega) (by omega))).mp c_51
                                          omega
                                    · have c_29 := (n_eq (a := 1) (b := 0) rfl rfl (by omega) (by omega)).mp c_29
                                      omega
                          · exact absurd c_63 (io_m1 (by omega))
                        · have c_51 := (not_congr (n_eq (a := so) (b := so) rfl rfl (by omega) (by omega))).mp c_51
                          omega
                    · have c_22 := (not_congr (n_le (a := k) (b := 5) rfl rfl (by omega) (by omega))).mp c_22
                      omega
          · refine M_go (ls := [_, _, _, _, _, _, _, _, _]) (ml := 9) rfl rfl rfl (zl rfl) rfl ?_
            refine r_iload_n rfl ?_
            refine r_static (vs := [_]) (by decide) (zl rfl) rfl rfl (zl rfl) (Nat.le_refl _) rfl ?_
            refine s_isSheet (by omega) ?_
            rw [if_pos (inN_io hs (by omega))]
            refine r_if_eq (fun c_4 => ?_) (fun c_4 => ?_)
            · have c_4 := (n_eq (a := 1) (b := 0) rfl rfl (by omega) (by omega)).mp c_4
              omega
            · have c_4 := (not_congr (n_eq (a := 1) (b := 0) rfl rfl (by omega) (by omega))).mp c_4
              refine r_iload_n rfl ?_
              refine r_static (vs := [_]) (by decide) (zl rfl) rfl rfl (zl rfl) (Nat.le_refl _) rfl ?_
              refine s_isSort (by omega) ?_
              rw [if_pos (inN_io hsp (by omega))]
              refine r_if_eq (fun c_11 => ?_) (fun c_11 => ?_)
              · have c_11 := (n_eq (a := 1) (b := 0) rfl rfl (by omega) (by omega)).mp c_11
                omega
              · have c_11 := (not_congr (n_eq (a := 1) (b := 0) rfl rfl (by omega) (by omega))).mp c_11
                refine r_iload rfl ?_
                refine r_if_lt (fun c_16 => ?_) (fun c_16 => ?_)
                · have c_16 := (n_lt (a := k) (b := 0) rfl rfl (by omega) (by omega)).mp c_16
                  omega
                · have c_16 := (not_congr (n_lt (a := k) (b := 0) rfl rfl (by omega) (by omega))).mp c_16
                  refine r_iload rfl ?_
                  refine r_iconst ?_
                  refine r_icmp_le (fun c_22 => ?_) (fun c_22 => ?_)
                  · have c_22 := (n_le (a := k) (b := 5) rfl rfl (by omega) (by omega)).mp c_22
                    refine E_go 2 rfl ?_
                    refine r_aload_n rfl ?_
                    refine r_getA (q := 34) (by decide) rfl rfl (by decide) ?_
                    refine r_iload_n rfl ?_
                    refine r_aaload (by decide) (by decide) (ixE rfl (show s < 4 by omega) (by decide)) (shK s hs).2.2.1 ?_
                    refine r_astore (ls' := [_, _, _, _, _, _, _, _, _]) (zt rfl) rfl ?_
                    refine r_aload rfl ?_
                    refine r_getI (by decide) rfl (shK s hs).1 (shK s hs).2.1 p2.1 ?_
                    refine r_iconst ?_
                    refine r_icmp_eq (fun c_42 => ?_) (fun c_42 => ?_)
                    · exact absurd c_42 (io_m1 (by omega))
                    · refine r_aload rfl ?_
                      refine r_getI (by decide) rfl (shK s hs).1 (shK s hs).2.1 p2.1 ?_
                      refine r_iload_n rfl ?_
                      refine r_icmp_eq (fun c_51 => ?_) (fun c_51 => ?_)
                      · have c_51 := (n_eq (a := so) (b := sp) rfl rfl (by omega) (by omega)).mp c_51
                        exact (ne c_51).elim
                      · have c_51 := (not_congr (n_eq (a := so) (b := sp) rfl rfl (by omega) (by omega))).mp c_51
                        refine r_bipush ?_
                        refine r_iret rfl trivial ?_
                        refine M_go (ls := [_, _, _, _, _, _, _, _]) (ml := 8) rfl rfl rfl (zl rfl) rfl ?_
                        refine r_iload_n rfl ?_
                        refine r_static (vs := [_]) (by decide) (zl rfl) rfl rfl (zl rfl) (Nat.le_refl _) rfl ?_
                        refine s_misSheet (by omega) ?_
                        rw [if_pos (inN_io hs (by omega))]
                        refine r_if_eq (fun c_4 => ?_) (fun c_4 => ?_)
                        · have c_4 := (n_eq (a := 1) (b := 0) rfl rfl (by omega) (by omega)).mp c_4
                          omega
                        · have c_4 := (not_congr (n_eq (a := 1) (b := 0) rfl rfl (by omega) (by omega))).mp c_4
                          refine r_iload_n rfl ?_
                          refine r_i2l ?_
                          refine r_lconst ?_
                          refine r_ldc2_w ?_
                          refine r_static (vs := [_, _, _]) (by decide) (zl rfl) rfl rfl (zl rfl) (Nat.le_refl _) rfl ?_
                          refine s_in0 (by omega) (x := (io sp)) (k := 3) (Int32.toInt_toInt64 _) i64_0 rfl ?_
                          rw [if_pos (inN_io hsp (by omega))]
                          refine r_if_eq (fun c_16 => ?_) (fun c_16 => ?_)
                          · have c_16 := (n_eq (a := 1) (b := 0) rfl rfl (by omega) (by omega)).mp c_16
                            omega
                          · have c_16 := (not_congr (n_eq (a := 1) (b := 0) rfl rfl (by omega) (by omega))).mp c_16
                            refine r_iload rfl ?_
                            refine r_i2l ?_
                            refine r_lconst ?_
                            refine r_ldc2_w ?_
                            refine r_static (vs := [_, _, _]) (by decide) (zl rfl) rfl rfl (zl rfl) (Nat.le_refl _) rfl ?_
                            refine s_in0 (by omega) (x := (io k)) (k := 6) (Int32.toInt_toInt64 _) i64_0 rfl ?_
                            rw [if_pos (inN_io hk (by omega))]
                            refine r_if_ne (fun c_29 => ?_) (fun c_29 => ?_)
                            · have c_29 := (not_congr (n_eq (a := 1) (b := 0) rfl rfl (by omega) (by omega))).mp c_29
                              refine E_go 2 rfl ?_
                              refine r_aload_n rfl ?_
                              refine r_getA (q := 78) (by decide) rfl rfl (by decide) ?_
                              refine r_iload_n rfl ?_
                              refine r_baload (by decide) rfl (by decide) (ixE rfl (show s < 4 by omega) (by decide)) p3.1 ?_
                              refine r_if_eq (fun c_41 => ?_) (fun c_41 => ?_)
                              · have c_41 := (n_eq (a := 1) (b := 0) rfl rfl (by omega) (by omega)).mp c_41
                                omega
                              · have c_41 := (not_congr (n_eq (a := 1) (b := 0) rfl rfl (by omega) (by omega))).mp c_41
                                refine r_aload_n rfl ?_
                                refine r_getA (q := 79) (by decide) rfl rfl (by decide) ?_
                                refine r_iload_n rfl ?_
                                refine r_iaload (by decide) rfl (by decide) (ixE rfl (show s < 4 by omega) (by decide)) p3.2.1 ?_
                                refine r_iload_n rfl ?_
                                refine r_icmp_eq (fun c_51 => ?_) (fun c_51 => ?_)
                                · have c_51 := (n_eq (a := so) (b := sp) rfl rfl (by omega) (by omega)).mp c_51
                                  exact (ne c_51).elim
                                · have c_51 := (not_congr (n_eq (a := so) (b := sp) rfl rfl (by omega) (by omega))).mp c_51
                                  refine r_bipush ?_
                                  refine r_iret rfl trivial ?_
                                  exact hQ _ _ _ R.rel
                            · have c_29 := (n_eq (a := 1) (b := 0) rfl rfl (by omega) (by omega)).mp c_29
                              omega
                  · have c_22 := (not_congr (n_le (a := k) (b := 5) rfl rfl (by omega) (by omega))).mp c_22
                    omega
      · refine M_go (ls := [_, _, _, _, _, _, _, _, _]) (ml := 9) rfl rfl rfl (zl rfl) rfl ?_
        refine r_iload_n rfl ?_
        refine r_static (vs := [_]) (by decide) (zl rfl) rfl rfl (zl rfl) (Nat.le_refl _) rfl ?_
        refine s_isSheet (by omega) ?_
        rw [if_pos hx]
        refine r_if_eq (fun c_4 => ?_) (fun c_4 => ?_)
        · have c_4 := (n_eq (a := 1) (b := 0) rfl rfl (by omega) (by omega)).mp c_4
          omega
        · have c_4 := (not_congr (n_eq (a := 1) (b := 0) rfl rfl (by omega) (by omega))).mp c_4
          refine r_iload_n rfl ?_
          refine r_static (vs := [_]) (by decide) (zl rfl) rfl rfl (zl rfl) (Nat.le_refl _) rfl ?_
          refine s_isSort (by omega) ?_
          rw [if_pos hy]
          refine r_if_eq (fun c_11 => ?_) (fun c_11 => ?_)
          · have c_11 := (n_eq (a := 1) (b := 0) rfl rfl (by omega) (by omega)).mp c_11
            omega
          · have c_11 := (not_congr (n_eq (a := 1) (b := 0) rfl rfl (by omega) (by omega))).mp c_11
            refine r_iload rfl ?_
            refine r_if_lt (fun c_16 => ?_) (fun c_16 => ?_)
            · have c_16 := (jlt (b := 0) rfl (by omega)).mp c_16
              refine E_go 1 rfl ?_
              refine r_bipush ?_
              refine r_iret rfl trivial ?_
              refine M_go (ls := [_, _, _, _, _, _, _, _]) (ml := 8) rfl rfl rfl (zl rfl) rfl ?_
              refine r_iload_n rfl ?_
              refine r_static (vs := [_]) (by decide) (zl rfl) rfl rfl (zl rfl) (Nat.le_refl _) rfl ?_
              refine s_misSheet (by omega) ?_
              rw [if_pos hx]
              refine r_if_eq (fun c_4 => ?_) (fun c_4 => ?_)
              · have c_4 := (n_eq (a := 1) (b := 0) rfl rfl (by omega) (by omega)).mp c_4
                omega
              · have c_4 := (not_congr (n_eq (a := 1) (b := 0) rfl rfl (by omega) (by omega))).mp c_4
                refine r_iload_n rfl ?_
                refine r_i2l ?_
                refine r_lconst ?_
                refine r_ldc2_w ?_
                refine r_static (vs := [_, _, _]) (by decide) (zl rfl) rfl rfl (zl rfl) (Nat.le_refl _) rfl ?_
                refine s_in0 (by omega) (x := y) (k := 3) (Int32.toInt_toInt64 _) i64_0 rfl ?_
                rw [if_pos hy]
                refine r_if_eq (fun c_16 => ?_) (fun c_16 => ?_)
                · have c_16 := (n_eq (a := 1) (b := 0) rfl rfl (by omega) (by omega)).mp c_16
                  omega
                · have c_16 := (not_congr (n_eq (a := 1) (b := 0) rfl rfl (by omega) (by omega))).mp c_16
                  refine r_iload rfl ?_
                  refine r_i2l ?_
                  refine r_lconst ?_
                  refine r_ldc2_w ?_
                  refine r_static (vs := [_, _, _]) (by decide) (zl rfl) rfl rfl (zl rfl) (Nat.le_refl _) rfl ?_
                  refine s_in0 (by omega) (x := w) (k := 6) (Int32.toInt_toInt64 _) i64_0 rfl ?_
                  rw [if_neg hw]
                  refine r_if_ne (fun c_29 => ?_) (fun c_29 => ?_)
                  · have c_29 := (not_congr (n_eq (a := 0) (b := 0) rfl rfl (by omega) (by omega))).mp c_29
                    omega
                  · have c_29 := (n_eq (a := 0) (b := 0) rfl rfl (by omega) (by omega)).mp c_29
                    refine r_nil ?_
                    refine E_go 1 rfl ?_
                    refine r_bipush ?_
                    refine r_iret rfl trivial ?_
                    exact hQ _ _ _ R.rel
            · have c_16 := (not_congr (jlt (b := 0) rfl (by omega))).mp c_16
              refine r_iload rfl ?_
              refine r_iconst ?_
              refine r_icmp_le (fun c_22 => ?_) (fun c_22 => ?_)
              · have c_22 := (jle (b := 5) rfl (by omega)).mp c_22
                exact absurd (show 0 ≤ w.toInt ∧ w.toInt < 6 by omega) hw
              · have c_22 := (not_congr (jle (b := 5) rfl (by omega))).mp c_22
                refine r_nil ?_
                refine E_go 1 rfl ?_
                refine r_bipush ?_
                refine r_iret rfl trivial ?_
                refine M_go (ls := [_, _, _, _, _, _, _, _]) (ml := 8) rfl rfl rfl (zl rfl) rfl ?_
                refine r_iload_n rfl ?_
                refine r_static (vs := [_]) (by decide) (zl rfl) rfl rfl (zl rfl) (Nat.le_refl _) rfl ?_
                refine s_misSheet (by omega) ?_
                rw [if_pos hx]
                refine r_if_eq (fun c_4 => ?_) (fun c_4 => ?_)
                · have c_4 := (n_eq (a := 1) (b := 0) rfl rfl (by omega) (by omega)).mp c_4
                  omega
                · have c_4 := (not_congr (n_eq (a := 1) (b := 0) rfl rfl (by omega) (by omega))).mp c_4
                  refine r_iload_n rfl ?_
                  refine r_i2l ?_
                  refine r_lconst ?_
                  refine r_ldc2_w ?_
                  refine r_static (vs := [_, _, _]) (by decide) (zl rfl) rfl rfl (zl rfl) (Nat.le_refl _) rfl ?_
                  refine s_in0 (by omega) (x := y) (k := 3) (Int32.toInt_toInt64 _) i64_0 rfl ?_
                  rw [if_pos hy]
                  refine r_if_eq (fun c_16 => ?_) (fun c_16 => ?_)
                  · have c_16 := (n_eq (a := 1) (b := 0) rfl rfl (by omega) (by omega)).mp c_16
                    omega
                  · have c_16 := (not_congr (n_eq (a := 1) (b := 0) rfl rfl (by omega) (by omega))).mp c_16
                    refine r_iload rfl ?_
                    refine r_i2l ?_
                    refine r_lconst ?_
                    refine r_ldc2_w ?_
                    refine r_static (vs := [_, _, _]) (by decide) (zl rfl) rfl rfl (zl rfl) (Nat.le_refl _) rfl ?_
                    refine s_in0 (by omega) (x := w) (k := 6) (Int32.toInt_toInt64 _) i64_0 rfl ?_
                    rw [if_neg hw]
                    refine r_if_ne (fun c_29 => ?_) (fun c_29 => ?_)
                    · have c_29 := (not_congr (n_eq (a := 0) (b := 0) rfl rfl (by omega) (by omega))).mp c_29
                      omega
                    · have c_29 := (n_eq (a := 0) (b := 0) rfl rfl (by omega) (by omega)).mp c_29
                      refine r_nil ?_
                      refine E_go 1 rfl ?_
                      refine r_bipush ?_
                      refine r_iret rfl trivial ?_
                      exact hQ _ _ _ R.rel
    · refine M_go (ls := [_, _, _, _, _, _, _, _, _]) (ml := 9) rfl rfl rfl (zl rfl) rfl ?_
      refine r_iload_n rfl ?_
      refine r_static (vs := [_]) (by decide) (zl rfl) rfl rfl (zl rfl) (Nat.le_refl _) rfl ?_
      refine s_isSheet (by omega) ?_
      rw [if_pos hx]
      refine r_if_eq (fun c_4 => ?_) (fun c_4 => ?_)
      · have c_4 := (n_eq (a := 1) (b := 0) rfl rfl (by omega) (by omega)).mp c_4
        omega
      · have c_4 := (not_congr (n_eq (a := 1) (b := 0) rfl rfl (by omega) (by omega))).mp c_4
        refine r_iload_n rfl ?_
        refine r_static (vs := [_]) (by decide) (zl rfl) rfl rfl (zl rfl) (Nat.le_refl _) rfl ?_
        refine s_isSort (by omega) ?_
        rw [if_neg hy]
        refine r_if_eq (fun c_11 => ?_) (fun c_11 => ?_)
        · have c_11 := (n_eq (a := 0) (b := 0) rfl rfl (by omega) (by omega)).mp c_11
          refine E_go 1 rfl ?_
          refine r_bipush ?_
          refine r_iret rfl trivial ?_
          refine M_go (ls := [_, _, _, _, _, _, _, _]) (ml := 8) rfl rfl rfl (zl rfl) rfl ?_
          refine r_iload_n rfl ?_
          refine r_static (vs := [_]) (by decide) (zl rfl) rfl rfl (zl rfl) (Nat.le_refl _) rfl ?_
          refine s_misSheet (by omega) ?_
          rw [if_pos hx]
          refine r_if_eq (fun c_4 => ?_) (fun c_4 => ?_)
          · have c_4 := (n_eq (a := 1) (b := 0) rfl rfl (by omega) (by omega)).mp c_4
            omega
          · have c_4 := (not_congr (n_eq (a := 1) (b := 0) rfl rfl (by omega) (by omega))).mp c_4
            refine r_iload_n rfl ?_
            refine r_i2l ?_
            refine r_lconst ?_
            refine r_ldc2_w ?_
            refine r_static (vs := [_, _, _]) (by decide) (zl rfl) rfl rfl (zl rfl) (Nat.le_refl _) rfl ?_
            refine s_in0 (by omega) (x := y) (k := 3) (Int32.toInt_toInt64 _) i64_0 rfl ?_
            rw [if_neg hy]
            refine r_if_eq (fun c_16 => ?_) (fun c_16 => ?_)
            · have c_16 := (n_eq (a := 0) (b := 0) rfl rfl (by omega) (by omega)).mp c_16
              refine E_go 1 rfl ?_
              refine r_bipush ?_
              refine r_iret rfl trivial ?_
              exact hQ _ _ _ R.rel
            · have c_16 := (not_congr (n_eq (a := 0) (b := 0) rfl rfl (by omega) (by omega))).mp c_16
              omega
        · have c_11 := (not_congr (n_eq (a := 0) (b := 0) rfl rfl (by omega) (by omega))).mp c_11
          omega
  · refine M_go (ls := [_, _, _, _, _, _, _, _, _]) (ml := 9) rfl rfl rfl (zl rfl) rfl ?_
    refine r_iload_n rfl ?_
    refine r_static (vs := [_]) (by decide) (zl rfl) rfl rfl (zl rfl) (Nat.le_refl _) rfl ?_
    refine s_isSheet (by omega) ?_
    rw [if_neg hx]
    refine r_if_eq (fun c_4 => ?_) (fun c_4 => ?_)
    · have c_4 := (n_eq (a := 0) (b := 0) rfl rfl (by omega) (by omega)).mp c_4
      refine E_go 1 rfl ?_
      refine r_bipush ?_
      refine r_iret rfl trivial ?_
      refine M_go (ls := [_, _, _, _, _, _, _, _]) (ml := 8) rfl rfl rfl (zl rfl) rfl ?_
      refine r_iload_n rfl ?_
      refine r_static (vs := [_]) (by decide) (zl rfl) rfl rfl (zl rfl) (Nat.le_refl _) rfl ?_
      refine s_misSheet (by omega) ?_
      rw [if_neg hx]
      refine r_if_eq (fun c_4 => ?_) (fun c_4 => ?_)
      · have c_4 := (n_eq (a := 0) (b := 0) rfl rfl (by omega) (by omega)).mp c_4
        refine E_go 1 rfl ?_
        refine r_bipush ?_
        refine r_iret rfl trivial ?_
        exact hQ _ _ _ R.rel
      · have c_4 := (not_congr (n_eq (a := 0) (b := 0) rfl rfl (by omega) (by omega))).mp c_4
        omega
    · have c_4 := (not_congr (n_eq (a := 0) (b := 0) rfl rfl (by omega) (by omega))).mp c_4
      omega
