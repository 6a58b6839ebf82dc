/-! the class reads tokens -/

theorem M_goE {xs : xSc} {m i ml lim : Nat} {vs ls : List Value} {h : xHp} {Q : Value → xHp → Prop} (hml : xMl i = ml) (hl : h.1 + xAl i = lim) (hn : (xSl2 vs).length ≤ ml) (hls : xEnt ml vs = ls) (he : E xs m i lim Q 0 ls [] h) : M xs (m + 1) i vs h Q := by
  subst hml; subst hl; subst hls
  exact ⟨hn, he⟩
theorem b01 {P : Prop} {inst : Decidable P} : (if P then (1 : Int32) else 0) = 0 ↔ ¬ P := by
  by_cases c : P
  · rw [if_pos c]; exact ⟨fun h => absurd h (by decide), fun h => absurd c h⟩
  · rw [if_neg c]; exact ⟨fun _ => c, fun _ => rfl⟩
theorem b01n {P : Prop} {inst : Decidable P} : ¬ (if P then (1 : Int32) else 0) = 0 ↔ P := by
  rw [b01]
  exact Classical.not_not
theorem lst_len {b : Nat → Int32} : ∀ n s, (lst b s n).length = n
  | 0, _ => rfl
  | n + 1, s => by rw [lst, List.length_cons, lst_len n (s + 1)]
theorem lst_ext {b : Nat → Int32} : ∀ n s (l : List Int32), l.length = n → (∀ j, j < n → b (s + j) = l.getD j 0) → lst b s n = l
  | 0, s, l, h, _ => by rw [List.length_eq_zero_iff.mp h]; rfl
  | n + 1, s, [], h, _ => absurd h (by simp)
  | n + 1, s, x :: l, h, hj => by
    rw [lst, lst_ext n (s + 1) l (by simpa using h) (fun j hn => by
      have := hj (j + 1) (by omega)
      rw [show s + 1 + j = s + (j + 1) by omega, this]
      rfl)]
    have := hj 0 (by omega)
    rw [Nat.add_zero] at this
    rw [this]
    rfl
theorem lst_at {b : Nat → Int32} : ∀ n s j, j < n → (lst b s n).getD j 0 = b (s + j)
  | 0, _, _, h => absurd h (by omega)
  | n + 1, s, 0, _ => rfl
  | n + 1, s, j + 1, h => by
    show (lst b (s + 1) n).getD j 0 = _
    rw [lst_at n (s + 1) j (by omega), show s + 1 + j = s + (j + 1) by omega]
theorem xSb_len : ∀ k, k < 13 → (xSb.getD k []).length = xSn.getD k 0 := by decide

set_option maxRecDepth 10000 in
theorem s_spells {xs : xSc} {m : Nat} {I : Nat → Nat → Int32} {L : Nat → Nat → Int64} {Q : Value → xHp → Prop} (hm : 5 ≤ m) {p s e : Nat} (hp : 1000 ≤ p ∧ p < 1013) (hse : s ≤ e) (h160 : e ≤ 160) (h5 : I 29 5 = io e) (h6 : I 29 6 = io s) (hQ : Q (.int (if lst (I 32) s (e - s) = xSb.getD (p - 1000) [] then 1 else 0)) (Hp I L)) : M xs m xi_X2_spells [.ref 29, .ref p] (Hp I L) Q := by
  obtain ⟨m, rfl⟩ : ∃ k, m = k + 1 := ⟨m - 1, by omega⟩
  have h37 := xCl_le hp
  have key : e - s = xCl p → ∀ d i, i + d = xCl p → (∀ j, j < i → I 32 (s + j) = xCh p j) → E xs m xi_X2_spells 82 Q 20 [.ref 29, .ref p, .int (io i)] [] (82, I, L, xF0) := by
    intro c_13 d
    induction d using Nat.strongRecOn with
    | _ d ih =>
    intro i hd hJ
    refine E_go 2 rfl ?_
    refine r_iload_n rfl ?_
    refine r_aload_n rfl ?_
    refine r_virtual (vs := []) (as := []) (by decide) (zl rfl) rfl rfl (zl rfl) (Nat.le_refl _) (Or.inr (Or.inl ⟨rfl, hp.1, hp.2⟩)) ?_
    refine s_length hp (by omega) ?_
    refine r_icmp_ge (fun c_25 => ?_) (fun c_25 => ?_)
    · have c_25 := (n_le (a := (xCl p)) (b := i) rfl rfl (by omega) (by omega)).mp c_25
      refine E_go 4 rfl ?_
      refine r_iconst ?_
      refine r_iret rfl (by first | exact Or.inl rfl | exact Or.inr rfl) ?_
      refine qi hQ (if_pos (lst_ext _ _ _ ((xSb_len _ (by omega)).trans c_13.symm) fun j hj => hJ j (by rw [c_13] at hj; omega)))
    · have c_25 := (not_congr (n_le (a := (xCl p)) (b := i) rfl rfl (by omega) (by omega))).mp c_25
      have c_25 := Nat.lt_of_not_le c_25
      refine r_aload_n rfl ?_
      refine r_getA (q := 32) (by decide) rfl rfl (by decide) ?_
      refine r_aload_n rfl ?_
      refine r_getI (by decide) rfl rfl (by decide) h6 ?_
      refine r_iload_n rfl ?_
      refine r_iadd ?_
      refine r_iaload (by decide) rfl (by decide) (ixE (n_add (a := s) (b := i) rfl rfl) (show (s + i) < 160 by omega) (by decide)) rfl ?_
      refine r_aload_n rfl ?_
      refine r_iload_n rfl ?_
      refine r_virtual (vs := []) (as := [_]) (by decide) (zl rfl) rfl rfl (zl rfl) (Nat.le_refl _) (Or.inr (Or.inl ⟨rfl, hp.1, hp.2⟩)) ?_
      refine s_charAt hp c_25 (by omega) ?_
      refine r_icmp_eq (fun c_44 => ?_) (fun c_44 => ?_)
      · refine E_go 3 rfl ?_
        refine r_iincN (y := io (i + 1)) (ls' := [_, _, _]) rfl (zt rfl) (n_add (a := i) (b := 1) rfl rfl) rfl ?_
        refine r_goto ?_
        refine ih (d - 1) (by omega) (i + 1) (by omega) (all_succ hJ c_44)
      · refine r_iconst ?_
        refine r_iret rfl (by first | exact Or.inl rfl | exact Or.inr rfl) ?_
        refine qi hQ (if_neg fun hw => c_44 ?_)
        have q1 := lst_at (b := I 32) (e - s) s i (by rw [c_13]; exact c_25)
        rw [hw] at q1
        exact q1.symm
  refine M_go (ls := [_, _, _]) (ml := 3) rfl rfl rfl (zl rfl) rfl ?_
  refine r_aload_n rfl ?_
  refine r_getI (by decide) rfl rfl (by decide) h5 ?_
  refine r_aload_n rfl ?_
  refine r_getI (by decide) rfl rfl (by decide) h6 ?_
  refine r_isub ?_
  refine r_aload_n rfl ?_
  refine r_virtual (vs := []) (as := []) (by decide) (zl rfl) rfl rfl (zl rfl) (Nat.le_refl _) (Or.inr (Or.inl ⟨rfl, hp.1, hp.2⟩)) ?_
  refine s_length hp (by omega) ?_
  refine r_icmp_eq (fun c_13 => ?_) (fun c_13 => ?_)
  · have c_13 := (n_eq (a := (e - s)) (b := (xCl p)) (n_sub (a := e) (b := s) rfl rfl (by omega)) rfl (by omega) (by omega)).mp c_13
    refine E_go 1 rfl ?_
    refine r_iconst ?_
    refine r_istore_n (ls' := [_, _, _]) (zt rfl) rfl ?_
    refine r_nil ?_
    exact key c_13 (xCl p) 0 (by omega) (fun j hj => absurd hj (by omega))
  · have c_13 := (not_congr (n_eq (a := (e - s)) (b := (xCl p)) (n_sub (a := e) (b := s) rfl rfl (by omega)) rfl (by omega) (by omega))).mp c_13
    refine r_iconst ?_
    refine r_iret rfl (by first | exact Or.inl rfl | exact Or.inr rfl) ?_
    refine qi hQ (if_neg fun hw => c_13 ?_)
    have q1 := congrArg List.length hw
    rw [lst_len, xSb_len _ (by omega)] at q1
    exact q1

set_option maxRecDepth 10000 in
theorem s_wordRead {xs : xSc} {m : Nat} {I : Nat → Nat → Int32} {L : Nat → Nat → Int64} {Q : Value → xHp → Prop} (hm : 6 ≤ m) {s e : Nat} (hse : s ≤ e) (h160 : e ≤ 160) (h5 : I 29 5 = io e) (h6 : I 29 6 = io s) (hQ : Q (.int (io (wd (lst (I 32) s (e - s))))) (Hp I L)) : M xs m xi_X2_wordRead [.ref 29] (Hp I L) Q := by
  obtain ⟨m, rfl⟩ : ∃ k, m = k + 1 := ⟨m - 1, by omega⟩
  obtain ⟨l, hl⟩ : ∃ l, lst (I 32) s (e - s) = l := ⟨_, rfl⟩
  rw [hl] at hQ
  refine M_go (ls := [_]) (ml := 1) rfl rfl rfl (zl rfl) rfl ?_
  refine r_aload_n rfl ?_
  refine r_ldcS (by decide) ?_
  refine r_virtual (vs := []) (as := [_]) (by decide) (zl rfl) rfl rfl (zl rfl) (Nat.le_refl _) (Or.inr (Or.inr ⟨zt rfl, rfl, zt rfl⟩)) ?_
  refine s_spells (by omega) (p := 1001) (by decide) hse h160 h5 h6 ?_
  rw [show xSb.getD (1001 - 1000) [] = [109, 97, 121] from rfl, hl]
  refine r_if_eq (fun c_6 => ?_) (fun c_6 => ?_)
  · refine E_go 1 rfl ?_
    refine r_aload_n rfl ?_
    refine r_ldcS (by decide) ?_
    refine r_virtual (vs := []) (as := [_]) (by decide) (zl rfl) rfl rfl (zl rfl) (Nat.le_refl _) (Or.inr (Or.inr ⟨zt rfl, rfl, zt rfl⟩)) ?_
    refine s_spells (by omega) (p := 1002) (by decide) hse h160 h5 h6 ?_
    rw [show xSb.getD (1002 - 1000) [] = [106, 111, 121, 115] from rfl, hl]
    refine r_if_eq (fun c_17 => ?_) (fun c_17 => ?_)
    · refine E_go 2 rfl ?_
      refine r_aload_n rfl ?_
      refine r_ldcS (by decide) ?_
      refine r_virtual (vs := []) (as := [_]) (by decide) (zl rfl) rfl rfl (zl rfl) (Nat.le_refl _) (Or.inr (Or.inr ⟨zt rfl, rfl, zt rfl⟩)) ?_
      refine s_spells (by omega) (p := 1003) (by decide) hse h160 h5 h6 ?_
      rw [show xSb.getD (1003 - 1000) [] = [99, 111, 111, 108, 115] from rfl, hl]
      refine r_if_eq (fun c_28 => ?_) (fun c_28 => ?_)
      · refine E_go 3 rfl ?_
        refine r_aload_n rfl ?_
        refine r_ldcS (by decide) ?_
        refine r_virtual (vs := []) (as := [_]) (by decide) (zl rfl) rfl rfl (zl rfl) (Nat.le_refl _) (Or.inr (Or.inr ⟨zt rfl, rfl, zt rfl⟩)) ?_
        refine s_spells (by omega) (p := 1004) (by decide) hse h160 h5 h6 ?_
        rw [show xSb.getD (1004 - 1000) [] = [111, 114] from rfl, hl]
        refine r_if_eq (fun c_39 => ?_) (fun c_39 => ?_)
        · refine E_go 4 rfl ?_
          refine r_aload_n rfl ?_
          refine r_ldcS (by decide) ?_
          refine r_virtual (vs := []) (as := [_]) (by decide) (zl rfl) rfl rfl (zl rfl) (Nat.le_refl _) (Or.inr (Or.inr ⟨zt rfl, rfl, zt rfl⟩)) ?_
          refine s_spells (by omega) (p := 1005) (by decide) hse h160 h5 h6 ?_
          rw [show xSb.getD (1005 - 1000) [] = [97, 110, 100] from rfl, hl]
          refine r_if_eq (fun c_51 => ?_) (fun c_51 => ?_)
          · refine E_go 5 rfl ?_
            refine r_aload_n rfl ?_
            refine r_ldcS (by decide) ?_
            refine r_virtual (vs := []) (as := [_]) (by decide) (zl rfl) rfl rfl (zl rfl) (Nat.le_refl _) (Or.inr (Or.inr ⟨zt rfl, rfl, zt rfl⟩)) ?_
            refine s_spells (by omega) (p := 1006) (by decide) hse h160 h5 h6 ?_
            rw [show xSb.getD (1006 - 1000) [] = [110, 111, 116] from rfl, hl]
            refine r_if_eq (fun c_63 => ?_) (fun c_63 => ?_)
            · refine E_go 6 rfl ?_
              refine r_aload_n rfl ?_
              refine r_ldcS (by decide) ?_
              refine r_virtual (vs := []) (as := [_]) (by decide) (zl rfl) rfl rfl (zl rfl) (Nat.le_refl _) (Or.inr (Or.inr ⟨zt rfl, rfl, zt rfl⟩)) ?_
              refine s_spells (by omega) (p := 1007) (by decide) hse h160 h5 h6 ?_
              rw [show xSb.getD (1007 - 1000) [] = [104, 101, 97, 116] from rfl, hl]
              refine r_if_eq (fun c_75 => ?_) (fun c_75 => ?_)
              · refine E_go 7 rfl ?_
                refine r_aload_n rfl ?_
                refine r_ldcS (by decide) ?_
                refine r_virtual (vs := []) (as := [_]) (by decide) (zl rfl) rfl rfl (zl rfl) (Nat.le_refl _) (Or.inr (Or.inr ⟨zt rfl, rfl, zt rfl⟩)) ?_
                refine s_spells (by omega) (p := 1008) (by decide) hse h160 h5 h6 ?_
                rw [show xSb.getD (1008 - 1000) [] = [116, 104, 105, 114, 115, 116] from rfl, hl]
                refine r_if_eq (fun c_87 => ?_) (fun c_87 => ?_)
                · refine E_go 8 rfl ?_
                  refine r_aload_n rfl ?_
                  refine r_ldcS (by decide) ?_
                  refine r_virtual (vs := []) (as := [_]) (by decide) (zl rfl) rfl rfl (zl rfl) (Nat.le_refl _) (Or.inr (Or.inr ⟨zt rfl, rfl, zt rfl⟩)) ?_
                  refine s_spells (by omega) (p := 1009) (by decide) hse h160 h5 h6 ?_
                  rw [show xSb.getD (1009 - 1000) [] = [110, 117, 109, 98, 101, 114] from rfl, hl]
                  refine r_if_eq (fun c_99 => ?_) (fun c_99 => ?_)
                  · refine E_go 9 rfl ?_
                    refine r_aload_n rfl ?_
                    refine r_ldcS (by decide) ?_
                    refine r_virtual (vs := []) (as := [_]) (by decide) (zl rfl) rfl rfl (zl rfl) (Nat.le_refl _) (Or.inr (Or.inr ⟨zt rfl, rfl, zt rfl⟩)) ?_
                    refine s_spells (by omega) (p := 1010) (by decide) hse h160 h5 h6 ?_
                    rw [show xSb.getD (1010 - 1000) [] = [115, 104, 111, 119, 110] from rfl, hl]
                    refine r_if_eq (fun c_111 => ?_) (fun c_111 => ?_)
                    · refine E_go 10 rfl ?_
                      refine r_aload_n rfl ?_
                      refine r_ldcS (by decide) ?_
                      refine r_virtual (vs := []) (as := [_]) (by decide) (zl rfl) rfl rfl (zl rfl) (Nat.le_refl _) (Or.inr (Or.inr ⟨zt rfl, rfl, zt rfl⟩)) ?_
                      refine s_spells (by omega) (p := 1011) (by decide) hse h160 h5 h6 ?_
                      rw [show xSb.getD (1011 - 1000) [] = [109, 105, 110, 117, 116, 101] from rfl, hl]
                      refine r_if_eq (fun c_123 => ?_) (fun c_123 => ?_)
                      · refine E_go 11 rfl ?_
                        refine r_aload_n rfl ?_
                        refine r_ldcS (by decide) ?_
                        refine r_virtual (vs := []) (as := [_]) (by decide) (zl rfl) rfl rfl (zl rfl) (Nat.le_refl _) (Or.inr (Or.inr ⟨zt rfl, rfl, zt rfl⟩)) ?_
                        refine s_spells (by omega) (p := 1012) (by decide) hse h160 h5 h6 ?_
                        rw [show xSb.getD (1012 - 1000) [] = [99, 117, 112, 115] from rfl, hl]
                        refine r_if_eq (fun c_135 => ?_) (fun c_135 => ?_)
                        · refine E_go 12 rfl ?_
                          refine r_iconst ?_
                          refine r_iret rfl trivial ?_
                          refine qi hQ ?_
                          rw [wd, if_neg (b01.mp c_6), if_neg (b01.mp c_17), if_neg (b01.mp c_28), if_neg (b01.mp c_39), if_neg (b01.mp c_51), if_neg (b01.mp c_63), if_neg (b01.mp c_75), if_neg (b01.mp c_87), if_neg (b01.mp c_99), if_neg (b01.mp c_111), if_neg (b01.mp c_123), if_neg (b01.mp c_135)]
                          rfl
                        · refine r_bipush ?_
                          refine r_iret rfl trivial ?_
                          refine qi hQ ?_
                          rw [wd, if_neg (b01.mp c_6), if_neg (b01.mp c_17), if_neg (b01.mp c_28), if_neg (b01.mp c_39), if_neg (b01.mp c_51), if_neg (b01.mp c_63), if_neg (b01.mp c_75), if_neg (b01.mp c_87), if_neg (b01.mp c_99), if_neg (b01.mp c_111), if_neg (b01.mp c_123), if_pos (b01n.mp c_135)]
                          rfl
                      · refine r_bipush ?_
                        refine r_iret rfl trivial ?_
                        refine qi hQ ?_
                        rw [wd, if_neg (b01.mp c_6), if_neg (b01.mp c_17), if_neg (b01.mp c_28), if_neg (b01.mp c_39), if_neg (b01.mp c_51), if_neg (b01.mp c_63), if_neg (b01.mp c_75), if_neg (b01.mp c_87), if_neg (b01.mp c_99), if_neg (b01.mp c_111), if_pos (b01n.mp c_123)]
                        rfl
                    · refine r_bipush ?_
                      refine r_iret rfl trivial ?_
                      refine qi hQ ?_
                      rw [wd, if_neg (b01.mp c_6), if_neg (b01.mp c_17), if_neg (b01.mp c_28), if_neg (b01.mp c_39), if_neg (b01.mp c_51), if_neg (b01.mp c_63), if_neg (b01.mp c_75), if_neg (b01.mp c_87), if_neg (b01.mp c_99), if_pos (b01n.mp c_111)]
                      rfl
                  · refine r_bipush ?_
                    refine r_iret rfl trivial ?_
                    refine qi hQ ?_
                    rw [wd, if_neg (b01.mp c_6), if_neg (b01.mp c_17), if_neg (b01.mp c_28), if_neg (b01.mp c_39), if_neg (b01.mp c_51), if_neg (b01.mp c_63), if_neg (b01.mp c_75), if_neg (b01.mp c_87), if_pos (b01n.mp c_99)]
                    rfl
                · refine r_bipush ?_
                  refine r_iret rfl trivial ?_
                  refine qi hQ ?_
                  rw [wd, if_neg (b01.mp c_6), if_neg (b01.mp c_17), if_neg (b01.mp c_28), if_neg (b01.mp c_39), if_neg (b01.mp c_51), if_neg (b01.mp c_63), if_neg (b01.mp c_75), if_pos (b01n.mp c_87)]
                  rfl
              · refine r_bipush ?_
                refine r_iret rfl trivial ?_
                refine qi hQ ?_
                rw [wd, if_neg (b01.mp c_6), if_neg (b01.mp c_17), if_neg (b01.mp c_28), if_neg (b01.mp c_39), if_neg (b01.mp c_51), if_neg (b01.mp c_63), if_pos (b01n.mp c_75)]
                rfl
            · refine r_bipush ?_
              refine r_iret rfl trivial ?_
              refine qi hQ ?_
              rw [wd, if_neg (b01.mp c_6), if_neg (b01.mp c_17), if_neg (b01.mp c_28), if_neg (b01.mp c_39), if_neg (b01.mp c_51), if_pos (b01n.mp c_63)]
              rfl
          · refine r_bipush ?_
            refine r_iret rfl trivial ?_
            refine qi hQ ?_
            rw [wd, if_neg (b01.mp c_6), if_neg (b01.mp c_17), if_neg (b01.mp c_28), if_neg (b01.mp c_39), if_pos (b01n.mp c_51)]
            rfl
        · refine r_bipush ?_
          refine r_iret rfl trivial ?_
          refine qi hQ ?_
          rw [wd, if_neg (b01.mp c_6), if_neg (b01.mp c_17), if_neg (b01.mp c_28), if_pos (b01n.mp c_39)]
          rfl
      · refine r_iconst ?_
        refine r_iret rfl trivial ?_
        refine qi hQ ?_
        rw [wd, if_neg (b01.mp c_6), if_neg (b01.mp c_17), if_pos (b01n.mp c_28)]
        rfl
    · refine r_iconst ?_
      refine r_iret rfl trivial ?_
      refine qi hQ ?_
      rw [wd, if_neg (b01.mp c_6), if_pos (b01n.mp c_17)]
      rfl
  · refine r_iconst ?_
    refine r_iret rfl trivial ?_
    refine qi hQ ?_
    rw [wd, if_pos (b01n.mp c_6)]
    rfl

/-- the reader's token, read from i on -/
def cK (b : Nat → Int32) (z i : Nat) (J : Nat → Nat → Int32) : Prop := J 29 5 = io (tst b z i) ∧ J 29 6 = io (tpl b z i) ∧ J 29 7 = io (tkd b z i) ∧ (tkd b z i = 2 → J 29 8 = twt b z i)
def sF (I J : Nat → Nat → Int32) : Prop := (∀ p, ¬ p = 29 → J p = I p) ∧ ∀ k, ¬ (5 ≤ k ∧ k ≤ 8) → J 29 k = I 29 k
theorem sF.refl {I : Nat → Nat → Int32} : sF I I := ⟨fun _ _ => rfl, fun _ _ => rfl⟩
theorem sF.up {k : Nat} {v : Int32} {I J : Nat → Nat → Int32} (h : sF I J) (h1 : 5 ≤ k) (h2 : k ≤ 8) : sF I (up2 J 29 k v) :=
  ⟨fun p hp => by rw [up2_q (by omega)]; exact h.1 p hp, fun j hj => by rw [up2_k (by omega)]; exact h.2 j hj⟩
theorem sF.trans {I J K : Nat → Nat → Int32} (h : sF I J) (h2 : sF J K) : sF I K := ⟨fun p hp => by rw [h2.1 p hp, h.1 p hp], fun k hk => by rw [h2.2 k hk, h.2 k hk]⟩
theorem isL_i (x : Int32) : (if x < 97 then (0 : Int32) else if 122 < x then 0 else 1) = if isL x = true then 1 else 0 := by
  unfold isL
  by_cases c : x < 97
  · rw [if_pos c, if_neg (by simp [Int32.not_le.mpr c])]
  · by_cases d : 122 < x
    · rw [if_neg c, if_pos d, if_neg (by simp [Int32.not_le.mpr d])]
    · rw [if_neg c, if_neg d, if_pos (by simp [Int32.not_lt.mp c, Int32.not_lt.mp d])]
theorem isD_i (x : Int32) : (if x < 48 then (0 : Int32) else if 57 < x then 0 else 1) = if isD x = true then 1 else 0 := by
  unfold isD
  by_cases c : x < 48
  · rw [if_pos c, if_neg (by simp [Int32.not_le.mpr c])]
  · by_cases d : 57 < x
    · rw [if_neg c, if_pos d, if_neg (by simp [Int32.not_le.mpr d])]
    · rw [if_neg c, if_neg d, if_pos (by simp [Int32.not_lt.mp c, Int32.not_lt.mp d])]
theorem ten_0 {b : Nat → Int32} {z s : Nat} (h : z ≤ s) : ten b z s = s ∧ tkk b z s = 0 := ⟨if_pos h, if_pos h⟩
theorem ten_1 {b : Nat → Int32} {z s : Nat} (h : s < z) (h1 : isL (b s) = true) : ten b z s = sc isL b z s ∧ tkk b z s = wd (lst b s (sc isL b z s - s)) := by
  have hz : ¬ z ≤ s := by omega
  exact ⟨by unfold ten; rw [if_neg hz, if_pos h1], by unfold tkk; rw [if_neg hz, if_pos h1]⟩
theorem ten_2 {b : Nat → Int32} {z s : Nat} (h : s < z) (h1 : ¬ isL (b s) = true) (h2 : isD (b s) = true) : ten b z s = sc isD b z s ∧ tkk b z s = (if 4 < sc isD b z s - s then 1 else 2) := by
  have hz : ¬ z ≤ s := by omega
  exact ⟨by unfold ten; rw [if_neg hz, if_neg h1, if_pos h2], by unfold tkk; rw [if_neg hz, if_neg h1, if_pos h2]⟩
theorem ten_3 {b : Nat → Int32} {z s : Nat} (h : s < z) (h1 : ¬ isL (b s) = true) (h2 : ¬ isD (b s) = true) : ten b z s = s + 1 ∧ tkk b z s = (if isS (b s) = true then (b s).toNatClampNeg else 1) := by
  have hz : ¬ z ≤ s := by omega
  exact ⟨by unfold ten; rw [if_neg hz, if_neg h1, if_neg h2], by unfold tkk; rw [if_neg hz, if_neg h1, if_neg h2]⟩
theorem wd_ne {l : List Int32} : ¬ wd l = 2 := by
  have q : ∀ {p : Prop} {inst : Decidable p} {a b : Nat}, ¬ a = 2 → ¬ b = 2 → ¬ (if p then a else b) = 2 := by
    intro p inst a b ha hb
    by_cases c : p
    · rw [if_pos c]; exact ha
    · rw [if_neg c]; exact hb
  unfold wd
  exact (q (by decide) (q (by decide) (q (by decide) (q (by decide) (q (by decide) (q (by decide) (q (by decide) (q (by decide) (q (by decide) (q (by decide) (q (by decide) (q (by decide) (by decide)))))))))))))
theorem isS_ge {x : Int32} (h : isS x = true) : 40 ≤ x := by
  simp only [isS, Bool.or_eq_true, decide_eq_true_eq] at h
  rcases h with ((((((h | h) | h) | h) | h) | h) | h) | h <;> subst h <;> decide
theorem isS_io {x : Int32} (h : isS x = true) : io x.toNatClampNeg = x := io_of (Int32.le_trans (by decide) (isS_ge h))
theorem isS_k {x : Int32} (h : isS x = true) : 40 ≤ x.toNatClampNeg := by
  simp only [isS, Bool.or_eq_true, decide_eq_true_eq] at h
  rcases h with ((((((h | h) | h) | h) | h) | h) | h) | h <;> subst h <;> decide
theorem isS_i (x : Int32) : (if x = 40 ∨ x = 41 ∨ x = 59 ∨ x = 43 ∨ x = 45 ∨ x = 42 ∨ x = 60 ∨ x = 61 then (1 : Int32) else 0) = if isS x = true then 1 else 0 := by
  have q : (x = 40 ∨ x = 41 ∨ x = 59 ∨ x = 43 ∨ x = 45 ∨ x = 42 ∨ x = 60 ∨ x = 61) ↔ isS x = true := by
    simp only [isS, Bool.or_eq_true, decide_eq_true_eq, or_assoc]
  by_cases c : isS x = true
  · rw [if_pos c, if_pos (q.mpr c)]
  · rw [if_neg c, if_neg fun h => c (q.mp h)]
theorem cK_of {b : Nat → Int32} {z i s : Nat} {J : Nat → Nat → Int32} (hs : tpl b z i = s) (h5 : J 29 5 = io (ten b z s)) (h6 : J 29 6 = io s) (h7 : J 29 7 = io (tkk b z s)) (h8 : tkk b z s = 2 → J 29 8 = dec b s (sc isD b z s - s)) : cK b z i J := by
  unfold cK tst tkd twt
  rw [hs]
  exact ⟨h5, h6, h7, h8⟩
theorem dec_s {b : Nat → Int32} {s e : Nat} (h : s ≤ e) : dec b s (e + 1 - s) = dec b s (e - s) * 10 + b e - 48 := by
  rw [show e + 1 - s = (e - s) + 1 by omega, dec, show s + (e - s) = e by omega]

set_option maxRecDepth 10000 in
theorem s_steps {xs : xSc} {m : Nat} {I : Nat → Nat → Int32} {L : Nat → Nat → Int64} {Q : Value → xHp → Prop} (hm : 7 ≤ m) {i z : Nat} (hz : I 29 0 = io z) (h160 : z ≤ 160) (hi : i ≤ z) (h5 : I 29 5 = io i) (hQ : ∀ J, sF I J → cK (I 32) z i J → Q .null (Hp J L)) : M xs m xi_X2_steps [.ref 29] (Hp I L) Q := by
  obtain ⟨m, rfl⟩ : ∃ k, m = k + 1 := ⟨m - 1, by omega⟩
  have keyW0 : ∀ s, tpl (I 32) z i = s → s < z → isL (I 32 s) = true → ∀ e J, s ≤ e → e ≤ z → e = sc isL (I 32) z s → sF I J → J 29 5 = io e → J 29 6 = io s → E xs m xi_X2_steps 82 Q 133 [.ref 29] [] (82, J, L, xF0) := by
    intro s hs hlt hL e J hse hez he hJ h5 h6
    refine E_go 5 rfl ?_
    refine r_aload_n rfl ?_
    refine r_aload_n rfl ?_
    refine r_virtual (vs := []) (as := []) (by decide) (zl rfl) rfl rfl (zl rfl) (Nat.le_refl _) (Or.inr (Or.inr ⟨zt rfl, rfl, zt rfl⟩)) ?_
    refine s_wordRead (by omega) (s := s) (e := e) hse (by omega) h5 h6 ?_
    rw [hJ.1 32 (by omega)]
    refine r_putI rfl rfl (by decide) ?_
    refine r_goto ?_
    refine E_go 14 rfl ?_
    refine r_ret rfl ?_
    refine hQ _ (hJ.up (by omega) (by omega)) (cK_of hs ?_ ?_ ?_ ?_)
    · rw [(ten_1 hlt hL).1, ← he]; exact h5
    · exact h6
    · rw [(ten_1 hlt hL).2, ← he]; rfl
    · rw [(ten_1 hlt hL).2]; exact fun q => absurd q wd_ne
  have keyL : ∀ s, tpl (I 32) z i = s → s < z → isL (I 32 s) = true → ∀ d e, e + d = z → sc isL (I 32) z s = sc isL (I 32) z e → s ≤ e → ∀ J, sF I J → J 29 5 = io e → J 29 6 = io s → E xs m xi_X2_steps 82 Q 94 [.ref 29] [] (82, J, L, xF0) := by
    intro s hs hlt hL d
    have keyW := keyW0 s hs hlt hL
    induction d using Nat.strongRecOn with
    | _ d ih =>
      intro e hd hse0 hse J hJ h5 h6
      refine E_go 4 rfl ?_
      refine r_aload_n rfl ?_
      refine r_getI (by decide) rfl rfl (by decide) h5 ?_
      refine r_aload_n rfl ?_
      refine r_getI (by decide) rfl rfl (by decide) ((hJ.2 0 (by omega)).trans hz) ?_
      refine r_icmp_ge (fun c_102 => ?_) (fun c_102 => ?_)
      · have c_102 := (n_le (a := z) (b := e) rfl rfl (by omega) (by omega)).mp c_102
        refine keyW e J hse (by omega) ?_ hJ h5 h6
        first
          | exact (hse0.trans (sc_n (fun h => absurd h (by omega)))).symm
          | exact (hse0.trans (sc_n (fun _ => b01.mp c_117))).symm
      · have c_102 := (not_congr (n_le (a := z) (b := e) rfl rfl (by omega) (by omega))).mp c_102
        refine r_aload_n rfl ?_
        refine r_getA (q := 32) (by decide) rfl rfl (by decide) ?_
        refine r_aload_n rfl ?_
        refine r_getI (by decide) rfl rfl (by decide) h5 ?_
        refine r_iaload (by decide) rfl (by decide) (ixE rfl (show e < 160 by omega) (by decide)) (congrFun (hJ.1 32 (by omega)) e) ?_
        refine r_static (vs := [_]) (by decide) (zl rfl) rfl rfl (zl rfl) (Nat.le_refl _) rfl ?_
        refine s_X2_isLetter (by omega) ?_
        rw [isL_i]
        refine r_if_eq (fun c_117 => ?_) (fun c_117 => ?_)
        · refine keyW e J hse (by omega) ?_ hJ h5 h6
          first
            | exact (hse0.trans (sc_n (fun h => absurd h (by omega)))).symm
            | exact (hse0.trans (sc_n (fun _ => b01.mp c_117))).symm
        · refine r_aload_n rfl ?_
          refine r_dup rfl ?_
          refine r_getI (by decide) rfl rfl (by decide) h5 ?_
          refine r_iconst ?_
          refine r_iadd ?_
          refine r_putI rfl rfl (by decide) ?_
          refine r_goto ?_
          refine ih (d - 1) (by omega) (e + 1) (by omega) (hse0.trans (sc_s (by omega) (b01n.mp c_117))) (by omega) _ (hJ.up (by omega) (by omega)) (by rw [up2_at]; exact n_add (a := e) (b := 1) rfl rfl) h6
  have keyN0 : ∀ s, tpl (I 32) z i = s → s < z → ¬ isL (I 32 s) = true → isD (I 32 s) = true → ∀ e J, s ≤ e → e ≤ z → e = sc isD (I 32) z s → sF I J → J 29 5 = io e → J 29 6 = io s → J 29 8 = dec (I 32) s (e - s) → E xs m xi_X2_steps 82 Q 227 [.ref 29] [] (82, J, L, xF0) := by
    intro s hs hlt hL hD e J hse hez he hJ h5 h6 h8
    refine E_go 8 rfl ?_
    refine r_aload_n rfl ?_
    refine r_aload_n rfl ?_
    refine r_getI (by decide) rfl rfl (by decide) h5 ?_
    refine r_aload_n rfl ?_
    refine r_getI (by decide) rfl rfl (by decide) h6 ?_
    refine r_isub ?_
    refine r_iconst ?_
    refine r_icmp_le (fun c_238 => ?_) (fun c_238 => ?_)
    · have c_238 := (n_le (a := (e - s)) (b := 4) (n_sub (a := e) (b := s) rfl rfl (by omega)) rfl (by omega) (by omega)).mp c_238
      refine E_go 9 rfl ?_
      refine r_iconst ?_
      refine r_nil ?_
      refine E_go 10 rfl ?_
      refine r_putI rfl rfl (by decide) ?_
      refine r_goto ?_
      refine E_go 14 rfl ?_
      refine r_ret rfl ?_
      refine hQ _ (hJ.up (by omega) (by omega)) (cK_of hs ?_ ?_ ?_ ?_)
      · rw [(ten_2 hlt hL hD).1, ← he]; exact h5
      · exact h6
      · rw [(ten_2 hlt hL hD).2, ← he, if_neg (by omega)]; rfl
      · exact fun _ => by rw [← he]; exact h8
    · have c_238 := (not_congr (n_le (a := (e - s)) (b := 4) (n_sub (a := e) (b := s) rfl rfl (by omega)) rfl (by omega) (by omega))).mp c_238
      refine r_iconst ?_
      refine r_goto ?_
      refine E_go 10 rfl ?_
      refine r_putI rfl rfl (by decide) ?_
      refine r_goto ?_
      refine E_go 14 rfl ?_
      refine r_ret rfl ?_
      refine hQ _ (hJ.up (by omega) (by omega)) (cK_of hs ?_ ?_ ?_ ?_)
      · rw [(ten_2 hlt hL hD).1, ← he]; exact h5
      · exact h6
      · rw [(ten_2 hlt hL hD).2, ← he, if_pos (by omega)]; rfl
      · exact fun _ => by rw [← he]; exact h8
  have keyD : ∀ s, tpl (I 32) z i = s → s < z → ¬ isL (I 32 s) = true → isD (I 32 s) = true → ∀ d e, e + d = z → sc isD (I 32) z s = sc isD (I 32) z e → s ≤ e → ∀ J, sF I J → J 29 5 = io e → J 29 6 = io s → J 29 8 = dec (I 32) s (e - s) → E xs m xi_X2_steps 82 Q 164 [.ref 29] [] (82, J, L, xF0) := by
    intro s hs hlt hL hD d
    have keyN := keyN0 s hs hlt hL hD
    induction d using Nat.strongRecOn with
    | _ d ih =>
      intro e hd hse0 hse J hJ h5 h6 h8
      refine E_go 7 rfl ?_
      refine r_aload_n rfl ?_
      refine r_getI (by decide) rfl rfl (by decide) h5 ?_
      refine r_aload_n rfl ?_
      refine r_getI (by decide) rfl rfl (by decide) ((hJ.2 0 (by omega)).trans hz) ?_
      refine r_icmp_ge (fun c_172 => ?_) (fun c_172 => ?_)
      · have c_172 := (n_le (a := z) (b := e) rfl rfl (by omega) (by omega)).mp c_172
        refine keyN e J hse (by omega) ?_ hJ h5 h6 h8
        first
          | exact (hse0.trans (sc_n (fun h => absurd h (by omega)))).symm
          | exact (hse0.trans (sc_n (fun _ => b01.mp c_187))).symm
      · have c_172 := (not_congr (n_le (a := z) (b := e) rfl rfl (by omega) (by omega))).mp c_172
        refine r_aload_n rfl ?_
        refine r_getA (q := 32) (by decide) rfl rfl (by decide) ?_
        refine r_aload_n rfl ?_
        refine r_getI (by decide) rfl rfl (by decide) h5 ?_
        refine r_iaload (by decide) rfl (by decide) (ixE rfl (show e < 160 by omega) (by decide)) (congrFun (hJ.1 32 (by omega)) e) ?_
        refine r_static (vs := [_]) (by decide) (zl rfl) rfl rfl (zl rfl) (Nat.le_refl _) rfl ?_
        refine s_X2_isDigit (by omega) ?_
        rw [isD_i]
        refine r_if_eq (fun c_187 => ?_) (fun c_187 => ?_)
        · refine keyN e J hse (by omega) ?_ hJ h5 h6 h8
          first
            | exact (hse0.trans (sc_n (fun h => absurd h (by omega)))).symm
            | exact (hse0.trans (sc_n (fun _ => b01.mp c_187))).symm
        · refine r_aload_n rfl ?_
          refine r_aload_n rfl ?_
          refine r_getI (by decide) rfl rfl (by decide) rfl ?_
          refine r_bipush ?_
          refine r_imul ?_
          refine r_aload_n rfl ?_
          refine r_getA (q := 32) (by decide) rfl rfl (by decide) ?_
          refine r_aload_n rfl ?_
          refine r_getI (by decide) rfl rfl (by decide) h5 ?_
          refine r_iaload (by decide) rfl (by decide) (ixE rfl (show e < 160 by omega) (by decide)) (congrFun (hJ.1 32 (by omega)) e) ?_
          refine r_iadd ?_
          refine r_bipush ?_
          refine r_isub ?_
          refine r_putI rfl rfl (by decide) ?_
          refine r_aload_n rfl ?_
          refine r_dup rfl ?_
          refine r_getI (by decide) rfl rfl (by decide) h5 ?_
          refine r_iconst ?_
          refine r_iadd ?_
          refine r_putI rfl rfl (by decide) ?_
          refine r_goto ?_
          refine ih (d - 1) (by omega) (e + 1) (by omega) (hse0.trans (sc_s (by omega) (b01n.mp c_187))) (by omega) _ ((hJ.up (by omega) (by omega)).up (by omega) (by omega)) (by rw [up2_at]; exact n_add (a := e) (b := 1) rfl rfl) h6 ?_
          rw [dec_s hse]
          show J 29 8 * 10 + I 32 e - 48 = _
          rw [h8]
  have key52 : ∀ s J, s ≤ z → tpl (I 32) z i = s → sF I J → J 29 5 = io s → E xs m xi_X2_steps 82 Q 52 [.ref 29] [] (82, J, L, xF0) := by
    intro s J hsz hs hJ h5
    refine E_go 2 rfl ?_
    refine r_aload_n rfl ?_
    refine r_aload_n rfl ?_
    refine r_getI (by decide) rfl rfl (by decide) h5 ?_
    refine r_putI rfl rfl (by decide) ?_
    refine r_aload_n rfl ?_
    refine r_getI (by decide) rfl rfl (by decide) h5 ?_
    refine r_aload_n rfl ?_
    refine r_getI (by decide) rfl rfl (by decide) ((hJ.2 0 (by omega)).trans hz) ?_
    refine r_icmp_lt (fun c_68 => ?_) (fun c_68 => ?_)
    · have c_68 := (n_lt (a := s) (b := z) rfl rfl (by omega) (by omega)).mp c_68
      refine E_go 3 rfl ?_
      refine r_aload_n rfl ?_
      refine r_getA (q := 32) (by decide) rfl rfl (by decide) ?_
      refine r_aload_n rfl ?_
      refine r_getI (by decide) rfl rfl (by decide) h5 ?_
      refine r_iaload (by decide) rfl (by decide) (ixE rfl (show s < 160 by omega) (by decide)) (congrFun (hJ.1 32 (by omega)) s) ?_
      refine r_static (vs := [_]) (by decide) (zl rfl) rfl rfl (zl rfl) (Nat.le_refl _) rfl ?_
      refine s_X2_isLetter (by omega) ?_
      rw [isL_i]
      refine r_if_eq (fun c_91 => ?_) (fun c_91 => ?_)
      · refine E_go 6 rfl ?_
        refine r_aload_n rfl ?_
        refine r_getA (q := 32) (by decide) rfl rfl (by decide) ?_
        refine r_aload_n rfl ?_
        refine r_getI (by decide) rfl rfl (by decide) h5 ?_
        refine r_iaload (by decide) rfl (by decide) (ixE rfl (show s < 160 by omega) (by decide)) (congrFun (hJ.1 32 (by omega)) s) ?_
        refine r_static (vs := [_]) (by decide) (zl rfl) rfl rfl (zl rfl) (Nat.le_refl _) rfl ?_
        refine s_X2_isDigit (by omega) ?_
        rw [isD_i]
        refine r_if_eq (fun c_156 => ?_) (fun c_156 => ?_)
        · refine E_go 11 rfl ?_
          refine r_aload_n rfl ?_
          refine r_aload_n rfl ?_
          refine r_getA (q := 32) (by decide) rfl rfl (by decide) ?_
          refine r_aload_n rfl ?_
          refine r_getI (by decide) rfl rfl (by decide) h5 ?_
          refine r_iaload (by decide) rfl (by decide) (ixE rfl (show s < 160 by omega) (by decide)) (congrFun (hJ.1 32 (by omega)) s) ?_
          refine r_static (vs := [_]) (by decide) (zl rfl) rfl rfl (zl rfl) (Nat.le_refl _) rfl ?_
          refine s_X2_isSign (by omega) ?_
          rw [isS_i]
          refine r_if_eq (fun c_265 => ?_) (fun c_265 => ?_)
          · refine E_go 12 rfl ?_
            refine r_iconst ?_
            refine r_nil ?_
            refine E_go 13 rfl ?_
            refine r_putI rfl rfl (by decide) ?_
            refine r_aload_n rfl ?_
            refine r_dup rfl ?_
            refine r_getI (by decide) rfl rfl (by decide) h5 ?_
            refine r_iconst ?_
            refine r_iadd ?_
            refine r_putI rfl rfl (by decide) ?_
            refine r_nil ?_
            refine E_go 14 rfl ?_
            refine r_ret rfl ?_
            refine hQ _ (((hJ.up (by omega) (by omega)).up (by omega) (by omega)).up (by omega) (by omega)) (cK_of hs ?_ ?_ ?_ ?_)
            · rw [(ten_3 (by omega) (b01.mp c_91) (b01.mp c_156)).1, up2_at]; exact n_add (a := s) (b := 1) rfl rfl
            · simp [up2]
            · rw [(ten_3 (by omega) (b01.mp c_91) (b01.mp c_156)).2, if_neg (b01.mp c_265)]; rfl
            · rw [(ten_3 (by omega) (b01.mp c_91) (b01.mp c_156)).2, if_neg (b01.mp c_265)]; exact fun q => absurd q (by decide)
          · refine r_aload_n rfl ?_
            refine r_getA (q := 32) (by decide) rfl rfl (by decide) ?_
            refine r_aload_n rfl ?_
            refine r_getI (by decide) rfl rfl (by decide) h5 ?_
            refine r_iaload (by decide) rfl (by decide) (ixE rfl (show s < 160 by omega) (by decide)) (congrFun (hJ.1 32 (by omega)) s) ?_
            refine r_goto ?_
            refine E_go 13 rfl ?_
            refine r_putI rfl rfl (by decide) ?_
            refine r_aload_n rfl ?_
            refine r_dup rfl ?_
            refine r_getI (by decide) rfl rfl (by decide) h5 ?_
            refine r_iconst ?_
            refine r_iadd ?_
            refine r_putI rfl rfl (by decide) ?_
            refine r_nil ?_
            refine E_go 14 rfl ?_
            refine r_ret rfl ?_
            refine hQ _ (((hJ.up (by omega) (by omega)).up (by omega) (by omega)).up (by omega) (by omega)) (cK_of hs ?_ ?_ ?_ ?_)
            · rw [(ten_3 (by omega) (b01.mp c_91) (b01.mp c_156)).1, up2_at]; exact n_add (a := s) (b := 1) rfl rfl
            · simp [up2]
            · rw [(ten_3 (by omega) (b01.mp c_91) (b01.mp c_156)).2, if_pos (b01n.mp c_265)]; exact (isS_io (b01n.mp c_265)).symm
            · rw [(ten_3 (by omega) (b01.mp c_91) (b01.mp c_156)).2, if_pos (b01n.mp c_265)]; intro q; have q2 := isS_k (b01n.mp c_265); omega
        · refine r_aload_n rfl ?_
          refine r_iconst ?_
          refine r_putI rfl rfl (by decide) ?_
          refine r_nil ?_
          refine keyD s hs (by omega) (b01.mp c_91) (b01n.mp c_156) (z - s) s (by omega) rfl (Nat.le_refl _) _ ((hJ.up (by omega) (by omega)).up (by omega) (by omega)) h5 (by simp [up2]) ?_
          rw [Nat.sub_self]; rfl
      · refine r_nil ?_
        refine keyL s hs (by omega) (b01n.mp c_91) (z - s) s (by omega) rfl (Nat.le_refl _) _ (hJ.up (by omega) (by omega)) h5 (by simp [up2])
    · have c_68 := (not_congr (n_lt (a := s) (b := z) rfl rfl (by omega) (by omega))).mp c_68
      refine r_aload_n rfl ?_
      refine r_iconst ?_
      refine r_putI rfl rfl (by decide) ?_
      refine r_goto ?_
      refine E_go 14 rfl ?_
      refine r_ret rfl ?_
      refine hQ _ ((hJ.up (by omega) (by omega)).up (by omega) (by omega)) (cK_of hs ?_ ?_ ?_ ?_)
      · rw [(ten_0 (by omega)).1]; exact h5
      · simp [up2]
      · rw [(ten_0 (by omega)).2]; rfl
      · rw [(ten_0 (by omega)).2]; exact fun q => absurd q (by decide)
  have key : ∀ d k, k + d = z → tpl (I 32) z i = sc isB (I 32) z k → ∀ J, sF I J → J 29 5 = io k → E xs m xi_X2_steps 82 Q 0 [.ref 29] [] (82, J, L, xF0) := by
    intro d
    induction d using Nat.strongRecOn with
    | _ d ih =>
    intro k hd hk0 J hJ h5
    refine E_go 0 rfl ?_
    refine r_aload_n rfl ?_
    refine r_getI (by decide) rfl rfl (by decide) h5 ?_
    refine r_aload_n rfl ?_
    refine r_getI (by decide) rfl rfl (by decide) ((hJ.2 0 (by omega)).trans hz) ?_
    refine r_icmp_ge (fun c_8 => ?_) (fun c_8 => ?_)
    · have c_8 := (n_le (a := z) (b := k) rfl rfl (by omega) (by omega)).mp c_8
      refine key52 k J (by omega) (hk0.trans (sc_n ?_)) hJ h5
      first
        | exact fun h => absurd h (by omega)
        | exact fun _ => by simp [isB, c_22, c_36]
    · have c_8 := (not_congr (n_le (a := z) (b := k) rfl rfl (by omega) (by omega))).mp c_8
      refine r_aload_n rfl ?_
      refine r_getA (q := 32) (by decide) rfl rfl (by decide) ?_
      refine r_aload_n rfl ?_
      refine r_getI (by decide) rfl rfl (by decide) h5 ?_
      refine r_iaload (by decide) rfl (by decide) (ixE rfl (show k < 160 by omega) (by decide)) (congrFun (hJ.1 32 (by omega)) k) ?_
      refine r_bipush ?_
      refine r_icmp_eq (fun c_22 => ?_) (fun c_22 => ?_)
      · refine E_go 1 rfl ?_
        refine r_aload_n rfl ?_
        refine r_dup rfl ?_
        refine r_getI (by decide) rfl rfl (by decide) h5 ?_
        refine r_iconst ?_
        refine r_iadd ?_
        refine r_putI rfl rfl (by decide) ?_
        refine r_goto ?_
        refine ih (d - 1) (by omega) (k + 1) (by omega) (hk0.trans (sc_s (by omega) ?_)) _ (hJ.up (by omega) (by omega)) (by rw [up2_at]; exact n_add (a := k) (b := 1) rfl rfl)
        first
          | (simp [isB, c_22]; done)
          | (simp [isB, c_36]; done)
      · refine r_aload_n rfl ?_
        refine r_getA (q := 32) (by decide) rfl rfl (by decide) ?_
        refine r_aload_n rfl ?_
        refine r_getI (by decide) rfl rfl (by decide) h5 ?_
        refine r_iaload (by decide) rfl (by decide) (ixE rfl (show k < 160 by omega) (by decide)) (congrFun (hJ.1 32 (by omega)) k) ?_
        refine r_bipush ?_
        refine r_icmp_ne (fun c_36 => ?_) (fun c_36 => ?_)
        · refine key52 k J (by omega) (hk0.trans (sc_n ?_)) hJ h5
          first
            | exact fun h => absurd h (by omega)
            | exact fun _ => by simp [isB, c_22, c_36]
        · refine r_nil ?_
          refine E_go 1 rfl ?_
          refine r_aload_n rfl ?_
          refine r_dup rfl ?_
          refine r_getI (by decide) rfl rfl (by decide) h5 ?_
          refine r_iconst ?_
          refine r_iadd ?_
          refine r_putI rfl rfl (by decide) ?_
          refine r_goto ?_
          refine ih (d - 1) (by omega) (k + 1) (by omega) (hk0.trans (sc_s (by omega) ?_)) _ (hJ.up (by omega) (by omega)) (by rw [up2_at]; exact n_add (a := k) (b := 1) rfl rfl)
          first
            | (simp [isB, c_22]; done)
            | (simp [isB, c_36]; done)
  exact M_goE (ml := 1) rfl rfl (zl rfl) rfl (key (z - i) i (by omega) rfl I sF.refl h5)



set_option maxRecDepth 10000 in
theorem s_writes {xs : xSc} {m : Nat} {I : Nat → Nat → Int32} {L : Nat → Nat → Int64} {Q : Value → xHp → Prop} (hm : 1 ≤ m) {u : Nat} {x : Int32} (h160 : u ≤ 160) (hu : I 29 4 = io u) (hQ1 : u < 160 → Q .null (Hp (up2 (up2 I 30 u x) 29 4 (io u + 1)) L)) (hQ0 : ¬ u < 160 → Q .null (Hp I L)) : M xs m xi_X2_writes [.ref 29, .int x] (Hp I L) Q := by
  obtain ⟨m, rfl⟩ : ∃ k, m = k + 1 := ⟨m - 1, by omega⟩
  refine M_go (ls := [_, _]) (ml := 2) rfl rfl rfl (zl rfl) rfl ?_
  refine r_aload_n rfl ?_
  refine r_getI (by decide) rfl rfl (by decide) hu ?_
  refine r_sipush ?_
  refine r_icmp_ge (fun c_7 => ?_) (fun c_7 => ?_)
  · have c_7 := (n_le (a := 160) (b := u) rfl rfl (by omega) (by omega)).mp c_7
    refine E_go 1 rfl ?_
    refine r_ret rfl ?_
    exact hQ0 (by omega)
  · have c_7 := (not_congr (n_le (a := 160) (b := u) rfl rfl (by omega) (by omega))).mp c_7
    refine r_aload_n rfl ?_
    refine r_getA (q := 30) (by decide) rfl rfl (by decide) ?_
    refine r_aload_n rfl ?_
    refine r_getI (by decide) rfl rfl (by decide) hu ?_
    refine r_iload_n rfl ?_
    refine r_iastore rfl (by decide) (ixE rfl (show u < 160 by omega) (by decide)) ?_
    refine r_aload_n rfl ?_
    refine r_dup rfl ?_
    refine r_getI (by decide) rfl rfl (by decide) hu ?_
    refine r_iconst ?_
    refine r_iadd ?_
    refine r_putI rfl rfl (by decide) ?_
    refine r_nil ?_
    refine E_go 1 rfl ?_
    refine r_ret rfl ?_
    exact hQ1 (by omega)
