/-! the class reads a text while only its own cells are made -/

/-- the references when only the first 61 cells are made -/
def xF1 (p k : Nat) : Option Nat := if p < 61 then xF0 p k else none
abbrev Hq (I : Nat → Nat → Int32) (L : Nat → Nat → Int64) : xHp := (61, I, L, xF1)
set_option maxRecDepth 10000 in
theorem s_spells_6 {xs : xSc} {m : Nat} {I : Nat → Nat → Int32} {L : Nat → Nat → Int64} {Q : Value → xHp → Prop} (hm : 5 ≤ m) {p s e : Nat} (hp : 1000 ≤ p ∧ p < 1013) (hse : s ≤ e) (h160 : e ≤ 160) (h5 : I 29 5 = io e) (h6 : I 29 6 = io s) (hQ : Q (.int (if lst (I 32) s (e - s) = xSb.getD (p - 1000) [] then 1 else 0)) (Hq I L)) : M xs m xi_X2_spells [.ref 29, .ref p] (Hq I L) Q := by
  obtain ⟨m, rfl⟩ : ∃ k, m = k + 1 := ⟨m - 1, by omega⟩
  have h37 := xCl_le hp
  have key : e - s = xCl p → ∀ d i, i + d = xCl p → (∀ j, j < i → I 32 (s + j) = xCh p j) → E xs m xi_X2_spells 61 Q 20 [.ref 29, .ref p, .int (io i)] [] (61, I, L, xF1) := by
    intro c_13 d
    induction d using Nat.strongRecOn with
    | _ d ih =>
    intro i hd hJ
    refine E_go 2 rfl ?_
    refine r_iload_n rfl ?_
    refine r_aload_n rfl ?_
    refine r_virtual (vs := []) (as := []) (by decide) (zl rfl) rfl rfl (zl rfl) (Nat.le_refl _) (Or.inr (Or.inl ⟨rfl, hp.1, hp.2⟩)) ?_
    refine s_length hp (by omega) ?_
    refine r_icmp_ge (fun c_25 => ?_) (fun c_25 => ?_)
    · have c_25 := (n_le (a := (xCl p)) (b := i) rfl rfl (by omega) (by omega)).mp c_25
      refine E_go 4 rfl ?_
      refine r_iconst ?_
      refine r_iret rfl (by first | exact Or.inl rfl | exact Or.inr rfl) ?_
      refine qi hQ (if_pos (lst_ext _ _ _ ((xSb_len _ (by omega)).trans c_13.symm) fun j hj => hJ j (by rw [c_13] at hj; omega)))
    · have c_25 := (not_congr (n_le (a := (xCl p)) (b := i) rfl rfl (by omega) (by omega))).mp c_25
      have c_25 := Nat.lt_of_not_le c_25
      refine r_aload_n rfl ?_
      refine r_getA (q := 32) (by decide) rfl rfl (by decide) ?_
      refine r_aload_n rfl ?_
      refine r_getI (by decide) rfl rfl (by decide) h6 ?_
      refine r_iload_n rfl ?_
      refine r_iadd ?_
      refine r_iaload (by decide) rfl (by decide) (ixE (n_add (a := s) (b := i) rfl rfl) (show (s + i) < 160 by omega) (by decide)) rfl ?_
      refine r_aload_n rfl ?_
      refine r_iload_n rfl ?_
      refine r_virtual (vs := []) (as := [_]) (by decide) (zl rfl) rfl rfl (zl rfl) (Nat.le_refl _) (Or.inr (Or.inl ⟨rfl, hp.1, hp.2⟩)) ?_
      refine s_charAt hp c_25 (by omega) ?_
      refine r_icmp_eq (fun c_44 => ?_) (fun c_44 => ?_)
      · refine E_go 3 rfl ?_
        refine r_iincN (y := io (i + 1)) (ls' := [_, _, _]) rfl (zt rfl) (n_add (a := i) (b := 1) rfl rfl) rfl ?_
        refine r_goto ?_
        refine ih (d - 1) (by omega) (i + 1) (by omega) (all_succ hJ c_44)
      · refine r_iconst ?_
        refine r_iret rfl (by first | exact Or.inl rfl | exact Or.inr rfl) ?_
        refine qi hQ (if_neg fun hw => c_44 ?_)
        have q1 := lst_at (b := I 32) (e - s) s i (by rw [c_13]; exact c_25)
        rw [hw] at q1
        exact q1.symm
  refine M_go (ls := [_, _, _]) (ml := 3) rfl rfl rfl (zl rfl) rfl ?_
  refine r_aload_n rfl ?_
  refine r_getI (by decide) rfl rfl (by decide) h5 ?_
  refine r_aload_n rfl ?_
  refine r_getI (by decide) rfl rfl (by decide) h6 ?_
  refine r_isub ?_
  refine r_aload_n rfl ?_
  refine r_virtual (vs := []) (as := []) (by decide) (zl rfl) rfl rfl (zl rfl) (Nat.le_refl _) (Or.inr (Or.inl ⟨rfl, hp.1, hp.2⟩)) ?_
  refine s_length hp (by omega) ?_
  refine r_icmp_eq (fun c_13 => ?_) (fun c_13 => ?_)
  · have c_13 := (n_eq (a := (e - s)) (b := (xCl p)) (n_sub (a := e) (b := s) rfl rfl (by omega)) rfl (by omega) (by omega)).mp c_13
    refine E_go 1 rfl ?_
    refine r_iconst ?_
    refine r_istore_n (ls' := [_, _, _]) (zt rfl) rfl ?_
    refine r_nil ?_
    exact key c_13 (xCl p) 0 (by omega) (fun j hj => absurd hj (by omega))
  · have c_13 := (not_congr (n_eq (a := (e - s)) (b := (xCl p)) (n_sub (a := e) (b := s) rfl rfl (by omega)) rfl (by omega) (by omega))).mp c_13
    refine r_iconst ?_
    refine r_iret rfl (by first | exact Or.inl rfl | exact Or.inr rfl) ?_
    refine qi hQ (if_neg fun hw => c_13 ?_)
    have q1 := congrArg List.length hw
    rw [lst_len, xSb_len _ (by omega)] at q1
    exact q1

set_option maxRecDepth 10000 in
theorem s_wordRead_6 {xs : xSc} {m : Nat} {I : Nat → Nat → Int32} {L : Nat → Nat → Int64} {Q : Value → xHp → Prop} (hm : 6 ≤ m) {s e : Nat} (hse : s ≤ e) (h160 : e ≤ 160) (h5 : I 29 5 = io e) (h6 : I 29 6 = io s) (hQ : Q (.int (io (wd (lst (I 32) s (e - s))))) (Hq I L)) : M xs m xi_X2_wordRead [.ref 29] (Hq I L) Q := by
  obtain ⟨m, rfl⟩ : ∃ k, m = k + 1 := ⟨m - 1, by omega⟩
  obtain ⟨l, hl⟩ : ∃ l, lst (I 32) s (e - s) = l := ⟨_, rfl⟩
  rw [hl] at hQ
  refine M_go (ls := [_]) (ml := 1) rfl rfl rfl (zl rfl) rfl ?_
  refine r_aload_n rfl ?_
  refine r_ldcS (by decide) ?_
  refine r_virtual (vs := []) (as := [_]) (by decide) (zl rfl) rfl rfl (zl rfl) (Nat.le_refl _) (Or.inr (Or.inr ⟨zt rfl, rfl, zt rfl⟩)) ?_
  refine s_spells_6 (by omega) (p := 1001) (by decide) hse h160 h5 h6 ?_
  rw [show xSb.getD (1001 - 1000) [] = [109, 97, 121] from rfl, hl]
  refine r_if_eq (fun c_6 => ?_) (fun c_6 => ?_)
  · refine E_go 1 rfl ?_
    refine r_aload_n rfl ?_
    refine r_ldcS (by decide) ?_
    refine r_virtual (vs := []) (as := [_]) (by decide) (zl rfl) rfl rfl (zl rfl) (Nat.le_refl _) (Or.inr (Or.inr ⟨zt rfl, rfl, zt rfl⟩)) ?_
    refine s_spells_6 (by omega) (p := 1002) (by decide) hse h160 h5 h6 ?_
    rw [show xSb.getD (1002 - 1000) [] = [106, 111, 121, 115] from rfl, hl]
    refine r_if_eq (fun c_17 => ?_) (fun c_17 => ?_)
    · refine E_go 2 rfl ?_
      refine r_aload_n rfl ?_
      refine r_ldcS (by decide) ?_
      refine r_virtual (vs := []) (as := [_]) (by decide) (zl rfl) rfl rfl (zl rfl) (Nat.le_refl _) (Or.inr (Or.inr ⟨zt rfl, rfl, zt rfl⟩)) ?_
      refine s_spells_6 (by omega) (p := 1003) (by decide) hse h160 h5 h6 ?_
      rw [show xSb.getD (1003 - 1000) [] = [99, 111, 111, 108, 115] from rfl, hl]
      refine r_if_eq (fun c_28 => ?_) (fun c_28 => ?_)
      · refine E_go 3 rfl ?_
        refine r_aload_n rfl ?_
        refine r_ldcS (by decide) ?_
        refine r_virtual (vs := []) (as := [_]) (by decide) (zl rfl) rfl rfl (zl rfl) (Nat.le_refl _) (Or.inr (Or.inr ⟨zt rfl, rfl, zt rfl⟩)) ?_
        refine s_spells_6 (by omega) (p := 1004) (by decide) hse h160 h5 h6 ?_
        rw [show xSb.getD (1004 - 1000) [] = [111, 114] from rfl, hl]
        refine r_if_eq (fun c_39 => ?_) (fun c_39 => ?_)
        · refine E_go 4 rfl ?_
          refine r_aload_n rfl ?_
          refine r_ldcS (by decide) ?_
          refine r_virtual (vs := []) (as := [_]) (by decide) (zl rfl) rfl rfl (zl rfl) (Nat.le_refl _) (Or.inr (Or.inr ⟨zt rfl, rfl, zt rfl⟩)) ?_
          refine s_spells_6 (by omega) (p := 1005) (by decide) hse h160 h5 h6 ?_
          rw [show xSb.getD (1005 - 1000) [] = [97, 110, 100] from rfl, hl]
          refine r_if_eq (fun c_51 => ?_) (fun c_51 => ?_)
          · refine E_go 5 rfl ?_
            refine r_aload_n rfl ?_
            refine r_ldcS (by decide) ?_
            refine r_virtual (vs := []) (as := [_]) (by decide) (zl rfl) rfl rfl (zl rfl) (Nat.le_refl _) (Or.inr (Or.inr ⟨zt rfl, rfl, zt rfl⟩)) ?_
            refine s_spells_6 (by omega) (p := 1006) (by decide) hse h160 h5 h6 ?_
            rw [show xSb.getD (1006 - 1000) [] = [110, 111, 116] from rfl, hl]
            refine r_if_eq (fun c_63 => ?_) (fun c_63 => ?_)
            · refine E_go 6 rfl ?_
              refine r_aload_n rfl ?_
              refine r_ldcS (by decide) ?_
              refine r_virtual (vs := []) (as := [_]) (by decide) (zl rfl) rfl rfl (zl rfl) (Nat.le_refl _) (Or.inr (Or.inr ⟨zt rfl, rfl, zt rfl⟩)) ?_
              refine s_spells_6 (by omega) (p := 1007) (by decide) hse h160 h5 h6 ?_
              rw [show xSb.getD (1007 - 1000) [] = [104, 101, 97, 116] from rfl, hl]
              refine r_if_eq (fun c_75 => ?_) (fun c_75 => ?_)
              · refine E_go 7 rfl ?_
                refine r_aload_n rfl ?_
                refine r_ldcS (by decide) ?_
                refine r_virtual (vs := []) (as := [_]) (by decide) (zl rfl) rfl rfl (zl rfl) (Nat.le_refl _) (Or.inr (Or.inr ⟨zt rfl, rfl, zt rfl⟩)) ?_
                refine s_spells_6 (by omega) (p := 1008) (by decide) hse h160 h5 h6 ?_
                rw [show xSb.getD (1008 - 1000) [] = [116, 104, 105, 114, 115, 116] from rfl, hl]
                refine r_if_eq (fun c_87 => ?_) (fun c_87 => ?_)
                · refine E_go 8 rfl ?_
                  refine r_aload_n rfl ?_
                  refine r_ldcS (by decide) ?_
                  refine r_virtual (vs := []) (as := [_]) (by decide) (zl rfl) rfl rfl (zl rfl) (Nat.le_refl _) (Or.inr (Or.inr ⟨zt rfl, rfl, zt rfl⟩)) ?_
                  refine s_spells_6 (by omega) (p := 1009) (by decide) hse h160 h5 h6 ?_
                  rw [show xSb.getD (1009 - 1000) [] = [110, 117, 109, 98, 101, 114] from rfl, hl]
                  refine r_if_eq (fun c_99 => ?_) (fun c_99 => ?_)
                  · refine E_go 9 rfl ?_
                    refine r_aload_n rfl ?_
                    refine r_ldcS (by decide) ?_
                    refine r_virtual (vs := []) (as := [_]) (by decide) (zl rfl) rfl rfl (zl rfl) (Nat.le_refl _) (Or.inr (Or.inr ⟨zt rfl, rfl, zt rfl⟩)) ?_
                    refine s_spells_6 (by omega) (p := 1010) (by decide) hse h160 h5 h6 ?_
                    rw [show xSb.getD (1010 - 1000) [] = [115, 104, 111, 119, 110] from rfl, hl]
                    refine r_if_eq (fun c_111 => ?_) (fun c_111 => ?_)
                    · refine E_go 10 rfl ?_
                      refine r_aload_n rfl ?_
                      refine r_ldcS (by decide) ?_
                      refine r_virtual (vs := []) (as := [_]) (by decide) (zl rfl) rfl rfl (zl rfl) (Nat.le_refl _) (Or.inr (Or.inr ⟨zt rfl, rfl, zt rfl⟩)) ?_
                      refine s_spells_6 (by omega) (p := 1011) (by decide) hse h160 h5 h6 ?_
                      rw [show xSb.getD (1011 - 1000) [] = [109, 105, 110, 117, 116, 101] from rfl, hl]
                      refine r_if_eq (fun c_123 => ?_) (fun c_123 => ?_)
                      · refine E_go 11 rfl ?_
                        refine r_aload_n rfl ?_
                        refine r_ldcS (by decide) ?_
                        refine r_virtual (vs := []) (as := [_]) (by decide) (zl rfl) rfl rfl (zl rfl) (Nat.le_refl _) (Or.inr (Or.inr ⟨zt rfl, rfl, zt rfl⟩)) ?_
                        refine s_spells_6 (by omega) (p := 1012) (by decide) hse h160 h5 h6 ?_
                        rw [show xSb.getD (1012 - 1000) [] = [99, 117, 112, 115] from rfl, hl]
                        refine r_if_eq (fun c_135 => ?_) (fun c_135 => ?_)
                        · refine E_go 12 rfl ?_
                          refine r_iconst ?_
                          refine r_iret rfl trivial ?_
                          refine qi hQ ?_
                          rw [wd, if_neg (b01.mp c_6), if_neg (b01.mp c_17), if_neg (b01.mp c_28), if_neg (b01.mp c_39), if_neg (b01.mp c_51), if_neg (b01.mp c_63), if_neg (b01.mp c_75), if_neg (b01.mp c_87), if_neg (b01.mp c_99), if_neg (b01.mp c_111), if_neg (b01.mp c_123), if_neg (b01.mp c_135)]
                          rfl
                        · refine r_bipush ?_
                          refine r_iret rfl trivial ?_
                          refine qi hQ ?_
                          rw [wd, if_neg (b01.mp c_6), if_neg (b01.mp c_17), if_neg (b01.mp c_28), if_neg (b01.mp c_39), if_neg (b01.mp c_51), if_neg (b01.mp c_63), if_neg (b01.mp c_75), if_neg (b01.mp c_87), if_neg (b01.mp c_99), if_neg (b01.mp c_111), if_neg (b01.mp c_123), if_pos (b01n.mp c_135)]
                          rfl
                      · refine r_bipush ?_
                        refine r_iret rfl trivial ?_
                        refine qi hQ ?_
                        rw [wd, if_neg (b01.mp c_6), if_neg (b01.mp c_17), if_neg (b01.mp c_28), if_neg (b01.mp c_39), if_neg (b01.mp c_51), if_neg (b01.mp c_63), if_neg (b01.mp c_75), if_neg (b01.mp c_87), if_neg (b01.mp c_99), if_neg (b01.mp c_111), if_pos (b01n.mp c_123)]
                        rfl
                    · refine r_bipush ?_
                      refine r_iret rfl trivial ?_
                      refine qi hQ ?_
                      rw [wd, if_neg (b01.mp c_6), if_neg (b01.mp c_17), if_neg (b01.mp c_28), if_neg (b01.mp c_39), if_neg (b01.mp c_51), if_neg (b01.mp c_63), if_neg (b01.mp c_75), if_neg (b01.mp c_87), if_neg (b01.mp c_99), if_pos (b01n.mp c_111)]
                      rfl
                  · refine r_bipush ?_
                    refine r_iret rfl trivial ?_
                    refine qi hQ ?_
                    rw [wd, if_neg (b01.mp c_6), if_neg (b01.mp c_17), if_neg (b01.mp c_28), if_neg (b01.mp c_39), if_neg (b01.mp c_51), if_neg (b01.mp c_63), if_neg (b01.mp c_75), if_neg (b01.mp c_87), if_pos (b01n.mp c_99)]
                    rfl
                · refine r_bipush ?_
                  refine r_iret rfl trivial ?_
                  refine qi hQ ?_
                  rw [wd, if_neg (b01.mp c_6), if_neg (b01.mp c_17), if_neg (b01.mp c_28), if_neg (b01.mp c_39), if_neg (b01.mp c_51), if_neg (b01.mp c_63), if_neg (b01.mp c_75), if_pos (b01n.mp c_87)]
                  rfl
              · refine r_bipush ?_
                refine r_iret rfl trivial ?_
                refine qi hQ ?_
                rw [wd, if_neg (b01.mp c_6), if_neg (b01.mp c_17), if_neg (b01.mp c_28), if_neg (b01.mp c_39), if_neg (b01.mp c_51), if_neg (b01.mp c_63), if_pos (b01n.mp c_75)]
                rfl
            · refine r_bipush ?_
              refine r_iret rfl trivial ?_
              refine qi hQ ?_
              rw [wd, if_neg (b01.mp c_6), if_neg (b01.mp c_17), if_neg (b01.mp c_28), if_neg (b01.mp c_39), if_neg (b01.mp c_51), if_pos (b01n.mp c_63)]
              rfl
          · refine r_bipush ?_
            refine r_iret rfl trivial ?_
            refine qi hQ ?_
            rw [wd, if_neg (b01.mp c_6), if_neg (b01.mp c_17), if_neg (b01.mp c_28), if_neg (b01.mp c_39), if_pos (b01n.mp c_51)]
            rfl
        · refine r_bipush ?_
          refine r_iret rfl trivial ?_
          refine qi hQ ?_
          rw [wd, if_neg (b01.mp c_6), if_neg (b01.mp c_17), if_neg (b01.mp c_28), if_pos (b01n.mp c_39)]
          rfl
      · refine r_iconst ?_
        refine r_iret rfl trivial ?_
        refine qi hQ ?_
        rw [wd, if_neg (b01.mp c_6), if_neg (b01.mp c_17), if_pos (b01n.mp c_28)]
        rfl
    · refine r_iconst ?_
      refine r_iret rfl trivial ?_
      refine qi hQ ?_
      rw [wd, if_neg (b01.mp c_6), if_pos (b01n.mp c_17)]
      rfl
  · refine r_iconst ?_
    refine r_iret rfl trivial ?_
    refine qi hQ ?_
    rw [wd, if_pos (b01n.mp c_6)]
    rfl

set_option maxRecDepth 10000 in
theorem s_steps_6 {xs : xSc} {m : Nat} {I : Nat → Nat → Int32} {L : Nat → Nat → Int64} {Q : Value → xHp → Prop} (hm : 7 ≤ m) {i z : Nat} (hz : I 29 0 = io z) (h160 : z ≤ 160) (hi : i ≤ z) (h5 : I 29 5 = io i) (hQ : ∀ J, sF I J → cK (I 32) z i J → Q .null (Hq J L)) : M xs m xi_X2_steps [.ref 29] (Hq I L) Q := by
  obtain ⟨m, rfl⟩ : ∃ k, m = k + 1 := ⟨m - 1, by omega⟩
  have keyW0 : ∀ s, tpl (I 32) z i = s → s < z → isL (I 32 s) = true → ∀ e J, s ≤ e → e ≤ z → e = sc isL (I 32) z s → sF I J → J 29 5 = io e → J 29 6 = io s → E xs m xi_X2_steps 61 Q 133 [.ref 29] [] (61, J, L, xF1) := by
    intro s hs hlt hL e J hse hez he hJ h5 h6
    refine E_go 5 rfl ?_
    refine r_aload_n rfl ?_
    refine r_aload_n rfl ?_
    refine r_virtual (vs := []) (as := []) (by decide) (zl rfl) rfl rfl (zl rfl) (Nat.le_refl _) (Or.inr (Or.inr ⟨zt rfl, rfl, zt rfl⟩)) ?_
    refine s_wordRead_6 (by omega) (s := s) (e := e) hse (by omega) h5 h6 ?_
    rw [hJ.1 32 (by omega)]
    refine r_putI rfl rfl (by decide) ?_
    refine r_goto ?_
    refine E_go 14 rfl ?_
    refine r_ret rfl ?_
    refine hQ _ (hJ.up (by omega) (by omega)) (cK_of hs ?_ ?_ ?_ ?_)
    · rw [(ten_1 hlt hL).1, ← he]; exact h5
    · exact h6
    · rw [(ten_1 hlt hL).2, ← he]; rfl
    · rw [(ten_1 hlt hL).2]; exact fun q => absurd q wd_ne
  have keyL : ∀ s, tpl (I 32) z i = s → s < z → isL (I 32 s) = true → ∀ d e, e + d = z → sc isL (I 32) z s = sc isL (I 32) z e → s ≤ e → ∀ J, sF I J → J 29 5 = io e → J 29 6 = io s → E xs m xi_X2_steps 61 Q 94 [.ref 29] [] (61, J, L, xF1) := by
    intro s hs hlt hL d
    have keyW := keyW0 s hs hlt hL
    induction d using Nat.strongRecOn with
    | _ d ih =>
      intro e hd hse0 hse J hJ h5 h6
      refine E_go 4 rfl ?_
      refine r_aload_n rfl ?_
      refine r_getI (by decide) rfl rfl (by decide) h5 ?_
      refine r_aload_n rfl ?_
      refine r_getI (by decide) rfl rfl (by decide) ((hJ.2 0 (by omega)).trans hz) ?_
      refine r_icmp_ge (fun c_102 => ?_) (fun c_102 => ?_)
      · have c_102 := (n_le (a := z) (b := e) rfl rfl (by omega) (by omega)).mp c_102
        refine keyW e J hse (by omega) ?_ hJ h5 h6
        first
          | exact (hse0.trans (sc_n (fun h => absurd h (by omega)))).symm
          | exact (hse0.trans (sc_n (fun _ => b01.mp c_117))).symm
      · have c_102 := (not_congr (n_le (a := z) (b := e) rfl rfl (by omega) (by omega))).mp c_102
        refine r_aload_n rfl ?_
        refine r_getA (q := 32) (by decide) rfl rfl (by decide) ?_
        refine r_aload_n rfl ?_
        refine r_getI (by decide) rfl rfl (by decide) h5 ?_
        refine r_iaload (by decide) rfl (by decide) (ixE rfl (show e < 160 by omega) (by decide)) (congrFun (hJ.1 32 (by omega)) e) ?_
        refine r_static (vs := [_]) (by decide) (zl rfl) rfl rfl (zl rfl) (Nat.le_refl _) rfl ?_
        refine s_X2_isLetter (by omega) ?_
        rw [isL_i]
        refine r_if_eq (fun c_117 => ?_) (fun c_117 => ?_)
        · refine keyW e J hse (by omega) ?_ hJ h5 h6
          first
            | exact (hse0.trans (sc_n (fun h => absurd h (by omega)))).symm
            | exact (hse0.trans (sc_n (fun _ => b01.mp c_117))).symm
        · refine r_aload_n rfl ?_
          refine r_dup rfl ?_
          refine r_getI (by decide) rfl rfl (by decide) h5 ?_
          refine r_iconst ?_
          refine r_iadd ?_
          refine r_putI rfl rfl (by decide) ?_
          refine r_goto ?_
          refine ih (d - 1) (by omega) (e + 1) (by omega) (hse0.trans (sc_s (by omega) (b01n.mp c_117))) (by omega) _ (hJ.up (by omega) (by omega)) (by rw [up2_at]; exact n_add (a := e) (b := 1) rfl rfl) h6
  have keyN0 : ∀ s, tpl (I 32) z i = s → s < z → ¬ isL (I 32 s) = true → isD (I 32 s) = true → ∀ e J, s ≤ e → e ≤ z → e = sc isD (I 32) z s → sF I J → J 29 5 = io e → J 29 6 = io s → J 29 8 = dec (I 32) s (e - s) → E xs m xi_X2_steps 61 Q 227 [.ref 29] [] (61, J, L, xF1) := by
    intro s hs hlt hL hD e J hse hez he hJ h5 h6 h8
    refine E_go 8 rfl ?_
    refine r_aload_n rfl ?_
    refine r_aload_n rfl ?_
    refine r_getI (by decide) rfl rfl (by decide) h5 ?_
    refine r_aload_n rfl ?_
    refine r_getI (by decide) rfl rfl (by decide) h6 ?_
    refine r_isub ?_
    refine r_iconst ?_
    refine r_icmp_le (fun c_238 => ?_) (fun c_238 => ?_)
    · have c_238 := (n_le (a := (e - s)) (b := 4) (n_sub (a := e) (b := s) rfl rfl (by omega)) rfl (by omega) (by omega)).mp c_238
      refine E_go 9 rfl ?_
      refine r_iconst ?_
      refine r_nil ?_
      refine E_go 10 rfl ?_
      refine r_putI rfl rfl (by decide) ?_
      refine r_goto ?_
      refine E_go 14 rfl ?_
      refine r_ret rfl ?_
      refine hQ _ (hJ.up (by omega) (by omega)) (cK_of hs ?_ ?_ ?_ ?_)
      · rw [(ten_2 hlt hL hD).1, ← he]; exact h5
      · exact h6
      · rw [(ten_2 hlt hL hD).2, ← he, if_neg (by omega)]; rfl
      · exact fun _ => by rw [← he]; exact h8
    · have c_238 := (not_congr (n_le (a := (e - s)) (b := 4) (n_sub (a := e) (b := s) rfl rfl (by omega)) rfl (by omega) (by omega))).mp c_238
      refine r_iconst ?_
      refine r_goto ?_
      refine E_go 10 rfl ?_
      refine r_putI rfl rfl (by decide) ?_
      refine r_goto ?_
      refine E_go 14 rfl ?_
      refine r_ret rfl ?_
      refine hQ _ (hJ.up (by omega) (by omega)) (cK_of hs ?_ ?_ ?_ ?_)
      · rw [(ten_2 hlt hL hD).1, ← he]; exact h5
      · exact h6
      · rw [(ten_2 hlt hL hD).2, ← he, if_pos (by omega)]; rfl
      · exact fun _ => by rw [← he]; exact h8
  have keyD : ∀ s, tpl (I 32) z i = s → s < z → ¬ isL (I 32 s) = true → isD (I 32 s) = true → ∀ d e, e + d = z → sc isD (I 32) z s = sc isD (I 32) z e → s ≤ e → ∀ J, sF I J → J 29 5 = io e → J 29 6 = io s → J 29 8 = dec (I 32) s (e - s) → E xs m xi_X2_steps 61 Q 164 [.ref 29] [] (61, J, L, xF1) := by
    intro s hs hlt hL hD d
    have keyN := keyN0 s hs hlt hL hD
    induction d using Nat.strongRecOn with
    | _ d ih =>
      intro e hd hse0 hse J hJ h5 h6 h8
      refine E_go 7 rfl ?_
      refine r_aload_n rfl ?_
      refine r_getI (by decide) rfl rfl (by decide) h5 ?_
      refine r_aload_n rfl ?_
      refine r_getI (by decide) rfl rfl (by decide) ((hJ.2 0 (by omega)).trans hz) ?_
      refine r_icmp_ge (fun c_172 => ?_) (fun c_172 => ?_)
      · have c_172 := (n_le (a := z) (b := e) rfl rfl (by omega) (by omega)).mp c_172
        refine keyN e J hse (by omega) ?_ hJ h5 h6 h8
        first
          | exact (hse0.trans (sc_n (fun h => absurd h (by omega)))).symm
          | exact (hse0.trans (sc_n (fun _ => b01.mp c_187))).symm
      · have c_172 := (not_congr (n_le (a := z) (b := e) rfl rfl (by omega) (by omega))).mp c_172
        refine r_aload_n rfl ?_
        refine r_getA (q := 32) (by decide) rfl rfl (by decide) ?_
        refine r_aload_n rfl ?_
        refine r_getI (by decide) rfl rfl (by decide) h5 ?_
        refine r_iaload (by decide) rfl (by decide) (ixE rfl (show e < 160 by omega) (by decide)) (congrFun (hJ.1 32 (by omega)) e) ?_
        refine r_static (vs := [_]) (by decide) (zl rfl) rfl rfl (zl rfl) (Nat.le_refl _) rfl ?_
        refine s_X2_isDigit (by omega) ?_
        rw [isD_i]
        refine r_if_eq (fun c_187 => ?_) (fun c_187 => ?_)
        · refine keyN e J hse (by omega) ?_ hJ h5 h6 h8
          first
            | exact (hse0.trans (sc_n (fun h => absurd h (by omega)))).symm
            | exact (hse0.trans (sc_n (fun _ => b01.mp c_187))).symm
        · refine r_aload_n rfl ?_
          refine r_aload_n rfl ?_
          refine r_getI (by decide) rfl rfl (by decide) rfl ?_
          refine r_bipush ?_
          refine r_imul ?_
          refine r_aload_n rfl ?_
          refine r_getA (q := 32) (by decide) rfl rfl (by decide) ?_
          refine r_aload_n rfl ?_
          refine r_getI (by decide) rfl rfl (by decide) h5 ?_
          refine r_iaload (by decide) rfl (by decide) (ixE rfl (show e < 160 by omega) (by decide)) (congrFun (hJ.1 32 (by omega)) e) ?_
          refine r_iadd ?_
          refine r_bipush ?_
          refine r_isub ?_
          refine r_putI rfl rfl (by decide) ?_
          refine r_aload_n rfl ?_
          refine r_dup rfl ?_
          refine r_getI (by decide) rfl rfl (by decide) h5 ?_
          refine r_iconst ?_
          refine r_iadd ?_
          refine r_putI rfl rfl (by decide) ?_
          refine r_goto ?_
          refine ih (d - 1) (by omega) (e + 1) (by omega) (hse0.trans (sc_s (by omega) (b01n.mp c_187))) (by omega) _ ((hJ.up (by omega) (by omega)).up (by omega) (by omega)) (by rw [up2_at]; exact n_add (a := e) (b := 1) rfl rfl) h6 ?_
          rw [dec_s hse]
          show J 29 8 * 10 + I 32 e - 48 = _
          rw [h8]
  have key52 : ∀ s J, s ≤ z → tpl (I 32) z i = s → sF I J → J 29 5 = io s → E xs m xi_X2_steps 61 Q 52 [.ref 29] [] (61, J, L, xF1) := by
    intro s J hsz hs hJ h5
    refine E_go 2 rfl ?_
    refine r_aload_n rfl ?_
    refine r_aload_n rfl ?_
    refine r_getI (by decide) rfl rfl (by decide) h5 ?_
    refine r_putI rfl rfl (by decide) ?_
    refine r_aload_n rfl ?_
    refine r_getI (by decide) rfl rfl (by decide) h5 ?_
    refine r_aload_n rfl ?_
    refine r_getI (by decide) rfl rfl (by decide) ((hJ.2 0 (by omega)).trans hz) ?_
    refine r_icmp_lt (fun c_68 => ?_) (fun c_68 => ?_)
    · have c_68 := (n_lt (a := s) (b := z) rfl rfl (by omega) (by omega)).mp c_68
      refine E_go 3 rfl ?_
      refine r_aload_n rfl ?_
      refine r_getA (q := 32) (by decide) rfl rfl (by decide) ?_
      refine r_aload_n rfl ?_
      refine r_getI (by decide) rfl rfl (by decide) h5 ?_
      refine r_iaload (by decide) rfl (by decide) (ixE rfl (show s < 160 by omega) (by decide)) (congrFun (hJ.1 32 (by omega)) s) ?_
      refine r_static (vs := [_]) (by decide) (zl rfl) rfl rfl (zl rfl) (Nat.le_refl _) rfl ?_
      refine s_X2_isLetter (by omega) ?_
      rw [isL_i]
      refine r_if_eq (fun c_91 => ?_) (fun c_91 => ?_)
      · refine E_go 6 rfl ?_
        refine r_aload_n rfl ?_
        refine r_getA (q := 32) (by decide) rfl rfl (by decide) ?_
        refine r_aload_n rfl ?_
        refine r_getI (by decide) rfl rfl (by decide) h5 ?_
        refine r_iaload (by decide) rfl (by decide) (ixE rfl (show s < 160 by omega) (by decide)) (congrFun (hJ.1 32 (by omega)) s) ?_
        refine r_static (vs := [_]) (by decide) (zl rfl) rfl rfl (zl rfl) (Nat.le_refl _) rfl ?_
        refine s_X2_isDigit (by omega) ?_
        rw [isD_i]
        refine r_if_eq (fun c_156 => ?_) (fun c_156 => ?_)
        · refine E_go 11 rfl ?_
          refine r_aload_n rfl ?_
          refine r_aload_n rfl ?_
          refine r_getA (q := 32) (by decide) rfl rfl (by decide) ?_
          refine r_aload_n rfl ?_
          refine r_getI (by decide) rfl rfl (by decide) h5 ?_
          refine r_iaload (by decide) rfl (by decide) (ixE rfl (show s < 160 by omega) (by decide)) (congrFun (hJ.1 32 (by omega)) s) ?_
          refine r_static (vs := [_]) (by decide) (zl rfl) rfl rfl (zl rfl) (Nat.le_refl _) rfl ?_
          refine s_X2_isSign (by omega) ?_
          rw [isS_i]
          refine r_if_eq (fun c_265 => ?_) (fun c_265 => ?_)
          · refine E_go 12 rfl ?_
            refine r_iconst ?_
            refine r_nil ?_
            refine E_go 13 rfl ?_
            refine r_putI rfl rfl (by decide) ?_
            refine r_aload_n rfl ?_
            refine r_dup rfl ?_
            refine r_getI (by decide) rfl rfl (by decide) h5 ?_
            refine r_iconst ?_
            refine r_iadd ?_
            refine r_putI rfl rfl (by decide) ?_
            refine r_nil ?_
            refine E_go 14 rfl ?_
            refine r_ret rfl ?_
            refine hQ _ (((hJ.up (by omega) (by omega)).up (by omega) (by omega)).up (by omega) (by omega)) (cK_of hs ?_ ?_ ?_ ?_)
            · rw [(ten_3 (by omega) (b01.mp c_91) (b01.mp c_156)).1, up2_at]; exact n_add (a := s) (b := 1) rfl rfl
            · simp [up2]
            · rw [(ten_3 (by omega) (b01.mp c_91) (b01.mp c_156)).2, if_neg (b01.mp c_265)]; rfl
            · rw [(ten_3 (by omega) (b01.mp c_91) (b01.mp c_156)).2, if_neg (b01.mp c_265)]; exact fun q => absurd q (by decide)
          · refine r_aload_n rfl ?_
            refine r_getA (q := 32) (by decide) rfl rfl (by decide) ?_
            refine r_aload_n rfl ?_
            refine r_getI (by decide) rfl rfl (by decide) h5 ?_
            refine r_iaload (by decide) rfl (by decide) (ixE rfl (show s < 160 by omega) (by decide)) (congrFun (hJ.1 32 (by omega)) s) ?_
            refine r_goto ?_
            refine E_go 13 rfl ?_
            refine r_putI rfl rfl (by decide) ?_
            refine r_aload_n rfl ?_
            refine r_dup rfl ?_
            refine r_getI (by decide) rfl rfl (by decide) h5 ?_
            refine r_iconst ?_
            refine r_iadd ?_
            refine r_putI rfl rfl (by decide) ?_
            refine r_nil ?_
            refine E_go 14 rfl ?_
            refine r_ret rfl ?_
            refine hQ _ (((hJ.up (by omega) (by omega)).up (by omega) (by omega)).up (by omega) (by omega)) (cK_of hs ?_ ?_ ?_ ?_)
            · rw [(ten_3 (by omega) (b01.mp c_91) (b01.mp c_156)).1, up2_at]; exact n_add (a := s) (b := 1) rfl rfl
            · simp [up2]
            · rw [(ten_3 (by omega) (b01.mp c_91) (b01.mp c_156)).2, if_pos (b01n.mp c_265)]; exact (isS_io (b01n.mp c_265)).symm
            · rw [(ten_3 (by omega) (b01.mp c_91) (b01.mp c_156)).2, if_pos (b01n.mp c_265)]; intro q; have q2 := isS_k (b01n.mp c_265); omega
        · refine r_aload_n rfl ?_
          refine r_iconst ?_
          refine r_putI rfl rfl (by decide) ?_
          refine r_nil ?_
          refine keyD s hs (by omega) (b01.mp c_91) (b01n.mp c_156) (z - s) s (by omega) rfl (Nat.le_refl _) _ ((hJ.up (by omega) (by omega)).up (by omega) (by omega)) h5 (by simp [up2]) ?_
          rw [Nat.sub_self]; rfl
      · refine r_nil ?_
        refine keyL s hs (by omega) (b01n.mp c_91) (z - s) s (by omega) rfl (Nat.le_refl _) _ (hJ.up (by omega) (by omega)) h5 (by simp [up2])
    · have c_68 := (not_congr (n_lt (a := s) (b := z) rfl rfl (by omega) (by omega))).mp c_68
      refine r_aload_n rfl ?_
      refine r_iconst ?_
      refine r_putI rfl rfl (by decide) ?_
      refine r_goto ?_
      refine E_go 14 rfl ?_
      refine r_ret rfl ?_
      refine hQ _ ((hJ.up (by omega) (by omega)).up (by omega) (by omega)) (cK_of hs ?_ ?_ ?_ ?_)
      · rw [(ten_0 (by omega)).1]; exact h5
      · simp [up2]
      · rw [(ten_0 (by omega)).2]; rfl
      · rw [(ten_0 (by omega)).2]; exact fun q => absurd q (by decide)
  have key : ∀ d k, k + d = z → tpl (I 32) z i = sc isB (I 32) z k → ∀ J, sF I J → J 29 5 = io k → E xs m xi_X2_steps 61 Q 0 [.ref 29] [] (61, J, L, xF1) := by
    intro d
    induction d using Nat.strongRecOn with
    | _ d ih =>
    intro k hd hk0 J hJ h5
    refine E_go 0 rfl ?_
    refine r_aload_n rfl ?_
    refine r_getI (by decide) rfl rfl (by decide) h5 ?_
    refine r_aload_n rfl ?_
    refine r_getI (by decide) rfl rfl (by decide) ((hJ.2 0 (by omega)).trans hz) ?_
    refine r_icmp_ge (fun c_8 => ?_) (fun c_8 => ?_)
    · have c_8 := (n_le (a := z) (b := k) rfl rfl (by omega) (by omega)).mp c_8
      refine key52 k J (by omega) (hk0.trans (sc_n ?_)) hJ h5
      first
        | exact fun h => absurd h (by omega)
        | exact fun _ => by simp [isB, c_22, c_36]
    · have c_8 := (not_congr (n_le (a := z) (b := k) rfl rfl (by omega) (by omega))).mp c_8
      refine r_aload_n rfl ?_
      refine r_getA (q := 32) (by decide) rfl rfl (by decide) ?_
      refine r_aload_n rfl ?_
      refine r_getI (by decide) rfl rfl (by decide) h5 ?_
      refine r_iaload (by decide) rfl (by decide) (ixE rfl (show k < 160 by omega) (by decide)) (congrFun (hJ.1 32 (by omega)) k) ?_
      refine r_bipush ?_
      refine r_icmp_eq (fun c_22 => ?_) (fun c_22 => ?_)
      · refine E_go 1 rfl ?_
        refine r_aload_n rfl ?_
        refine r_dup rfl ?_
        refine r_getI (by decide) rfl rfl (by decide) h5 ?_
        refine r_iconst ?_
        refine r_iadd ?_
        refine r_putI rfl rfl (by decide) ?_
        refine r_goto ?_
        refine ih (d - 1) (by omega) (k + 1) (by omega) (hk0.trans (sc_s (by omega) ?_)) _ (hJ.up (by omega) (by omega)) (by rw [up2_at]; exact n_add (a := k) (b := 1) rfl rfl)
        first
          | (simp [isB, c_22]; done)
          | (simp [isB, c_36]; done)
      · refine r_aload_n rfl ?_
        refine r_getA (q := 32) (by decide) rfl rfl (by decide) ?_
        refine r_aload_n rfl ?_
        refine r_getI (by decide) rfl rfl (by decide) h5 ?_
        refine r_iaload (by decide) rfl (by decide) (ixE rfl (show k < 160 by omega) (by decide)) (congrFun (hJ.1 32 (by omega)) k) ?_
        refine r_bipush ?_
        refine r_icmp_ne (fun c_36 => ?_) (fun c_36 => ?_)
        · refine key52 k J (by omega) (hk0.trans (sc_n ?_)) hJ h5
          first
            | exact fun h => absurd h (by omega)
            | exact fun _ => by simp [isB, c_22, c_36]
        · refine r_nil ?_
          refine E_go 1 rfl ?_
          refine r_aload_n rfl ?_
          refine r_dup rfl ?_
          refine r_getI (by decide) rfl rfl (by decide) h5 ?_
          refine r_iconst ?_
          refine r_iadd ?_
          refine r_putI rfl rfl (by decide) ?_
          refine r_goto ?_
          refine ih (d - 1) (by omega) (k + 1) (by omega) (hk0.trans (sc_s (by omega) ?_)) _ (hJ.up (by omega) (by omega)) (by rw [up2_at]; exact n_add (a := k) (b := 1) rfl rfl)
          first
            | (simp [isB, c_22]; done)
            | (simp [isB, c_36]; done)
  exact M_goE (ml := 1) rfl rfl (zl rfl) rfl (key (z - i) i (by omega) rfl I sF.refl h5)

set_option maxRecDepth 10000 in
theorem s_writes_6 {xs : xSc} {m : Nat} {I : Nat → Nat → Int32} {L : Nat → Nat → Int64} {Q : Value → xHp → Prop} (hm : 1 ≤ m) {u : Nat} {x : Int32} (h160 : u ≤ 160) (hu : I 29 4 = io u) (hQ1 : u < 160 → Q .null (Hq (up2 (up2 I 30 u x) 29 4 (io u + 1)) L)) (hQ0 : ¬ u < 160 → Q .null (Hq I L)) : M xs m xi_X2_writes [.ref 29, .int x] (Hq I L) Q := by
  obtain ⟨m, rfl⟩ : ∃ k, m = k + 1 := ⟨m - 1, by omega⟩
  refine M_go (ls := [_, _]) (ml := 2) rfl rfl rfl (zl rfl) rfl ?_
  refine r_aload_n rfl ?_
  refine r_getI (by decide) rfl rfl (by decide) hu ?_
  refine r_sipush ?_
  refine r_icmp_ge (fun c_7 => ?_) (fun c_7 => ?_)
  · have c_7 := (n_le (a := 160) (b := u) rfl rfl (by omega) (by omega)).mp c_7
    refine E_go 1 rfl ?_
    refine r_ret rfl ?_
    exact hQ0 (by omega)
  · have c_7 := (not_congr (n_le (a := 160) (b := u) rfl rfl (by omega) (by omega))).mp c_7
    refine r_aload_n rfl ?_
    refine r_getA (q := 30) (by decide) rfl rfl (by decide) ?_
    refine r_aload_n rfl ?_
    refine r_getI (by decide) rfl rfl (by decide) hu ?_
    refine r_iload_n rfl ?_
    refine r_iastore rfl (by decide) (ixE rfl (show u < 160 by omega) (by decide)) ?_
    refine r_aload_n rfl ?_
    refine r_dup rfl ?_
    refine r_getI (by decide) rfl rfl (by decide) hu ?_
    refine r_iconst ?_
    refine r_iadd ?_
    refine r_putI rfl rfl (by decide) ?_
    refine r_nil ?_
    refine E_go 1 rfl ?_
    refine r_ret rfl ?_
    exact hQ1 (by omega)

def Sp_6 (xs : xSc) (mi m o : Nat) (F : PFn) : Prop := ∀ (I : Nat → Nat → Int32) (L : Nat → Nat → Int64) (Q : Value → xHp → Prop) (i u z : Nat), I 29 0 = io z → z ≤ 160 → i ≤ z → cK (I 32) z i I → I 29 4 = io u → u ≤ i → (∀ J, RS z u (F (I 32) z i) I J → Q (.int (bi (F (I 32) z i).1)) (Hq J L)) → M xs m mi [.ref 29, .int (io o)] (Hq I L) Q

theorem qib_6 {Q : Value → xHp → Prop} {L : Nat → Nat → Int64} {z u : Nat} {I J : Nat → Nat → Int32} {r r2 : PR} (hQ : RS z u r I J → Q (.int (bi r.1)) (Hq J L)) (e : r = r2) (hp : RS z u r2 I J) : Q (.int (bi r2.1)) (Hq J L) := by
  subst e
  exact hQ hp

/-- the end of a call that lays a word: both ways -/
theorem w_word_6 {xs : xSc} {m : Nat} {J : Nat → Nat → Int32} {L : Nat → Nat → Int64} {Q : Value → xHp → Prop} (hm : 1 ≤ m) {z u i : Nat} {b : Bool} {c : List Int32} {w : Int32} {I : Nat → Nat → Int32} (h : RS z u (b, i, c) I J) (hc : b = true → u + c.length < 160) (hQ : ∀ K, RS z u (b, i, c ++ [w]) I K → Q .null (Hq K L)) : M xs m xi_X2_writes [.ref 29, .int w] (Hq J L) Q := by
  obtain ⟨v, h4, h5, _⟩ := RS_v h
  exact s_writes_6 hm h4 h5 (fun q => hQ _ (RS_w h h5 q)) (fun q => hQ _ (RS_n h h5 h4 q hc))

set_option maxRecDepth 10000 in
theorem s_readsOr_6 {xs : xSc} {m o : Nat} {F : PFn} (hm : 7 ≤ m) (hg : ∀ b z, gd z (F b z)) (hel : Sp_6 xs xi_X2_readsAnd m o F) : Sp_6 xs xi_X2_readsOr (m + 1) o (fun b z i => pLp (tkd b z) (tst b z) opO (F b z) 160 (F b z i)) := by
  intro I L Q i u z hz h160 hi hk hu hui hQ
  dsimp only at hQ
  have key : ∀ d k, k + d = 160 → ∀ (r : PR) (J : Nat → Nat → Int32) (x4 : Value), pLp (tkd (I 32) z) (tst (I 32) z) opO (F (I 32) z) 160 (F (I 32) z i) = pLp (tkd (I 32) z) (tst (I 32) z) opO (F (I 32) z) d r → RS z u r I J → (i ≤ r.2.1 ∧ r.2.1 ≤ z) ∧ r.2.2.length + i ≤ r.2.1 → E xs m xi_X2_readsOr 61 Q 8 [.ref 29, .int (io o), .int (bi r.1), .int (io k)] [] (61, J, L, xF1) := by
    intro d
    induction d using Nat.strongRecOn with
    | _ d ih =>
    intro k hd r J x4 hr0 hJ hb
    have htk := tkd_lt (b := I 32) (z := z) (i := r.2.1)
    refine E_go 1 rfl ?_
    refine r_iload_n rfl ?_
    refine r_sipush ?_
    refine r_icmp_ge (fun c_12 => ?_) (fun c_12 => ?_)
    · have c_12 := (n_le (a := 160) (b := k) rfl rfl (by omega) (by omega)).mp c_12
      refine E_go 2 rfl ?_
      refine r_iload_n rfl ?_
      refine r_iret rfl (bi_01 _) ?_
      have e : pLp (tkd (I 32) z) (tst (I 32) z) opO (F (I 32) z) 160 (F (I 32) z i) = r := by
        rw [hr0]
        first
          | (rw [show d = 0 by omega]; rfl)
          | exact pLp_f (fun q => absurd (bi_0.mp c_16) (not_not_intro q))
          | exact pLp_n (by simp [opO, *])
      have hQ2 := hQ J
      rw [e] at hQ2
      exact hQ2 hJ
    · have c_12 := (not_congr (n_le (a := 160) (b := k) rfl rfl (by omega) (by omega))).mp c_12
      refine r_iload_n rfl ?_
      refine r_if_eq (fun c_16 => ?_) (fun c_16 => ?_)
      · refine E_go 2 rfl ?_
        refine r_iload_n rfl ?_
        refine r_iret rfl (bi_01 _) ?_
        have e : pLp (tkd (I 32) z) (tst (I 32) z) opO (F (I 32) z) 160 (F (I 32) z i) = r := by
          rw [hr0]
          first
            | (rw [show d = 0 by omega]; rfl)
            | exact pLp_f (fun q => absurd (bi_0.mp c_16) (not_not_intro q))
            | exact pLp_n (by simp [opO, *])
        have hQ2 := hQ J
        rw [e] at hQ2
        exact hQ2 hJ
      · refine r_aload_n rfl ?_
        refine r_getI (by decide) rfl rfl (by decide) hJ.2.2.1.2.2.1 ?_
        refine r_bipush ?_
        refine r_icmp_ne (fun c_25 => ?_) (fun c_25 => ?_)
        · have c_25 := (not_congr (n_eq (a := (tkd (I 32) z r.2.1)) (b := 6) rfl rfl (by omega) (by omega))).mp c_25
          refine E_go 2 rfl ?_
          refine r_iload_n rfl ?_
          refine r_iret rfl (bi_01 _) ?_
          have e : pLp (tkd (I 32) z) (tst (I 32) z) opO (F (I 32) z) 160 (F (I 32) z i) = r := by
            rw [hr0]
            first
              | (rw [show d = 0 by omega]; rfl)
              | exact pLp_f (fun q => absurd (bi_0.mp c_16) (not_not_intro q))
              | exact pLp_n (by simp [opO, *])
          have hQ2 := hQ J
          rw [e] at hQ2
          exact hQ2 hJ
        · have c_25 := (n_eq (a := (tkd (I 32) z r.2.1)) (b := 6) rfl rfl (by omega) (by omega)).mp c_25
          refine r_aload_n rfl ?_
          refine r_virtual (vs := []) (as := []) (by decide) (zl rfl) rfl rfl (zl rfl) (Nat.le_refl _) (Or.inr (Or.inr ⟨zt rfl, rfl, zt rfl⟩)) ?_
          obtain ⟨w, hop, hw⟩ : ∃ w, opO (tkd (I 32) z r.2.1) = some w ∧ (-6 : Int32) = w := ⟨-6, by rw [c_25]; rfl, rfl⟩
          have hr1 := bi_n.mp c_16
          have hT := tst_lt (b := I 32) hb.1.2 (by omega : ¬ tkd (I 32) z r.2.1 = 0)
          have hT2 := tst_z (b := I 32) hb.1.2
          refine s_steps_6 (by omega) (i := tst (I 32) z r.2.1) (z := z) (by rw [hJ.2.1]; exact hz) h160 hT2 hJ.2.2.1.1 (fun J1 h1 h2 => ?_)
          rw [hJ.1 32 (by omega)] at h2
          have hJ1 := RS_t hJ h1 h2
          obtain ⟨v1, e1, e2, e3⟩ := RS_v hJ1
          have e3 := e3 hr1
          dsimp only at e3
          have hq := hg (I 32) z _ hT2
          refine r_aload_n rfl ?_
          refine r_iload_n rfl ?_
          refine r_virtual (vs := []) (as := [_]) (by decide) (zl rfl) rfl rfl (zl rfl) (Nat.le_refl _) (Or.inr (Or.inr ⟨zt rfl, rfl, zt rfl⟩)) ?_
          refine hel J1 L _ (tst (I 32) z r.2.1) v1 z (by rw [hJ1.2.1]; exact hz) h160 hT2 (by rw [hJ1.1 32 (by omega)]; exact h2) e2 (by omega) (fun J2 h3 => ?_)
          rw [hJ1.1 32 (by omega)] at h3
          rw [hJ1.1 32 (by omega)]
          rw [e3] at h3
          have hJ2 := RS_app (q := F (I 32) z (tst (I 32) z r.2.1)) hJ1 hr1 h3
          refine r_istore_n (ls' := [_, _, _, _]) (zt rfl) rfl ?_
          refine r_aload_n rfl ?_
          refine r_bipush ?_
          refine r_virtual (vs := []) (as := [_]) (by decide) (zl rfl) rfl rfl (zl rfl) (Nat.le_refl _) (Or.inr (Or.inr ⟨zt rfl, rfl, zt rfl⟩)) ?_
          subst hw
          refine w_word_6 (w := -6) (by omega) hJ2 (fun hb1 => ?_) (fun K hK => ?_)
          · rw [List.length_append]; dsimp only; omega
          rw [List.append_assoc] at hK
          refine r_iincN (y := io (k + 1)) (ls' := [_, _, _, _]) rfl (zt rfl) (n_add (a := k) (b := 1) rfl rfl) rfl ?_
          refine r_goto ?_
          refine ih (d - 1) (by omega) (k + 1) (by omega) ((F (I 32) z (tst (I 32) z r.2.1)).1, (F (I 32) z (tst (I 32) z r.2.1)).2.1, r.2.2 ++ ((F (I 32) z (tst (I 32) z r.2.1)).2.2 ++ [(-6)])) K xU ?_ hK ?_
          · rw [hr0]; exact pLp_s (by omega) hr1 hop
          · simp only [List.length_append, List.length_cons, List.length_nil]
            omega
  refine M_go (ls := [_, _, _, _]) (ml := 4) rfl rfl rfl (zl rfl) rfl ?_
  refine r_aload_n rfl ?_
  refine r_iload_n rfl ?_
  refine r_virtual (vs := []) (as := [_]) (by decide) (zl rfl) rfl rfl (zl rfl) (Nat.le_refl _) (Or.inr (Or.inr ⟨zt rfl, rfl, zt rfl⟩)) ?_
  refine hel _ L _ i u z hz h160 hi hk hu hui (fun J hJ => ?_)
  refine r_istore_n (ls' := [_, _, _, _]) (zt rfl) rfl ?_
  refine r_iconst ?_
  refine r_istore_n (ls' := [_, _, _, _]) (zt rfl) rfl ?_
  refine r_nil ?_
  refine key 160 0 rfl (F (I 32) z i) J xU rfl hJ ?_
  have := hg (I 32) z i hi
  omega

set_option maxRecDepth 10000 in
theorem s_readsAnd_6 {xs : xSc} {m o : Nat} {F : PFn} (hm : 7 ≤ m) (hg : ∀ b z, gd z (F b z)) (hel : Sp_6 xs xi_X2_readsNot m o F) : Sp_6 xs xi_X2_readsAnd (m + 1) o (fun b z i => pLp (tkd b z) (tst b z) opA (F b z) 160 (F b z i)) := by
  intro I L Q i u z hz h160 hi hk hu hui hQ
  dsimp only at hQ
  have key : ∀ d k, k + d = 160 → ∀ (r : PR) (J : Nat → Nat → Int32) (x4 : Value), pLp (tkd (I 32) z) (tst (I 32) z) opA (F (I 32) z) 160 (F (I 32) z i) = pLp (tkd (I 32) z) (tst (I 32) z) opA (F (I 32) z) d r → RS z u r I J → (i ≤ r.2.1 ∧ r.2.1 ≤ z) ∧ r.2.2.length + i ≤ r.2.1 → E xs m xi_X2_readsAnd 61 Q 8 [.ref 29, .int (io o), .int (bi r.1), .int (io k)] [] (61, J, L, xF1) := by
    intro d
    induction d using Nat.strongRecOn with
    | _ d ih =>
    intro k hd r J x4 hr0 hJ hb
    have htk := tkd_lt (b := I 32) (z := z) (i := r.2.1)
    refine E_go 1 rfl ?_
    refine r_iload_n rfl ?_
    refine r_sipush ?_
    refine r_icmp_ge (fun c_12 => ?_) (fun c_12 => ?_)
    · have c_12 := (n_le (a := 160) (b := k) rfl rfl (by omega) (by omega)).mp c_12
      refine E_go 2 rfl ?_
      refine r_iload_n rfl ?_
      refine r_iret rfl (bi_01 _) ?_
      have e : pLp (tkd (I 32) z) (tst (I 32) z) opA (F (I 32) z) 160 (F (I 32) z i) = r := by
        rw [hr0]
        first
          | (rw [show d = 0 by omega]; rfl)
          | exact pLp_f (fun q => absurd (bi_0.mp c_16) (not_not_intro q))
          | exact pLp_n (by simp [opA, *])
      have hQ2 := hQ J
      rw [e] at hQ2
      exact hQ2 hJ
    · have c_12 := (not_congr (n_le (a := 160) (b := k) rfl rfl (by omega) (by omega))).mp c_12
      refine r_iload_n rfl ?_
      refine r_if_eq (fun c_16 => ?_) (fun c_16 => ?_)
      · refine E_go 2 rfl ?_
        refine r_iload_n rfl ?_
        refine r_iret rfl (bi_01 _) ?_
        have e : pLp (tkd (I 32) z) (tst (I 32) z) opA (F (I 32) z) 160 (F (I 32) z i) = r := by
          rw [hr0]
          first
            | (rw [show d = 0 by omega]; rfl)
            | exact pLp_f (fun q => absurd (bi_0.mp c_16) (not_not_intro q))
            | exact pLp_n (by simp [opA, *])
        have hQ2 := hQ J
        rw [e] at hQ2
        exact hQ2 hJ
      · refine r_aload_n rfl ?_
        refine r_getI (by decide) rfl rfl (by decide) hJ.2.2.1.2.2.1 ?_
        refine r_bipush ?_
        refine r_icmp_ne (fun c_25 => ?_) (fun c_25 => ?_)
        · have c_25 := (not_congr (n_eq (a := (tkd (I 32) z r.2.1)) (b := 7) rfl rfl (by omega) (by omega))).mp c_25
          refine E_go 2 rfl ?_
          refine r_iload_n rfl ?_
          refine r_iret rfl (bi_01 _) ?_
          have e : pLp (tkd (I 32) z) (tst (I 32) z) opA (F (I 32) z) 160 (F (I 32) z i) = r := by
            rw [hr0]
            first
              | (rw [show d = 0 by omega]; rfl)
              | exact pLp_f (fun q => absurd (bi_0.mp c_16) (not_not_intro q))
              | exact pLp_n (by simp [opA, *])
          have hQ2 := hQ J
          rw [e] at hQ2
          exact hQ2 hJ
        · have c_25 := (n_eq (a := (tkd (I 32) z r.2.1)) (b := 7) rfl rfl (by omega) (by omega)).mp c_25
          refine r_aload_n rfl ?_
          refine r_virtual (vs := []) (as := []) (by decide) (zl rfl) rfl rfl (zl rfl) (Nat.le_refl _) (Or.inr (Or.inr ⟨zt rfl, rfl, zt rfl⟩)) ?_
          obtain ⟨w, hop, hw⟩ : ∃ w, opA (tkd (I 32) z r.2.1) = some w ∧ (-7 : Int32) = w := ⟨-7, by rw [c_25]; rfl, rfl⟩
          have hr1 := bi_n.mp c_16
          have hT := tst_lt (b := I 32) hb.1.2 (by omega : ¬ tkd (I 32) z r.2.1 = 0)
          have hT2 := tst_z (b := I 32) hb.1.2
          refine s_steps_6 (by omega) (i := tst (I 32) z r.2.1) (z := z) (by rw [hJ.2.1]; exact hz) h160 hT2 hJ.2.2.1.1 (fun J1 h1 h2 => ?_)
          rw [hJ.1 32 (by omega)] at h2
          have hJ1 := RS_t hJ h1 h2
          obtain ⟨v1, e1, e2, e3⟩ := RS_v hJ1
          have e3 := e3 hr1
          dsimp only at e3
          have hq := hg (I 32) z _ hT2
          refine r_aload_n rfl ?_
          refine r_iload_n rfl ?_
          refine r_virtual (vs := []) (as := [_]) (by decide) (zl rfl) rfl rfl (zl rfl) (Nat.le_refl _) (Or.inr (Or.inr ⟨zt rfl, rfl, zt rfl⟩)) ?_
          refine hel J1 L _ (tst (I 32) z r.2.1) v1 z (by rw [hJ1.2.1]; exact hz) h160 hT2 (by rw [hJ1.1 32 (by omega)]; exact h2) e2 (by omega) (fun J2 h3 => ?_)
          rw [hJ1.1 32 (by omega)] at h3
          rw [hJ1.1 32 (by omega)]
          rw [e3] at h3
          have hJ2 := RS_app (q := F (I 32) z (tst (I 32) z r.2.1)) hJ1 hr1 h3
          refine r_istore_n (ls' := [_, _, _, _]) (zt rfl) rfl ?_
          refine r_aload_n rfl ?_
          refine r_bipush ?_
          refine r_virtual (vs := []) (as := [_]) (by decide) (zl rfl) rfl rfl (zl rfl) (Nat.le_refl _) (Or.inr (Or.inr ⟨zt rfl, rfl, zt rfl⟩)) ?_
          subst hw
          refine w_word_6 (w := -7) (by omega) hJ2 (fun hb1 => ?_) (fun K hK => ?_)
          · rw [List.length_append]; dsimp only; omega
          rw [List.append_assoc] at hK
          refine r_iincN (y := io (k + 1)) (ls' := [_, _, _, _]) rfl (zt rfl) (n_add (a := k) (b := 1) rfl rfl) rfl ?_
          refine r_goto ?_
          refine ih (d - 1) (by omega) (k + 1) (by omega) ((F (I 32) z (tst (I 32) z r.2.1)).1, (F (I 32) z (tst (I 32) z r.2.1)).2.1, r.2.2 ++ ((F (I 32) z (tst (I 32) z r.2.1)).2.2 ++ [(-7)])) K xU ?_ hK ?_
          · rw [hr0]; exact pLp_s (by omega) hr1 hop
          · simp only [List.length_append, List.length_cons, List.length_nil]
            omega
  refine M_go (ls := [_, _, _, _]) (ml := 4) rfl rfl rfl (zl rfl) rfl ?_
  refine r_aload_n rfl ?_
  refine r_iload_n rfl ?_
  refine r_virtual (vs := []) (as := [_]) (by decide) (zl rfl) rfl rfl (zl rfl) (Nat.le_refl _) (Or.inr (Or.inr ⟨zt rfl, rfl, zt rfl⟩)) ?_
  refine hel _ L _ i u z hz h160 hi hk hu hui (fun J hJ => ?_)
  refine r_istore_n (ls' := [_, _, _, _]) (zt rfl) rfl ?_
  refine r_iconst ?_
  refine r_istore_n (ls' := [_, _, _, _]) (zt rfl) rfl ?_
  refine r_nil ?_
  refine key 160 0 rfl (F (I 32) z i) J xU rfl hJ ?_
  have := hg (I 32) z i hi
  omega

set_option maxRecDepth 10000 in
theorem s_readsTerm_6 {xs : xSc} {m o : Nat} {F : PFn} (hm : 7 ≤ m) (hg : ∀ b z, gd z (F b z)) (hel : Sp_6 xs xi_X2_readsOne m o F) : Sp_6 xs xi_X2_readsTerm (m + 1) o (fun b z i => pLp (tkd b z) (tst b z) opT (F b z) 160 (F b z i)) := by
  intro I L Q i u z hz h160 hi hk hu hui hQ
  dsimp only at hQ
  have key : ∀ d k, k + d = 160 → ∀ (r : PR) (J : Nat → Nat → Int32) (x4 : Value), pLp (tkd (I 32) z) (tst (I 32) z) opT (F (I 32) z) 160 (F (I 32) z i) = pLp (tkd (I 32) z) (tst (I 32) z) opT (F (I 32) z) d r → RS z u r I J → (i ≤ r.2.1 ∧ r.2.1 ≤ z) ∧ r.2.2.length + i ≤ r.2.1 → E xs m xi_X2_readsTerm 61 Q 8 [.ref 29, .int (io o), .int (bi r.1), .int (io k)] [] (61, J, L, xF1) := by
    intro d
    induction d using Nat.strongRecOn with
    | _ d ih =>
    intro k hd r J x4 hr0 hJ hb
    have htk := tkd_lt (b := I 32) (z := z) (i := r.2.1)
    refine E_go 1 rfl ?_
    refine r_iload_n rfl ?_
    refine r_sipush ?_
    refine r_icmp_ge (fun c_12 => ?_) (fun c_12 => ?_)
    · have c_12 := (n_le (a := 160) (b := k) rfl rfl (by omega) (by omega)).mp c_12
      refine E_go 2 rfl ?_
      refine r_iload_n rfl ?_
      refine r_iret rfl (bi_01 _) ?_
      have e : pLp (tkd (I 32) z) (tst (I 32) z) opT (F (I 32) z) 160 (F (I 32) z i) = r := by
        rw [hr0]
        first
          | (rw [show d = 0 by omega]; rfl)
          | exact pLp_f (fun q => absurd (bi_0.mp c_16) (not_not_intro q))
          | exact pLp_n (by simp [opT, *])
      have hQ2 := hQ J
      rw [e] at hQ2
      exact hQ2 hJ
    · have c_12 := (not_congr (n_le (a := 160) (b := k) rfl rfl (by omega) (by omega))).mp c_12
      refine r_iload_n rfl ?_
      refine r_if_eq (fun c_16 => ?_) (fun c_16 => ?_)
      · refine E_go 2 rfl ?_
        refine r_iload_n rfl ?_
        refine r_iret rfl (bi_01 _) ?_
        have e : pLp (tkd (I 32) z) (tst (I 32) z) opT (F (I 32) z) 160 (F (I 32) z i) = r := by
          rw [hr0]
          first
            | (rw [show d = 0 by omega]; rfl)
            | exact pLp_f (fun q => absurd (bi_0.mp c_16) (not_not_intro q))
            | exact pLp_n (by simp [opT, *])
        have hQ2 := hQ J
        rw [e] at hQ2
        exact hQ2 hJ
      · refine r_aload_n rfl ?_
        refine r_getI (by decide) rfl rfl (by decide) hJ.2.2.1.2.2.1 ?_
        refine r_bipush ?_
        refine r_icmp_ne (fun c_25 => ?_) (fun c_25 => ?_)
        · have c_25 := (not_congr (n_eq (a := (tkd (I 32) z r.2.1)) (b := 42) rfl rfl (by omega) (by omega))).mp c_25
          refine E_go 2 rfl ?_
          refine r_iload_n rfl ?_
          refine r_iret rfl (bi_01 _) ?_
          have e : pLp (tkd (I 32) z) (tst (I 32) z) opT (F (I 32) z) 160 (F (I 32) z i) = r := by
            rw [hr0]
            first
              | (rw [show d = 0 by omega]; rfl)
              | exact pLp_f (fun q => absurd (bi_0.mp c_16) (not_not_intro q))
              | exact pLp_n (by simp [opT, *])
          have hQ2 := hQ J
          rw [e] at hQ2
          exact hQ2 hJ
        · have c_25 := (n_eq (a := (tkd (I 32) z r.2.1)) (b := 42) rfl rfl (by omega) (by omega)).mp c_25
          refine r_aload_n rfl ?_
          refine r_virtual (vs := []) (as := []) (by decide) (zl rfl) rfl rfl (zl rfl) (Nat.le_refl _) (Or.inr (Or.inr ⟨zt rfl, rfl, zt rfl⟩)) ?_
          obtain ⟨w, hop, hw⟩ : ∃ w, opT (tkd (I 32) z r.2.1) = some w ∧ (-42 : Int32) = w := ⟨-42, by rw [c_25]; rfl, rfl⟩
          have hr1 := bi_n.mp c_16
          have hT := tst_lt (b := I 32) hb.1.2 (by omega : ¬ tkd (I 32) z r.2.1 = 0)
          have hT2 := tst_z (b := I 32) hb.1.2
          refine s_steps_6 (by omega) (i := tst (I 32) z r.2.1) (z := z) (by rw [hJ.2.1]; exact hz) h160 hT2 hJ.2.2.1.1 (fun J1 h1 h2 => ?_)
          rw [hJ.1 32 (by omega)] at h2
          have hJ1 := RS_t hJ h1 h2
          obtain ⟨v1, e1, e2, e3⟩ := RS_v hJ1
          have e3 := e3 hr1
          dsimp only at e3
          have hq := hg (I 32) z _ hT2
          refine r_aload_n rfl ?_
          refine r_iload_n rfl ?_
          refine r_virtual (vs := []) (as := [_]) (by decide) (zl rfl) rfl rfl (zl rfl) (Nat.le_refl _) (Or.inr (Or.inr ⟨zt rfl, rfl, zt rfl⟩)) ?_
          refine hel J1 L _ (tst (I 32) z r.2.1) v1 z (by rw [hJ1.2.1]; exact hz) h160 hT2 (by rw [hJ1.1 32 (by omega)]; exact h2) e2 (by omega) (fun J2 h3 => ?_)
          rw [hJ1.1 32 (by omega)] at h3
          rw [hJ1.1 32 (by omega)]
          rw [e3] at h3
          have hJ2 := RS_app (q := F (I 32) z (tst (I 32) z r.2.1)) hJ1 hr1 h3
          refine r_istore_n (ls' := [_, _, _, _]) (zt rfl) rfl ?_
          refine r_aload_n rfl ?_
          refine r_bipush ?_
          refine r_virtual (vs := []) (as := [_]) (by decide) (zl rfl) rfl rfl (zl rfl) (Nat.le_refl _) (Or.inr (Or.inr ⟨zt rfl, rfl, zt rfl⟩)) ?_
          subst hw
          refine w_word_6 (w := -42) (by omega) hJ2 (fun hb1 => ?_) (fun K hK => ?_)
          · rw [List.length_append]; dsimp only; omega
          rw [List.append_assoc] at hK
          refine r_iincN (y := io (k + 1)) (ls' := [_, _, _, _]) rfl (zt rfl) (n_add (a := k) (b := 1) rfl rfl) rfl ?_
          refine r_goto ?_
          refine ih (d - 1) (by omega) (k + 1) (by omega) ((F (I 32) z (tst (I 32) z r.2.1)).1, (F (I 32) z (tst (I 32) z r.2.1)).2.1, r.2.2 ++ ((F (I 32) z (tst (I 32) z r.2.1)).2.2 ++ [(-42)])) K xU ?_ hK ?_
          · rw [hr0]; exact pLp_s (by omega) hr1 hop
          · simp only [List.length_append, List.length_cons, List.length_nil]
            omega
  refine M_go (ls := [_, _, _, _]) (ml := 4) rfl rfl rfl (zl rfl) rfl ?_
  refine r_aload_n rfl ?_
  refine r_iload_n rfl ?_
  refine r_virtual (vs := []) (as := [_]) (by decide) (zl rfl) rfl rfl (zl rfl) (Nat.le_refl _) (Or.inr (Or.inr ⟨zt rfl, rfl, zt rfl⟩)) ?_
  refine hel _ L _ i u z hz h160 hi hk hu hui (fun J hJ => ?_)
  refine r_istore_n (ls' := [_, _, _, _]) (zt rfl) rfl ?_
  refine r_iconst ?_
  refine r_istore_n (ls' := [_, _, _, _]) (zt rfl) rfl ?_
  refine r_nil ?_
  refine key 160 0 rfl (F (I 32) z i) J xU rfl hJ ?_
  have := hg (I 32) z i hi
  omega

set_option maxRecDepth 10000 in
theorem s_readsSum_6 {xs : xSc} {m o : Nat} {F : PFn} (hm : 7 ≤ m) (hg : ∀ b z, gd z (F b z)) (hel : Sp_6 xs xi_X2_readsTerm m o F) : Sp_6 xs xi_X2_readsSum (m + 1) o (fun b z i => pLp (tkd b z) (tst b z) opS (F b z) 160 (F b z i)) := by
  intro I L Q i u z hz h160 hi hk hu hui hQ
  dsimp only at hQ
  have key : ∀ d k, k + d = 160 → ∀ (r : PR) (J : Nat → Nat → Int32) (x4 : Value), pLp (tkd (I 32) z) (tst (I 32) z) opS (F (I 32) z) 160 (F (I 32) z i) = pLp (tkd (I 32) z) (tst (I 32) z) opS (F (I 32) z) d r → RS z u r I J → (i ≤ r.2.1 ∧ r.2.1 ≤ z) ∧ r.2.2.length + i ≤ r.2.1 → E xs m xi_X2_readsSum 61 Q 8 [.ref 29, .int (io o), .int (bi r.1), .int (io k), x4] [] (61, J, L, xF1) := by
    intro d
    induction d using Nat.strongRecOn with
    | _ d ih =>
    intro k hd r J x4 hr0 hJ hb
    have htk := tkd_lt (b := I 32) (z := z) (i := r.2.1)
    refine E_go 1 rfl ?_
    refine r_iload_n rfl ?_
    refine r_sipush ?_
    refine r_icmp_ge (fun c_12 => ?_) (fun c_12 => ?_)
    · have c_12 := (n_le (a := 160) (b := k) rfl rfl (by omega) (by omega)).mp c_12
      refine E_go 3 rfl ?_
      refine r_iload_n rfl ?_
      refine r_iret rfl (bi_01 _) ?_
      have e : pLp (tkd (I 32) z) (tst (I 32) z) opS (F (I 32) z) 160 (F (I 32) z i) = r := by
        rw [hr0]
        first
          | (rw [show d = 0 by omega]; rfl)
          | exact pLp_f (fun q => absurd (bi_0.mp c_16) (not_not_intro q))
          | exact pLp_n (by simp [opS, *])
      have hQ2 := hQ J
      rw [e] at hQ2
      exact hQ2 hJ
    · have c_12 := (not_congr (n_le (a := 160) (b := k) rfl rfl (by omega) (by omega))).mp c_12
      refine r_iload_n rfl ?_
      refine r_if_eq (fun c_16 => ?_) (fun c_16 => ?_)
      · refine E_go 3 rfl ?_
        refine r_iload_n rfl ?_
        refine r_iret rfl (bi_01 _) ?_
        have e : pLp (tkd (I 32) z) (tst (I 32) z) opS (F (I 32) z) 160 (F (I 32) z i) = r := by
          rw [hr0]
          first
            | (rw [show d = 0 by omega]; rfl)
            | exact pLp_f (fun q => absurd (bi_0.mp c_16) (not_not_intro q))
            | exact pLp_n (by simp [opS, *])
        have hQ2 := hQ J
        rw [e] at hQ2
        exact hQ2 hJ
      · refine r_aload_n rfl ?_
        refine r_getI (by decide) rfl rfl (by decide) hJ.2.2.1.2.2.1 ?_
        refine r_bipush ?_
        refine r_icmp_eq (fun c_25 => ?_) (fun c_25 => ?_)
        · have c_25 := (n_eq (a := (tkd (I 32) z r.2.1)) (b := 43) rfl rfl (by omega) (by omega)).mp c_25
          refine E_go 2 rfl ?_
          refine r_aload_n rfl ?_
          refine r_getI (by decide) rfl rfl (by decide) hJ.2.2.1.2.2.1 ?_
          refine r_istore (ls' := [_, _, _, _, _]) (zt rfl) rfl ?_
          refine r_aload_n rfl ?_
          refine r_virtual (vs := []) (as := []) (by decide) (zl rfl) rfl rfl (zl rfl) (Nat.le_refl _) (Or.inr (Or.inr ⟨zt rfl, rfl, zt rfl⟩)) ?_
          have hop : ∃ w, opS (tkd (I 32) z r.2.1) = some w ∧ - io (tkd (I 32) z r.2.1) = w := by
            first
            | exact ⟨-43, by rw [c_25]; rfl, by rw [c_25]; rfl⟩
            | exact ⟨-45, by rw [c_34]; rfl, by rw [c_34]; rfl⟩
          obtain ⟨w, hop, hw⟩ := hop
          have hr1 := bi_n.mp c_16
          have hT := tst_lt (b := I 32) hb.1.2 (by omega : ¬ tkd (I 32) z r.2.1 = 0)
          have hT2 := tst_z (b := I 32) hb.1.2
          refine s_steps_6 (by omega) (i := tst (I 32) z r.2.1) (z := z) (by rw [hJ.2.1]; exact hz) h160 hT2 hJ.2.2.1.1 (fun J1 h1 h2 => ?_)
          rw [hJ.1 32 (by omega)] at h2
          have hJ1 := RS_t hJ h1 h2
          obtain ⟨v1, e1, e2, e3⟩ := RS_v hJ1
          have e3 := e3 hr1
          dsimp only at e3
          have hq := hg (I 32) z _ hT2
          refine r_aload_n rfl ?_
          refine r_iload_n rfl ?_
          refine r_virtual (vs := []) (as := [_]) (by decide) (zl rfl) rfl rfl (zl rfl) (Nat.le_refl _) (Or.inr (Or.inr ⟨zt rfl, rfl, zt rfl⟩)) ?_
          refine hel J1 L _ (tst (I 32) z r.2.1) v1 z (by rw [hJ1.2.1]; exact hz) h160 hT2 (by rw [hJ1.1 32 (by omega)]; exact h2) e2 (by omega) (fun J2 h3 => ?_)
          rw [hJ1.1 32 (by omega)] at h3
          rw [hJ1.1 32 (by omega)]
          rw [e3] at h3
          have hJ2 := RS_app (q := F (I 32) z (tst (I 32) z r.2.1)) hJ1 hr1 h3
          refine r_istore_n (ls' := [_, _, _, _, _]) (zt rfl) rfl ?_
          refine r_aload_n rfl ?_
          refine r_iload rfl ?_
          refine r_ineg ?_
          refine r_virtual (vs := []) (as := [_]) (by decide) (zl rfl) rfl rfl (zl rfl) (Nat.le_refl _) (Or.inr (Or.inr ⟨zt rfl, rfl, zt rfl⟩)) ?_
          rw [hw]
          refine w_word_6 (w := w) (by omega) hJ2 (fun hb1 => ?_) (fun K hK => ?_)
          · rw [List.length_append]; dsimp only; omega
          rw [List.append_assoc] at hK
          refine r_iincN (y := io (k + 1)) (ls' := [_, _, _, _, _]) rfl (zt rfl) (n_add (a := k) (b := 1) rfl rfl) rfl ?_
          refine r_goto ?_
          refine ih (d - 1) (by omega) (k + 1) (by omega) ((F (I 32) z (tst (I 32) z r.2.1)).1, (F (I 32) z (tst (I 32) z r.2.1)).2.1, r.2.2 ++ ((F (I 32) z (tst (I 32) z r.2.1)).2.2 ++ [w])) K _ ?_ hK ?_
          · rw [hr0]; exact pLp_s (by omega) hr1 hop
          · simp only [List.length_append, List.length_cons, List.length_nil]
            omega
        · have c_25 := (not_congr (n_eq (a := (tkd (I 32) z r.2.1)) (b := 43) rfl rfl (by omega) (by omega))).mp c_25
          refine r_aload_n rfl ?_
          refine r_getI (by decide) rfl rfl (by decide) hJ.2.2.1.2.2.1 ?_
          refine r_bipush ?_
          refine r_icmp_ne (fun c_34 => ?_) (fun c_34 => ?_)
          · have c_34 := (not_congr (n_eq (a := (tkd (I 32) z r.2.1)) (b := 45) rfl rfl (by omega) (by omega))).mp c_34
            refine E_go 3 rfl ?_
            refine r_iload_n rfl ?_
            refine r_iret rfl (bi_01 _) ?_
            have e : pLp (tkd (I 32) z) (tst (I 32) z) opS (F (I 32) z) 160 (F (I 32) z i) = r := by
              rw [hr0]
              first
                | (rw [show d = 0 by omega]; rfl)
                | exact pLp_f (fun q => absurd (bi_0.mp c_16) (not_not_intro q))
                | exact pLp_n (by simp [opS, *])
            have hQ2 := hQ J
            rw [e] at hQ2
            exact hQ2 hJ
          · have c_34 := (n_eq (a := (tkd (I 32) z r.2.1)) (b := 45) rfl rfl (by omega) (by omega)).mp c_34
            refine r_nil ?_
            refine E_go 2 rfl ?_
            refine r_aload_n rfl ?_
            refine r_getI (by decide) rfl rfl (by decide) hJ.2.2.1.2.2.1 ?_
            refine r_istore (ls' := [_, _, _, _, _]) (zt rfl) rfl ?_
            refine r_aload_n rfl ?_
            refine r_virtual (vs := []) (as := []) (by decide) (zl rfl) rfl rfl (zl rfl) (Nat.le_refl _) (Or.inr (Or.inr ⟨zt rfl, rfl, zt rfl⟩)) ?_
            have hop : ∃ w, opS (tkd (I 32) z r.2.1) = some w ∧ - io (tkd (I 32) z r.2.1) = w := by
              first
              | exact ⟨-43, by rw [c_25]; rfl, by rw [c_25]; rfl⟩
              | exact ⟨-45, by rw [c_34]; rfl, by rw [c_34]; rfl⟩
            obtain ⟨w, hop, hw⟩ := hop
            have hr1 := bi_n.mp c_16
            have hT := tst_lt (b := I 32) hb.1.2 (by omega : ¬ tkd (I 32) z r.2.1 = 0)
            have hT2 := tst_z (b := I 32) hb.1.2
            refine s_steps_6 (by omega) (i := tst (I 32) z r.2.1) (z := z) (by rw [hJ.2.1]; exact hz) h160 hT2 hJ.2.2.1.1 (fun J1 h1 h2 => ?_)
            rw [hJ.1 32 (by omega)] at h2
            have hJ1 := RS_t hJ h1 h2
            obtain ⟨v1, e1, e2, e3⟩ := RS_v hJ1
            have e3 := e3 hr1
            dsimp only at e3
            have hq := hg (I 32) z _ hT2
            refine r_aload_n rfl ?_
            refine r_iload_n rfl ?_
            refine r_virtual (vs := []) (as := [_]) (by decide) (zl rfl) rfl rfl (zl rfl) (Nat.le_refl _) (Or.inr (Or.inr ⟨zt rfl, rfl, zt rfl⟩)) ?_
            refine hel J1 L _ (tst (I 32) z r.2.1) v1 z (by rw [hJ1.2.1]; exact hz) h160 hT2 (by rw [hJ1.1 32 (by omega)]; exact h2) e2 (by omega) (fun J2 h3 => ?_)
            rw [hJ1.1 32 (by omega)] at h3
            rw [hJ1.1 32 (by omega)]
            rw [e3] at h3
            have hJ2 := RS_app (q := F (I 32) z (tst (I 32) z r.2.1)) hJ1 hr1 h3
            refine r_istore_n (ls' := [_, _, _, _, _]) (zt rfl) rfl ?_
            refine r_aload_n rfl ?_
            refine r_iload rfl ?_
            refine r_ineg ?_
            refine r_virtual (vs := []) (as := [_]) (by decide) (zl rfl) rfl rfl (zl rfl) (Nat.le_refl _) (Or.inr (Or.inr ⟨zt rfl, rfl, zt rfl⟩)) ?_
            rw [hw]
            refine w_word_6 (w := w) (by omega) hJ2 (fun hb1 => ?_) (fun K hK => ?_)
            · rw [List.length_append]; dsimp only; omega
            rw [List.append_assoc] at hK
            refine r_iincN (y := io (k + 1)) (ls' := [_, _, _, _, _]) rfl (zt rfl) (n_add (a := k) (b := 1) rfl rfl) rfl ?_
            refine r_goto ?_
            refine ih (d - 1) (by omega) (k + 1) (by omega) ((F (I 32) z (tst (I 32) z r.2.1)).1, (F (I 32) z (tst (I 32) z r.2.1)).2.1, r.2.2 ++ ((F (I 32) z (tst (I 32) z r.2.1)).2.2 ++ [w])) K _ ?_ hK ?_
            · rw [hr0]; exact pLp_s (by omega) hr1 hop
            · simp only [List.length_append, List.length_cons, List.length_nil]
              omega
  refine M_go (ls := [_, _, _, _, _]) (ml := 5) rfl rfl rfl (zl rfl) rfl ?_
  refine r_aload_n rfl ?_
  refine r_iload_n rfl ?_
  refine r_virtual (vs := []) (as := [_]) (by decide) (zl rfl) rfl rfl (zl rfl) (Nat.le_refl _) (Or.inr (Or.inr ⟨zt rfl, rfl, zt rfl⟩)) ?_
  refine hel _ L _ i u z hz h160 hi hk hu hui (fun J hJ => ?_)
  refine r_istore_n (ls' := [_, _, _, _, _]) (zt rfl) rfl ?_
  refine r_iconst ?_
  refine r_istore_n (ls' := [_, _, _, _, _]) (zt rfl) rfl ?_
  refine r_nil ?_
  refine key 160 0 rfl (F (I 32) z i) J _ rfl hJ ?_
  have := hg (I 32) z i hi
  omega

set_option maxRecDepth 10000 in
theorem s_readsNot0_6 {xs : xSc} {m : Nat} {F : PFn} (hm : 7 ≤ m) (hg : ∀ b z, gd z (F b z)) (hel : Sp_6 xs xi_X2_readsSum m 5 F) : Sp_6 xs xi_X2_readsNot (m + 1) 5 (fun b z i => pNt (tkd b z) (tst b z) none (pCm (tkd b z) (tst b z) (F b z)) i) := by
  intro I L Q i u z hz h160 hi hk hu hui hQ
  have htk := tkd_lt (b := I 32) (z := z) (i := i)
  dsimp only at hQ
  refine M_go (ls := [_, _, _, _]) (ml := 4) rfl rfl rfl (zl rfl) rfl ?_
  refine r_aload_n rfl ?_
  refine r_getI (by decide) rfl rfl (by decide) hk.2.2.1 ?_
  refine r_bipush ?_
  refine r_icmp_ne (fun c_6 => ?_) (fun c_6 => ?_)
  · have c_6 := (not_congr (n_eq (a := (tkd (I 32) z i)) (b := 8) rfl rfl (by omega) (by omega))).mp c_6
    refine E_go 2 rfl ?_
    refine r_aload_n rfl ?_
    refine r_iload_n rfl ?_
    refine r_virtual (vs := []) (as := [_]) (by decide) (zl rfl) rfl rfl (zl rfl) (Nat.le_refl _) (Or.inr (Or.inr ⟨zt rfl, rfl, zt rfl⟩)) ?_
    refine hel I L _ i u z hz h160 hi hk hu hui (fun J hJ => ?_)
    have htj := tkd_lt (b := I 32) (z := z) (i := (F (I 32) z i).2.1)
    refine r_istore_n (ls' := [_, _, _, _]) (zt rfl) rfl ?_
    refine r_iload_n rfl ?_
    refine r_if_eq (fun c_43 => ?_) (fun c_43 => ?_)
    · refine E_go 4 rfl ?_
      refine r_iload_n rfl ?_
      refine r_iret rfl (bi_01 _) ?_
      refine qib_6 (hQ _) ((pNt_n c_6).trans (pCm_n ?_)) hJ
      first
      | exact fun q => absurd q.1 (bi_0.mp c_43)
      | exact fun q => by omega
    · refine r_aload_n rfl ?_
      refine r_getI (by decide) rfl rfl (by decide) hJ.2.2.1.2.2.1 ?_
      refine r_bipush ?_
      refine r_icmp_eq (fun c_52 => ?_) (fun c_52 => ?_)
      · have c_52 := (n_eq (a := (tkd (I 32) z (F (I 32) z i).2.1)) (b := 60) rfl rfl (by omega) (by omega)).mp c_52
        refine E_go 3 rfl ?_
        refine r_aload_n rfl ?_
        refine r_getI (by decide) rfl rfl (by decide) hJ.2.2.1.2.2.1 ?_
        refine r_istore_n (ls' := [_, _, _, _]) (zt rfl) rfl ?_
        refine r_aload_n rfl ?_
        refine r_virtual (vs := []) (as := []) (by decide) (zl rfl) rfl rfl (zl rfl) (Nat.le_refl _) (Or.inr (Or.inr ⟨zt rfl, rfl, zt rfl⟩)) ?_
        have hJ0 := hJ
        have hr1 := bi_n.mp c_43
        have hg1 := hg (I 32) z i hi
        have hT := tst_lt (b := I 32) hg1.1.2 (by omega : ¬ tkd (I 32) z (F (I 32) z i).2.1 = 0)
        have hT2 := tst_z (b := I 32) hg1.1.2
        refine s_steps_6 (by omega) (i := tst (I 32) z (F (I 32) z i).2.1) (z := z) (by rw [hJ.2.1]; exact hz) h160 hT2 hJ.2.2.1.1 (fun J1 h1 h2 => ?_)
        rw [hJ.1 32 (by omega)] at h2
        have hJ1 := RS_t hJ h1 h2
        obtain ⟨v1, e1, e2, e3⟩ := RS_v hJ1
        have e3 := e3 hr1
        dsimp only at e3
        have hq := hg (I 32) z _ hT2
        refine r_aload_n rfl ?_
        refine r_iload_n rfl ?_
        refine r_virtual (vs := []) (as := [_]) (by decide) (zl rfl) rfl rfl (zl rfl) (Nat.le_refl _) (Or.inr (Or.inr ⟨zt rfl, rfl, zt rfl⟩)) ?_
        refine hel J1 L _ (tst (I 32) z (F (I 32) z i).2.1) v1 z (by rw [hJ1.2.1]; exact hz) h160 hT2 (by rw [hJ1.1 32 (by omega)]; exact h2) e2 (by omega) (fun J2 h3 => ?_)
        rw [hJ1.1 32 (by omega)] at h3
        rw [hJ1.1 32 (by omega)]
        rw [e3] at h3
        have hJ2 := RS_app (q := F (I 32) z (tst (I 32) z (F (I 32) z i).2.1)) hJ1 hr1 h3
        refine r_istore_n (ls' := [_, _, _, _]) (zt rfl) rfl ?_
        refine r_aload_n rfl ?_
        refine r_iload_n rfl ?_
        refine r_ineg ?_
        refine r_virtual (vs := []) (as := [_]) (by decide) (zl rfl) rfl rfl (zl rfl) (Nat.le_refl _) (Or.inr (Or.inr ⟨zt rfl, rfl, zt rfl⟩)) ?_
        refine w_word_6 (w := -(io (tkd (I 32) z (F (I 32) z i).2.1))) (by omega) hJ2 (fun hb1 => ?_) (fun K hK => ?_)
        · rw [List.length_append]; dsimp only; omega
        rw [List.append_assoc] at hK
        refine r_nil ?_
        refine E_go 4 rfl ?_
        refine r_iload_n rfl ?_
        refine r_iret rfl (bi_01 _) ?_
        have hx := qib_6 (hQ _) ((pNt_n c_6).trans (pCm_y hr1 (by omega))) hK
        exact hx
      · have c_52 := (not_congr (n_eq (a := (tkd (I 32) z (F (I 32) z i).2.1)) (b := 60) rfl rfl (by omega) (by omega))).mp c_52
        refine r_aload_n rfl ?_
        refine r_getI (by decide) rfl rfl (by decide) hJ.2.2.1.2.2.1 ?_
        refine r_bipush ?_
        refine r_icmp_ne (fun c_61 => ?_) (fun c_61 => ?_)
        · have c_61 := (not_congr (n_eq (a := (tkd (I 32) z (F (I 32) z i).2.1)) (b := 61) rfl rfl (by omega) (by omega))).mp c_61
          refine E_go 4 rfl ?_
          refine r_iload_n rfl ?_
          refine r_iret rfl (bi_01 _) ?_
          refine qib_6 (hQ _) ((pNt_n c_6).trans (pCm_n ?_)) hJ
          first
          | exact fun q => absurd q.1 (bi_0.mp c_43)
          | exact fun q => by omega
        · have c_61 := (n_eq (a := (tkd (I 32) z (F (I 32) z i).2.1)) (b := 61) rfl rfl (by omega) (by omega)).mp c_61
          refine r_nil ?_
          refine E_go 3 rfl ?_
          refine r_aload_n rfl ?_
          refine r_getI (by decide) rfl rfl (by decide) hJ.2.2.1.2.2.1 ?_
          refine r_istore_n (ls' := [_, _, _, _]) (zt rfl) rfl ?_
          refine r_aload_n rfl ?_
          refine r_virtual (vs := []) (as := []) (by decide) (zl rfl) rfl rfl (zl rfl) (Nat.le_refl _) (Or.inr (Or.inr ⟨zt rfl, rfl, zt rfl⟩)) ?_
          have hJ0 := hJ
          have hr1 := bi_n.mp c_43
          have hg1 := hg (I 32) z i hi
          have hT := tst_lt (b := I 32) hg1.1.2 (by omega : ¬ tkd (I 32) z (F (I 32) z i).2.1 = 0)
          have hT2 := tst_z (b := I 32) hg1.1.2
          refine s_steps_6 (by omega) (i := tst (I 32) z (F (I 32) z i).2.1) (z := z) (by rw [hJ.2.1]; exact hz) h160 hT2 hJ.2.2.1.1 (fun J1 h1 h2 => ?_)
          rw [hJ.1 32 (by omega)] at h2
          have hJ1 := RS_t hJ h1 h2
          obtain ⟨v1, e1, e2, e3⟩ := RS_v hJ1
          have e3 := e3 hr1
          dsimp only at e3
          have hq := hg (I 32) z _ hT2
          refine r_aload_n rfl ?_
          refine r_iload_n rfl ?_
          refine r_virtual (vs := []) (as := [_]) (by decide) (zl rfl) rfl rfl (zl rfl) (Nat.le_refl _) (Or.inr (Or.inr ⟨zt rfl, rfl, zt rfl⟩)) ?_
          refine hel J1 L _ (tst (I 32) z (F (I 32) z i).2.1) v1 z (by rw [hJ1.2.1]; exact hz) h160 hT2 (by rw [hJ1.1 32 (by omega)]; exact h2) e2 (by omega) (fun J2 h3 => ?_)
          rw [hJ1.1 32 (by omega)] at h3
          rw [hJ1.1 32 (by omega)]
          rw [e3] at h3
          have hJ2 := RS_app (q := F (I 32) z (tst (I 32) z (F (I 32) z i).2.1)) hJ1 hr1 h3
          refine r_istore_n (ls' := [_, _, _, _]) (zt rfl) rfl ?_
          refine r_aload_n rfl ?_
          refine r_iload_n rfl ?_
          refine r_ineg ?_
          refine r_virtual (vs := []) (as := [_]) (by decide) (zl rfl) rfl rfl (zl rfl) (Nat.le_refl _) (Or.inr (Or.inr ⟨zt rfl, rfl, zt rfl⟩)) ?_
          refine w_word_6 (w := -(io (tkd (I 32) z (F (I 32) z i).2.1))) (by omega) hJ2 (fun hb1 => ?_) (fun K hK => ?_)
          · rw [List.length_append]; dsimp only; omega
          rw [List.append_assoc] at hK
          refine r_nil ?_
          refine E_go 4 rfl ?_
          refine r_iload_n rfl ?_
          refine r_iret rfl (bi_01 _) ?_
          have hx := qib_6 (hQ _) ((pNt_n c_6).trans (pCm_y hr1 (by omega))) hK
          exact hx
  · have c_6 := (n_eq (a := (tkd (I 32) z i)) (b := 8) rfl rfl (by omega) (by omega)).mp c_6
    refine r_iload_n rfl ?_
    refine r_iconst ?_
    refine r_icmp_lt (fun c_11 => ?_) (fun c_11 => ?_)
    · exact absurd c_11 (by decide)
    · refine r_iconst ?_
      refine r_iret rfl (by first | exact Or.inl rfl | exact Or.inr rfl) ?_
      have hx := qib_6 (hQ _) (pNt_80 c_6) (RS_0 hk hu (by omega))
      exact hx

set_option maxRecDepth 10000 in
theorem s_readsNotS_6 {xs : xSc} {m o : Nat} {F G : PFn} (hm : 7 ≤ m) (hg : ∀ b z, gd z (F b z)) (hel : Sp_6 xs xi_X2_readsSum m o F) (hd5 : o < 5) (hgd : ∀ b z, gd z (G b z)) (hdp : Sp_6 xs xi_X2_readsNot m (o + 1) G) : Sp_6 xs xi_X2_readsNot (m + 1) o (fun b z i => pNt (tkd b z) (tst b z) (some (G b z)) (pCm (tkd b z) (tst b z) (F b z)) i) := by
  intro I L Q i u z hz h160 hi hk hu hui hQ
  have htk := tkd_lt (b := I 32) (z := z) (i := i)
  dsimp only at hQ
  refine M_go (ls := [_, _, _, _]) (ml := 4) rfl rfl rfl (zl rfl) rfl ?_
  refine r_aload_n rfl ?_
  refine r_getI (by decide) rfl rfl (by decide) hk.2.2.1 ?_
  refine r_bipush ?_
  refine r_icmp_ne (fun c_6 => ?_) (fun c_6 => ?_)
  · have c_6 := (not_congr (n_eq (a := (tkd (I 32) z i)) (b := 8) rfl rfl (by omega) (by omega))).mp c_6
    refine E_go 2 rfl ?_
    refine r_aload_n rfl ?_
    refine r_iload_n rfl ?_
    refine r_virtual (vs := []) (as := [_]) (by decide) (zl rfl) rfl rfl (zl rfl) (Nat.le_refl _) (Or.inr (Or.inr ⟨zt rfl, rfl, zt rfl⟩)) ?_
    refine hel I L _ i u z hz h160 hi hk hu hui (fun J hJ => ?_)
    have htj := tkd_lt (b := I 32) (z := z) (i := (F (I 32) z i).2.1)
    refine r_istore_n (ls' := [_, _, _, _]) (zt rfl) rfl ?_
    refine r_iload_n rfl ?_
    refine r_if_eq (fun c_43 => ?_) (fun c_43 => ?_)
    · refine E_go 4 rfl ?_
      refine r_iload_n rfl ?_
      refine r_iret rfl (bi_01 _) ?_
      refine qib_6 (hQ _) ((pNt_n c_6).trans (pCm_n ?_)) hJ
      first
      | exact fun q => absurd q.1 (bi_0.mp c_43)
      | exact fun q => by omega
    · refine r_aload_n rfl ?_
      refine r_getI (by decide) rfl rfl (by decide) hJ.2.2.1.2.2.1 ?_
      refine r_bipush ?_
      refine r_icmp_eq (fun c_52 => ?_) (fun c_52 => ?_)
      · have c_52 := (n_eq (a := (tkd (I 32) z (F (I 32) z i).2.1)) (b := 60) rfl rfl (by omega) (by omega)).mp c_52
        refine E_go 3 rfl ?_
        refine r_aload_n rfl ?_
        refine r_getI (by decide) rfl rfl (by decide) hJ.2.2.1.2.2.1 ?_
        refine r_istore_n (ls' := [_, _, _, _]) (zt rfl) rfl ?_
        refine r_aload_n rfl ?_
        refine r_virtual (vs := []) (as := []) (by decide) (zl rfl) rfl rfl (zl rfl) (Nat.le_refl _) (Or.inr (Or.inr ⟨zt rfl, rfl, zt rfl⟩)) ?_
        have hJ0 := hJ
        have hr1 := bi_n.mp c_43
        have hg1 := hg (I 32) z i hi
        have hT := tst_lt (b := I 32) hg1.1.2 (by omega : ¬ tkd (I 32) z (F (I 32) z i).2.1 = 0)
        have hT2 := tst_z (b := I 32) hg1.1.2
        refine s_steps_6 (by omega) (i := tst (I 32) z (F (I 32) z i).2.1) (z := z) (by rw [hJ.2.1]; exact hz) h160 hT2 hJ.2.2.1.1 (fun J1 h1 h2 => ?_)
        rw [hJ.1 32 (by omega)] at h2
        have hJ1 := RS_t hJ h1 h2
        obtain ⟨v1, e1, e2, e3⟩ := RS_v hJ1
        have e3 := e3 hr1
        dsimp only at e3
        have hq := hg (I 32) z _ hT2
        refine r_aload_n rfl ?_
        refine r_iload_n rfl ?_
        refine r_virtual (vs := []) (as := [_]) (by decide) (zl rfl) rfl rfl (zl rfl) (Nat.le_refl _) (Or.inr (Or.inr ⟨zt rfl, rfl, zt rfl⟩)) ?_
        refine hel J1 L _ (tst (I 32) z (F (I 32) z i).2.1) v1 z (by rw [hJ1.2.1]; exact hz) h160 hT2 (by rw [hJ1.1 32 (by omega)]; exact h2) e2 (by omega) (fun J2 h3 => ?_)
        rw [hJ1.1 32 (by omega)] at h3
        rw [hJ1.1 32 (by omega)]
        rw [e3] at h3
        have hJ2 := RS_app (q := F (I 32) z (tst (I 32) z (F (I 32) z i).2.1)) hJ1 hr1 h3
        refine r_istore_n (ls' := [_, _, _, _]) (zt rfl) rfl ?_
        refine r_aload_n rfl ?_
        refine r_iload_n rfl ?_
        refine r_ineg ?_
        refine r_virtual (vs := []) (as := [_]) (by decide) (zl rfl) rfl rfl (zl rfl) (Nat.le_refl _) (Or.inr (Or.inr ⟨zt rfl, rfl, zt rfl⟩)) ?_
        refine w_word_6 (w := -(io (tkd (I 32) z (F (I 32) z i).2.1))) (by omega) hJ2 (fun hb1 => ?_) (fun K hK => ?_)
        · rw [List.length_append]; dsimp only; omega
        rw [List.append_assoc] at hK
        refine r_nil ?_
        refine E_go 4 rfl ?_
        refine r_iload_n rfl ?_
        refine r_iret rfl (bi_01 _) ?_
        have hx := qib_6 (hQ _) ((pNt_n c_6).trans (pCm_y hr1 (by omega))) hK
        exact hx
      · have c_52 := (not_congr (n_eq (a := (tkd (I 32) z (F (I 32) z i).2.1)) (b := 60) rfl rfl (by omega) (by omega))).mp c_52
        refine r_aload_n rfl ?_
        refine r_getI (by decide) rfl rfl (by decide) hJ.2.2.1.2.2.1 ?_
        refine r_bipush ?_
        refine r_icmp_ne (fun c_61 => ?_) (fun c_61 => ?_)
        · have c_61 := (not_congr (n_eq (a := (tkd (I 32) z (F (I 32) z i).2.1)) (b := 61) rfl rfl (by omega) (by omega))).mp c_61
          refine E_go 4 rfl ?_
          refine r_iload_n rfl ?_
          refine r_iret rfl (bi_01 _) ?_
          refine qib_6 (hQ _) ((pNt_n c_6).trans (pCm_n ?_)) hJ
          first
          | exact fun q => absurd q.1 (bi_0.mp c_43)
          | exact fun q => by omega
        · have c_61 := (n_eq (a := (tkd (I 32) z (F (I 32) z i).2.1)) (b := 61) rfl rfl (by omega) (by omega)).mp c_61
          refine r_nil ?_
          refine E_go 3 rfl ?_
          refine r_aload_n rfl ?_
          refine r_getI (by decide) rfl rfl (by decide) hJ.2.2.1.2.2.1 ?_
          refine r_istore_n (ls' := [_, _, _, _]) (zt rfl) rfl ?_
          refine r_aload_n rfl ?_
          refine r_virtual (vs := []) (as := []) (by decide) (zl rfl) rfl rfl (zl rfl) (Nat.le_refl _) (Or.inr (Or.inr ⟨zt rfl, rfl, zt rfl⟩)) ?_
          have hJ0 := hJ
          have hr1 := bi_n.mp c_43
          have hg1 := hg (I 32) z i hi
          have hT := tst_lt (b := I 32) hg1.1.2 (by omega : ¬ tkd (I 32) z (F (I 32) z i).2.1 = 0)
          have hT2 := tst_z (b := I 32) hg1.1.2
          refine s_steps_6 (by omega) (i := tst (I 32) z (F (I 32) z i).2.1) (z := z) (by rw [hJ.2.1]; exact hz) h160 hT2 hJ.2.2.1.1 (fun J1 h1 h2 => ?_)
          rw [hJ.1 32 (by omega)] at h2
          have hJ1 := RS_t hJ h1 h2
          obtain ⟨v1, e1, e2, e3⟩ := RS_v hJ1
          have e3 := e3 hr1
          dsimp only at e3
          have hq := hg (I 32) z _ hT2
          refine r_aload_n rfl ?_
          refine r_iload_n rfl ?_
          refine r_virtual (vs := []) (as := [_]) (by decide) (zl rfl) rfl rfl (zl rfl) (Nat.le_refl _) (Or.inr (Or.inr ⟨zt rfl, rfl, zt rfl⟩)) ?_
          refine hel J1 L _ (tst (I 32) z (F (I 32) z i).2.1) v1 z (by rw [hJ1.2.1]; exact hz) h160 hT2 (by rw [hJ1.1 32 (by omega)]; exact h2) e2 (by omega) (fun J2 h3 => ?_)
          rw [hJ1.1 32 (by omega)] at h3
          rw [hJ1.1 32 (by omega)]
          rw [e3] at h3
          have hJ2 := RS_app (q := F (I 32) z (tst (I 32) z (F (I 32) z i).2.1)) hJ1 hr1 h3
          refine r_istore_n (ls' := [_, _, _, _]) (zt rfl) rfl ?_
          refine r_aload_n rfl ?_
          refine r_iload_n rfl ?_
          refine r_ineg ?_
          refine r_virtual (vs := []) (as := [_]) (by decide) (zl rfl) rfl rfl (zl rfl) (Nat.le_refl _) (Or.inr (Or.inr ⟨zt rfl, rfl, zt rfl⟩)) ?_
          refine w_word_6 (w := -(io (tkd (I 32) z (F (I 32) z i).2.1))) (by omega) hJ2 (fun hb1 => ?_) (fun K hK => ?_)
          · rw [List.length_append]; dsimp only; omega
          rw [List.append_assoc] at hK
          refine r_nil ?_
          refine E_go 4 rfl ?_
          refine r_iload_n rfl ?_
          refine r_iret rfl (bi_01 _) ?_
          have hx := qib_6 (hQ _) ((pNt_n c_6).trans (pCm_y hr1 (by omega))) hK
          exact hx
  · have c_6 := (n_eq (a := (tkd (I 32) z i)) (b := 8) rfl rfl (by omega) (by omega)).mp c_6
    refine r_iload_n rfl ?_
    refine r_iconst ?_
    refine r_icmp_lt (fun c_11 => ?_) (fun c_11 => ?_)
    · have c_11 := (n_lt (a := o) (b := 5) rfl rfl (by omega) (by omega)).mp c_11
      refine E_go 1 rfl ?_
      refine r_aload_n rfl ?_
      refine r_virtual (vs := []) (as := []) (by decide) (zl rfl) rfl rfl (zl rfl) (Nat.le_refl _) (Or.inr (Or.inr ⟨zt rfl, rfl, zt rfl⟩)) ?_
      have hJ0 := RS_0 (b := true) hk hu (by omega)
      have hT := tst_lt (b := I 32) hi (by omega : ¬ tkd (I 32) z i = 0)
      have hT2 := tst_z (b := I 32) hi
      refine s_steps_6 (by omega) (i := tst (I 32) z i) (z := z) (by rw [hJ0.2.1]; exact hz) h160 hT2 hJ0.2.2.1.1 (fun J1 h1 h2 => ?_)
      rw [hJ0.1 32 (by omega)] at h2
      have hJ1 := RS_t hJ0 h1 h2
      obtain ⟨v1, e1, e2, e3⟩ := RS_v hJ1
      have e3 := e3 rfl
      dsimp only at e3
      refine r_aload_n rfl ?_
      refine r_iload_n rfl ?_
      refine r_iconst ?_
      refine r_iadd ?_
      refine r_virtual (vs := []) (as := [_]) (by decide) (zl rfl) rfl rfl (zl rfl) (Nat.le_refl _) (Or.inr (Or.inr ⟨zt rfl, rfl, zt rfl⟩)) ?_
      rw [io_succ o]
      refine hdp J1 L _ (tst (I 32) z i) v1 z (by rw [hJ1.2.1]; exact hz) h160 hT2 (by rw [hJ1.1 32 (by omega)]; exact h2) e2 (by rw [e3]; simp only [List.length_nil]; omega) (fun J2 h3 => ?_)
      rw [hJ1.1 32 (by omega)] at h3
      rw [hJ1.1 32 (by omega)]
      rw [e3] at h3
      have hJ2 := RS_app (q := G (I 32) z (tst (I 32) z i)) hJ1 rfl h3
      have hq := hgd (I 32) z _ hT2
      refine r_istore_n (ls' := [_, _, _, _]) (zt rfl) rfl ?_
      refine r_aload_n rfl ?_
      refine r_bipush ?_
      refine r_virtual (vs := []) (as := [_]) (by decide) (zl rfl) rfl rfl (zl rfl) (Nat.le_refl _) (Or.inr (Or.inr ⟨zt rfl, rfl, zt rfl⟩)) ?_
      refine w_word_6 (w := -8) (by omega) hJ2 (fun hb1 => ?_) (fun K hK => ?_)
      · rw [List.length_append]; dsimp only [List.length_nil]; omega
      refine r_iload_n rfl ?_
      refine r_iret rfl (bi_01 _) ?_
      have hx := qib_6 (hQ _) (pNt_8 c_6) hK
      exact hx
    · have c_11 := (not_congr (n_lt (a := o) (b := 5) rfl rfl (by omega) (by omega))).mp c_11
      exact absurd hd5 c_11

set_option maxRecDepth 10000 in
theorem s_readsOne0_6 {xs : xSc} {m : Nat} (hm : 7 ≤ m) : Sp_6 xs xi_X2_readsOne (m + 1) 5 (fun b z i => pAt (tkd b z) (tst b z) (twt b z) none i) := by
  intro I L Q i u z hz h160 hi hk hu hui hQ
  have htk := tkd_lt (b := I 32) (z := z) (i := i)
  dsimp only at hQ
  refine M_go (ls := [_, _, _]) (ml := 3) rfl rfl rfl (zl rfl) rfl ?_
  refine r_aload_n rfl ?_
  refine r_getI (by decide) rfl rfl (by decide) hk.2.2.1 ?_
  refine r_iconst ?_
  refine r_icmp_ne (fun c_5 => ?_) (fun c_5 => ?_)
  · have c_5 := (not_congr (n_eq (a := (tkd (I 32) z i)) (b := 2) rfl rfl (by omega) (by omega))).mp c_5
    refine E_go 1 rfl ?_
    refine r_aload_n rfl ?_
    refine r_getI (by decide) rfl rfl (by decide) hk.2.2.1 ?_
    refine r_bipush ?_
    refine r_icmp_lt (fun c_28 => ?_) (fun c_28 => ?_)
    · have c_28 := (n_lt (a := (tkd (I 32) z i)) (b := 10) rfl rfl (by omega) (by omega)).mp c_28
      refine E_go 2 rfl ?_
      refine r_aload_n rfl ?_
      refine r_getI (by decide) rfl rfl (by decide) hk.2.2.1 ?_
      refine r_bipush ?_
      refine r_icmp_eq (fun c_61 => ?_) (fun c_61 => ?_)
      · have c_61 := (n_eq (a := (tkd (I 32) z i)) (b := 45) rfl rfl (by omega) (by omega)).mp c_61
        refine E_go 3 rfl ?_
        refine r_iload_n rfl ?_
        refine r_iconst ?_
        refine r_icmp_lt (fun c_75 => ?_) (fun c_75 => ?_)
        · have c_75 := (n_lt (a := 5) (b := 5) rfl rfl (by omega) (by omega)).mp c_75
          exact absurd c_75 (by decide)
        · have c_75 := (not_congr (n_lt (a := 5) (b := 5) rfl rfl (by omega) (by omega))).mp c_75
          refine r_nil ?_
          refine E_go 4 rfl ?_
          refine r_iconst ?_
          refine r_iret rfl (by first | exact Or.inl rfl | exact Or.inr rfl) ?_
          have hx := qib_6 (hQ _) (pAt_f0 c_5 (by omega)) (RS_0 hk hu (by omega))
          exact hx
      · have c_61 := (not_congr (n_eq (a := (tkd (I 32) z i)) (b := 45) rfl rfl (by omega) (by omega))).mp c_61
        refine r_aload_n rfl ?_
        refine r_getI (by decide) rfl rfl (by decide) hk.2.2.1 ?_
        refine r_bipush ?_
        refine r_icmp_ne (fun c_70 => ?_) (fun c_70 => ?_)
        · have c_70 := (not_congr (n_eq (a := (tkd (I 32) z i)) (b := 40) rfl rfl (by omega) (by omega))).mp c_70
          refine E_go 4 rfl ?_
          refine r_iconst ?_
          refine r_iret rfl (by first | exact Or.inl rfl | exact Or.inr rfl) ?_
          have hx := qib_6 (hQ _) (pAt_f0 c_5 (by omega)) (RS_0 hk hu (by omega))
          exact hx
        · have c_70 := (n_eq (a := (tkd (I 32) z i)) (b := 40) rfl rfl (by omega) (by omega)).mp c_70
          refine r_nil ?_
          refine E_go 3 rfl ?_
          refine r_iload_n rfl ?_
          refine r_iconst ?_
          refine r_icmp_lt (fun c_75 => ?_) (fun c_75 => ?_)
          · have c_75 := (n_lt (a := 5) (b := 5) rfl rfl (by omega) (by omega)).mp c_75
            exact absurd c_75 (by decide)
          · have c_75 := (not_congr (n_lt (a := 5) (b := 5) rfl rfl (by omega) (by omega))).mp c_75
            refine r_nil ?_
            refine E_go 4 rfl ?_
            refine r_iconst ?_
            refine r_iret rfl (by first | exact Or.inl rfl | exact Or.inr rfl) ?_
            have hx := qib_6 (hQ _) (pAt_f0 c_5 (by omega)) (RS_0 hk hu (by omega))
            exact hx
    · have c_28 := (not_congr (n_lt (a := (tkd (I 32) z i)) (b := 10) rfl rfl (by omega) (by omega))).mp c_28
      refine r_aload_n rfl ?_
      refine r_getI (by decide) rfl rfl (by decide) hk.2.2.1 ?_
      refine r_bipush ?_
      refine r_icmp_ge (fun c_37 => ?_) (fun c_37 => ?_)
      · have c_37 := (n_le (a := 16) (b := (tkd (I 32) z i)) rfl rfl (by omega) (by omega)).mp c_37
        refine E_go 2 rfl ?_
        refine r_aload_n rfl ?_
        refine r_getI (by decide) rfl rfl (by decide) hk.2.2.1 ?_
        refine r_bipush ?_
        refine r_icmp_eq (fun c_61 => ?_) (fun c_61 => ?_)
        · have c_61 := (n_eq (a := (tkd (I 32) z i)) (b := 45) rfl rfl (by omega) (by omega)).mp c_61
          refine E_go 3 rfl ?_
          refine r_iload_n rfl ?_
          refine r_iconst ?_
          refine r_icmp_lt (fun c_75 => ?_) (fun c_75 => ?_)
          · have c_75 := (n_lt (a := 5) (b := 5) rfl rfl (by omega) (by omega)).mp c_75
            exact absurd c_75 (by decide)
          · have c_75 := (not_congr (n_lt (a := 5) (b := 5) rfl rfl (by omega) (by omega))).mp c_75
            refine r_nil ?_
            refine E_go 4 rfl ?_
            refine r_iconst ?_
            refine r_iret rfl (by first | exact Or.inl rfl | exact Or.inr rfl) ?_
            have hx := qib_6 (hQ _) (pAt_f0 c_5 (by omega)) (RS_0 hk hu (by omega))
            exact hx
        · have c_61 := (not_congr (n_eq (a := (tkd (I 32) z i)) (b := 45) rfl rfl (by omega) (by omega))).mp c_61
          refine r_aload_n rfl ?_
          refine r_getI (by decide) rfl rfl (by decide) hk.2.2.1 ?_
          refine r_bipush ?_
          refine r_icmp_ne (fun c_70 => ?_) (fun c_70 => ?_)
          · have c_70 := (not_congr (n_eq (a := (tkd (I 32) z i)) (b := 40) rfl rfl (by omega) (by omega))).mp c_70
            refine E_go 4 rfl ?_
            refine r_iconst ?_
            refine r_iret rfl (by first | exact Or.inl rfl | exact Or.inr rfl) ?_
            have hx := qib_6 (hQ _) (pAt_f0 c_5 (by omega)) (RS_0 hk hu (by omega))
            exact hx
          · have c_70 := (n_eq (a := (tkd (I 32) z i)) (b := 40) rfl rfl (by omega) (by omega)).mp c_70
            refine r_nil ?_
            refine E_go 3 rfl ?_
            refine r_iload_n rfl ?_
            refine r_iconst ?_
            refine r_icmp_lt (fun c_75 => ?_) (fun c_75 => ?_)
            · have c_75 := (n_lt (a := 5) (b := 5) rfl rfl (by omega) (by omega)).mp c_75
              exact absurd c_75 (by decide)
            · have c_75 := (not_congr (n_lt (a := 5) (b := 5) rfl rfl (by omega) (by omega))).mp c_75
              refine r_nil ?_
              refine E_go 4 rfl ?_
              refine r_iconst ?_
              refine r_iret rfl (by first | exact Or.inl rfl | exact Or.inr rfl) ?_
              have hx := qib_6 (hQ _) (pAt_f0 c_5 (by omega)) (RS_0 hk hu (by omega))
              exact hx
      · have c_37 := (not_congr (n_le (a := 16) (b := (tkd (I 32) z i)) rfl rfl (by omega) (by omega))).mp c_37
        refine r_aload_n rfl ?_
        refine r_aload_n rfl ?_
        refine r_getI (by decide) rfl rfl (by decide) hk.2.2.1 ?_
        refine r_ineg ?_
        refine r_virtual (vs := []) (as := [_]) (by decide) (zl rfl) rfl rfl (zl rfl) (Nat.le_refl _) (Or.inr (Or.inr ⟨zt rfl, rfl, zt rfl⟩)) ?_
        have hT := tst_lt (b := I 32) hi (by omega : ¬ tkd (I 32) z i = 0)
        have hT2 := tst_z (b := I 32) hi
        refine w_word_6 (w := (-(io (tkd (I 32) z i)))) (by omega) (RS_0 (b := true) hk hu (by omega)) (fun hb1 => ?_) (fun K hK => ?_)
        · dsimp only [List.length_nil]; omega
        refine r_aload_n rfl ?_
        refine r_virtual (vs := []) (as := []) (by decide) (zl rfl) rfl rfl (zl rfl) (Nat.le_refl _) (Or.inr (Or.inr ⟨zt rfl, rfl, zt rfl⟩)) ?_
        refine s_steps_6 (by omega) (i := tst (I 32) z i) (z := z) (by rw [hK.2.1]; exact hz) h160 hT2 hK.2.2.1.1 (fun J1 h1 h2 => ?_)
        rw [hK.1 32 (by omega)] at h2
        have hJ1 := RS_t hK h1 h2
        refine r_iconst ?_
        refine r_iret rfl (by first | exact Or.inl rfl | exact Or.inr rfl) ?_
        have hx := qib_6 (hQ _) (pAt_n (by omega) (by omega)) hJ1
        exact hx
  · have c_5 := (n_eq (a := (tkd (I 32) z i)) (b := 2) rfl rfl (by omega) (by omega)).mp c_5
    refine r_aload_n rfl ?_
    refine r_aload_n rfl ?_
    refine r_getI (by decide) rfl rfl (by decide) (hk.2.2.2 c_5) ?_
    refine r_virtual (vs := []) (as := [_]) (by decide) (zl rfl) rfl rfl (zl rfl) (Nat.le_refl _) (Or.inr (Or.inr ⟨zt rfl, rfl, zt rfl⟩)) ?_
    have hT := tst_lt (b := I 32) hi (by omega : ¬ tkd (I 32) z i = 0)
    have hT2 := tst_z (b := I 32) hi
    refine w_word_6 (w := (twt (I 32) z i)) (by omega) (RS_0 (b := true) hk hu (by omega)) (fun hb1 => ?_) (fun K hK => ?_)
    · dsimp only [List.length_nil]; omega
    refine r_aload_n rfl ?_
    refine r_virtual (vs := []) (as := []) (by decide) (zl rfl) rfl rfl (zl rfl) (Nat.le_refl _) (Or.inr (Or.inr ⟨zt rfl, rfl, zt rfl⟩)) ?_
    refine s_steps_6 (by omega) (i := tst (I 32) z i) (z := z) (by rw [hK.2.1]; exact hz) h160 hT2 hK.2.2.1.1 (fun J1 h1 h2 => ?_)
    rw [hK.1 32 (by omega)] at h2
    have hJ1 := RS_t hK h1 h2
    refine r_iconst ?_
    refine r_iret rfl (by first | exact Or.inl rfl | exact Or.inr rfl) ?_
    have hx := qib_6 (hQ _) (pAt_2 c_5) hJ1
    exact hx

set_option maxRecDepth 10000 in
theorem s_readsOneS_6 {xs : xSc} {m o : Nat} {G G2 : PFn} (hm : 7 ≤ m) (hd5 : o < 5) (hgd : ∀ b z, gd z (G b z)) (hgo : ∀ b z, gd z (G2 b z)) (hdp : Sp_6 xs xi_X2_readsOne m (o + 1) G) (hdo : Sp_6 xs xi_X2_readsOr m (o + 1) G2) : Sp_6 xs xi_X2_readsOne (m + 1) o (fun b z i => pAt (tkd b z) (tst b z) (twt b z) (some (G b z, G2 b z)) i) := by
  intro I L Q i u z hz h160 hi hk hu hui hQ
  have htk := tkd_lt (b := I 32) (z := z) (i := i)
  dsimp only at hQ
  refine M_go (ls := [_, _, _]) (ml := 3) rfl rfl rfl (zl rfl) rfl ?_
  refine r_aload_n rfl ?_
  refine r_getI (by decide) rfl rfl (by decide) hk.2.2.1 ?_
  refine r_iconst ?_
  refine r_icmp_ne (fun c_5 => ?_) (fun c_5 => ?_)
  · have c_5 := (not_congr (n_eq (a := (tkd (I 32) z i)) (b := 2) rfl rfl (by omega) (by omega))).mp c_5
    refine E_go 1 rfl ?_
    refine r_aload_n rfl ?_
    refine r_getI (by decide) rfl rfl (by decide) hk.2.2.1 ?_
    refine r_bipush ?_
    refine r_icmp_lt (fun c_28 => ?_) (fun c_28 => ?_)
    · have c_28 := (n_lt (a := (tkd (I 32) z i)) (b := 10) rfl rfl (by omega) (by omega)).mp c_28
      refine E_go 2 rfl ?_
      refine r_aload_n rfl ?_
      refine r_getI (by decide) rfl rfl (by decide) hk.2.2.1 ?_
      refine r_bipush ?_
      refine r_icmp_eq (fun c_61 => ?_) (fun c_61 => ?_)
      · have c_61 := (n_eq (a := (tkd (I 32) z i)) (b := 45) rfl rfl (by omega) (by omega)).mp c_61
        refine E_go 3 rfl ?_
        refine r_iload_n rfl ?_
        refine r_iconst ?_
        refine r_icmp_lt (fun c_75 => ?_) (fun c_75 => ?_)
        · have c_75 := (n_lt (a := o) (b := 5) rfl rfl (by omega) (by omega)).mp c_75
          refine E_go 5 rfl ?_
          refine r_aload_n rfl ?_
          refine r_getI (by decide) rfl rfl (by decide) hk.2.2.1 ?_
          refine r_bipush ?_
          refine r_icmp_ne (fun c_86 => ?_) (fun c_86 => ?_)
          · have c_86 := (not_congr (n_eq (a := (tkd (I 32) z i)) (b := 45) rfl rfl (by omega) (by omega))).mp c_86
            refine E_go 6 rfl ?_
            refine r_aload_n rfl ?_
            refine r_virtual (vs := []) (as := []) (by decide) (zl rfl) rfl rfl (zl rfl) (Nat.le_refl _) (Or.inr (Or.inr ⟨zt rfl, rfl, zt rfl⟩)) ?_
            have hJ0 := RS_0 (b := true) hk hu (by omega)
            have hT := tst_lt (b := I 32) hi (by omega : ¬ tkd (I 32) z i = 0)
            have hT2 := tst_z (b := I 32) hi
            refine s_steps_6 (by omega) (i := tst (I 32) z i) (z := z) (by rw [hJ0.2.1]; exact hz) h160 hT2 hJ0.2.2.1.1 (fun J1 h1 h2 => ?_)
            rw [hJ0.1 32 (by omega)] at h2
            have hJ1 := RS_t hJ0 h1 h2
            obtain ⟨v1, e1, e2, e3⟩ := RS_v hJ1
            have e3 := e3 rfl
            dsimp only at e3
            refine r_aload_n rfl ?_
            refine r_iload_n rfl ?_
            refine r_iconst ?_
            refine r_iadd ?_
            refine r_virtual (vs := []) (as := [_]) (by decide) (zl rfl) rfl rfl (zl rfl) (Nat.le_refl _) (Or.inr (Or.inr ⟨zt rfl, rfl, zt rfl⟩)) ?_
            rw [io_succ o]
            refine hdo J1 L _ (tst (I 32) z i) v1 z (by rw [hJ1.2.1]; exact hz) h160 hT2 (by rw [hJ1.1 32 (by omega)]; exact h2) e2 (by rw [e3]; simp only [List.length_nil]; omega) (fun J2 h3 => ?_)
            rw [hJ1.1 32 (by omega)] at h3
            rw [hJ1.1 32 (by omega)]
            rw [e3] at h3
            have hJ2 := RS_app (q := G2 (I 32) z (tst (I 32) z i)) hJ1 rfl h3
            have hq := hgo (I 32) z _ hT2
            have htj := tkd_lt (b := I 32) (z := z) (i := (G2 (I 32) z (tst (I 32) z i)).2.1)
            refine r_if_eq (fun c_120 => ?_) (fun c_120 => ?_)
            · refine E_go 7 rfl ?_
              refine r_iconst ?_
              refine r_iret rfl (by first | exact Or.inl rfl | exact Or.inr rfl) ?_
              first
              | (have hx := qib_6 (hQ _) (pAt_p3 (by omega) (bi_0.mp c_120)) hJ2
                 rw [c_120] at hx
                 exact hx)
              | (have hx := qib_6 (hQ _) (pAt_p2 (by omega) (bi_n.mp c_120) c_129) (RS_fl hJ2)
                 exact hx)
            · refine r_aload_n rfl ?_
              refine r_getI (by decide) rfl rfl (by decide) hJ2.2.2.1.2.2.1 ?_
              refine r_bipush ?_
              refine r_icmp_eq (fun c_129 => ?_) (fun c_129 => ?_)
              · have c_129 := (n_eq (a := (tkd (I 32) z (G2 (I 32) z (tst (I 32) z i)).2.1)) (b := 41) rfl rfl (by omega) (by omega)).mp c_129
                refine E_go 8 rfl ?_
                refine r_aload_n rfl ?_
                refine r_virtual (vs := []) (as := []) (by decide) (zl rfl) rfl rfl (zl rfl) (Nat.le_refl _) (Or.inr (Or.inr ⟨zt rfl, rfl, zt rfl⟩)) ?_
                have hq1 := bi_n.mp c_120
                have hT3 := tst_z (b := I 32) hq.1.2
                refine s_steps_6 (by omega) (i := tst (I 32) z (G2 (I 32) z (tst (I 32) z i)).2.1) (z := z) (by rw [hJ2.2.1]; exact hz) h160 hT3 hJ2.2.2.1.1 (fun J3 h31 h32 => ?_)
                rw [hJ2.1 32 (by omega)] at h32
                have hJ3 := RS_t hJ2 h31 h32
                refine r_iconst ?_
                refine r_iret rfl (by first | exact Or.inl rfl | exact Or.inr rfl) ?_
                have hx := qib_6 (hQ _) (pAt_p1 (by omega) hq1 c_129) (by have hy := hJ3; rw [hq1] at hy; exact hy)
                exact hx
              · have c_129 := (not_congr (n_eq (a := (tkd (I 32) z (G2 (I 32) z (tst (I 32) z i)).2.1)) (b := 41) rfl rfl (by omega) (by omega))).mp c_129
                refine r_nil ?_
                refine E_go 7 rfl ?_
                refine r_iconst ?_
                refine r_iret rfl (by first | exact Or.inl rfl | exact Or.inr rfl) ?_
                first
                | (have hx := qib_6 (hQ _) (pAt_p3 (by omega) (bi_0.mp c_120)) hJ2
                   rw [c_120] at hx
                   exact hx)
                | (have hx := qib_6 (hQ _) (pAt_p2 (by omega) (bi_n.mp c_120) c_129) (RS_fl hJ2)
                   exact hx)
          · have c_86 := (n_eq (a := (tkd (I 32) z i)) (b := 45) rfl rfl (by omega) (by omega)).mp c_86
            refine r_aload_n rfl ?_
            refine r_virtual (vs := []) (as := []) (by decide) (zl rfl) rfl rfl (zl rfl) (Nat.le_refl _) (Or.inr (Or.inr ⟨zt rfl, rfl, zt rfl⟩)) ?_
            have hJ0 := RS_0 (b := true) hk hu (by omega)
            have hT := tst_lt (b := I 32) hi (by omega : ¬ tkd (I 32) z i = 0)
            have hT2 := tst_z (b := I 32) hi
            refine s_steps_6 (by omega) (i := tst (I 32) z i) (z := z) (by rw [hJ0.2.1]; exact hz) h160 hT2 hJ0.2.2.1.1 (fun J1 h1 h2 => ?_)
            rw [hJ0.1 32 (by omega)] at h2
            have hJ1 := RS_t hJ0 h1 h2
            obtain ⟨v1, e1, e2, e3⟩ := RS_v hJ1
            have e3 := e3 rfl
            dsimp only at e3
            refine r_aload_n rfl ?_
            refine r_iload_n rfl ?_
            refine r_iconst ?_
            refine r_iadd ?_
            refine r_virtual (vs := []) (as := [_]) (by decide) (zl rfl) rfl rfl (zl rfl) (Nat.le_refl _) (Or.inr (Or.inr ⟨zt rfl, rfl, zt rfl⟩)) ?_
            rw [io_succ o]
            refine hdp J1 L _ (tst (I 32) z i) v1 z (by rw [hJ1.2.1]; exact hz) h160 hT2 (by rw [hJ1.1 32 (by omega)]; exact h2) e2 (by rw [e3]; simp only [List.length_nil]; omega) (fun J2 h3 => ?_)
            rw [hJ1.1 32 (by omega)] at h3
            rw [hJ1.1 32 (by omega)]
            rw [e3] at h3
            have hJ2 := RS_app (q := G (I 32) z (tst (I 32) z i)) hJ1 rfl h3
            have hq := hgd (I 32) z _ hT2
            have htj := tkd_lt (b := I 32) (z := z) (i := (G (I 32) z (tst (I 32) z i)).2.1)
            refine r_istore_n (ls' := [_, _, _]) (zt rfl) rfl ?_
            refine r_aload_n rfl ?_
            refine r_bipush ?_
            refine r_virtual (vs := []) (as := [_]) (by decide) (zl rfl) rfl rfl (zl rfl) (Nat.le_refl _) (Or.inr (Or.inr ⟨zt rfl, rfl, zt rfl⟩)) ?_
            refine w_word_6 (w := -9) (by omega) hJ2 (fun hb1 => ?_) (fun K hK => ?_)
            · rw [List.length_append]; dsimp only [List.length_nil]; omega
            refine r_iload_n rfl ?_
            refine r_iret rfl (bi_01 _) ?_
            have hx := qib_6 (hQ _) (pAt_m (by omega)) hK
            exact hx
        · have c_75 := (not_congr (n_lt (a := o) (b := 5) rfl rfl (by omega) (by omega))).mp c_75
          exact absurd hd5 c_75
      · have c_61 := (not_congr (n_eq (a := (tkd (I 32) z i)) (b := 45) rfl rfl (by omega) (by omega))).mp c_61
        refine r_aload_n rfl ?_
        refine r_getI (by decide) rfl rfl (by decide) hk.2.2.1 ?_
        refine r_bipush ?_
        refine r_icmp_ne (fun c_70 => ?_) (fun c_70 => ?_)
        · have c_70 := (not_congr (n_eq (a := (tkd (I 32) z i)) (b := 40) rfl rfl (by omega) (by omega))).mp c_70
          refine E_go 4 rfl ?_
          refine r_iconst ?_
          refine r_iret rfl (by first | exact Or.inl rfl | exact Or.inr rfl) ?_
          have hx := qib_6 (hQ _) (pAt_f c_5 (by omega) (by omega) (by omega)) (RS_0 hk hu (by omega))
          exact hx
        · have c_70 := (n_eq (a := (tkd (I 32) z i)) (b := 40) rfl rfl (by omega) (by omega)).mp c_70
          refine r_nil ?_
          refine E_go 3 rfl ?_
          refine r_iload_n rfl ?_
          refine r_iconst ?_
          refine r_icmp_lt (fun c_75 => ?_) (fun c_75 => ?_)
          · have c_75 := (n_lt (a := o) (b := 5) rfl rfl (by omega) (by omega)).mp c_75
            refine E_go 5 rfl ?_
            refine r_aload_n rfl ?_
            refine r_getI (by decide) rfl rfl (by decide) hk.2.2.1 ?_
            refine r_bipush ?_
            refine r_icmp_ne (fun c_86 => ?_) (fun c_86 => ?_)
            · have c_86 := (not_congr (n_eq (a := (tkd (I 32) z i)) (b := 45) rfl rfl (by omega) (by omega))).mp c_86
              refine E_go 6 rfl ?_
              refine r_aload_n rfl ?_
              refine r_virtual (vs := []) (as := []) (by decide) (zl rfl) rfl rfl (zl rfl) (Nat.le_refl _) (Or.inr (Or.inr ⟨zt rfl, rfl, zt rfl⟩)) ?_
              have hJ0 := RS_0 (b := true) hk hu (by omega)
              have hT := tst_lt (b := I 32) hi (by omega : ¬ tkd (I 32) z i = 0)
              have hT2 := tst_z (b := I 32) hi
              refine s_steps_6 (by omega) (i := tst (I 32) z i) (z := z) (by rw [hJ0.2.1]; exact hz) h160 hT2 hJ0.2.2.1.1 (fun J1 h1 h2 => ?_)
              rw [hJ0.1 32 (by omega)] at h2
              have hJ1 := RS_t hJ0 h1 h2
              obtain ⟨v1, e1, e2, e3⟩ := RS_v hJ1
              have e3 := e3 rfl
              dsimp only at e3
              refine r_aload_n rfl ?_
              refine r_iload_n rfl ?_
              refine r_iconst ?_
              refine r_iadd ?_
              refine r_virtual (vs := []) (as := [_]) (by decide) (zl rfl) rfl rfl (zl rfl) (Nat.le_refl _) (Or.inr (Or.inr ⟨zt rfl, rfl, zt rfl⟩)) ?_
              rw [io_succ o]
              refine hdo J1 L _ (tst (I 32) z i) v1 z (by rw [hJ1.2.1]; exact hz) h160 hT2 (by rw [hJ1.1 32 (by omega)]; exact h2) e2 (by rw [e3]; simp only [List.length_nil]; omega) (fun J2 h3 => ?_)
              rw [hJ1.1 32 (by omega)] at h3
              rw [hJ1.1 32 (by omega)]
              rw [e3] at h3
              have hJ2 := RS_app (q := G2 (I 32) z (tst (I 32) z i)) hJ1 rfl h3
              have hq := hgo (I 32) z _ hT2
              have htj := tkd_lt (b := I 32) (z := z) (i := (G2 (I 32) z (tst (I 32) z i)).2.1)
              refine r_if_eq (fun c_120 => ?_) (fun c_120 => ?_)
              · refine E_go 7 rfl ?_
                refine r_iconst ?_
                refine r_iret rfl (by first | exact Or.inl rfl | exact Or.inr rfl) ?_
                first
                | (have hx := qib_6 (hQ _) (pAt_p3 (by omega) (bi_0.mp c_120)) hJ2
                   rw [c_120] at hx
                   exact hx)
                | (have hx := qib_6 (hQ _) (pAt_p2 (by omega) (bi_n.mp c_120) c_129) (RS_fl hJ2)
                   exact hx)
              · refine r_aload_n rfl ?_
                refine r_getI (by decide) rfl rfl (by decide) hJ2.2.2.1.2.2.1 ?_
                refine r_bipush ?_
                refine r_icmp_eq (fun c_129 => ?_) (fun c_129 => ?_)
                · have c_129 := (n_eq (a := (tkd (I 32) z (G2 (I 32) z (tst (I 32) z i)).2.1)) (b := 41) rfl rfl (by omega) (by omega)).mp c_129
                  refine E_go 8 rfl ?_
                  refine r_aload_n rfl ?_
                  refine r_virtual (vs := []) (as := []) (by decide) (zl rfl) rfl rfl (zl rfl) (Nat.le_refl _) (Or.inr (Or.inr ⟨zt rfl, rfl, zt rfl⟩)) ?_
                  have hq1 := bi_n.mp c_120
                  have hT3 := tst_z (b := I 32) hq.1.2
                  refine s_steps_6 (by omega) (i := tst (I 32) z (G2 (I 32) z (tst (I 32) z i)).2.1) (z := z) (by rw [hJ2.2.1]; exact hz) h160 hT3 hJ2.2.2.1.1 (fun J3 h31 h32 => ?_)
                  rw [hJ2.1 32 (by omega)] at h32
                  have hJ3 := RS_t hJ2 h31 h32
                  refine r_iconst ?_
                  refine r_iret rfl (by first | exact Or.inl rfl | exact Or.inr rfl) ?_
                  have hx := qib_6 (hQ _) (pAt_p1 (by omega) hq1 c_129) (by have hy := hJ3; rw [hq1] at hy; exact hy)
                  exact hx
                · have c_129 := (not_congr (n_eq (a := (tkd (I 32) z (G2 (I 32) z (tst (I 32) z i)).2.1)) (b := 41) rfl rfl (by omega) (by omega))).mp c_129
                  refine r_nil ?_
                  refine E_go 7 rfl ?_
                  refine r_iconst ?_
                  refine r_iret rfl (by first | exact Or.inl rfl | exact Or.inr rfl) ?_
                  first
                  | (have hx := qib_6 (hQ _) (pAt_p3 (by omega) (bi_0.mp c_120)) hJ2
                     rw [c_120] at hx
                     exact hx)
                  | (have hx := qib_6 (hQ _) (pAt_p2 (by omega) (bi_n.mp c_120) c_129) (RS_fl hJ2)
                     exact hx)
            · have c_86 := (n_eq (a := (tkd (I 32) z i)) (b := 45) rfl rfl (by omega) (by omega)).mp c_86
              refine r_aload_n rfl ?_
              refine r_virtual (vs := []) (as := []) (by decide) (zl rfl) rfl rfl (zl rfl) (Nat.le_refl _) (Or.inr (Or.inr ⟨zt rfl, rfl, zt rfl⟩)) ?_
              have hJ0 := RS_0 (b := true) hk hu (by omega)
              have hT := tst_lt (b := I 32) hi (by omega : ¬ tkd (I 32) z i = 0)
              have hT2 := tst_z (b := I 32) hi
              refine s_steps_6 (by omega) (i := tst (I 32) z i) (z := z) (by rw [hJ0.2.1]; exact hz) h160 hT2 hJ0.2.2.1.1 (fun J1 h1 h2 => ?_)
              rw [hJ0.1 32 (by omega)] at h2
              have hJ1 := RS_t hJ0 h1 h2
              obtain ⟨v1, e1, e2, e3⟩ := RS_v hJ1
              have e3 := e3 rfl
              dsimp only at e3
              refine r_aload_n rfl ?_
              refine r_iload_n rfl ?_
              refine r_iconst ?_
              refine r_iadd ?_
              refine r_virtual (vs := []) (as := [_]) (by decide) (zl rfl) rfl rfl (zl rfl) (Nat.le_refl _) (Or.inr (Or.inr ⟨zt rfl, rfl, zt rfl⟩)) ?_
              rw [io_succ o]
              refine hdp J1 L _ (tst (I 32) z i) v1 z (by rw [hJ1.2.1]; exact hz) h160 hT2 (by rw [hJ1.1 32 (by omega)]; exact h2) e2 (by rw [e3]; simp only [List.length_nil]; omega) (fun J2 h3 => ?_)
              rw [hJ1.1 32 (by omega)] at h3
              rw [hJ1.1 32 (by omega)]
              rw [e3] at h3
              have hJ2 := RS_app (q := G (I 32) z (tst (I 32) z i)) hJ1 rfl h3
              have hq := hgd (I 32) z _ hT2
              have htj := tkd_lt (b := I 32) (z := z) (i := (G (I 32) z (tst (I 32) z i)).2.1)
              refine r_istore_n (ls' := [_, _, _]) (zt rfl) rfl ?_
              refine r_aload_n rfl ?_
              refine r_bipush ?_
              refine r_virtual (vs := []) (as := [_]) (by decide) (zl rfl) rfl rfl (zl rfl) (Nat.le_refl _) (Or.inr (Or.inr ⟨zt rfl, rfl, zt rfl⟩)) ?_
              refine w_word_6 (w := -9) (by omega) hJ2 (fun hb1 => ?_) (fun K hK => ?_)
              · rw [List.length_append]; dsimp only [List.length_nil]; omega
              refine r_iload_n rfl ?_
              refine r_iret rfl (bi_01 _) ?_
              have hx := qib_6 (hQ _) (pAt_m (by omega)) hK
              exact hx
          · have c_75 := (not_congr (n_lt (a := o) (b := 5) rfl rfl (by omega) (by omega))).mp c_75
            exact absurd hd5 c_75
    · have c_28 := (not_congr (n_lt (a := (tkd (I 32) z i)) (b := 10) rfl rfl (by omega) (by omega))).mp c_28
      refine r_aload_n rfl ?_
      refine r_getI (by decide) rfl rfl (by decide) hk.2.2.1 ?_
      refine r_bipush ?_
      refine r_icmp_ge (fun c_37 => ?_) (fun c_37 => ?_)
      · have c_37 := (n_le (a := 16) (b := (tkd (I 32) z i)) rfl rfl (by omega) (by omega)).mp c_37
        refine E_go 2 rfl ?_
        refine r_aload_n rfl ?_
        refine r_getI (by decide) rfl rfl (by decide) hk.2.2.1 ?_
        refine r_bipush ?_
        refine r_icmp_eq (fun c_61 => ?_) (fun c_61 => ?_)
        · have c_61 := (n_eq (a := (tkd (I 32) z i)) (b := 45) rfl rfl (by omega) (by omega)).mp c_61
          refine E_go 3 rfl ?_
          refine r_iload_n rfl ?_
          refine r_iconst ?_
          refine r_icmp_lt (fun c_75 => ?_) (fun c_75 => ?_)
          · have c_75 := (n_lt (a := o) (b := 5) rfl rfl (by omega) (by omega)).mp c_75
            refine E_go 5 rfl ?_
            refine r_aload_n rfl ?_
            refine r_getI (by decide) rfl rfl (by decide) hk.2.2.1 ?_
            refine r_bipush ?_
            refine r_icmp_ne (fun c_86 => ?_) (fun c_86 => ?_)
            · have c_86 := (not_congr (n_eq (a := (tkd (I 32) z i)) (b := 45) rfl rfl (by omega) (by omega))).mp c_86
              refine E_go 6 rfl ?_
              refine r_aload_n rfl ?_
              refine r_virtual (vs := []) (as := []) (by decide) (zl rfl) rfl rfl (zl rfl) (Nat.le_refl _) (Or.inr (Or.inr ⟨zt rfl, rfl, zt rfl⟩)) ?_
              have hJ0 := RS_0 (b := true) hk hu (by omega)
              have hT := tst_lt (b := I 32) hi (by omega : ¬ tkd (I 32) z i = 0)
              have hT2 := tst_z (b := I 32) hi
              refine s_steps_6 (by omega) (i := tst (I 32) z i) (z := z) (by rw [hJ0.2.1]; exact hz) h160 hT2 hJ0.2.2.1.1 (fun J1 h1 h2 => ?_)
              rw [hJ0.1 32 (by omega)] at h2
              have hJ1 := RS_t hJ0 h1 h2
              obtain ⟨v1, e1, e2, e3⟩ := RS_v hJ1
              have e3 := e3 rfl
              dsimp only at e3
              refine r_aload_n rfl ?_
              refine r_iload_n rfl ?_
              refine r_iconst ?_
              refine r_iadd ?_
              refine r_virtual (vs := []) (as := [_]) (by decide) (zl rfl) rfl rfl (zl rfl) (Nat.le_refl _) (Or.inr (Or.inr ⟨zt rfl, rfl, zt rfl⟩)) ?_
              rw [io_succ o]
              refine hdo J1 L _ (tst (I 32) z i) v1 z (by rw [hJ1.2.1]; exact hz) h160 hT2 (by rw [hJ1.1 32 (by omega)]; exact h2) e2 (by rw [e3]; simp only [List.length_nil]; omega) (fun J2 h3 => ?_)
              rw [hJ1.1 32 (by omega)] at h3
              rw [hJ1.1 32 (by omega)]
              rw [e3] at h3
              have hJ2 := RS_app (q := G2 (I 32) z (tst (I 32) z i)) hJ1 rfl h3
              have hq := hgo (I 32) z _ hT2
              have htj := tkd_lt (b := I 32) (z := z) (i := (G2 (I 32) z (tst (I 32) z i)).2.1)
              refine r_if_eq (fun c_120 => ?_) (fun c_120 => ?_)
              · refine E_go 7 rfl ?_
                refine r_iconst ?_
                refine r_iret rfl (by first | exact Or.inl rfl | exact Or.inr rfl) ?_
                first
                | (have hx := qib_6 (hQ _) (pAt_p3 (by omega) (bi_0.mp c_120)) hJ2
                   rw [c_120] at hx
                   exact hx)
                | (have hx := qib_6 (hQ _) (pAt_p2 (by omega) (bi_n.mp c_120) c_129) (RS_fl hJ2)
                   exact hx)
              · refine r_aload_n rfl ?_
                refine r_getI (by decide) rfl rfl (by decide) hJ2.2.2.1.2.2.1 ?_
                refine r_bipush ?_
                refine r_icmp_eq (fun c_129 => ?_) (fun c_129 => ?_)
                · have c_129 := (n_eq (a := (tkd (I 32) z (G2 (I 32) z (tst (I 32) z i)).2.1)) (b := 41) rfl rfl (by omega) (by omega)).mp c_129
                  refine E_go 8 rfl ?_
                  refine r_aload_n rfl ?_
                  refine r_virtual (vs := []) (as := []) (by decide) (zl rfl) rfl rfl (zl rfl) (Nat.le_refl _) (Or.inr (Or.inr ⟨zt rfl, rfl, zt rfl⟩)) ?_
                  have hq1 := bi_n.mp c_120
                  have hT3 := tst_z (b := I 32) hq.1.2
                  refine s_steps_6 (by omega) (i := tst (I 32) z (G2 (I 32) z (tst (I 32) z i)).2.1) (z := z) (by rw [hJ2.2.1]; exact hz) h160 hT3 hJ2.2.2.1.1 (fun J3 h31 h32 => ?_)
                  rw [hJ2.1 32 (by omega)] at h32
                  have hJ3 := RS_t hJ2 h31 h32
                  refine r_iconst ?_
                  refine r_iret rfl (by first | exact Or.inl rfl | exact Or.inr rfl) ?_
                  have hx := qib_6 (hQ _) (pAt_p1 (by omega) hq1 c_129) (by have hy := hJ3; rw [hq1] at hy; exact hy)
                  exact hx
                · have c_129 := (not_congr (n_eq (a := (tkd (I 32) z (G2 (I 32) z (tst (I 32) z i)).2.1)) (b := 41) rfl rfl (by omega) (by omega))).mp c_129
                  refine r_nil ?_
                  refine E_go 7 rfl ?_
                  refine r_iconst ?_
                  refine r_iret rfl (by first | exact Or.inl rfl | exact Or.inr rfl) ?_
                  first
                  | (have hx := qib_6 (hQ _) (pAt_p3 (by omega) (bi_0.mp c_120)) hJ2
                     rw [c_120] at hx
                     exact hx)
                  | (have hx := qib_6 (hQ _) (pAt_p2 (by omega) (bi_n.mp c_120) c_129) (RS_fl hJ2)
                     exact hx)
            · have c_86 := (n_eq (a := (tkd (I 32) z i)) (b := 45) rfl rfl (by omega) (by omega)).mp c_86
              refine r_aload_n rfl ?_
              refine r_virtual (vs := []) (as := []) (by decide) (zl rfl) rfl rfl (zl rfl) (Nat.le_refl _) (Or.inr (Or.inr ⟨zt rfl, rfl, zt rfl⟩)) ?_
              have hJ0 := RS_0 (b := true) hk hu (by omega)
              have hT := tst_lt (b := I 32) hi (by omega : ¬ tkd (I 32) z i = 0)
              have hT2 := tst_z (b := I 32) hi
              refine s_steps_6 (by omega) (i := tst (I 32) z i) (z := z) (by rw [hJ0.2.1]; exact hz) h160 hT2 hJ0.2.2.1.1 (fun J1 h1 h2 => ?_)
              rw [hJ0.1 32 (by omega)] at h2
              have hJ1 := RS_t hJ0 h1 h2
              obtain ⟨v1, e1, e2, e3⟩ := RS_v hJ1
              have e3 := e3 rfl
              dsimp only at e3
              refine r_aload_n rfl ?_
              refine r_iload_n rfl ?_
              refine r_iconst ?_
              refine r_iadd ?_
              refine r_virtual (vs := []) (as := [_]) (by decide) (zl rfl) rfl rfl (zl rfl) (Nat.le_refl _) (Or.inr (Or.inr ⟨zt rfl, rfl, zt rfl⟩)) ?_
              rw [io_succ o]
              refine hdp J1 L _ (tst (I 32) z i) v1 z (by rw [hJ1.2.1]; exact hz) h160 hT2 (by rw [hJ1.1 32 (by omega)]; exact h2) e2 (by rw [e3]; simp only [List.length_nil]; omega) (fun J2 h3 => ?_)
              rw [hJ1.1 32 (by omega)] at h3
              rw [hJ1.1 32 (by omega)]
              rw [e3] at h3
              have hJ2 := RS_app (q := G (I 32) z (tst (I 32) z i)) hJ1 rfl h3
              have hq := hgd (I 32) z _ hT2
              have htj := tkd_lt (b := I 32) (z := z) (i := (G (I 32) z (tst (I 32) z i)).2.1)
              refine r_istore_n (ls' := [_, _, _]) (zt rfl) rfl ?_
              refine r_aload_n rfl ?_
              refine r_bipush ?_
              refine r_virtual (vs := []) (as := [_]) (by decide) (zl rfl) rfl rfl (zl rfl) (Nat.le_refl _) (Or.inr (Or.inr ⟨zt rfl, rfl, zt rfl⟩)) ?_
              refine w_word_6 (w := -9) (by omega) hJ2 (fun hb1 => ?_) (fun K hK => ?_)
              · rw [List.length_append]; dsimp only [List.length_nil]; omega
              refine r_iload_n rfl ?_
              refine r_iret rfl (bi_01 _) ?_
              have hx := qib_6 (hQ _) (pAt_m (by omega)) hK
              exact hx
          · have c_75 := (not_congr (n_lt (a := o) (b := 5) rfl rfl (by omega) (by omega))).mp c_75
            exact absurd hd5 c_75
        · have c_61 := (not_congr (n_eq (a := (tkd (I 32) z i)) (b := 45) rfl rfl (by omega) (by omega))).mp c_61
          refine r_aload_n rfl ?_
          refine r_getI (by decide) rfl rfl (by decide) hk.2.2.1 ?_
          refine r_bipush ?_
          refine r_icmp_ne (fun c_70 => ?_) (fun c_70 => ?_)
          · have c_70 := (not_congr (n_eq (a := (tkd (I 32) z i)) (b := 40) rfl rfl (by omega) (by omega))).mp c_70
            refine E_go 4 rfl ?_
            refine r_iconst ?_
            refine r_iret rfl (by first | exact Or.inl rfl | exact Or.inr rfl) ?_
            have hx := qib_6 (hQ _) (pAt_f c_5 (by omega) (by omega) (by omega)) (RS_0 hk hu (by omega))
            exact hx
          · have c_70 := (n_eq (a := (tkd (I 32) z i)) (b := 40) rfl rfl (by omega) (by omega)).mp c_70
            refine r_nil ?_
            refine E_go 3 rfl ?_
            refine r_iload_n rfl ?_
            refine r_iconst ?_
            refine r_icmp_lt (fun c_75 => ?_) (fun c_75 => ?_)
            · have c_75 := (n_lt (a := o) (b := 5) rfl rfl (by omega) (by omega)).mp c_75
              refine E_go 5 rfl ?_
              refine r_aload_n rfl ?_
              refine r_getI (by decide) rfl rfl (by decide) hk.2.2.1 ?_
              refine r_bipush ?_
              refine r_icmp_ne (fun c_86 => ?_) (fun c_86 => ?_)
              · have c_86 := (not_congr (n_eq (a := (tkd (I 32) z i)) (b := 45) rfl rfl (by omega) (by omega))).mp c_86
                refine E_go 6 rfl ?_
                refine r_aload_n rfl ?_
                refine r_virtual (vs := []) (as := []) (by decide) (zl rfl) rfl rfl (zl rfl) (Nat.le_refl _) (Or.inr (Or.inr ⟨zt rfl, rfl, zt rfl⟩)) ?_
                have hJ0 := RS_0 (b := true) hk hu (by omega)
                have hT := tst_lt (b := I 32) hi (by omega : ¬ tkd (I 32) z i = 0)
                have hT2 := tst_z (b := I 32) hi
                refine s_steps_6 (by omega) (i := tst (I 32) z i) (z := z) (by rw [hJ0.2.1]; exact hz) h160 hT2 hJ0.2.2.1.1 (fun J1 h1 h2 => ?_)
                rw [hJ0.1 32 (by omega)] at h2
                have hJ1 := RS_t hJ0 h1 h2
                obtain ⟨v1, e1, e2, e3⟩ := RS_v hJ1
                have e3 := e3 rfl
                dsimp only at e3
                refine r_aload_n rfl ?_
                refine r_iload_n rfl ?_
                refine r_iconst ?_
                refine r_iadd ?_
                refine r_virtual (vs := []) (as := [_]) (by decide) (zl rfl) rfl rfl (zl rfl) (Nat.le_refl _) (Or.inr (Or.inr ⟨zt rfl, rfl, zt rfl⟩)) ?_
                rw [io_succ o]
                refine hdo J1 L _ (tst (I 32) z i) v1 z (by rw [hJ1.2.1]; exact hz) h160 hT2 (by rw [hJ1.1 32 (by omega)]; exact h2) e2 (by rw [e3]; simp only [List.length_nil]; omega) (fun J2 h3 => ?_)
                rw [hJ1.1 32 (by omega)] at h3
                rw [hJ1.1 32 (by omega)]
                rw [e3] at h3
                have hJ2 := RS_app (q := G2 (I 32) z (tst (I 32) z i)) hJ1 rfl h3
                have hq := hgo (I 32) z _ hT2
                have htj := tkd_lt (b := I 32) (z := z) (i := (G2 (I 32) z (tst (I 32) z i)).2.1)
                refine r_if_eq (fun c_120 => ?_) (fun c_120 => ?_)
                · refine E_go 7 rfl ?_
                  refine r_iconst ?_
                  refine r_iret rfl (by first | exact Or.inl rfl | exact Or.inr rfl) ?_
                  first
                  | (have hx := qib_6 (hQ _) (pAt_p3 (by omega) (bi_0.mp c_120)) hJ2
                     rw [c_120] at hx
                     exact hx)
                  | (have hx := qib_6 (hQ _) (pAt_p2 (by omega) (bi_n.mp c_120) c_129) (RS_fl hJ2)
                     exact hx)
                · refine r_aload_n rfl ?_
                  refine r_getI (by decide) rfl rfl (by decide) hJ2.2.2.1.2.2.1 ?_
                  refine r_bipush ?_
                  refine r_icmp_eq (fun c_129 => ?_) (fun c_129 => ?_)
                  · have c_129 := (n_eq (a := (tkd (I 32) z (G2 (I 32) z (tst (I 32) z i)).2.1)) (b := 41) rfl rfl (by omega) (by omega)).mp c_129
                    refine E_go 8 rfl ?_
                    refine r_aload_n rfl ?_
                    refine r_virtual (vs := []) (as := []) (by decide) (zl rfl) rfl rfl (zl rfl) (Nat.le_refl _) (Or.inr (Or.inr ⟨zt rfl, rfl, zt rfl⟩)) ?_
                    have hq1 := bi_n.mp c_120
                    have hT3 := tst_z (b := I 32) hq.1.2
                    refine s_steps_6 (by omega) (i := tst (I 32) z (G2 (I 32) z (tst (I 32) z i)).2.1) (z := z) (by rw [hJ2.2.1]; exact hz) h160 hT3 hJ2.2.2.1.1 (fun J3 h31 h32 => ?_)
                    rw [hJ2.1 32 (by omega)] at h32
                    have hJ3 := RS_t hJ2 h31 h32
                    refine r_iconst ?_
                    refine r_iret rfl (by first | exact Or.inl rfl | exact Or.inr rfl) ?_
                    have hx := qib_6 (hQ _) (pAt_p1 (by omega) hq1 c_129) (by have hy := hJ3; rw [hq1] at hy; exact hy)
                    exact hx
                  · have c_129 := (not_congr (n_eq (a := (tkd (I 32) z (G2 (I 32) z (tst (I 32) z i)).2.1)) (b := 41) rfl rfl (by omega) (by omega))).mp c_129
                    refine r_nil ?_
                    refine E_go 7 rfl ?_
                    refine r_iconst ?_
                    refine r_iret rfl (by first | exact Or.inl rfl | exact Or.inr rfl) ?_
                    first
                    | (have hx := qib_6 (hQ _) (pAt_p3 (by omega) (bi_0.mp c_120)) hJ2
                       rw [c_120] at hx
                       exact hx)
                    | (have hx := qib_6 (hQ _) (pAt_p2 (by omega) (bi_n.mp c_120) c_129) (RS_fl hJ2)
                       exact hx)
              · have c_86 := (n_eq (a := (tkd (I 32) z i)) (b := 45) rfl rfl (by omega) (by omega)).mp c_86
                refine r_aload_n rfl ?_
                refine r_virtual (vs := []) (as := []) (by decide) (zl rfl) rfl rfl (zl rfl) (Nat.le_refl _) (Or.inr (Or.inr ⟨zt rfl, rfl, zt rfl⟩)) ?_
                have hJ0 := RS_0 (b := true) hk hu (by omega)
                have hT := tst_lt (b := I 32) hi (by omega : ¬ tkd (I 32) z i = 0)
                have hT2 := tst_z (b := I 32) hi
                refine s_steps_6 (by omega) (i := tst (I 32) z i) (z := z) (by rw [hJ0.2.1]; exact hz) h160 hT2 hJ0.2.2.1.1 (fun J1 h1 h2 => ?_)
                rw [hJ0.1 32 (by omega)] at h2
                have hJ1 := RS_t hJ0 h1 h2
                obtain ⟨v1, e1, e2, e3⟩ := RS_v hJ1
                have e3 := e3 rfl
                dsimp only at e3
                refine r_aload_n rfl ?_
                refine r_iload_n rfl ?_
                refine r_iconst ?_
                refine r_iadd ?_
                refine r_virtual (vs := []) (as := [_]) (by decide) (zl rfl) rfl rfl (zl rfl) (Nat.le_refl _) (Or.inr (Or.inr ⟨zt rfl, rfl, zt rfl⟩)) ?_
                rw [io_succ o]
                refine hdp J1 L _ (tst (I 32) z i) v1 z (by rw [hJ1.2.1]; exact hz) h160 hT2 (by rw [hJ1.1 32 (by omega)]; exact h2) e2 (by rw [e3]; simp only [List.length_nil]; omega) (fun J2 h3 => ?_)
                rw [hJ1.1 32 (by omega)] at h3
                rw [hJ1.1 32 (by omega)]
                rw [e3] at h3
                have hJ2 := RS_app (q := G (I 32) z (tst (I 32) z i)) hJ1 rfl h3
                have hq := hgd (I 32) z _ hT2
                have htj := tkd_lt (b := I 32) (z := z) (i := (G (I 32) z (tst (I 32) z i)).2.1)
                refine r_istore_n (ls' := [_, _, _]) (zt rfl) rfl ?_
                refine r_aload_n rfl ?_
                refine r_bipush ?_
                refine r_virtual (vs := []) (as := [_]) (by decide) (zl rfl) rfl rfl (zl rfl) (Nat.le_refl _) (Or.inr (Or.inr ⟨zt rfl, rfl, zt rfl⟩)) ?_
                refine w_word_6 (w := -9) (by omega) hJ2 (fun hb1 => ?_) (fun K hK => ?_)
                · rw [List.length_append]; dsimp only [List.length_nil]; omega
                refine r_iload_n rfl ?_
                refine r_iret rfl (bi_01 _) ?_
                have hx := qib_6 (hQ _) (pAt_m (by omega)) hK
                exact hx
            · have c_75 := (not_congr (n_lt (a := o) (b := 5) rfl rfl (by omega) (by omega))).mp c_75
              exact absurd hd5 c_75
      · have c_37 := (not_congr (n_le (a := 16) (b := (tkd (I 32) z i)) rfl rfl (by omega) (by omega))).mp c_37
        refine r_aload_n rfl ?_
        refine r_aload_n rfl ?_
        refine r_getI (by decide) rfl rfl (by decide) hk.2.2.1 ?_
        refine r_ineg ?_
        refine r_virtual (vs := []) (as := [_]) (by decide) (zl rfl) rfl rfl (zl rfl) (Nat.le_refl _) (Or.inr (Or.inr ⟨zt rfl, rfl, zt rfl⟩)) ?_
        have hT := tst_lt (b := I 32) hi (by omega : ¬ tkd (I 32) z i = 0)
        have hT2 := tst_z (b := I 32) hi
        refine w_word_6 (w := (-(io (tkd (I 32) z i)))) (by omega) (RS_0 (b := true) hk hu (by omega)) (fun hb1 => ?_) (fun K hK => ?_)
        · dsimp only [List.length_nil]; omega
        refine r_aload_n rfl ?_
        refine r_virtual (vs := []) (as := []) (by decide) (zl rfl) rfl rfl (zl rfl) (Nat.le_refl _) (Or.inr (Or.inr ⟨zt rfl, rfl, zt rfl⟩)) ?_
        refine s_steps_6 (by omega) (i := tst (I 32) z i) (z := z) (by rw [hK.2.1]; exact hz) h160 hT2 hK.2.2.1.1 (fun J1 h1 h2 => ?_)
        rw [hK.1 32 (by omega)] at h2
        have hJ1 := RS_t hK h1 h2
        refine r_iconst ?_
        refine r_iret rfl (by first | exact Or.inl rfl | exact Or.inr rfl) ?_
        have hx := qib_6 (hQ _) (pAt_n (by omega) (by omega)) hJ1
        exact hx
  · have c_5 := (n_eq (a := (tkd (I 32) z i)) (b := 2) rfl rfl (by omega) (by omega)).mp c_5
    refine r_aload_n rfl ?_
    refine r_aload_n rfl ?_
    refine r_getI (by decide) rfl rfl (by decide) (hk.2.2.2 c_5) ?_
    refine r_virtual (vs := []) (as := [_]) (by decide) (zl rfl) rfl rfl (zl rfl) (Nat.le_refl _) (Or.inr (Or.inr ⟨zt rfl, rfl, zt rfl⟩)) ?_
    have hT := tst_lt (b := I 32) hi (by omega : ¬ tkd (I 32) z i = 0)
    have hT2 := tst_z (b := I 32) hi
    refine w_word_6 (w := (twt (I 32) z i)) (by omega) (RS_0 (b := true) hk hu (by omega)) (fun hb1 => ?_) (fun K hK => ?_)
    · dsimp only [List.length_nil]; omega
    refine r_aload_n rfl ?_
    refine r_virtual (vs := []) (as := []) (by decide) (zl rfl) rfl rfl (zl rfl) (Nat.le_refl _) (Or.inr (Or.inr ⟨zt rfl, rfl, zt rfl⟩)) ?_
    refine s_steps_6 (by omega) (i := tst (I 32) z i) (z := z) (by rw [hK.2.1]; exact hz) h160 hT2 hK.2.2.1.1 (fun J1 h1 h2 => ?_)
    rw [hK.1 32 (by omega)] at h2
    have hJ1 := RS_t hK h1 h2
    refine r_iconst ?_
    refine r_iret rfl (by first | exact Or.inl rfl | exact Or.inr rfl) ?_
    have hx := qib_6 (hQ _) (pAt_2 c_5) hJ1
    exact hx

/-- from an atom to a comparison -/
theorem sp_cmp_6 {xs : xSc} {o k : Nat} {F : PFn} (hk : 7 ≤ k) (hg : ∀ b z, gd z (F b z)) (h : ∀ m, k ≤ m → Sp_6 xs xi_X2_readsOne m o F) : (∀ b z, gd z (pSm (tkd b z) (tst b z) (pTm (tkd b z) (tst b z) (F b z)))) ∧ ∀ m, k + 2 ≤ m → Sp_6 xs xi_X2_readsSum m o (fun b z => pSm (tkd b z) (tst b z) (pTm (tkd b z) (tst b z) (F b z))) := by
  have g1 : ∀ b z, gd z (pTm (tkd b z) (tst b z) (F b z)) := fun b z => pLp_gd1 tkG_t rfl (hg b z)
  refine ⟨fun b z => pLp_gd1 tkG_t rfl (g1 b z), fun m hm => ?_⟩
  obtain ⟨m, rfl⟩ : ∃ j, m = j + 1 + 1 := ⟨m - 2, by omega⟩
  exact s_readsSum_6 (by omega) g1 (s_readsTerm_6 (by omega) hg (h m (by omega)))

theorem sp_or_6 {xs : xSc} {o k : Nat} {F : PFn} (hk : 7 ≤ k) (hg : ∀ b z, gd z (F b z)) (h : ∀ m, k ≤ m → Sp_6 xs xi_X2_readsNot m o F) : ∀ m, k + 2 ≤ m → Sp_6 xs xi_X2_readsOr m o (fun b z => pOr (tkd b z) (tst b z) (pAn (tkd b z) (tst b z) (F b z))) := by
  intro m hm
  obtain ⟨m, rfl⟩ : ∃ j, m = j + 1 + 1 := ⟨m - 2, by omega⟩
  exact s_readsOr_6 (by omega) (fun b z => pLp_gd1 tkG_t rfl (hg b z)) (s_readsAnd_6 (by omega) hg (h m (by omega)))

theorem sp_lv_6 {xs : xSc} : ∀ d, d ≤ 5 → (∀ m, 8 + 6 * d ≤ m → Sp_6 xs xi_X2_readsOne m (5 - d) (gA d)) ∧ (∀ m, 11 + 6 * d ≤ m → Sp_6 xs xi_X2_readsNot m (5 - d) (gN d)) ∧ (∀ m, 13 + 6 * d ≤ m → Sp_6 xs xi_X2_readsOr m (5 - d) (gO d)) := by
  intro d
  induction d with
  | zero =>
    intro _
    have a : ∀ m, 8 ≤ m → Sp_6 xs xi_X2_readsOne m 5 (gA 0) := fun m hm => by
      obtain ⟨m, rfl⟩ : ∃ j, m = j + 1 := ⟨m - 1, by omega⟩
      exact s_readsOne0_6 (by omega)
    have n : ∀ m, 11 ≤ m → Sp_6 xs xi_X2_readsNot m 5 (gN 0) := fun m hm => by
      obtain ⟨m, rfl⟩ : ∃ j, m = j + 1 := ⟨m - 1, by omega⟩
      obtain ⟨h1, h2⟩ := sp_cmp_6 (by omega) (gA_gd 0) a
      exact s_readsNot0_6 (by omega) h1 (h2 m (by omega))
    exact ⟨a, n, fun m hm => sp_or_6 (k := 11) (by omega) (gN_gd 0) n m (by omega)⟩
  | succ d ih =>
    intro hd
    obtain ⟨i1, i2, i3⟩ := ih (by omega)
    have e5 : 5 - (d + 1) + 1 = 5 - d := by omega
    have a : ∀ m, 8 + 6 * (d + 1) ≤ m → Sp_6 xs xi_X2_readsOne m (5 - (d + 1)) (gA (d + 1)) := fun m hm => by
      obtain ⟨m, rfl⟩ : ∃ j, m = j + 1 := ⟨m - 1, by omega⟩
      exact s_readsOneS_6 (by omega) (by omega) (gA_gd d) (gO_gd d) (by rw [e5]; exact i1 m (by omega)) (by rw [e5]; exact i3 m (by omega))
    have n : ∀ m, 11 + 6 * (d + 1) ≤ m → Sp_6 xs xi_X2_readsNot m (5 - (d + 1)) (gN (d + 1)) := fun m hm => by
      obtain ⟨m, rfl⟩ : ∃ j, m = j + 1 := ⟨m - 1, by omega⟩
      obtain ⟨h1, h2⟩ := sp_cmp_6 (by omega) (gA_gd (d + 1)) a
      exact s_readsNotS_6 (by omega) h1 (h2 m (by omega)) (by omega) (gN_gd d) (by rw [e5]; exact i2 m (by omega))
    exact ⟨a, n, fun m hm => sp_or_6 (k := 11 + 6 * (d + 1)) (by omega) (gN_gd (d + 1)) n m (by omega)⟩

set_option maxRecDepth 10000 in
theorem s_part_6 {xs : xSc} {m : Nat} {J : Nat → Nat → Int32} {L : Nat → Nat → Int64} {Q : Value → xHp → Prop} {z i j : Nat} {b : Nat → Int32} {c : List Int32} (hm : 44 ≤ m) (hj : j < 3) (h160 : z ≤ 160) (hP : PS b z i c J) (hF : ¬ (gP j b z i).1 = true → ∀ K, tF J K → Q (.int (io (tpl b z (gP j b z i).2.1))) (Hq K L)) (hS : (gP j b z i).1 = true → ∀ K, tF J K → PS b z (gP j b z i).2.1 (c ++ (gP j b z i).2.2) K → K 31 j = io (c ++ (gP j b z i).2.2).length → (∀ k, ¬ k = j → K 31 k = J 31 k) → E xs m xi_X2_readsTape 61 Q 16 [.ref 29, .int (io (j + 1))] [] (61, K, L, xF1)) : E xs m xi_X2_readsTape 61 Q 16 [.ref 29, .int (io j)] [] (61, J, L, xF1) := by
  obtain ⟨hb, hz, hk, hcd, hiz, hcl⟩ := hP
  subst hb
  have htk := tkd_lt (b := J 32) (z := z) (i := i)
  have hor : Sp_6 xs xi_X2_readsOr m 0 (gO 5) := (sp_lv_6 5 (by omega)).2.2 m (by omega)
  refine E_go 1 rfl ?_
  refine r_iload_n rfl ?_
  refine r_iconst ?_
  refine r_icmp_ge (fun c_18 => ?_) (fun c_18 => ?_)
  · have c_18 := (n_le (a := 3) (b := j) rfl rfl (by omega) (by omega)).mp c_18
    omega
  · have c_18 := (not_congr (n_le (a := 3) (b := j) rfl rfl (by omega) (by omega))).mp c_18
    refine r_aload_n rfl ?_
    refine r_getI (by decide) rfl rfl (by decide) hk.2.2.1 ?_
    refine r_iconst ?_
    refine r_iload_n rfl ?_
    refine r_iadd ?_
    refine r_icmp_eq (fun c_28 => ?_) (fun c_28 => ?_)
    · have c_28 := (n_eq (a := (tkd (J 32) z i)) (b := (3 + j)) rfl (n_add (a := 3) (b := j) rfl rfl) (by omega) (by omega)).mp c_28
      refine E_go 2 rfl ?_
      refine r_aload_n rfl ?_
      refine r_virtual (vs := []) (as := []) (by decide) (zl rfl) rfl rfl (zl rfl) (Nat.le_refl _) (Or.inr (Or.inr ⟨zt rfl, rfl, zt rfl⟩)) ?_
      have hT := tst_lt (b := J 32) hiz (by omega : ¬ tkd (J 32) z i = 0)
      have hT2 := tst_z (b := J 32) hiz
      refine s_steps_6 (by omega) (i := tst (J 32) z i) (z := z) hz h160 hT2 hk.1 (fun J1 h1 h2 => ?_)
      have hg := gO_gd 5 (J 32) z _ hT2
      have htj := tkd_lt (b := J 32) (z := z) (i := (gO 5 (J 32) z (tst (J 32) z i)).2.1)
      refine r_aload_n rfl ?_
      refine r_iconst ?_
      refine r_virtual (vs := []) (as := [_]) (by decide) (zl rfl) rfl rfl (zl rfl) (Nat.le_refl _) (Or.inr (Or.inr ⟨zt rfl, rfl, zt rfl⟩)) ?_
      refine hor J1 L _ (tst (J 32) z i) c.length z (by rw [h1.2 0 (by omega)]; exact hz) h160 hT2 (by rw [h1.1 32 (by omega)]; exact h2) (CD_sF hcd h1).1 (by omega) (fun J2 h3 => ?_)
      rw [h1.1 32 (by omega)] at h3
      rw [h1.1 32 (by omega)]
      have h3k : cK (J1 32) z (gO 5 (J 32) z (tst (J 32) z i)).2.1 J2 := h3.2.2.1
      rw [h1.1 32 (by omega)] at h3k
      refine r_if_eq (fun c_45 => ?_) (fun c_45 => ?_)
      · refine E_go 3 rfl ?_
        refine r_aload_n rfl ?_
        refine r_getI (by decide) rfl rfl (by decide) h3k.2.1 ?_
        refine r_iret rfl trivial ?_
        first
        | (have e := gP_f (by omega) (bi_0.mp c_45)
           have hx := hF (by rw [e]; exact bi_0.mp c_45) J2 ((tF.refl.s h1).r h3)
           rw [e] at hx
           exact hx)
        | (have e := gP_s (by omega) (bi_n.mp c_45) c_54
           have hx := hF (by rw [e]; exact Bool.noConfusion) J2 ((tF.refl.s h1).r h3)
           rw [e] at hx
           exact hx)
      · refine r_aload_n rfl ?_
        refine r_getI (by decide) rfl rfl (by decide) h3k.2.2.1 ?_
        refine r_bipush ?_
        refine r_icmp_eq (fun c_54 => ?_) (fun c_54 => ?_)
        · have c_54 := (n_eq (a := (tkd (J 32) z (gO 5 (J 32) z (tst (J 32) z i)).2.1)) (b := 59) rfl rfl (by omega) (by omega)).mp c_54
          refine E_go 4 rfl ?_
          refine r_aload_n rfl ?_
          refine r_virtual (vs := []) (as := []) (by decide) (zl rfl) rfl rfl (zl rfl) (Nat.le_refl _) (Or.inr (Or.inr ⟨zt rfl, rfl, zt rfl⟩)) ?_
          have hT3 := tst_z (b := J 32) hg.1.2
          have hT4 := tst_lt (b := J 32) hg.1.2 (by omega : ¬ tkd (J 32) z (gO 5 (J 32) z (tst (J 32) z i)).2.1 = 0)
          have hcd2 := CD_RS (CD_sF hcd h1) rfl (bi_n.mp c_45) h3
          refine s_steps_6 (by omega) (i := tst (J 32) z (gO 5 (J 32) z (tst (J 32) z i)).2.1) (z := z) (by rw [h3.2.1, h1.2 0 (by omega)]; exact hz) h160 hT3 h3k.1 (fun J3 k1 k2 => ?_)
          have e32 : J2 32 = J 32 := (h3.1 32 (by omega)).trans (h1.1 32 (by omega))
          rw [e32] at k2
          have hcd3 := CD_sF hcd2 k1
          refine r_aload_n rfl ?_
          refine r_getA (q := 31) (by decide) rfl rfl (by decide) ?_
          refine r_iload_n rfl ?_
          refine r_aload_n rfl ?_
          refine r_getI (by decide) rfl rfl (by decide) rfl ?_
          refine r_iastore rfl (by decide) (ixE rfl (show j < 3 by omega) (by decide)) ?_
          refine r_iincN (y := io (j + 1)) (ls' := [_, _]) rfl (zt rfl) (n_add (a := j) (b := 1) rfl rfl) rfl ?_
          refine r_goto ?_
          have e := gP_t (b := J 32) (z := z) (i := i) (j := j) (by omega) (bi_n.mp c_45) c_54
          have hu4 : J3 29 4 = io (c ++ (gO 5 (J 32) z (tst (J 32) z i)).2.2).length := hcd3.1
          refine hS (by rw [e]) _ (((tF.refl.s h1).r h3).s k1).u ⟨?_, ?_, ?_, ?_, ?_, ?_⟩ ?_ (fun k hk => ?_)
          · rw [up2_q (by omega), k1.1 32 (by omega), e32]
          · rw [up2_q (by omega), k1.2 0 (by omega), h3.2.1, h1.2 0 (by omega)]; exact hz
          · rw [e]; exact cK_up k2 (by omega)
          · rw [e]; unfold CD; rw [up2_q (by omega), up2_q (by omega)]; exact hcd3
          · rw [e]; exact hT3
          · rw [e, List.length_append]; dsimp only; omega
          · rw [e, up2_at]; exact hu4
          · rw [up2_k hk, k1.1 31 (by omega), h3.1 31 (by omega), h1.1 31 (by omega)]
        · have c_54 := (not_congr (n_eq (a := (tkd (J 32) z (gO 5 (J 32) z (tst (J 32) z i)).2.1)) (b := 59) rfl rfl (by omega) (by omega))).mp c_54
          refine r_nil ?_
          refine E_go 3 rfl ?_
          refine r_aload_n rfl ?_
          refine r_getI (by decide) rfl rfl (by decide) h3k.2.1 ?_
          refine r_iret rfl trivial ?_
          first
          | (have e := gP_f (by omega) (bi_0.mp c_45)
             have hx := hF (by rw [e]; exact bi_0.mp c_45) J2 ((tF.refl.s h1).r h3)
             rw [e] at hx
             exact hx)
          | (have e := gP_s (by omega) (bi_n.mp c_45) c_54
             have hx := hF (by rw [e]; exact Bool.noConfusion) J2 ((tF.refl.s h1).r h3)
             rw [e] at hx
             exact hx)
    · have c_28 := (not_congr (n_eq (a := (tkd (J 32) z i)) (b := (3 + j)) rfl (n_add (a := 3) (b := j) rfl rfl) (by omega) (by omega))).mp c_28
      refine r_aload_n rfl ?_
      refine r_getI (by decide) rfl rfl (by decide) hk.2.1 ?_
      refine r_iret rfl trivial ?_
      have hx := hF (by rw [gP_k c_28]; exact Bool.noConfusion) J tF.refl
      rw [gP_k c_28] at hx
      exact hx

set_option maxRecDepth 10000 in
theorem s_tapeEnd_6 {xs : xSc} {m : Nat} {J : Nat → Nat → Int32} {L : Nat → Nat → Int64} {Q : Value → xHp → Prop} {z i : Nat} {b : Nat → Int32} {c : List Int32} (hP : PS b z i c J) (hQ1 : tkd b z i = 0 → Q (.int (-1)) (Hq J L)) (hQ0 : ¬ tkd b z i = 0 → Q (.int (io (tpl b z i))) (Hq J L)) : E xs m xi_X2_readsTape 61 Q 16 [.ref 29, .int (io 3)] [] (61, J, L, xF1) := by
  have htk := tkd_lt (b := b) (z := z) (i := i)
  refine E_go 1 rfl ?_
  refine r_iload_n rfl ?_
  refine r_iconst ?_
  refine r_icmp_ge (fun c_18 => ?_) (fun c_18 => ?_)
  · have c_18 := (n_le (a := 3) (b := 3) rfl rfl (by omega) (by omega)).mp c_18
    refine E_go 5 rfl ?_
    refine r_aload_n rfl ?_
    refine r_getI (by decide) rfl rfl (by decide) hP.2.2.1.2.2.1 ?_
    refine r_if_ne (fun c_86 => ?_) (fun c_86 => ?_)
    · have c_86 := (not_congr (n_eq (a := (tkd b z i)) (b := 0) rfl rfl (by omega) (by omega))).mp c_86
      refine E_go 6 rfl ?_
      refine r_aload_n rfl ?_
      refine r_getI (by decide) rfl rfl (by decide) hP.2.2.1.2.1 ?_
      refine r_nil ?_
      refine E_go 7 rfl ?_
      refine r_iret rfl trivial ?_
      exact hQ0 c_86
    · have c_86 := (n_eq (a := (tkd b z i)) (b := 0) rfl rfl (by omega) (by omega)).mp c_86
      refine r_iconst ?_
      refine r_goto ?_
      refine E_go 7 rfl ?_
      refine r_iret rfl trivial ?_
      exact hQ1 c_86
  · have c_18 := (not_congr (n_le (a := 3) (b := 3) rfl rfl (by omega) (by omega))).mp c_18
    omega

set_option maxRecDepth 10000 in
theorem s_readsTape_6 {xs : xSc} {m : Nat} {I : Nat → Nat → Int32} {L : Nat → Nat → Int64} {Q : Value → xHp → Prop} {z : Nat} (hm : 45 ≤ m) (hz : I 29 0 = io z) (h160 : z ≤ 160) (hQ1 : ∀ J, tF I J → (gT (I 32) z).1 = true → okE (J 31) (gT (I 32) z).2.2.1.length ((gT (I 32) z).2.2.1.length + (gT (I 32) z).2.2.2.1.length) ((gT (I 32) z).2.2.1.length + (gT (I 32) z).2.2.2.1.length + (gT (I 32) z).2.2.2.2.length) → (∀ j, j < (gT (I 32) z).2.2.1.length + (gT (I 32) z).2.2.2.1.length + (gT (I 32) z).2.2.2.2.length → J 30 j = ((gT (I 32) z).2.2.1 ++ (gT (I 32) z).2.2.2.1 ++ (gT (I 32) z).2.2.2.2).getD j 0) → Q (.int (-1)) (Hq J L)) (hQ0 : ∀ J, tF I J → ¬ (gT (I 32) z).1 = true → Q (.int (io (tpl (I 32) z (gT (I 32) z).2.1))) (Hq J L)) : M xs m xi_X2_readsTape [.ref 29] (Hq I L) Q := by
  obtain ⟨m, rfl⟩ : ∃ k, m = k + 1 := ⟨m - 1, by omega⟩
  refine M_go (ls := [_, _]) (ml := 2) rfl rfl rfl (zl rfl) rfl ?_
  refine r_aload_n rfl ?_
  refine r_iconst ?_
  refine r_putI rfl rfl (by decide) ?_
  refine r_aload_n rfl ?_
  refine r_iconst ?_
  refine r_putI rfl rfl (by decide) ?_
  refine r_aload_n rfl ?_
  refine r_virtual (vs := []) (as := []) (by decide) (zl rfl) rfl rfl (zl rfl) (Nat.le_refl _) (Or.inr (Or.inr ⟨zt rfl, rfl, zt rfl⟩)) ?_
  refine s_steps_6 (by omega) (i := 0) (z := z) hz h160 (Nat.zero_le _) rfl (fun J0 h1 h2 => ?_)
  refine r_iconst ?_
  refine r_istore_n (ls' := [_, _]) (zt rfl) rfl ?_
  refine r_nil ?_
  have hT0 : tF I J0 := ((tF.refl.up (by omega)).up (by omega)).s h1
  have hP0 : PS (I 32) z 0 [] J0 := ⟨h1.1 32 (by omega), by rw [h1.2 0 (by omega)]; exact hz, h2, ⟨by rw [h1.2 4 (by omega)]; rfl, fun j hj => absurd hj (by simp)⟩, Nat.zero_le _, Nat.le_refl _⟩
  refine s_part_6 (j := 0) (by omega) (by omega) h160 hP0 (fun q K hK => ?_) (fun q1 K1 t1 P1 w1 y1 => ?_)
  · have hx := hQ0 K (hT0.tr hK)
    rw [gT_0 q] at hx
    exact hx Bool.noConfusion
  refine s_part_6 (j := 1) (by omega) (by omega) h160 P1 (fun q K hK => ?_) (fun q2 K2 t2 P2 w2 y2 => ?_)
  · have hx := hQ0 K ((hT0.tr t1).tr hK)
    rw [gT_1 q1 q] at hx
    exact hx Bool.noConfusion
  have e := gT_2 q1 q2
  refine s_part_6 (j := 2) (by omega) (by omega) h160 P2 (fun q K hK => ?_) (fun q3 K3 t3 P3 w3 y3 => ?_)
  · have hx := hQ0 K (((hT0.tr t1).tr t2).tr hK)
    rw [e] at hx
    exact hx (by simp [q])
  refine s_tapeEnd_6 P3 (fun q4 => ?_) (fun q4 => ?_)
  · have hx := hQ1 K3 (((hT0.tr t1).tr t2).tr t3)
    rw [e] at hx
    dsimp only at hx
    have l1 : K3 31 0 = io (gP 0 (I 32) z 0).2.2.length := by
      rw [y3 0 (by omega), y2 0 (by omega), w1]; rfl
    have l2 := w2
    rw [← y3 1 (by omega)] at l2
    simp only [List.nil_append] at l2 w3
    have hlen := P3.2.2.2.2
    simp only [List.nil_append, List.length_append] at hlen l2 w3
    refine hx (by simp [q3, q4]) ⟨⟨by omega, by omega, by omega⟩, l1, l2, w3⟩ ?_
    have hc := P3.2.2.2.1.2
    simp only [List.nil_append] at hc
    exact fun j hj => hc j (by simp only [List.length_append]; omega)
  · have hx := hQ0 K3 (((hT0.tr t1).tr t2).tr t3)
    rw [e] at hx
    exact hx (by simp [q4])

theorem txK_6 : ∀ t, t < 6 → xKd (35 + 3 * t) = 4 ∧ 35 + 3 * t < 61 ∧ xF1 33 t = some (35 + 3 * t) ∧ (xF1 (35 + 3 * t) 0 = some (36 + 3 * t) ∧ xF1 (35 + 3 * t) 1 = some (37 + 3 * t)) ∧ (xKd (36 + 3 * t) = 7 ∧ xLn (36 + 3 * t) = 160 ∧ 36 + 3 * t < 61) ∧ xKd (37 + 3 * t) = 7 ∧ xLn (37 + 3 * t) = 3 ∧ 37 + 3 * t < 61 := by decide +kernel

theorem txg0_6 {t : Nat} (h : t < 6) {I : Nat → Nat → Int32} {L : Nat → Nat → Int64} : xVal (61, I, L, xF1) (35 + 3 * t) 0 (xFt 4 0) = .ref (36 + 3 * t) := by
  show va_rf (xF1 (35 + 3 * t) 0) = _
  rw [(txK_6 t h).2.2.2.1.1]
  rfl

theorem txg1_6 {t : Nat} (h : t < 6) {I : Nat → Nat → Int32} {L : Nat → Nat → Int64} : xVal (61, I, L, xF1) (35 + 3 * t) 1 (xFt 4 1) = .ref (37 + 3 * t) := by
  show va_rf (xF1 (35 + 3 * t) 1) = _
  rw [(txK_6 t h).2.2.2.1.2]
  rfl

set_option maxRecDepth 10000 in
theorem s_txBecomes_6 {xs : xSc} {m : Nat} {I : Nat → Nat → Int32} {L : Nat → Nat → Int64} {Q : Value → xHp → Prop} (hm : 1 ≤ m) {t : Nat} (ht : t < 6) (hQ : ∀ J, (∀ p, ¬ (p = 36 + 3 * t ∨ p = 37 + 3 * t) → J p = I p) → (∀ i, i < 160 → J (36 + 3 * t) i = I 30 i) → (∀ i, i < 3 → J (37 + 3 * t) i = I 31 i) → Q .null (Hq J L)) : M xs m xi_X5_becomes [.ref (35 + 3 * t), .ref 30, .ref 31] (Hq I L) Q := by
  obtain ⟨m, rfl⟩ : ∃ k, m = k + 1 := ⟨m - 1, by omega⟩
  refine M_go (ls := [_, _, _]) (ml := 3) rfl rfl rfl (zl rfl) rfl ?_
  refine r_aload_n rfl ?_
  refine r_iconst ?_
  refine r_aload_n rfl ?_
  refine r_getA (q := (36 + 3 * t)) (by decide) (txg0_6 ht) (txK_6 t ht).1 (txK_6 t ht).2.1 ?_
  refine r_iconst ?_
  refine r_sipush ?_
  refine r_copy rfl ⟨rfl, (txK_6 t ht).2.2.2.2.1.1, (by decide), (txK_6 t ht).2.2.2.2.1.2.2⟩ (by decide) (by decide) (by rw [(txK_6 t ht).2.2.2.2.1.2.1]; decide) (zl rfl) ?_
  refine r_aload_n rfl ?_
  refine r_iconst ?_
  refine r_aload_n rfl ?_
  refine r_getA (q := (37 + 3 * t)) (by decide) (txg1_6 ht) (txK_6 t ht).1 (txK_6 t ht).2.1 ?_
  refine r_iconst ?_
  refine r_iconst ?_
  refine r_copy rfl ⟨rfl, (txK_6 t ht).2.2.2.2.2.1, (by decide), (txK_6 t ht).2.2.2.2.2.2.2⟩ (by decide) (by decide) (by rw [(txK_6 t ht).2.2.2.2.2.2.1]; decide) (zl rfl) ?_
  refine r_ret rfl ?_
  refine hQ _ (fun p hp => ?_) (fun i hi => ?_) (fun i hi => ?_)
  · exact (va_u (by omega)).trans (va_u (by omega))
  · exact (congrFun (va_u (by omega)) i).trans ((congrFun va_uq i).trans ((cpy_at (i := 0) (j := 0) (n := 160) (by omega) (by omega) (by omega)).trans ((if_pos ⟨by omega, by omega⟩).trans (by rw [Nat.zero_add, Nat.sub_zero]))))
  · exact (congrFun va_uq i).trans ((cpy_at (i := 0) (j := 0) (n := 3) (by omega) (by omega) (by omega)).trans ((if_pos ⟨by omega, by omega⟩).trans (by rw [Nat.zero_add, Nat.sub_zero]; exact congrFun (va_u (by omega)) i)))
