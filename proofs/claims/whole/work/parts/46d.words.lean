/-! the model: fail, letters, words, signs -/

set_option maxRecDepth 10000 in
theorem s_fail0 {xs : xSc} {m : Nat} {I : Nat → Nat → Int32} {L : Nat → Nat → Int64} {Q : Value → xHp → Prop} (hm : 1 ≤ m) (h0 : I 61 26 = 0) (hQ : Q .null (Hp (up2 (up2 I 61 26 1) 61 27 (I 61 23)) L)) : M xs m xi_X7_fail [.ref 61] (Hp I L) Q := by
  obtain ⟨m, rfl⟩ : ∃ k, m = k + 1 := ⟨m - 1, by omega⟩
  refine M_go (ls := [_]) (ml := 1) rfl rfl rfl (zl rfl) rfl ?_
  refine r_aload_n rfl ?_
  refine r_getZ (by decide) rfl rfl (by decide) rfl ?_
  refine r_if_ne (fun c_4 => ?_) (fun c_4 => ?_)
  · exact absurd h0 c_4
  · refine r_aload_n rfl ?_
    refine r_iconst ?_
    refine r_putZ rfl rfl (by decide) (by first | exact Or.inl rfl | exact Or.inr rfl) ?_
    refine r_aload_n rfl ?_
    refine r_aload_n rfl ?_
    refine r_getI (by decide) rfl rfl (by decide) rfl ?_
    refine r_putI rfl rfl (by decide) ?_
    refine r_nil ?_
    refine E_go 1 rfl ?_
    refine r_ret rfl ?_
    exact hQ

set_option maxRecDepth 10000 in
theorem s_fail1 {xs : xSc} {m : Nat} {I : Nat → Nat → Int32} {L : Nat → Nat → Int64} {Q : Value → xHp → Prop} (hm : 1 ≤ m) (h1 : I 61 26 = 1) (hQ : Q .null (Hp I L)) : M xs m xi_X7_fail [.ref 61] (Hp I L) Q := by
  obtain ⟨m, rfl⟩ : ∃ k, m = k + 1 := ⟨m - 1, by omega⟩
  refine M_go (ls := [_]) (ml := 1) rfl rfl rfl (zl rfl) rfl ?_
  refine r_aload_n rfl ?_
  refine r_getZ (by decide) rfl rfl (by decide) rfl ?_
  refine r_if_ne (fun c_4 => ?_) (fun c_4 => ?_)
  · refine E_go 1 rfl ?_
    refine r_ret rfl ?_
    exact hQ
  · exact absurd (c_4.symm.trans h1) (by decide)

abbrev ltP (b : Nat → Int32) (s e k : Nat) (x : Int32) : Prop := (s + k < e ∧ b (s + k) = x) ∨ (¬ s + k < e ∧ x = 0)
theorem all8 {P : Nat → Prop} (h0 : P 0) (h1 : P 1) (h2 : P 2) (h3 : P 3) (h4 : P 4) (h5 : P 5) (h6 : P 6) (h7 : P 7) : ∀ k, k < 8 → P k
  | 0, _ => h0
  | 1, _ => h1
  | 2, _ => h2
  | 3, _ => h3
  | 4, _ => h4
  | 5, _ => h5
  | 6, _ => h6
  | 7, _ => h7
  | n + 8, h => absurd h (by omega)
theorem lst_ltP {b : Nat → Int32} {s e : Nat} {W : List Int32} (hW : W.length ≤ 8) (hnz : ∀ j, j < W.length → ¬ W.getD j 0 = 0) (hb : ∀ j, s ≤ j → j < e → ¬ b j = 0) (hse : s ≤ e) : (e ≤ s + 8 ∧ ∀ k, k < 8 → ltP b s e k (W.getD k 0)) ↔ lst b s (e - s) = W := by
  constructor
  · rintro ⟨h1, h2⟩
    have h3 : W.length = e - s := by
      rcases Nat.lt_trichotomy (e - s) W.length with c | c | c
      · rcases h2 (e - s) (by omega) with q | q
        · exact absurd q.1 (by omega)
        · exact absurd q.2 (hnz _ c)
      · exact c.symm
      · rcases h2 W.length (by omega) with q | q
        · have q2 := q.2
          rw [List.getD_eq_getElem?_getD, List.getElem?_eq_none (Nat.le_refl _)] at q2
          exact absurd q2 (hb _ (by omega) q.1)
        · exact absurd c (by omega)
    refine lst_ext _ _ _ h3 fun j hj => ?_
    rcases h2 j (by omega) with q | q
    · exact q.2
    · exact absurd q.1 (by omega)
  · intro h
    subst h
    rw [lst_len] at hW
    refine ⟨by omega, fun k hk => ?_⟩
    by_cases c : k < e - s
    · rw [lst_at _ _ _ c]
      exact Or.inl ⟨by omega, rfl⟩
    · refine Or.inr ⟨by omega, ?_⟩
      rw [List.getD_eq_getElem?_getD, List.getElem?_eq_none (by rw [lst_len]; omega)]
      rfl

set_option maxRecDepth 10000 in
theorem s_isLetter {xs : xSc} {m : Nat} {I : Nat → Nat → Int32} {L : Nat → Nat → Int64} {Q : Value → xHp → Prop} (hm : 2 ≤ m) {t z : Nat} (ht : t < 6) (h160 : z ≤ 160) (hf : I 61 19 = io (160 * t)) (hz : I 61 20 = io z) {s e k : Nat} {x : Int32} (hk : k < 8) (hez : e ≤ z) (hsz : s ≤ z) (h23 : I 61 23 = io s) (h21 : I 61 21 = io e) (hQ : Q (.int (if ltP (mb t I) s e k x then 1 else 0)) (Hp I L)) : M xs m xi_X7_isLetter [.ref 61, .int (io k), .int x] (Hp I L) Q := by
  obtain ⟨m, rfl⟩ : ∃ k, m = k + 1 := ⟨m - 1, by omega⟩
  refine M_go (ls := [_, _, _]) (ml := 3) rfl rfl rfl (zl rfl) rfl ?_
  refine r_aload_n rfl ?_
  refine r_getI (by decide) rfl rfl (by decide) h23 ?_
  refine r_iload_n rfl ?_
  refine r_iadd ?_
  refine r_aload_n rfl ?_
  refine r_getI (by decide) rfl rfl (by decide) h21 ?_
  refine r_icmp_ge (fun c_10 => ?_) (fun c_10 => ?_)
  · have c_10 := (n_le (a := e) (b := (s + k)) rfl (n_add (a := s) (b := k) rfl rfl) (by omega) (by omega)).mp c_10
    refine E_go 2 rfl ?_
    refine r_iload_n rfl ?_
    refine r_if_ne (fun c_36 => ?_) (fun c_36 => ?_)
    · refine E_go 3 rfl ?_
      refine r_iconst ?_
      refine r_nil ?_
      refine E_go 4 rfl ?_
      refine r_iret rfl (by first | exact Or.inl rfl | exact Or.inr rfl) ?_
      refine qi hQ ?_
      first
      | exact if_pos (Or.inl ⟨by omega, by assumption⟩)
      | exact if_pos (Or.inr ⟨by omega, by assumption⟩)
      | exact if_neg (fun q => q.elim (fun q => absurd q.2 (by assumption)) (fun q => absurd q.1 (by omega)))
      | exact if_neg (fun q => q.elim (fun q => absurd q.1 (by omega)) (fun q => absurd q.2 (by assumption)))
    · refine r_iconst ?_
      refine r_goto ?_
      refine E_go 4 rfl ?_
      refine r_iret rfl (by first | exact Or.inl rfl | exact Or.inr rfl) ?_
      refine qi hQ ?_
      first
      | exact if_pos (Or.inl ⟨by omega, by assumption⟩)
      | exact if_pos (Or.inr ⟨by omega, by assumption⟩)
      | exact if_neg (fun q => q.elim (fun q => absurd q.2 (by assumption)) (fun q => absurd q.1 (by omega)))
      | exact if_neg (fun q => q.elim (fun q => absurd q.1 (by omega)) (fun q => absurd q.2 (by assumption)))
  · have c_10 := (not_congr (n_le (a := e) (b := (s + k)) rfl (n_add (a := s) (b := k) rfl rfl) (by omega) (by omega))).mp c_10
    refine r_aload_n rfl ?_
    refine r_aload_n rfl ?_
    refine r_getI (by decide) rfl rfl (by decide) h23 ?_
    refine r_iload_n rfl ?_
    refine r_iadd ?_
    refine r_virtual (vs := []) (as := [_]) (by decide) (zl rfl) rfl rfl (zl rfl) (Nat.le_refl _) (Or.inr (Or.inr ⟨zt rfl, rfl, zt rfl⟩)) ?_
    rw [show io s + io k = io (s + k) from n_add rfl rfl]
    refine s_byteAt (t := t) (z := z) (i := s + k) (by omega) ht h160 (by omega) hf hz ?_
    rw [mby_y (show s + k < z by omega)]
    refine r_iload_n rfl ?_
    refine r_icmp_ne (fun c_24 => ?_) (fun c_24 => ?_)
    · refine E_go 1 rfl ?_
      refine r_iconst ?_
      refine r_goto ?_
      refine E_go 4 rfl ?_
      refine r_iret rfl (by first | exact Or.inl rfl | exact Or.inr rfl) ?_
      refine qi hQ ?_
      first
      | exact if_pos (Or.inl ⟨by omega, by assumption⟩)
      | exact if_pos (Or.inr ⟨by omega, by assumption⟩)
      | exact if_neg (fun q => q.elim (fun q => absurd q.2 (by assumption)) (fun q => absurd q.1 (by omega)))
      | exact if_neg (fun q => q.elim (fun q => absurd q.1 (by omega)) (fun q => absurd q.2 (by assumption)))
    · refine r_iconst ?_
      refine r_goto ?_
      refine E_go 4 rfl ?_
      refine r_iret rfl (by first | exact Or.inl rfl | exact Or.inr rfl) ?_
      refine qi hQ ?_
      first
      | exact if_pos (Or.inl ⟨by omega, by assumption⟩)
      | exact if_pos (Or.inr ⟨by omega, by assumption⟩)
      | exact if_neg (fun q => q.elim (fun q => absurd q.2 (by assumption)) (fun q => absurd q.1 (by omega)))
      | exact if_neg (fun q => q.elim (fun q => absurd q.1 (by omega)) (fun q => absurd q.2 (by assumption)))

set_option maxRecDepth 10000 in
theorem s_isWord {xs : xSc} {m : Nat} {I : Nat → Nat → Int32} {L : Nat → Nat → Int64} {Q : Value → xHp → Prop} (hm : 3 ≤ m) {t z : Nat} (ht : t < 6) (h160 : z ≤ 160) (hf : I 61 19 = io (160 * t)) (hz : I 61 20 = io z) {s e c : Nat} {w_a w_b w_c w_d w_e w_f w_g w_h : Int32} (hc4 : c < 5) (hez : e ≤ z) (hsz : s ≤ z) (h26 : I 61 26 = 0) (h22 : I 61 22 = io c) (h23 : I 61 23 = io s) (h21 : c = 1 → I 61 21 = io e) (hQ1 : (c = 1 ∧ e ≤ s + 8 ∧ ∀ k, k < 8 → ltP (mb t I) s e k ([w_a, w_b, w_c, w_d, w_e, w_f, w_g, w_h].getD k 0)) → Q (.int 1) (Hp I L)) (hQ0 : ¬ (c = 1 ∧ e ≤ s + 8 ∧ ∀ k, k < 8 → ltP (mb t I) s e k ([w_a, w_b, w_c, w_d, w_e, w_f, w_g, w_h].getD k 0)) → Q (.int 0) (Hp I L)) : M xs m xi_X7_isWord [.ref 61, .int w_a, .int w_b, .int w_c, .int w_d, .int w_e, .int w_f, .int w_g, .int w_h] (Hp I L) Q := by
  obtain ⟨m, rfl⟩ : ∃ k, m = k + 1 := ⟨m - 1, by omega⟩
  refine M_go (ls := [_, _, _, _, _, _, _, _, _]) (ml := 9) rfl rfl rfl (zl rfl) rfl ?_
  refine r_aload_n rfl ?_
  refine r_getZ (by decide) rfl rfl (by decide) rfl ?_
  refine r_if_ne (fun c_4 => ?_) (fun c_4 => ?_)
  · exact absurd h26 c_4
  · refine r_aload_n rfl ?_
    refine r_getI (by decide) rfl rfl (by decide) h22 ?_
    refine r_iconst ?_
    refine r_icmp_ne (fun c_12 => ?_) (fun c_12 => ?_)
    · have c_12 := (not_congr (n_eq (a := c) (b := 1) rfl rfl (by omega) (by omega))).mp c_12
      refine E_go 1 rfl ?_
      refine r_iconst ?_
      refine r_nil ?_
      refine E_go 2 rfl ?_
      refine r_iret rfl (by first | exact Or.inl rfl | exact Or.inr rfl) ?_
      refine hQ0 fun q => ?_
      first
      | exact absurd h26 c_4
      | exact absurd q.1 c_12
      | exact absurd q.2.1 (by omega)
      | exact absurd (q.2.2 0 (by omega)) (b01.mp c_35)
      | exact absurd (q.2.2 1 (by omega)) (b01.mp c_44)
      | exact absurd (q.2.2 2 (by omega)) (b01.mp c_53)
      | exact absurd (q.2.2 3 (by omega)) (b01.mp c_63)
      | exact absurd (q.2.2 4 (by omega)) (b01.mp c_73)
      | exact absurd (q.2.2 5 (by omega)) (b01.mp c_83)
      | exact absurd (q.2.2 6 (by omega)) (b01.mp c_94)
      | exact absurd (q.2.2 7 (by omega)) (b01.mp c_105)
    · have c_12 := (n_eq (a := c) (b := 1) rfl rfl (by omega) (by omega)).mp c_12
      refine r_aload_n rfl ?_
      refine r_getI (by decide) rfl rfl (by decide) (h21 c_12) ?_
      refine r_aload_n rfl ?_
      refine r_getI (by decide) rfl rfl (by decide) h23 ?_
      refine r_bipush ?_
      refine r_iadd ?_
      refine r_icmp_gt (fun c_26 => ?_) (fun c_26 => ?_)
      · have c_26 := (n_lt (a := (s + 8)) (b := e) (n_add (a := s) (b := 8) rfl rfl) rfl (by omega) (by omega)).mp c_26
        refine E_go 1 rfl ?_
        refine r_iconst ?_
        refine r_nil ?_
        refine E_go 2 rfl ?_
        refine r_iret rfl (by first | exact Or.inl rfl | exact Or.inr rfl) ?_
        refine hQ0 fun q => ?_
        first
        | exact absurd h26 c_4
        | exact absurd q.1 c_12
        | exact absurd q.2.1 (by omega)
        | exact absurd (q.2.2 0 (by omega)) (b01.mp c_35)
        | exact absurd (q.2.2 1 (by omega)) (b01.mp c_44)
        | exact absurd (q.2.2 2 (by omega)) (b01.mp c_53)
        | exact absurd (q.2.2 3 (by omega)) (b01.mp c_63)
        | exact absurd (q.2.2 4 (by omega)) (b01.mp c_73)
        | exact absurd (q.2.2 5 (by omega)) (b01.mp c_83)
        | exact absurd (q.2.2 6 (by omega)) (b01.mp c_94)
        | exact absurd (q.2.2 7 (by omega)) (b01.mp c_105)
      · have c_26 := (not_congr (n_lt (a := (s + 8)) (b := e) (n_add (a := s) (b := 8) rfl rfl) rfl (by omega) (by omega))).mp c_26
        refine r_aload_n rfl ?_
        refine r_iconst ?_
        refine r_iload_n rfl ?_
        refine r_virtual (vs := []) (as := [_, _]) (by decide) (zl rfl) rfl rfl (zl rfl) (Nat.le_refl _) (Or.inr (Or.inr ⟨zt rfl, rfl, zt rfl⟩)) ?_
        refine s_isLetter (k := 0) (by omega) ht h160 hf hz (by omega) hez hsz h23 (h21 c_12) ?_
        refine r_if_eq (fun c_35 => ?_) (fun c_35 => ?_)
        · refine E_go 1 rfl ?_
          refine r_iconst ?_
          refine r_nil ?_
          refine E_go 2 rfl ?_
          refine r_iret rfl (by first | exact Or.inl rfl | exact Or.inr rfl) ?_
          refine hQ0 fun q => ?_
          first
          | exact absurd h26 c_4
          | exact absurd q.1 c_12
          | exact absurd q.2.1 (by omega)
          | exact absurd (q.2.2 0 (by omega)) (b01.mp c_35)
          | exact absurd (q.2.2 1 (by omega)) (b01.mp c_44)
          | exact absurd (q.2.2 2 (by omega)) (b01.mp c_53)
          | exact absurd (q.2.2 3 (by omega)) (b01.mp c_63)
          | exact absurd (q.2.2 4 (by omega)) (b01.mp c_73)
          | exact absurd (q.2.2 5 (by omega)) (b01.mp c_83)
          | exact absurd (q.2.2 6 (by omega)) (b01.mp c_94)
          | exact absurd (q.2.2 7 (by omega)) (b01.mp c_105)
        · refine r_aload_n rfl ?_
          refine r_iconst ?_
          refine r_iload_n rfl ?_
          refine r_virtual (vs := []) (as := [_, _]) (by decide) (zl rfl) rfl rfl (zl rfl) (Nat.le_refl _) (Or.inr (Or.inr ⟨zt rfl, rfl, zt rfl⟩)) ?_
          refine s_isLetter (k := 1) (by omega) ht h160 hf hz (by omega) hez hsz h23 (h21 c_12) ?_
          refine r_if_eq (fun c_44 => ?_) (fun c_44 => ?_)
          · refine E_go 1 rfl ?_
            refine r_iconst ?_
            refine r_nil ?_
            refine E_go 2 rfl ?_
            refine r_iret rfl (by first | exact Or.inl rfl | exact Or.inr rfl) ?_
            refine hQ0 fun q => ?_
            first
            | exact absurd h26 c_4
            | exact absurd q.1 c_12
            | exact absurd q.2.1 (by omega)
            | exact absurd (q.2.2 0 (by omega)) (b01.mp c_35)
            | exact absurd (q.2.2 1 (by omega)) (b01.mp c_44)
            | exact absurd (q.2.2 2 (by omega)) (b01.mp c_53)
            | exact absurd (q.2.2 3 (by omega)) (b01.mp c_63)
            | exact absurd (q.2.2 4 (by omega)) (b01.mp c_73)
            | exact absurd (q.2.2 5 (by omega)) (b01.mp c_83)
            | exact absurd (q.2.2 6 (by omega)) (b01.mp c_94)
            | exact absurd (q.2.2 7 (by omega)) (b01.mp c_105)
          · refine r_aload_n rfl ?_
            refine r_iconst ?_
            refine r_iload_n rfl ?_
            refine r_virtual (vs := []) (as := [_, _]) (by decide) (zl rfl) rfl rfl (zl rfl) (Nat.le_refl _) (Or.inr (Or.inr ⟨zt rfl, rfl, zt rfl⟩)) ?_
            refine s_isLetter (k := 2) (by omega) ht h160 hf hz (by omega) hez hsz h23 (h21 c_12) ?_
            refine r_if_eq (fun c_53 => ?_) (fun c_53 => ?_)
            · refine E_go 1 rfl ?_
              refine r_iconst ?_
              refine r_nil ?_
              refine E_go 2 rfl ?_
              refine r_iret rfl (by first | exact Or.inl rfl | exact Or.inr rfl) ?_
              refine hQ0 fun q => ?_
              first
              | exact absurd h26 c_4
              | exact absurd q.1 c_12
              | exact absurd q.2.1 (by omega)
              | exact absurd (q.2.2 0 (by omega)) (b01.mp c_35)
              | exact absurd (q.2.2 1 (by omega)) (b01.mp c_44)
              | exact absurd (q.2.2 2 (by omega)) (b01.mp c_53)
              | exact absurd (q.2.2 3 (by omega)) (b01.mp c_63)
              | exact absurd (q.2.2 4 (by omega)) (b01.mp c_73)
              | exact absurd (q.2.2 5 (by omega)) (b01.mp c_83)
              | exact absurd (q.2.2 6 (by omega)) (b01.mp c_94)
              | exact absurd (q.2.2 7 (by omega)) (b01.mp c_105)
            · refine r_aload_n rfl ?_
              refine r_iconst ?_
              refine r_iload rfl ?_
              refine r_virtual (vs := []) (as := [_, _]) (by decide) (zl rfl) rfl rfl (zl rfl) (Nat.le_refl _) (Or.inr (Or.inr ⟨zt rfl, rfl, zt rfl⟩)) ?_
              refine s_isLetter (k := 3) (by omega) ht h160 hf hz (by omega) hez hsz h23 (h21 c_12) ?_
              refine r_if_eq (fun c_63 => ?_) (fun c_63 => ?_)
              · refine E_go 1 rfl ?_
                refine r_iconst ?_
                refine r_nil ?_
                refine E_go 2 rfl ?_
                refine r_iret rfl (by first | exact Or.inl rfl | exact Or.inr rfl) ?_
                refine hQ0 fun q => ?_
                first
                | exact absurd h26 c_4
                | exact absurd q.1 c_12
                | exact absurd q.2.1 (by omega)
                | exact absurd (q.2.2 0 (by omega)) (b01.mp c_35)
                | exact absurd (q.2.2 1 (by omega)) (b01.mp c_44)
                | exact absurd (q.2.2 2 (by omega)) (b01.mp c_53)
                | exact absurd (q.2.2 3 (by omega)) (b01.mp c_63)
                | exact absurd (q.2.2 4 (by omega)) (b01.mp c_73)
                | exact absurd (q.2.2 5 (by omega)) (b01.mp c_83)
                | exact absurd (q.2.2 6 (by omega)) (b01.mp c_94)
                | exact absurd (q.2.2 7 (by omega)) (b01.mp c_105)
              · refine r_aload_n rfl ?_
                refine r_iconst ?_
                refine r_iload rfl ?_
                refine r_virtual (vs := []) (as := [_, _]) (by decide) (zl rfl) rfl rfl (zl rfl) (Nat.le_refl _) (Or.inr (Or.inr ⟨zt rfl, rfl, zt rfl⟩)) ?_
                refine s_isLetter (k := 4) (by omega) ht h160 hf hz (by omega) hez hsz h23 (h21 c_12) ?_
                refine r_if_eq (fun c_73 => ?_) (fun c_73 => ?_)
                · refine E_go 1 rfl ?_
                  refine r_iconst ?_
                  refine r_nil ?_
                  refine E_go 2 rfl ?_
                  refine r_iret rfl (by first | exact Or.inl rfl | exact Or.inr rfl) ?_
                  refine hQ0 fun q => ?_
                  first
                  | exact absurd h26 c_4
                  | exact absurd q.1 c_12
                  | exact absurd q.2.1 (by omega)
                  | exact absurd (q.2.2 0 (by omega)) (b01.mp c_35)
                  | exact absurd (q.2.2 1 (by omega)) (b01.mp c_44)
                  | exact absurd (q.2.2 2 (by omega)) (b01.mp c_53)
                  | exact absurd (q.2.2 3 (by omega)) (b01.mp c_63)
                  | exact absurd (q.2.2 4 (by omega)) (b01.mp c_73)
                  | exact absurd (q.2.2 5 (by omega)) (b01.mp c_83)
                  | exact absurd (q.2.2 6 (by omega)) (b01.mp c_94)
                  | exact absurd (q.2.2 7 (by omega)) (b01.mp c_105)
                · refine r_aload_n rfl ?_
                  refine r_iconst ?_
                  refine r_iload rfl ?_
                  refine r_virtual (vs := []) (as := [_, _]) (by decide) (zl rfl) rfl rfl (zl rfl) (Nat.le_refl _) (Or.inr (Or.inr ⟨zt rfl, rfl, zt rfl⟩)) ?_
                  refine s_isLetter (k := 5) (by omega) ht h160 hf hz (by omega) hez hsz h23 (h21 c_12) ?_
                  refine r_if_eq (fun c_83 => ?_) (fun c_83 => ?_)
                  · refine E_go 1 rfl ?_
                    refine r_iconst ?_
                    refine r_nil ?_
                    refine E_go 2 rfl ?_
                    refine r_iret rfl (by first | exact Or.inl rfl | exact Or.inr rfl) ?_
                    refine hQ0 fun q => ?_
                    first
                    | exact absurd h26 c_4
                    | exact absurd q.1 c_12
                    | exact absurd q.2.1 (by omega)
                    | exact absurd (q.2.2 0 (by omega)) (b01.mp c_35)
                    | exact absurd (q.2.2 1 (by omega)) (b01.mp c_44)
                    | exact absurd (q.2.2 2 (by omega)) (b01.mp c_53)
                    | exact absurd (q.2.2 3 (by omega)) (b01.mp c_63)
                    | exact absurd (q.2.2 4 (by omega)) (b01.mp c_73)
                    | exact absurd (q.2.2 5 (by omega)) (b01.mp c_83)
                    | exact absurd (q.2.2 6 (by omega)) (b01.mp c_94)
                    | exact absurd (q.2.2 7 (by omega)) (b01.mp c_105)
                  · refine r_aload_n rfl ?_
                    refine r_bipush ?_
                    refine r_iload rfl ?_
                    refine r_virtual (vs := []) (as := [_, _]) (by decide) (zl rfl) rfl rfl (zl rfl) (Nat.le_refl _) (Or.inr (Or.inr ⟨zt rfl, rfl, zt rfl⟩)) ?_
                    refine s_isLetter (k := 6) (by omega) ht h160 hf hz (by omega) hez hsz h23 (h21 c_12) ?_
                    refine r_if_eq (fun c_94 => ?_) (fun c_94 => ?_)
                    · refine E_go 1 rfl ?_
                      refine r_iconst ?_
                      refine r_nil ?_
                      refine E_go 2 rfl ?_
                      refine r_iret rfl (by first | exact Or.inl rfl | exact Or.inr rfl) ?_
                      refine hQ0 fun q => ?_
                      first
                      | exact absurd h26 c_4
                      | exact absurd q.1 c_12
                      | exact absurd q.2.1 (by omega)
                      | exact absurd (q.2.2 0 (by omega)) (b01.mp c_35)
                      | exact absurd (q.2.2 1 (by omega)) (b01.mp c_44)
                      | exact absurd (q.2.2 2 (by omega)) (b01.mp c_53)
                      | exact absurd (q.2.2 3 (by omega)) (b01.mp c_63)
                      | exact absurd (q.2.2 4 (by omega)) (b01.mp c_73)
                      | exact absurd (q.2.2 5 (by omega)) (b01.mp c_83)
                      | exact absurd (q.2.2 6 (by omega)) (b01.mp c_94)
                      | exact absurd (q.2.2 7 (by omega)) (b01.mp c_105)
                    · refine r_aload_n rfl ?_
                      refine r_bipush ?_
                      refine r_iload rfl ?_
                      refine r_virtual (vs := []) (as := [_, _]) (by decide) (zl rfl) rfl rfl (zl rfl) (Nat.le_refl _) (Or.inr (Or.inr ⟨zt rfl, rfl, zt rfl⟩)) ?_
                      refine s_isLetter (k := 7) (by omega) ht h160 hf hz (by omega) hez hsz h23 (h21 c_12) ?_
                      refine r_if_eq (fun c_105 => ?_) (fun c_105 => ?_)
                      · refine E_go 1 rfl ?_
                        refine r_iconst ?_
                        refine r_nil ?_
                        refine E_go 2 rfl ?_
                        refine r_iret rfl (by first | exact Or.inl rfl | exact Or.inr rfl) ?_
                        refine hQ0 fun q => ?_
                        first
                        | exact absurd h26 c_4
                        | exact absurd q.1 c_12
                        | exact absurd q.2.1 (by omega)
                        | exact absurd (q.2.2 0 (by omega)) (b01.mp c_35)
                        | exact absurd (q.2.2 1 (by omega)) (b01.mp c_44)
                        | exact absurd (q.2.2 2 (by omega)) (b01.mp c_53)
                        | exact absurd (q.2.2 3 (by omega)) (b01.mp c_63)
                        | exact absurd (q.2.2 4 (by omega)) (b01.mp c_73)
                        | exact absurd (q.2.2 5 (by omega)) (b01.mp c_83)
                        | exact absurd (q.2.2 6 (by omega)) (b01.mp c_94)
                        | exact absurd (q.2.2 7 (by omega)) (b01.mp c_105)
                      · refine r_iconst ?_
                        refine r_goto ?_
                        refine E_go 2 rfl ?_
                        refine r_iret rfl (by first | exact Or.inl rfl | exact Or.inr rfl) ?_
                        exact hQ1 ⟨c_12, by omega, all8 (b01n.mp c_35) (b01n.mp c_44) (b01n.mp c_53) (b01n.mp c_63) (b01n.mp c_73) (b01n.mp c_83) (b01n.mp c_94) (b01n.mp c_105)⟩

set_option maxRecDepth 10000 in
theorem s_isWordB {xs : xSc} {m : Nat} {I : Nat → Nat → Int32} {L : Nat → Nat → Int64} {Q : Value → xHp → Prop} (hm : 1 ≤ m) {w_a w_b w_c w_d w_e w_f w_g w_h : Int32} (h26 : I 61 26 = 1) (hQ : Q (.int 0) (Hp I L)) : M xs m xi_X7_isWord [.ref 61, .int w_a, .int w_b, .int w_c, .int w_d, .int w_e, .int w_f, .int w_g, .int w_h] (Hp I L) Q := by
  obtain ⟨m, rfl⟩ : ∃ k, m = k + 1 := ⟨m - 1, by omega⟩
  refine M_go (ls := [_, _, _, _, _, _, _, _, _]) (ml := 9) rfl rfl rfl (zl rfl) rfl ?_
  refine r_aload_n rfl ?_
  refine r_getZ (by decide) rfl rfl (by decide) rfl ?_
  refine r_if_ne (fun c_4 => ?_) (fun c_4 => ?_)
  · refine E_go 1 rfl ?_
    refine r_iconst ?_
    refine r_nil ?_
    refine E_go 2 rfl ?_
    refine r_iret rfl (by first | exact Or.inl rfl | exact Or.inr rfl) ?_
    exact hQ
  · exact absurd (c_4.symm.trans h26) (by decide)

section
variable {b : Nat → Int32} {z s : Nat}
theorem tcl_lt : tcl b z s < 5 := by
  have q : ∀ {p : Prop} {inst : Decidable p} {a b : Nat}, a < 5 → b < 5 → (if p then a else b) < 5 := by
    intro p inst a b ha hb
    by_cases c : p
    · rw [if_pos c]; exact ha
    · rw [if_neg c]; exact hb
  unfold tcl
  exact q (by decide) (q (by decide) (q (q (by decide) (by decide)) (q (by decide) (by decide))))
theorem wd_r {l : List Int32} : wd l = 1 ∨ 3 ≤ wd l ∧ wd l ≤ 8 ∨ 10 ≤ wd l ∧ wd l < 16 := by
  have q : ∀ {p : Prop} {inst : Decidable p} {a b : Nat}, (a = 1 ∨ 3 ≤ a ∧ a ≤ 8 ∨ 10 ≤ a ∧ a < 16) → (b = 1 ∨ 3 ≤ b ∧ b ≤ 8 ∨ 10 ≤ b ∧ b < 16) → ((if p then a else b) = 1 ∨ 3 ≤ (if p then a else b) ∧ (if p then a else b) ≤ 8 ∨ 10 ≤ (if p then a else b) ∧ (if p then a else b) < 16) := by
    intro p inst a b ha hb
    by_cases c : p
    · rw [if_pos c]; exact ha
    · rw [if_neg c]; exact hb
  unfold wd
  exact q (by decide) (q (by decide) (q (by decide) (q (by decide) (q (by decide) (q (by decide) (q (by decide) (q (by decide) (q (by decide) (q (by decide) (q (by decide) (q (by decide) (by decide))))))))))))
/-- what the two tellings of a token's sort have to do with each other -/
theorem tk_cl : (tcl b z s = 0 ∧ tkk b z s = 0) ∨ (tcl b z s = 1 ∧ s < z ∧ isL (b s) = true ∧ tkk b z s = wd (lst b s (ten b z s - s))) ∨ (tcl b z s = 2 ∧ tkk b z s = 2) ∨ (tcl b z s = 3 ∧ tkk b z s = (b s).toNatClampNeg ∧ isS (b s) = true) ∨ (tcl b z s = 4 ∧ tkk b z s = 1) := by
  by_cases c0 : z ≤ s
  · exact Or.inl ⟨tcl_0 c0, (ten_0 c0).2⟩
  have c0 : s < z := by omega
  by_cases c1 : isL (b s) = true
  · exact Or.inr (Or.inl ⟨tcl_1 c0 c1, c0, c1, by rw [(ten_1 c0 c1).2, (ten_1 c0 c1).1]⟩)
  by_cases c2 : isD (b s) = true
  · have h1 := tcl_2 c0 c1 c2
    have h2 := (ten_2 c0 c1 c2).2
    by_cases c4 : 4 < sc isD b z s - s
    · rw [if_pos c4] at h1 h2
      exact Or.inr (Or.inr (Or.inr (Or.inr ⟨h1, h2⟩)))
    · rw [if_neg c4] at h1 h2
      exact Or.inr (Or.inr (Or.inl ⟨h1, h2⟩))
  have h2 := (ten_3 c0 c1 c2).2
  by_cases c3 : isS (b s) = true
  · rw [if_pos c3] at h2
    exact Or.inr (Or.inr (Or.inr (Or.inl ⟨tcl_3 c0 c1 c2 c3, h2, c3⟩)))
  · rw [if_neg c3] at h2
    exact Or.inr (Or.inr (Or.inr (Or.inr ⟨tcl_4 c0 c1 c2 c3, h2⟩)))
theorem tk_2 : tcl b z s = 2 ↔ tkk b z s = 2 := by
  rcases tk_cl (b := b) (z := z) (s := s) with h | h | h | h | h
  · omega
  · have := wd_r (l := lst b s (ten b z s - s)); omega
  · omega
  · have := isS_k h.2.2; omega
  · omega
theorem tk_0 : tcl b z s = 0 ↔ tkk b z s = 0 := by
  rcases tk_cl (b := b) (z := z) (s := s) with h | h | h | h | h
  · omega
  · have := wd_r (l := lst b s (ten b z s - s)); omega
  · omega
  · have := isS_k h.2.2; omega
  · omega
/-- a word: a kind of its own, or none -/
theorem tk_w (h : (3 ≤ tkk b z s ∧ tkk b z s ≤ 8) ∨ (10 ≤ tkk b z s ∧ tkk b z s < 16)) : tcl b z s = 1 := by
  rcases tk_cl (b := b) (z := z) (s := s) with q | q | q | q | q
  · omega
  · exact q.1
  · omega
  · have := isS_k q.2.2; omega
  · omega
theorem tk_n (h : ¬ tkk b z s = 1) : ¬ tcl b z s = 4 := by
  rcases tk_cl (b := b) (z := z) (s := s) with q | q | q | q | q <;> omega
theorem L_nz {j : Nat} (h1 : isL (b s) = true) (h2 : s ≤ j) (h3 : j < ten b z s) (hz : s < z) : ¬ b j = 0 := by
  rw [(ten_1 hz h1).1] at h3
  intro q
  have := sc_all (P := isL) h2 h3
  rw [q] at this
  exact absurd this (by decide)
end

theorem wd_3 {l : List Int32} : wd l = 3 ↔ l = [109, 97, 121] := by
  constructor
  · intro h
    unfold wd at h
    by_cases c3 : l = [109, 97, 121]
    · exact c3
    rw [if_neg c3] at h
    by_cases c4 : l = [106, 111, 121, 115]
    · rw [if_pos c4] at h; exact absurd h (by decide)
    rw [if_neg c4] at h
    by_cases c5 : l = [99, 111, 111, 108, 115]
    · rw [if_pos c5] at h; exact absurd h (by decide)
    rw [if_neg c5] at h
    by_cases c6 : l = [111, 114]
    · rw [if_pos c6] at h; exact absurd h (by decide)
    rw [if_neg c6] at h
    by_cases c7 : l = [97, 110, 100]
    · rw [if_pos c7] at h; exact absurd h (by decide)
    rw [if_neg c7] at h
    by_cases c8 : l = [110, 111, 116]
    · rw [if_pos c8] at h; exact absurd h (by decide)
    rw [if_neg c8] at h
    by_cases c10 : l = [104, 101, 97, 116]
    · rw [if_pos c10] at h; exact absurd h (by decide)
    rw [if_neg c10] at h
    by_cases c11 : l = [116, 104, 105, 114, 115, 116]
    · rw [if_pos c11] at h; exact absurd h (by decide)
    rw [if_neg c11] at h
    by_cases c12 : l = [110, 117, 109, 98, 101, 114]
    · rw [if_pos c12] at h; exact absurd h (by decide)
    rw [if_neg c12] at h
    by_cases c13 : l = [115, 104, 111, 119, 110]
    · rw [if_pos c13] at h; exact absurd h (by decide)
    rw [if_neg c13] at h
    by_cases c14 : l = [109, 105, 110, 117, 116, 101]
    · rw [if_pos c14] at h; exact absurd h (by decide)
    rw [if_neg c14] at h
    by_cases c15 : l = [99, 117, 112, 115]
    · rw [if_pos c15] at h; exact absurd h (by decide)
    rw [if_neg c15] at h
    exact absurd h (by decide)
  · rintro rfl
    decide

theorem s_isW_3 {xs : xSc} {m : Nat} {I : Nat → Nat → Int32} {L : Nat → Nat → Int64} {Q : Value → xHp → Prop} (hm : 3 ≤ m) {t z i : Nat} (ht : t < 6) (h160 : z ≤ 160) (hf : I 61 19 = io (160 * t)) (hz : I 61 20 = io z) (hi : i ≤ z) (h26 : I 61 26 = 0) (hK : mK (mb t I) z i I L) (hQ : Q (.int (if tkd (mb t I) z i = 3 then 1 else 0)) (Hp I L)) : M xs m xi_X7_isWord [.ref 61, .int 109, .int 97, .int 121, .int 0, .int 0, .int 0, .int 0, .int 0] (Hp I L) Q := by
  have hs := tpl_z (b := mb t I) hi
  have he := ten_b (b := mb t I) hs
  have key : (tcl (mb t I) z (tpl (mb t I) z i) = 1 ∧ tst (mb t I) z i ≤ tpl (mb t I) z i + 8 ∧ ∀ k, k < 8 → ltP (mb t I) (tpl (mb t I) z i) (tst (mb t I) z i) k ([109, 97, 121, 0, 0, 0, 0, 0].getD k 0)) ↔ tkd (mb t I) z i = 3 := by
    rcases tk_cl (b := mb t I) (z := z) (s := tpl (mb t I) z i) with q | q | q | q | q
    · exact ⟨fun h => absurd h.1 (by omega), fun h => absurd (tk_w (Or.inl ⟨by rw [show tkk _ _ _ = _ from h]; decide, by rw [show tkk _ _ _ = _ from h]; decide⟩)) (by omega)⟩
    · have e := lst_ltP (b := mb t I) (s := tpl (mb t I) z i) (e := tst (mb t I) z i) (W := [109, 97, 121]) (by decide) (by decide) (fun j h1 h2 => L_nz q.2.2.1 h1 h2 q.2.1) he.1
      have e2 : (∀ k, k < 8 → ltP (mb t I) (tpl (mb t I) z i) (tst (mb t I) z i) k ([109, 97, 121, 0, 0, 0, 0, 0].getD k 0)) ↔ ∀ k, k < 8 → ltP (mb t I) (tpl (mb t I) z i) (tst (mb t I) z i) k ([109, 97, 121].getD k 0) :=
        ⟨fun h => all8 (h 0 (by omega)) (h 1 (by omega)) (h 2 (by omega)) (h 3 (by omega)) (h 4 (by omega)) (h 5 (by omega)) (h 6 (by omega)) (h 7 (by omega)), fun h => all8 (h 0 (by omega)) (h 1 (by omega)) (h 2 (by omega)) (h 3 (by omega)) (h 4 (by omega)) (h 5 (by omega)) (h 6 (by omega)) (h 7 (by omega))⟩
      rw [show tkd (mb t I) z i = wd (lst (mb t I) (tpl (mb t I) z i) (tst (mb t I) z i - tpl (mb t I) z i)) from q.2.2.2, wd_3, ← e, e2]
      exact ⟨fun h => h.2, fun h => ⟨q.1, h⟩⟩
    · exact ⟨fun h => absurd h.1 (by omega), fun h => absurd (tk_w (Or.inl ⟨by rw [show tkk _ _ _ = _ from h]; decide, by rw [show tkk _ _ _ = _ from h]; decide⟩)) (by omega)⟩
    · exact ⟨fun h => absurd h.1 (by omega), fun h => absurd (tk_w (Or.inl ⟨by rw [show tkk _ _ _ = _ from h]; decide, by rw [show tkk _ _ _ = _ from h]; decide⟩)) (by omega)⟩
    · exact ⟨fun h => absurd h.1 (by omega), fun h => absurd (tk_w (Or.inl ⟨by rw [show tkk _ _ _ = _ from h]; decide, by rw [show tkk _ _ _ = _ from h]; decide⟩)) (by omega)⟩
  refine s_isWord hm ht h160 hf hz tcl_lt he.2.1 hs h26 hK.1 hK.2.1 (fun c => hK.2.2.1 (by omega)) (fun q => ?_) (fun q => ?_)
  · rw [if_pos (key.mp q)] at hQ; exact hQ
  · rw [if_neg (fun r => q (key.mpr r))] at hQ; exact hQ

theorem wd_4 {l : List Int32} : wd l = 4 ↔ l = [106, 111, 121, 115] := by
  constructor
  · intro h
    unfold wd at h
    by_cases c3 : l = [109, 97, 121]
    · rw [if_pos c3] at h; exact absurd h (by decide)
    rw [if_neg c3] at h
    by_cases c4 : l = [106, 111, 121, 115]
    · exact c4
    rw [if_neg c4] at h
    by_cases c5 : l = [99, 111, 111, 108, 115]
    · rw [if_pos c5] at h; exact absurd h (by decide)
    rw [if_neg c5] at h
    by_cases c6 : l = [111, 114]
    · rw [if_pos c6] at h; exact absurd h (by decide)
    rw [if_neg c6] at h
    by_cases c7 : l = [97, 110, 100]
    · rw [if_pos c7] at h; exact absurd h (by decide)
    rw [if_neg c7] at h
    by_cases c8 : l = [110, 111, 116]
    · rw [if_pos c8] at h; exact absurd h (by decide)
    rw [if_neg c8] at h
    by_cases c10 : l = [104, 101, 97, 116]
    · rw [if_pos c10] at h; exact absurd h (by decide)
    rw [if_neg c10] at h
    by_cases c11 : l = [116, 104, 105, 114, 115, 116]
    · rw [if_pos c11] at h; exact absurd h (by decide)
    rw [if_neg c11] at h
    by_cases c12 : l = [110, 117, 109, 98, 101, 114]
    · rw [if_pos c12] at h; exact absurd h (by decide)
    rw [if_neg c12] at h
    by_cases c13 : l = [115, 104, 111, 119, 110]
    · rw [if_pos c13] at h; exact absurd h (by decide)
    rw [if_neg c13] at h
    by_cases c14 : l = [109, 105, 110, 117, 116, 101]
    · rw [if_pos c14] at h; exact absurd h (by decide)
    rw [if_neg c14] at h
    by_cases c15 : l = [99, 117, 112, 115]
    · rw [if_pos c15] at h; exact absurd h (by decide)
    rw [if_neg c15] at h
    exact absurd h (by decide)
  · rintro rfl
    decide

theorem s_isW_4 {xs : xSc} {m : Nat} {I : Nat → Nat → Int32} {L : Nat → Nat → Int64} {Q : Value → xHp → Prop} (hm : 3 ≤ m) {t z i : Nat} (ht : t < 6) (h160 : z ≤ 160) (hf : I 61 19 = io (160 * t)) (hz : I 61 20 = io z) (hi : i ≤ z) (h26 : I 61 26 = 0) (hK : mK (mb t I) z i I L) (hQ : Q (.int (if tkd (mb t I) z i = 4 then 1 else 0)) (Hp I L)) : M xs m xi_X7_isWord [.ref 61, .int 106, .int 111, .int 121, .int 115, .int 0, .int 0, .int 0, .int 0] (Hp I L) Q := by
  have hs := tpl_z (b := mb t I) hi
  have he := ten_b (b := mb t I) hs
  have key : (tcl (mb t I) z (tpl (mb t I) z i) = 1 ∧ tst (mb t I) z i ≤ tpl (mb t I) z i + 8 ∧ ∀ k, k < 8 → ltP (mb t I) (tpl (mb t I) z i) (tst (mb t I) z i) k ([106, 111, 121, 115, 0, 0, 0, 0].getD k 0)) ↔ tkd (mb t I) z i = 4 := by
    rcases tk_cl (b := mb t I) (z := z) (s := tpl (mb t I) z i) with q | q | q | q | q
    · exact ⟨fun h => absurd h.1 (by omega), fun h => absurd (tk_w (Or.inl ⟨by rw [show tkk _ _ _ = _ from h]; decide, by rw [show tkk _ _ _ = _ from h]; decide⟩)) (by omega)⟩
    · have e := lst_ltP (b := mb t I) (s := tpl (mb t I) z i) (e := tst (mb t I) z i) (W := [106, 111, 121, 115]) (by decide) (by decide) (fun j h1 h2 => L_nz q.2.2.1 h1 h2 q.2.1) he.1
      have e2 : (∀ k, k < 8 → ltP (mb t I) (tpl (mb t I) z i) (tst (mb t I) z i) k ([106, 111, 121, 115, 0, 0, 0, 0].getD k 0)) ↔ ∀ k, k < 8 → ltP (mb t I) (tpl (mb t I) z i) (tst (mb t I) z i) k ([106, 111, 121, 115].getD k 0) :=
        ⟨fun h => all8 (h 0 (by omega)) (h 1 (by omega)) (h 2 (by omega)) (h 3 (by omega)) (h 4 (by omega)) (h 5 (by omega)) (h 6 (by omega)) (h 7 (by omega)), fun h => all8 (h 0 (by omega)) (h 1 (by omega)) (h 2 (by omega)) (h 3 (by omega)) (h 4 (by omega)) (h 5 (by omega)) (h 6 (by omega)) (h 7 (by omega))⟩
      rw [show tkd (mb t I) z i = wd (lst (mb t I) (tpl (mb t I) z i) (tst (mb t I) z i - tpl (mb t I) z i)) from q.2.2.2, wd_4, ← e, e2]
      exact ⟨fun h => h.2, fun h => ⟨q.1, h⟩⟩
    · exact ⟨fun h => absurd h.1 (by omega), fun h => absurd (tk_w (Or.inl ⟨by rw [show tkk _ _ _ = _ from h]; decide, by rw [show tkk _ _ _ = _ from h]; decide⟩)) (by omega)⟩
    · exact ⟨fun h => absurd h.1 (by omega), fun h => absurd (tk_w (Or.inl ⟨by rw [show tkk _ _ _ = _ from h]; decide, by rw [show tkk _ _ _ = _ from h]; decide⟩)) (by omega)⟩
    · exact ⟨fun h => absurd h.1 (by omega), fun h => absurd (tk_w (Or.inl ⟨by rw [show tkk _ _ _ = _ from h]; decide, by rw [show tkk _ _ _ = _ from h]; decide⟩)) (by omega)⟩
  refine s_isWord hm ht h160 hf hz tcl_lt he.2.1 hs h26 hK.1 hK.2.1 (fun c => hK.2.2.1 (by omega)) (fun q => ?_) (fun q => ?_)
  · rw [if_pos (key.mp q)] at hQ; exact hQ
  · rw [if_neg (fun r => q (key.mpr r))] at hQ; exact hQ

theorem wd_5 {l : List Int32} : wd l = 5 ↔ l = [99, 111, 111, 108, 115] := by
  constructor
  · intro h
    unfold wd at h
    by_cases c3 : l = [109, 97, 121]
    · rw [if_pos c3] at h; exact absurd h (by decide)
    rw [if_neg c3] at h
    by_cases c4 : l = [106, 111, 121, 115]
    · rw [if_pos c4] at h; exact absurd h (by decide)
    rw [if_neg c4] at h
    by_cases c5 : l = [99, 111, 111, 108, 115]
    · exact c5
    rw [if_neg c5] at h
    by_cases c6 : l = [111, 114]
    · rw [if_pos c6] at h; exact absurd h (by decide)
    rw [if_neg c6] at h
    by_cases c7 : l = [97, 110, 100]
    · rw [if_pos c7] at h; exact absurd h (by decide)
    rw [if_neg c7] at h
    by_cases c8 : l = [110, 111, 116]
    · rw [if_pos c8] at h; exact absurd h (by decide)
    rw [if_neg c8] at h
    by_cases c10 : l = [104, 101, 97, 116]
    · rw [if_pos c10] at h; exact absurd h (by decide)
    rw [if_neg c10] at h
    by_cases c11 : l = [116, 104, 105, 114, 115, 116]
    · rw [if_pos c11] at h; exact absurd h (by decide)
    rw [if_neg c11] at h
    by_cases c12 : l = [110, 117, 109, 98, 101, 114]
    · rw [if_pos c12] at h; exact absurd h (by decide)
    rw [if_neg c12] at h
    by_cases c13 : l = [115, 104, 111, 119, 110]
    · rw [if_pos c13] at h; exact absurd h (by decide)
    rw [if_neg c13] at h
    by_cases c14 : l = [109, 105, 110, 117, 116, 101]
    · rw [if_pos c14] at h; exact absurd h (by decide)
    rw [if_neg c14] at h
    by_cases c15 : l = [99, 117, 112, 115]
    · rw [if_pos c15] at h; exact absurd h (by decide)
    rw [if_neg c15] at h
    exact absurd h (by decide)
  · rintro rfl
    decide

theorem s_isW_5 {xs : xSc} {m : Nat} {I : Nat → Nat → Int32} {L : Nat → Nat → Int64} {Q : Value → xHp → Prop} (hm : 3 ≤ m) {t z i : Nat} (ht : t < 6) (h160 : z ≤ 160) (hf : I 61 19 = io (160 * t)) (hz : I 61 20 = io z) (hi : i ≤ z) (h26 : I 61 26 = 0) (hK : mK (mb t I) z i I L) (hQ : Q (.int (if tkd (mb t I) z i = 5 then 1 else 0)) (Hp I L)) : M xs m xi_X7_isWord [.ref 61, .int 99, .int 111, .int 111, .int 108, .int 115, .int 0, .int 0, .int 0] (Hp I L) Q := by
  have hs := tpl_z (b := mb t I) hi
  have he := ten_b (b := mb t I) hs
  have key : (tcl (mb t I) z (tpl (mb t I) z i) = 1 ∧ tst (mb t I) z i ≤ tpl (mb t I) z i + 8 ∧ ∀ k, k < 8 → ltP (mb t I) (tpl (mb t I) z i) (tst (mb t I) z i) k ([99, 111, 111, 108, 115, 0, 0, 0].getD k 0)) ↔ tkd (mb t I) z i = 5 := by
    rcases tk_cl (b := mb t I) (z := z) (s := tpl (mb t I) z i) with q | q | q | q | q
    · exact ⟨fun h => absurd h.1 (by omega), fun h => absurd (tk_w (Or.inl ⟨by rw [show tkk _ _ _ = _ from h]; decide, by rw [show tkk _ _ _ = _ from h]; decide⟩)) (by omega)⟩
    · have e := lst_ltP (b := mb t I) (s := tpl (mb t I) z i) (e := tst (mb t I) z i) (W := [99, 111, 111, 108, 115]) (by decide) (by decide) (fun j h1 h2 => L_nz q.2.2.1 h1 h2 q.2.1) he.1
      have e2 : (∀ k, k < 8 → ltP (mb t I) (tpl (mb t I) z i) (tst (mb t I) z i) k ([99, 111, 111, 108, 115, 0, 0, 0].getD k 0)) ↔ ∀ k, k < 8 → ltP (mb t I) (tpl (mb t I) z i) (tst (mb t I) z i) k ([99, 111, 111, 108, 115].getD k 0) :=
        ⟨fun h => all8 (h 0 (by omega)) (h 1 (by omega)) (h 2 (by omega)) (h 3 (by omega)) (h 4 (by omega)) (h 5 (by omega)) (h 6 (by omega)) (h 7 (by omega)), fun h => all8 (h 0 (by omega)) (h 1 (by omega)) (h 2 (by omega)) (h 3 (by omega)) (h 4 (by omega)) (h 5 (by omega)) (h 6 (by omega)) (h 7 (by omega))⟩
      rw [show tkd (mb t I) z i = wd (lst (mb t I) (tpl (mb t I) z i) (tst (mb t I) z i - tpl (mb t I) z i)) from q.2.2.2, wd_5, ← e, e2]
      exact ⟨fun h => h.2, fun h => ⟨q.1, h⟩⟩
    · exact ⟨fun h => absurd h.1 (by omega), fun h => absurd (tk_w (Or.inl ⟨by rw [show tkk _ _ _ = _ from h]; decide, by rw [show tkk _ _ _ = _ from h]; decide⟩)) (by omega)⟩
    · exact ⟨fun h => absurd h.1 (by omega), fun h => absurd (tk_w (Or.inl ⟨by rw [show tkk _ _ _ = _ from h]; decide, by rw [show tkk _ _ _ = _ from h]; decide⟩)) (by omega)⟩
    · exact ⟨fun h => absurd h.1 (by omega), fun h => absurd (tk_w (Or.inl ⟨by rw [show tkk _ _ _ = _ from h]; decide, by rw [show tkk _ _ _ = _ from h]; decide⟩)) (by omega)⟩
  refine s_isWord hm ht h160 hf hz tcl_lt he.2.1 hs h26 hK.1 hK.2.1 (fun c => hK.2.2.1 (by omega)) (fun q => ?_) (fun q => ?_)
  · rw [if_pos (key.mp q)] at hQ; exact hQ
  · rw [if_neg (fun r => q (key.mpr r))] at hQ; exact hQ

theorem wd_6 {l : List Int32} : wd l = 6 ↔ l = [111, 114] := by
  constructor
  · intro h
    unfold wd at h
    by_cases c3 : l = [109, 97, 121]
    · rw [if_pos c3] at h; exact absurd h (by decide)
    rw [if_neg c3] at h
    by_cases c4 : l = [106, 111, 121, 115]
    · rw [if_pos c4] at h; exact absurd h (by decide)
    rw [if_neg c4] at h
    by_cases c5 : l = [99, 111, 111, 108, 115]
    · rw [if_pos c5] at h; exact absurd h (by decide)
    rw [if_neg c5] at h
    by_cases c6 : l = [111, 114]
    · exact c6
    rw [if_neg c6] at h
    by_cases c7 : l = [97, 110, 100]
    · rw [if_pos c7] at h; exact absurd h (by decide)
    rw [if_neg c7] at h
    by_cases c8 : l = [110, 111, 116]
    · rw [if_pos c8] at h; exact absurd h (by decide)
    rw [if_neg c8] at h
    by_cases c10 : l = [104, 101, 97, 116]
    · rw [if_pos c10] at h; exact absurd h (by decide)
    rw [if_neg c10] at h
    by_cases c11 : l = [116, 104, 105, 114, 115, 116]
    · rw [if_pos c11] at h; exact absurd h (by decide)
    rw [if_neg c11] at h
    by_cases c12 : l = [110, 117, 109, 98, 101, 114]
    · rw [if_pos c12] at h; exact absurd h (by decide)
    rw [if_neg c12] at h
    by_cases c13 : l = [115, 104, 111, 119, 110]
    · rw [if_pos c13] at h; exact absurd h (by decide)
    rw [if_neg c13] at h
    by_cases c14 : l = [109, 105, 110, 117, 116, 101]
    · rw [if_pos c14] at h; exact absurd h (by decide)
    rw [if_neg c14] at h
    by_cases c15 : l = [99, 117, 112, 115]
    · rw [if_pos c15] at h; exact absurd h (by decide)
    rw [if_neg c15] at h
    exact absurd h (by decide)
  · rintro rfl
    decide

theorem s_isW_6 {xs : xSc} {m : Nat} {I : Nat → Nat → Int32} {L : Nat → Nat → Int64} {Q : Value → xHp → Prop} (hm : 3 ≤ m) {t z i : Nat} (ht : t < 6) (h160 : z ≤ 160) (hf : I 61 19 = io (160 * t)) (hz : I 61 20 = io z) (hi : i ≤ z) (h26 : I 61 26 = 0) (hK : mK (mb t I) z i I L) (hQ : Q (.int (if tkd (mb t I) z i = 6 then 1 else 0)) (Hp I L)) : M xs m xi_X7_isWord [.ref 61, .int 111, .int 114, .int 0, .int 0, .int 0, .int 0, .int 0, .int 0] (Hp I L) Q := by
  have hs := tpl_z (b := mb t I) hi
  have he := ten_b (b := mb t I) hs
  have key : (tcl (mb t I) z (tpl (mb t I) z i) = 1 ∧ tst (mb t I) z i ≤ tpl (mb t I) z i + 8 ∧ ∀ k, k < 8 → ltP (mb t I) (tpl (mb t I) z i) (tst (mb t I) z i) k ([111, 114, 0, 0, 0, 0, 0, 0].getD k 0)) ↔ tkd (mb t I) z i = 6 := by
    rcases tk_cl (b := mb t I) (z := z) (s := tpl (mb t I) z i) with q | q | q | q | q
    · exact ⟨fun h => absurd h.1 (by omega), fun h => absurd (tk_w (Or.inl ⟨by rw [show tkk _ _ _ = _ from h]; decide, by rw [show tkk _ _ _ = _ from h]; decide⟩)) (by omega)⟩
    · have e := lst_ltP (b := mb t I) (s := tpl (mb t I) z i) (e := tst (mb t I) z i) (W := [111, 114]) (by decide) (by decide) (fun j h1 h2 => L_nz q.2.2.1 h1 h2 q.2.1) he.1
      have e2 : (∀ k, k < 8 → ltP (mb t I) (tpl (mb t I) z i) (tst (mb t I) z i) k ([111, 114, 0, 0, 0, 0, 0, 0].getD k 0)) ↔ ∀ k, k < 8 → ltP (mb t I) (tpl (mb t I) z i) (tst (mb t I) z i) k ([111, 114].getD k 0) :=
        ⟨fun h => all8 (h 0 (by omega)) (h 1 (by omega)) (h 2 (by omega)) (h 3 (by omega)) (h 4 (by omega)) (h 5 (by omega)) (h 6 (by omega)) (h 7 (by omega)), fun h => all8 (h 0 (by omega)) (h 1 (by omega)) (h 2 (by omega)) (h 3 (by omega)) (h 4 (by omega)) (h 5 (by omega)) (h 6 (by omega)) (h 7 (by omega))⟩
      rw [show tkd (mb t I) z i = wd (lst (mb t I) (tpl (mb t I) z i) (tst (mb t I) z i - tpl (mb t I) z i)) from q.2.2.2, wd_6, ← e, e2]
      exact ⟨fun h => h.2, fun h => ⟨q.1, h⟩⟩
    · exact ⟨fun h => absurd h.1 (by omega), fun h => absurd (tk_w (Or.inl ⟨by rw [show tkk _ _ _ = _ from h]; decide, by rw [show tkk _ _ _ = _ from h]; decide⟩)) (by omega)⟩
    · exact ⟨fun h => absurd h.1 (by omega), fun h => absurd (tk_w (Or.inl ⟨by rw [show tkk _ _ _ = _ from h]; decide, by rw [show tkk _ _ _ = _ from h]; decide⟩)) (by omega)⟩
    · exact ⟨fun h => absurd h.1 (by omega), fun h => absurd (tk_w (Or.inl ⟨by rw [show tkk _ _ _ = _ from h]; decide, by rw [show tkk _ _ _ = _ from h]; decide⟩)) (by omega)⟩
  refine s_isWord hm ht h160 hf hz tcl_lt he.2.1 hs h26 hK.1 hK.2.1 (fun c => hK.2.2.1 (by omega)) (fun q => ?_) (fun q => ?_)
  · rw [if_pos (key.mp q)] at hQ; exact hQ
  · rw [if_neg (fun r => q (key.mpr r))] at hQ; exact hQ

theorem wd_7 {l : List Int32} : wd l = 7 ↔ l = [97, 110, 100] := by
  constructor
  · intro h
    unfold wd at h
    by_cases c3 : l = [109, 97, 121]
    · rw [if_pos c3] at h; exact absurd h (by decide)
    rw [if_neg c3] at h
    by_cases c4 : l = [106, 111, 121, 115]
    · rw [if_pos c4] at h; exact absurd h (by decide)
    rw [if_neg c4] at h
    by_cases c5 : l = [99, 111, 111, 108, 115]
    · rw [if_pos c5] at h; exact absurd h (by decide)
    rw [if_neg c5] at h
    by_cases c6 : l = [111, 114]
    · rw [if_pos c6] at h; exact absurd h (by decide)
    rw [if_neg c6] at h
    by_cases c7 : l = [97, 110, 100]
    · exact c7
    rw [if_neg c7] at h
    by_cases c8 : l = [110, 111, 116]
    · rw [if_pos c8] at h; exact absurd h (by decide)
    rw [if_neg c8] at h
    by_cases c10 : l = [104, 101, 97, 116]
    · rw [if_pos c10] at h; exact absurd h (by decide)
    rw [if_neg c10] at h
    by_cases c11 : l = [116, 104, 105, 114, 115, 116]
    · rw [if_pos c11] at h; exact absurd h (by decide)
    rw [if_neg c11] at h
    by_cases c12 : l = [110, 117, 109, 98, 101, 114]
    · rw [if_pos c12] at h; exact absurd h (by decide)
    rw [if_neg c12] at h
    by_cases c13 : l = [115, 104, 111, 119, 110]
    · rw [if_pos c13] at h; exact absurd h (by decide)
    rw [if_neg c13] at h
    by_cases c14 : l = [109, 105, 110, 117, 116, 101]
    · rw [if_pos c14] at h; exact absurd h (by decide)
    rw [if_neg c14] at h
    by_cases c15 : l = [99, 117, 112, 115]
    · rw [if_pos c15] at h; exact absurd h (by decide)
    rw [if_neg c15] at h
    exact absurd h (by decide)
  · rintro rfl
    decide

theorem s_isW_7 {xs : xSc} {m : Nat} {I : Nat → Nat → Int32} {L : Nat → Nat → Int64} {Q : Value → xHp → Prop} (hm : 3 ≤ m) {t z i : Nat} (ht : t < 6) (h160 : z ≤ 160) (hf : I 61 19 = io (160 * t)) (hz : I 61 20 = io z) (hi : i ≤ z) (h26 : I 61 26 = 0) (hK : mK (mb t I) z i I L) (hQ : Q (.int (if tkd (mb t I) z i = 7 then 1 else 0)) (Hp I L)) : M xs m xi_X7_isWord [.ref 61, .int 97, .int 110, .int 100, .int 0, .int 0, .int 0, .int 0, .int 0] (Hp I L) Q := by
  have hs := tpl_z (b := mb t I) hi
  have he := ten_b (b := mb t I) hs
  have key : (tcl (mb t I) z (tpl (mb t I) z i) = 1 ∧ tst (mb t I) z i ≤ tpl (mb t I) z i + 8 ∧ ∀ k, k < 8 → ltP (mb t I) (tpl (mb t I) z i) (tst (mb t I) z i) k ([97, 110, 100, 0, 0, 0, 0, 0].getD k 0)) ↔ tkd (mb t I) z i = 7 := by
    rcases tk_cl (b := mb t I) (z := z) (s := tpl (mb t I) z i) with q | q | q | q | q
    · exact ⟨fun h => absurd h.1 (by omega), fun h => absurd (tk_w (Or.inl ⟨by rw [show tkk _ _ _ = _ from h]; decide, by rw [show tkk _ _ _ = _ from h]; decide⟩)) (by omega)⟩
    · have e := lst_ltP (b := mb t I) (s := tpl (mb t I) z i) (e := tst (mb t I) z i) (W := [97, 110, 100]) (by decide) (by decide) (fun j h1 h2 => L_nz q.2.2.1 h1 h2 q.2.1) he.1
      have e2 : (∀ k, k < 8 → ltP (mb t I) (tpl (mb t I) z i) (tst (mb t I) z i) k ([97, 110, 100, 0, 0, 0, 0, 0].getD k 0)) ↔ ∀ k, k < 8 → ltP (mb t I) (tpl (mb t I) z i) (tst (mb t I) z i) k ([97, 110, 100].getD k 0) :=
        ⟨fun h => all8 (h 0 (by omega)) (h 1 (by omega)) (h 2 (by omega)) (h 3 (by omega)) (h 4 (by omega)) (h 5 (by omega)) (h 6 (by omega)) (h 7 (by omega)), fun h => all8 (h 0 (by omega)) (h 1 (by omega)) (h 2 (by omega)) (h 3 (by omega)) (h 4 (by omega)) (h 5 (by omega)) (h 6 (by omega)) (h 7 (by omega))⟩
      rw [show tkd (mb t I) z i = wd (lst (mb t I) (tpl (mb t I) z i) (tst (mb t I) z i - tpl (mb t I) z i)) from q.2.2.2, wd_7, ← e, e2]
      exact ⟨fun h => h.2, fun h => ⟨q.1, h⟩⟩
    · exact ⟨fun h => absurd h.1 (by omega), fun h => absurd (tk_w (Or.inl ⟨by rw [show tkk _ _ _ = _ from h]; decide, by rw [show tkk _ _ _ = _ from h]; decide⟩)) (by omega)⟩
    · exact ⟨fun h => absurd h.1 (by omega), fun h => absurd (tk_w (Or.inl ⟨by rw [show tkk _ _ _ = _ from h]; decide, by rw [show tkk _ _ _ = _ from h]; decide⟩)) (by omega)⟩
    · exact ⟨fun h => absurd h.1 (by omega), fun h => absurd (tk_w (Or.inl ⟨by rw [show tkk _ _ _ = _ from h]; decide, by rw [show tkk _ _ _ = _ from h]; decide⟩)) (by omega)⟩
  refine s_isWord hm ht h160 hf hz tcl_lt he.2.1 hs h26 hK.1 hK.2.1 (fun c => hK.2.2.1 (by omega)) (fun q => ?_) (fun q => ?_)
  · rw [if_pos (key.mp q)] at hQ; exact hQ
  · rw [if_neg (fun r => q (key.mpr r))] at hQ; exact hQ

theorem wd_8 {l : List Int32} : wd l = 8 ↔ l = [110, 111, 116] := by
  constructor
  · intro h
    unfold wd at h
    by_cases c3 : l = [109, 97, 121]
    · rw [if_pos c3] at h; exact absurd h (by decide)
    rw [if_neg c3] at h
    by_cases c4 : l = [106, 111, 121, 115]
    · rw [if_pos c4] at h; exact absurd h (by decide)
    rw [if_neg c4] at h
    by_cases c5 : l = [99, 111, 111, 108, 115]
    · rw [if_pos c5] at h; exact absurd h (by decide)
    rw [if_neg c5] at h
    by_cases c6 : l = [111, 114]
    · rw [if_pos c6] at h; exact absurd h (by decide)
    rw [if_neg c6] at h
    by_cases c7 : l = [97, 110, 100]
    · rw [if_pos c7] at h; exact absurd h (by decide)
    rw [if_neg c7] at h
    by_cases c8 : l = [110, 111, 116]
    · exact c8
    rw [if_neg c8] at h
    by_cases c10 : l = [104, 101, 97, 116]
    · rw [if_pos c10] at h; exact absurd h (by decide)
    rw [if_neg c10] at h
    by_cases c11 : l = [116, 104, 105, 114, 115, 116]
    · rw [if_pos c11] at h; exact absurd h (by decide)
    rw [if_neg c11] at h
    by_cases c12 : l = [110, 117, 109, 98, 101, 114]
    · rw [if_pos c12] at h; exact absurd h (by decide)
    rw [if_neg c12] at h
    by_cases c13 : l = [115, 104, 111, 119, 110]
    · rw [if_pos c13] at h; exact absurd h (by decide)
    rw [if_neg c13] at h
    by_cases c14 : l = [109, 105, 110, 117, 116, 101]
    · rw [if_pos c14] at h; exact absurd h (by decide)
    rw [if_neg c14] at h
    by_cases c15 : l = [99, 117, 112, 115]
    · rw [if_pos c15] at h; exact absurd h (by decide)
    rw [if_neg c15] at h
    exact absurd h (by decide)
  · rintro rfl
    decide

theorem s_isW_8 {xs : xSc} {m : Nat} {I : Nat → Nat → Int32} {L : Nat → Nat → Int64} {Q : Value → xHp → Prop} (hm : 3 ≤ m) {t z i : Nat} (ht : t < 6) (h160 : z ≤ 160) (hf : I 61 19 = io (160 * t)) (hz : I 61 20 = io z) (hi : i ≤ z) (h26 : I 61 26 = 0) (hK : mK (mb t I) z i I L) (hQ : Q (.int (if tkd (mb t I) z i = 8 then 1 else 0)) (Hp I L)) : M xs m xi_X7_isWord [.ref 61, .int 110, .int 111, .int 116, .int 0, .int 0, .int 0, .int 0, .int 0] (Hp I L) Q := by
  have hs := tpl_z (b := mb t I) hi
  have he := ten_b (b := mb t I) hs
  have key : (tcl (mb t I) z (tpl (mb t I) z i) = 1 ∧ tst (mb t I) z i ≤ tpl (mb t I) z i + 8 ∧ ∀ k, k < 8 → ltP (mb t I) (tpl (mb t I) z i) (tst (mb t I) z i) k ([110, 111, 116, 0, 0, 0, 0, 0].getD k 0)) ↔ tkd (mb t I) z i = 8 := by
    rcases tk_cl (b := mb t I) (z := z) (s := tpl (mb t I) z i) with q | q | q | q | q
    · exact ⟨fun h => absurd h.1 (by omega), fun h => absurd (tk_w (Or.inl ⟨by rw [show tkk _ _ _ = _ from h]; decide, by rw [show tkk _ _ _ = _ from h]; decide⟩)) (by omega)⟩
    · have e := lst_ltP (b := mb t I) (s := tpl (mb t I) z i) (e := tst (mb t I) z i) (W := [110, 111, 116]) (by decide) (by decide) (fun j h1 h2 => L_nz q.2.2.1 h1 h2 q.2.1) he.1
      have e2 : (∀ k, k < 8 → ltP (mb t I) (tpl (mb t I) z i) (tst (mb t I) z i) k ([110, 111, 116, 0, 0, 0, 0, 0].getD k 0)) ↔ ∀ k, k < 8 → ltP (mb t I) (tpl (mb t I) z i) (tst (mb t I) z i) k ([110, 111, 116].getD k 0) :=
        ⟨fun h => all8 (h 0 (by omega)) (h 1 (by omega)) (h 2 (by omega)) (h 3 (by omega)) (h 4 (by omega)) (h 5 (by omega)) (h 6 (by omega)) (h 7 (by omega)), fun h => all8 (h 0 (by omega)) (h 1 (by omega)) (h 2 (by omega)) (h 3 (by omega)) (h 4 (by omega)) (h 5 (by omega)) (h 6 (by omega)) (h 7 (by omega))⟩
      rw [show tkd (mb t I) z i = wd (lst (mb t I) (tpl (mb t I) z i) (tst (mb t I) z i - tpl (mb t I) z i)) from q.2.2.2, wd_8, ← e, e2]
      exact ⟨fun h => h.2, fun h => ⟨q.1, h⟩⟩
    · exact ⟨fun h => absurd h.1 (by omega), fun h => absurd (tk_w (Or.inl ⟨by rw [show tkk _ _ _ = _ from h]; decide, by rw [show tkk _ _ _ = _ from h]; decide⟩)) (by omega)⟩
    · exact ⟨fun h => absurd h.1 (by omega), fun h => absurd (tk_w (Or.inl ⟨by rw [show tkk _ _ _ = _ from h]; decide, by rw [show tkk _ _ _ = _ from h]; decide⟩)) (by omega)⟩
    · exact ⟨fun h => absurd h.1 (by omega), fun h => absurd (tk_w (Or.inl ⟨by rw [show tkk _ _ _ = _ from h]; decide, by rw [show tkk _ _ _ = _ from h]; decide⟩)) (by omega)⟩
  refine s_isWord hm ht h160 hf hz tcl_lt he.2.1 hs h26 hK.1 hK.2.1 (fun c => hK.2.2.1 (by omega)) (fun q => ?_) (fun q => ?_)
  · rw [if_pos (key.mp q)] at hQ; exact hQ
  · rw [if_neg (fun r => q (key.mpr r))] at hQ; exact hQ

theorem wd_10 {l : List Int32} : wd l = 10 ↔ l = [104, 101, 97, 116] := by
  constructor
  · intro h
    unfold wd at h
    by_cases c3 : l = [109, 97, 121]
    · rw [if_pos c3] at h; exact absurd h (by decide)
    rw [if_neg c3] at h
    by_cases c4 : l = [106, 111, 121, 115]
    · rw [if_pos c4] at h; exact absurd h (by decide)
    rw [if_neg c4] at h
    by_cases c5 : l = [99, 111, 111, 108, 115]
    · rw [if_pos c5] at h; exact absurd h (by decide)
    rw [if_neg c5] at h
    by_cases c6 : l = [111, 114]
    · rw [if_pos c6] at h; exact absurd h (by decide)
    rw [if_neg c6] at h
    by_cases c7 : l = [97, 110, 100]
    · rw [if_pos c7] at h; exact absurd h (by decide)
    rw [if_neg c7] at h
    by_cases c8 : l = [110, 111, 116]
    · rw [if_pos c8] at h; exact absurd h (by decide)
    rw [if_neg c8] at h
    by_cases c10 : l = [104, 101, 97, 116]
    · exact c10
    rw [if_neg c10] at h
    by_cases c11 : l = [116, 104, 105, 114, 115, 116]
    · rw [if_pos c11] at h; exact absurd h (by decide)
    rw [if_neg c11] at h
    by_cases c12 : l = [110, 117, 109, 98, 101, 114]
    · rw [if_pos c12] at h; exact absurd h (by decide)
    rw [if_neg c12] at h
    by_cases c13 : l = [115, 104, 111, 119, 110]
    · rw [if_pos c13] at h; exact absurd h (by decide)
    rw [if_neg c13] at h
    by_cases c14 : l = [109, 105, 110, 117, 116, 101]
    · rw [if_pos c14] at h; exact absurd h (by decide)
    rw [if_neg c14] at h
    by_cases c15 : l = [99, 117, 112, 115]
    · rw [if_pos c15] at h; exact absurd h (by decide)
    rw [if_neg c15] at h
    exact absurd h (by decide)
  · rintro rfl
    decide

theorem s_isW_10 {xs : xSc} {m : Nat} {I : Nat → Nat → Int32} {L : Nat → Nat → Int64} {Q : Value → xHp → Prop} (hm : 3 ≤ m) {t z i : Nat} (ht : t < 6) (h160 : z ≤ 160) (hf : I 61 19 = io (160 * t)) (hz : I 61 20 = io z) (hi : i ≤ z) (h26 : I 61 26 = 0) (hK : mK (mb t I) z i I L) (hQ : Q (.int (if tkd (mb t I) z i = 10 then 1 else 0)) (Hp I L)) : M xs m xi_X7_isWord [.ref 61, .int 104, .int 101, .int 97, .int 116, .int 0, .int 0, .int 0, .int 0] (Hp I L) Q := by
  have hs := tpl_z (b := mb t I) hi
  have he := ten_b (b := mb t I) hs
  have key : (tcl (mb t I) z (tpl (mb t I) z i) = 1 ∧ tst (mb t I) z i ≤ tpl (mb t I) z i + 8 ∧ ∀ k, k < 8 → ltP (mb t I) (tpl (mb t I) z i) (tst (mb t I) z i) k ([104, 101, 97, 116, 0, 0, 0, 0].getD k 0)) ↔ tkd (mb t I) z i = 10 := by
    rcases tk_cl (b := mb t I) (z := z) (s := tpl (mb t I) z i) with q | q | q | q | q
    · exact ⟨fun h => absurd h.1 (by omega), fun h => absurd (tk_w (Or.inr ⟨by rw [show tkk _ _ _ = _ from h]; decide, by rw [show tkk _ _ _ = _ from h]; decide⟩)) (by omega)⟩
    · have e := lst_ltP (b := mb t I) (s := tpl (mb t I) z i) (e := tst (mb t I) z i) (W := [104, 101, 97, 116]) (by decide) (by decide) (fun j h1 h2 => L_nz q.2.2.1 h1 h2 q.2.1) he.1
      have e2 : (∀ k, k < 8 → ltP (mb t I) (tpl (mb t I) z i) (tst (mb t I) z i) k ([104, 101, 97, 116, 0, 0, 0, 0].getD k 0)) ↔ ∀ k, k < 8 → ltP (mb t I) (tpl (mb t I) z i) (tst (mb t I) z i) k ([104, 101, 97, 116].getD k 0) :=
        ⟨fun h => all8 (h 0 (by omega)) (h 1 (by omega)) (h 2 (by omega)) (h 3 (by omega)) (h 4 (by omega)) (h 5 (by omega)) (h 6 (by omega)) (h 7 (by omega)), fun h => all8 (h 0 (by omega)) (h 1 (by omega)) (h 2 (by omega)) (h 3 (by omega)) (h 4 (by omega)) (h 5 (by omega)) (h 6 (by omega)) (h 7 (by omega))⟩
      rw [show tkd (mb t I) z i = wd (lst (mb t I) (tpl (mb t I) z i) (tst (mb t I) z i - tpl (mb t I) z i)) from q.2.2.2, wd_10, ← e, e2]
      exact ⟨fun h => h.2, fun h => ⟨q.1, h⟩⟩
    · exact ⟨fun h => absurd h.1 (by omega), fun h => absurd (tk_w (Or.inr ⟨by rw [show tkk _ _ _ = _ from h]; decide, by rw [show tkk _ _ _ = _ from h]; decide⟩)) (by omega)⟩
    · exact ⟨fun h => absurd h.1 (by omega), fun h => absurd (tk_w (Or.inr ⟨by rw [show tkk _ _ _ = _ from h]; decide, by rw [show tkk _ _ _ = _ from h]; decide⟩)) (by omega)⟩
    · exact ⟨fun h => absurd h.1 (by omega), fun h => absurd (tk_w (Or.inr ⟨by rw [show tkk _ _ _ = _ from h]; decide, by rw [show tkk _ _ _ = _ from h]; decide⟩)) (by omega)⟩
  refine s_isWord hm ht h160 hf hz tcl_lt he.2.1 hs h26 hK.1 hK.2.1 (fun c => hK.2.2.1 (by omega)) (fun q => ?_) (fun q => ?_)
  · rw [if_pos (key.mp q)] at hQ; exact hQ
  · rw [if_neg (fun r => q (key.mpr r))] at hQ; exact hQ

theorem wd_11 {l : List Int32} : wd l = 11 ↔ l = [116, 104, 105, 114, 115, 116] := by
  constructor
  · intro h
    unfold wd at h
    by_cases c3 : l = [109, 97, 121]
    · rw [if_pos c3] at h; exact absurd h (by decide)
    rw [if_neg c3] at h
    by_cases c4 : l = [106, 111, 121, 115]
    · rw [if_pos c4] at h; exact absurd h (by decide)
    rw [if_neg c4] at h
    by_cases c5 : l = [99, 111, 111, 108, 115]
    · rw [if_pos c5] at h; exact absurd h (by decide)
    rw [if_neg c5] at h
    by_cases c6 : l = [111, 114]
    · rw [if_pos c6] at h; exact absurd h (by decide)
    rw [if_neg c6] at h
    by_cases c7 : l = [97, 110, 100]
    · rw [if_pos c7] at h; exact absurd h (by decide)
    rw [if_neg c7] at h
    by_cases c8 : l = [110, 111, 116]
    · rw [if_pos c8] at h; exact absurd h (by decide)
    rw [if_neg c8] at h
    by_cases c10 : l = [104, 101, 97, 116]
    · rw [if_pos c10] at h; exact absurd h (by decide)
    rw [if_neg c10] at h
    by_cases c11 : l = [116, 104, 105, 114, 115, 116]
    · exact c11
    rw [if_neg c11] at h
    by_cases c12 : l = [110, 117, 109, 98, 101, 114]
    · rw [if_pos c12] at h; exact absurd h (by decide)
    rw [if_neg c12] at h
    by_cases c13 : l = [115, 104, 111, 119, 110]
    · rw [if_pos c13] at h; exact absurd h (by decide)
    rw [if_neg c13] at h
    by_cases c14 : l = [109, 105, 110, 117, 116, 101]
    · rw [if_pos c14] at h; exact absurd h (by decide)
    rw [if_neg c14] at h
    by_cases c15 : l = [99, 117, 112, 115]
    · rw [if_pos c15] at h; exact absurd h (by decide)
    rw [if_neg c15] at h
    exact absurd h (by decide)
  · rintro rfl
    decide

theorem s_isW_11 {xs : xSc} {m : Nat} {I : Nat → Nat → Int32} {L : Nat → Nat → Int64} {Q : Value → xHp → Prop} (hm : 3 ≤ m) {t z i : Nat} (ht : t < 6) (h160 : z ≤ 160) (hf : I 61 19 = io (160 * t)) (hz : I 61 20 = io z) (hi : i ≤ z) (h26 : I 61 26 = 0) (hK : mK (mb t I) z i I L) (hQ : Q (.int (if tkd (mb t I) z i = 11 then 1 else 0)) (Hp I L)) : M xs m xi_X7_isWord [.ref 61, .int 116, .int 104, .int 105, .int 114, .int 115, .int 116, .int 0, .int 0] (Hp I L) Q := by
  have hs := tpl_z (b := mb t I) hi
  have he := ten_b (b := mb t I) hs
  have key : (tcl (mb t I) z (tpl (mb t I) z i) = 1 ∧ tst (mb t I) z i ≤ tpl (mb t I) z i + 8 ∧ ∀ k, k < 8 → ltP (mb t I) (tpl (mb t I) z i) (tst (mb t I) z i) k ([116, 104, 105, 114, 115, 116, 0, 0].getD k 0)) ↔ tkd (mb t I) z i = 11 := by
    rcases tk_cl (b := mb t I) (z := z) (s := tpl (mb t I) z i) with q | q | q | q | q
    · exact ⟨fun h => absurd h.1 (by omega), fun h => absurd (tk_w (Or.inr ⟨by rw [show tkk _ _ _ = _ from h]; decide, by rw [show tkk _ _ _ = _ from h]; decide⟩)) (by omega)⟩
    · have e := lst_ltP (b := mb t I) (s := tpl (mb t I) z i) (e := tst (mb t I) z i) (W := [116, 104, 105, 114, 115, 116]) (by decide) (by decide) (fun j h1 h2 => L_nz q.2.2.1 h1 h2 q.2.1) he.1
      have e2 : (∀ k, k < 8 → ltP (mb t I) (tpl (mb t I) z i) (tst (mb t I) z i) k ([116, 104, 105, 114, 115, 116, 0, 0].getD k 0)) ↔ ∀ k, k < 8 → ltP (mb t I) (tpl (mb t I) z i) (tst (mb t I) z i) k ([116, 104, 105, 114, 115, 116].getD k 0) :=
        ⟨fun h => all8 (h 0 (by omega)) (h 1 (by omega)) (h 2 (by omega)) (h 3 (by omega)) (h 4 (by omega)) (h 5 (by omega)) (h 6 (by omega)) (h 7 (by omega)), fun h => all8 (h 0 (by omega)) (h 1 (by omega)) (h 2 (by omega)) (h 3 (by omega)) (h 4 (by omega)) (h 5 (by omega)) (h 6 (by omega)) (h 7 (by omega))⟩
      rw [show tkd (mb t I) z i = wd (lst (mb t I) (tpl (mb t I) z i) (tst (mb t I) z i - tpl (mb t I) z i)) from q.2.2.2, wd_11, ← e, e2]
      exact ⟨fun h => h.2, fun h => ⟨q.1, h⟩⟩
    · exact ⟨fun h => absurd h.1 (by omega), fun h => absurd (tk_w (Or.inr ⟨by rw [show tkk _ _ _ = _ from h]; decide, by rw [show tkk _ _ _ = _ from h]; decide⟩)) (by omega)⟩
    · exact ⟨fun h => absurd h.1 (by omega), fun h => absurd (tk_w (Or.inr ⟨by rw [show tkk _ _ _ = _ from h]; decide, by rw [show tkk _ _ _ = _ from h]; decide⟩)) (by omega)⟩
    · exact ⟨fun h => absurd h.1 (by omega), fun h => absurd (tk_w (Or.inr ⟨by rw [show tkk _ _ _ = _ from h]; decide, by rw [show tkk _ _ _ = _ from h]; decide⟩)) (by omega)⟩
  refine s_isWord hm ht h160 hf hz tcl_lt he.2.1 hs h26 hK.1 hK.2.1 (fun c => hK.2.2.1 (by omega)) (fun q => ?_) (fun q => ?_)
  · rw [if_pos (key.mp q)] at hQ; exact hQ
  · rw [if_neg (fun r => q (key.mpr r))] at hQ; exact hQ

theorem wd_12 {l : List Int32} : wd l = 12 ↔ l = [110, 117, 109, 98, 101, 114] := by
  constructor
  · intro h
    unfold wd at h
    by_cases c3 : l = [109, 97, 121]
    · rw [if_pos c3] at h; exact absurd h (by decide)
    rw [if_neg c3] at h
    by_cases c4 : l = [106, 111, 121, 115]
    · rw [if_pos c4] at h; exact absurd h (by decide)
    rw [if_neg c4] at h
    by_cases c5 : l = [99, 111, 111, 108, 115]
    · rw [if_pos c5] at h; exact absurd h (by decide)
    rw [if_neg c5] at h
    by_cases c6 : l = [111, 114]
    · rw [if_pos c6] at h; exact absurd h (by decide)
    rw [if_neg c6] at h
    by_cases c7 : l = [97, 110, 100]
    · rw [if_pos c7] at h; exact absurd h (by decide)
    rw [if_neg c7] at h
    by_cases c8 : l = [110, 111, 116]
    · rw [if_pos c8] at h; exact absurd h (by decide)
    rw [if_neg c8] at h
    by_cases c10 : l = [104, 101, 97, 116]
    · rw [if_pos c10] at h; exact absurd h (by decide)
    rw [if_neg c10] at h
    by_cases c11 : l = [116, 104, 105, 114, 115, 116]
    · rw [if_pos c11] at h; exact absurd h (by decide)
    rw [if_neg c11] at h
    by_cases c12 : l = [110, 117, 109, 98, 101, 114]
    · exact c12
    rw [if_neg c12] at h
    by_cases c13 : l = [115, 104, 111, 119, 110]
    · rw [if_pos c13] at h; exact absurd h (by decide)
    rw [if_neg c13] at h
    by_cases c14 : l = [109, 105, 110, 117, 116, 101]
    · rw [if_pos c14] at h; exact absurd h (by decide)
    rw [if_neg c14] at h
    by_cases c15 : l = [99, 117, 112, 115]
    · rw [if_pos c15] at h; exact absurd h (by decide)
    rw [if_neg c15] at h
    exact absurd h (by decide)
  · rintro rfl
    decide

theorem s_isW_12 {xs : xSc} {m : Nat} {I : Nat → Nat → Int32} {L : Nat → Nat → Int64} {Q : Value → xHp → Prop} (hm : 3 ≤ m) {t z i : Nat} (ht : t < 6) (h160 : z ≤ 160) (hf : I 61 19 = io (160 * t)) (hz : I 61 20 = io z) (hi : i ≤ z) (h26 : I 61 26 = 0) (hK : mK (mb t I) z i I L) (hQ : Q (.int (if tkd (mb t I) z i = 12 then 1 else 0)) (Hp I L)) : M xs m xi_X7_isWord [.ref 61, .int 110, .int 117, .int 109, .int 98, .int 101, .int 114, .int 0, .int 0] (Hp I L) Q := by
  have hs := tpl_z (b := mb t I) hi
  have he := ten_b (b := mb t I) hs
  have key : (tcl (mb t I) z (tpl (mb t I) z i) = 1 ∧ tst (mb t I) z i ≤ tpl (mb t I) z i + 8 ∧ ∀ k, k < 8 → ltP (mb t I) (tpl (mb t I) z i) (tst (mb t I) z i) k ([110, 117, 109, 98, 101, 114, 0, 0].getD k 0)) ↔ tkd (mb t I) z i = 12 := by
    rcases tk_cl (b := mb t I) (z := z) (s := tpl (mb t I) z i) with q | q | q | q | q
    · exact ⟨fun h => absurd h.1 (by omega), fun h => absurd (tk_w (Or.inr ⟨by rw [show tkk _ _ _ = _ from h]; decide, by rw [show tkk _ _ _ = _ from h]; decide⟩)) (by omega)⟩
    · have e := lst_ltP (b := mb t I) (s := tpl (mb t I) z i) (e := tst (mb t I) z i) (W := [110, 117, 109, 98, 101, 114]) (by decide) (by decide) (fun j h1 h2 => L_nz q.2.2.1 h1 h2 q.2.1) he.1
      have e2 : (∀ k, k < 8 → ltP (mb t I) (tpl (mb t I) z i) (tst (mb t I) z i) k ([110, 117, 109, 98, 101, 114, 0, 0].getD k 0)) ↔ ∀ k, k < 8 → ltP (mb t I) (tpl (mb t I) z i) (tst (mb t I) z i) k ([110, 117, 109, 98, 101, 114].getD k 0) :=
        ⟨fun h => all8 (h 0 (by omega)) (h 1 (by omega)) (h 2 (by omega)) (h 3 (by omega)) (h 4 (by omega)) (h 5 (by omega)) (h 6 (by omega)) (h 7 (by omega)), fun h => all8 (h 0 (by omega)) (h 1 (by omega)) (h 2 (by omega)) (h 3 (by omega)) (h 4 (by omega)) (h 5 (by omega)) (h 6 (by omega)) (h 7 (by omega))⟩
      rw [show tkd (mb t I) z i = wd (lst (mb t I) (tpl (mb t I) z i) (tst (mb t I) z i - tpl (mb t I) z i)) from q.2.2.2, wd_12, ← e, e2]
      exact ⟨fun h => h.2, fun h => ⟨q.1, h⟩⟩
    · exact ⟨fun h => absurd h.1 (by omega), fun h => absurd (tk_w (Or.inr ⟨by rw [show tkk _ _ _ = _ from h]; decide, by rw [show tkk _ _ _ = _ from h]; decide⟩)) (by omega)⟩
    · exact ⟨fun h => absurd h.1 (by omega), fun h => absurd (tk_w (Or.inr ⟨by rw [show tkk _ _ _ = _ from h]; decide, by rw [show tkk _ _ _ = _ from h]; decide⟩)) (by omega)⟩
    · exact ⟨fun h => absurd h.1 (by omega), fun h => absurd (tk_w (Or.inr ⟨by rw [show tkk _ _ _ = _ from h]; decide, by rw [show tkk _ _ _ = _ from h]; decide⟩)) (by omega)⟩
  refine s_isWord hm ht h160 hf hz tcl_lt he.2.1 hs h26 hK.1 hK.2.1 (fun c => hK.2.2.1 (by omega)) (fun q => ?_) (fun q => ?_)
  · rw [if_pos (key.mp q)] at hQ; exact hQ
  · rw [if_neg (fun r => q (key.mpr r))] at hQ; exact hQ

theorem wd_13 {l : List Int32} : wd l = 13 ↔ l = [115, 104, 111, 119, 110] := by
  constructor
  · intro h
    unfold wd at h
    by_cases c3 : l = [109, 97, 121]
    · rw [if_pos c3] at h; exact absurd h (by decide)
    rw [if_neg c3] at h
    by_cases c4 : l = [106, 111, 121, 115]
    · rw [if_pos c4] at h; exact absurd h (by decide)
    rw [if_neg c4] at h
    by_cases c5 : l = [99, 111, 111, 108, 115]
    · rw [if_pos c5] at h; exact absurd h (by decide)
    rw [if_neg c5] at h
    by_cases c6 : l = [111, 114]
    · rw [if_pos c6] at h; exact absurd h (by decide)
    rw [if_neg c6] at h
    by_cases c7 : l = [97, 110, 100]
    · rw [if_pos c7] at h; exact absurd h (by decide)
    rw [if_neg c7] at h
    by_cases c8 : l = [110, 111, 116]
    · rw [if_pos c8] at h; exact absurd h (by decide)
    rw [if_neg c8] at h
    by_cases c10 : l = [104, 101, 97, 116]
    · rw [if_pos c10] at h; exact absurd h (by decide)
    rw [if_neg c10] at h
    by_cases c11 : l = [116, 104, 105, 114, 115, 116]
    · rw [if_pos c11] at h; exact absurd h (by decide)
    rw [if_neg c11] at h
    by_cases c12 : l = [110, 117, 109, 98, 101, 114]
    · rw [if_pos c12] at h; exact absurd h (by decide)
    rw [if_neg c12] at h
    by_cases c13 : l = [115, 104, 111, 119, 110]
    · exact c13
    rw [if_neg c13] at h
    by_cases c14 : l = [109, 105, 110, 117, 116, 101]
    · rw [if_pos c14] at h; exact absurd h (by decide)
    rw [if_neg c14] at h
    by_cases c15 : l = [99, 117, 112, 115]
    · rw [if_pos c15] at h; exact absurd h (by decide)
    rw [if_neg c15] at h
    exact absurd h (by decide)
  · rintro rfl
    decide

theorem s_isW_13 {xs : xSc} {m : Nat} {I : Nat → Nat → Int32} {L : Nat → Nat → Int64} {Q : Value → xHp → Prop} (hm : 3 ≤ m) {t z i : Nat} (ht : t < 6) (h160 : z ≤ 160) (hf : I 61 19 = io (160 * t)) (hz : I 61 20 = io z) (hi : i ≤ z) (h26 : I 61 26 = 0) (hK : mK (mb t I) z i I L) (hQ : Q (.int (if tkd (mb t I) z i = 13 then 1 else 0)) (Hp I L)) : M xs m xi_X7_isWord [.ref 61, .int 115, .int 104, .int 111, .int 119, .int 110, .int 0, .int 0, .int 0] (Hp I L) Q := by
  have hs := tpl_z (b := mb t I) hi
  have he := ten_b (b := mb t I) hs
  have key : (tcl (mb t I) z (tpl (mb t I) z i) = 1 ∧ tst (mb t I) z i ≤ tpl (mb t I) z i + 8 ∧ ∀ k, k < 8 → ltP (mb t I) (tpl (mb t I) z i) (tst (mb t I) z i) k ([115, 104, 111, 119, 110, 0, 0, 0].getD k 0)) ↔ tkd (mb t I) z i = 13 := by
    rcases tk_cl (b := mb t I) (z := z) (s := tpl (mb t I) z i) with q | q | q | q | q
    · exact ⟨fun h => absurd h.1 (by omega), fun h => absurd (tk_w (Or.inr ⟨by rw [show tkk _ _ _ = _ from h]; decide, by rw [show tkk _ _ _ = _ from h]; decide⟩)) (by omega)⟩
    · have e := lst_ltP (b := mb t I) (s := tpl (mb t I) z i) (e := tst (mb t I) z i) (W := [115, 104, 111, 119, 110]) (by decide) (by decide) (fun j h1 h2 => L_nz q.2.2.1 h1 h2 q.2.1) he.1
      have e2 : (∀ k, k < 8 → ltP (mb t I) (tpl (mb t I) z i) (tst (mb t I) z i) k ([115, 104, 111, 119, 110, 0, 0, 0].getD k 0)) ↔ ∀ k, k < 8 → ltP (mb t I) (tpl (mb t I) z i) (tst (mb t I) z i) k ([115, 104, 111, 119, 110].getD k 0) :=
        ⟨fun h => all8 (h 0 (by omega)) (h 1 (by omega)) (h 2 (by omega)) (h 3 (by omega)) (h 4 (by omega)) (h 5 (by omega)) (h 6 (by omega)) (h 7 (by omega)), fun h => all8 (h 0 (by omega)) (h 1 (by omega)) (h 2 (by omega)) (h 3 (by omega)) (h 4 (by omega)) (h 5 (by omega)) (h 6 (by omega)) (h 7 (by omega))⟩
      rw [show tkd (mb t I) z i = wd (lst (mb t I) (tpl (mb t I) z i) (tst (mb t I) z i - tpl (mb t I) z i)) from q.2.2.2, wd_13, ← e, e2]
      exact ⟨fun h => h.2, fun h => ⟨q.1, h⟩⟩
    · exact ⟨fun h => absurd h.1 (by omega), fun h => absurd (tk_w (Or.inr ⟨by rw [show tkk _ _ _ = _ from h]; decide, by rw [show tkk _ _ _ = _ from h]; decide⟩)) (by omega)⟩
    · exact ⟨fun h => absurd h.1 (by omega), fun h => absurd (tk_w (Or.inr ⟨by rw [show tkk _ _ _ = _ from h]; decide, by rw [show tkk _ _ _ = _ from h]; decide⟩)) (by omega)⟩
    · exact ⟨fun h => absurd h.1 (by omega), fun h => absurd (tk_w (Or.inr ⟨by rw [show tkk _ _ _ = _ from h]; decide, by rw [show tkk _ _ _ = _ from h]; decide⟩)) (by omega)⟩
  refine s_isWord hm ht h160 hf hz tcl_lt he.2.1 hs h26 hK.1 hK.2.1 (fun c => hK.2.2.1 (by omega)) (fun q => ?_) (fun q => ?_)
  · rw [if_pos (key.mp q)] at hQ; exact hQ
  · rw [if_neg (fun r => q (key.mpr r))] at hQ; exact hQ

theorem wd_14 {l : List Int32} : wd l = 14 ↔ l = [109, 105, 110, 117, 116, 101] := by
  constructor
  · intro h
    unfold wd at h
    by_cases c3 : l = [109, 97, 121]
    · rw [if_pos c3] at h; exact absurd h (by decide)
    rw [if_neg c3] at h
    by_cases c4 : l = [106, 111, 121, 115]
    · rw [if_pos c4] at h; exact absurd h (by decide)
    rw [if_neg c4] at h
    by_cases c5 : l = [99, 111, 111, 108, 115]
    · rw [if_pos c5] at h; exact absurd h (by decide)
    rw [if_neg c5] at h
    by_cases c6 : l = [111, 114]
    · rw [if_pos c6] at h; exact absurd h (by decide)
    rw [if_neg c6] at h
    by_cases c7 : l = [97, 110, 100]
    · rw [if_pos c7] at h; exact absurd h (by decide)
    rw [if_neg c7] at h
    by_cases c8 : l = [110, 111, 116]
    · rw [if_pos c8] at h; exact absurd h (by decide)
    rw [if_neg c8] at h
    by_cases c10 : l = [104, 101, 97, 116]
    · rw [if_pos c10] at h; exact absurd h (by decide)
    rw [if_neg c10] at h
    by_cases c11 : l = [116, 104, 105, 114, 115, 116]
    · rw [if_pos c11] at h; exact absurd h (by decide)
    rw [if_neg c11] at h
    by_cases c12 : l = [110, 117, 109, 98, 101, 114]
    · rw [if_pos c12] at h; exact absurd h (by decide)
    rw [if_neg c12] at h
    by_cases c13 : l = [115, 104, 111, 119, 110]
    · rw [if_pos c13] at h; exact absurd h (by decide)
    rw [if_neg c13] at h
    by_cases c14 : l = [109, 105, 110, 117, 116, 101]
    · exact c14
    rw [if_neg c14] at h
    by_cases c15 : l = [99, 117, 112, 115]
    · rw [if_pos c15] at h; exact absurd h (by decide)
    rw [if_neg c15] at h
    exact absurd h (by decide)
  · rintro rfl
    decide

theorem s_isW_14 {xs : xSc} {m : Nat} {I : Nat → Nat → Int32} {L : Nat → Nat → Int64} {Q : Value → xHp → Prop} (hm : 3 ≤ m) {t z i : Nat} (ht : t < 6) (h160 : z ≤ 160) (hf : I 61 19 = io (160 * t)) (hz : I 61 20 = io z) (hi : i ≤ z) (h26 : I 61 26 = 0) (hK : mK (mb t I) z i I L) (hQ : Q (.int (if tkd (mb t I) z i = 14 then 1 else 0)) (Hp I L)) : M xs m xi_X7_isWord [.ref 61, .int 109, .int 105, .int 110, .int 117, .int 116, .int 101, .int 0, .int 0] (Hp I L) Q := by
  have hs := tpl_z (b := mb t I) hi
  have he := ten_b (b := mb t I) hs
  have key : (tcl (mb t I) z (tpl (mb t I) z i) = 1 ∧ tst (mb t I) z i ≤ tpl (mb t I) z i + 8 ∧ ∀ k, k < 8 → ltP (mb t I) (tpl (mb t I) z i) (tst (mb t I) z i) k ([109, 105, 110, 117, 116, 101, 0, 0].getD k 0)) ↔ tkd (mb t I) z i = 14 := by
    rcases tk_cl (b := mb t I) (z := z) (s := tpl (mb t I) z i) with q | q | q | q | q
    · exact ⟨fun h => absurd h.1 (by omega), fun h => absurd (tk_w (Or.inr ⟨by rw [show tkk _ _ _ = _ from h]; decide, by rw [show tkk _ _ _ = _ from h]; decide⟩)) (by omega)⟩
    · have e := lst_ltP (b := mb t I) (s := tpl (mb t I) z i) (e := tst (mb t I) z i) (W := [109, 105, 110, 117, 116, 101]) (by decide) (by decide) (fun j h1 h2 => L_nz q.2.2.1 h1 h2 q.2.1) he.1
      have e2 : (∀ k, k < 8 → ltP (mb t I) (tpl (mb t I) z i) (tst (mb t I) z i) k ([109, 105, 110, 117, 116, 101, 0, 0].getD k 0)) ↔ ∀ k, k < 8 → ltP (mb t I) (tpl (mb t I) z i) (tst (mb t I) z i) k ([109, 105, 110, 117, 116, 101].getD k 0) :=
        ⟨fun h => all8 (h 0 (by omega)) (h 1 (by omega)) (h 2 (by omega)) (h 3 (by omega)) (h 4 (by omega)) (h 5 (by omega)) (h 6 (by omega)) (h 7 (by omega)), fun h => all8 (h 0 (by omega)) (h 1 (by omega)) (h 2 (by omega)) (h 3 (by omega)) (h 4 (by omega)) (h 5 (by omega)) (h 6 (by omega)) (h 7 (by omega))⟩
      rw [show tkd (mb t I) z i = wd (lst (mb t I) (tpl (mb t I) z i) (tst (mb t I) z i - tpl (mb t I) z i)) from q.2.2.2, wd_14, ← e, e2]
      exact ⟨fun h => h.2, fun h => ⟨q.1, h⟩⟩
    · exact ⟨fun h => absurd h.1 (by omega), fun h => absurd (tk_w (Or.inr ⟨by rw [show tkk _ _ _ = _ from h]; decide, by rw [show tkk _ _ _ = _ from h]; decide⟩)) (by omega)⟩
    · exact ⟨fun h => absurd h.1 (by omega), fun h => absurd (tk_w (Or.inr ⟨by rw [show tkk _ _ _ = _ from h]; decide, by rw [show tkk _ _ _ = _ from h]; decide⟩)) (by omega)⟩
    · exact ⟨fun h => absurd h.1 (by omega), fun h => absurd (tk_w (Or.inr ⟨by rw [show tkk _ _ _ = _ from h]; decide, by rw [show tkk _ _ _ = _ from h]; decide⟩)) (by omega)⟩
  refine s_isWord hm ht h160 hf hz tcl_lt he.2.1 hs h26 hK.1 hK.2.1 (fun c => hK.2.2.1 (by omega)) (fun q => ?_) (fun q => ?_)
  · rw [if_pos (key.mp q)] at hQ; exact hQ
  · rw [if_neg (fun r => q (key.mpr r))] at hQ; exact hQ

theorem wd_15 {l : List Int32} : wd l = 15 ↔ l = [99, 117, 112, 115] := by
  constructor
  · intro h
    unfold wd at h
    by_cases c3 : l = [109, 97, 121]
    · rw [if_pos c3] at h; exact absurd h (by decide)
    rw [if_neg c3] at h
    by_cases c4 : l = [106, 111, 121, 115]
    · rw [if_pos c4] at h; exact absurd h (by decide)
    rw [if_neg c4] at h
    by_cases c5 : l = [99, 111, 111, 108, 115]
    · rw [if_pos c5] at h; exact absurd h (by decide)
    rw [if_neg c5] at h
    by_cases c6 : l = [111, 114]
    · rw [if_pos c6] at h; exact absurd h (by decide)
    rw [if_neg c6] at h
    by_cases c7 : l = [97, 110, 100]
    · rw [if_pos c7] at h; exact absurd h (by decide)
    rw [if_neg c7] at h
    by_cases c8 : l = [110, 111, 116]
    · rw [if_pos c8] at h; exact absurd h (by decide)
    rw [if_neg c8] at h
    by_cases c10 : l = [104, 101, 97, 116]
    · rw [if_pos c10] at h; exact absurd h (by decide)
    rw [if_neg c10] at h
    by_cases c11 : l = [116, 104, 105, 114, 115, 116]
    · rw [if_pos c11] at h; exact absurd h (by decide)
    rw [if_neg c11] at h
    by_cases c12 : l = [110, 117, 109, 98, 101, 114]
    · rw [if_pos c12] at h; exact absurd h (by decide)
    rw [if_neg c12] at h
    by_cases c13 : l = [115, 104, 111, 119, 110]
    · rw [if_pos c13] at h; exact absurd h (by decide)
    rw [if_neg c13] at h
    by_cases c14 : l = [109, 105, 110, 117, 116, 101]
    · rw [if_pos c14] at h; exact absurd h (by decide)
    rw [if_neg c14] at h
    by_cases c15 : l = [99, 117, 112, 115]
    · exact c15
    rw [if_neg c15] at h
    exact absurd h (by decide)
  · rintro rfl
    decide

theorem s_isW_15 {xs : xSc} {m : Nat} {I : Nat → Nat → Int32} {L : Nat → Nat → Int64} {Q : Value → xHp → Prop} (hm : 3 ≤ m) {t z i : Nat} (ht : t < 6) (h160 : z ≤ 160) (hf : I 61 19 = io (160 * t)) (hz : I 61 20 = io z) (hi : i ≤ z) (h26 : I 61 26 = 0) (hK : mK (mb t I) z i I L) (hQ : Q (.int (if tkd (mb t I) z i = 15 then 1 else 0)) (Hp I L)) : M xs m xi_X7_isWord [.ref 61, .int 99, .int 117, .int 112, .int 115, .int 0, .int 0, .int 0, .int 0] (Hp I L) Q := by
  have hs := tpl_z (b := mb t I) hi
  have he := ten_b (b := mb t I) hs
  have key : (tcl (mb t I) z (tpl (mb t I) z i) = 1 ∧ tst (mb t I) z i ≤ tpl (mb t I) z i + 8 ∧ ∀ k, k < 8 → ltP (mb t I) (tpl (mb t I) z i) (tst (mb t I) z i) k ([99, 117, 112, 115, 0, 0, 0, 0].getD k 0)) ↔ tkd (mb t I) z i = 15 := by
    rcases tk_cl (b := mb t I) (z := z) (s := tpl (mb t I) z i) with q | q | q | q | q
    · exact ⟨fun h => absurd h.1 (by omega), fun h => absurd (tk_w (Or.inr ⟨by rw [show tkk _ _ _ = _ from h]; decide, by rw [show tkk _ _ _ = _ from h]; decide⟩)) (by omega)⟩
    · have e := lst_ltP (b := mb t I) (s := tpl (mb t I) z i) (e := tst (mb t I) z i) (W := [99, 117, 112, 115]) (by decide) (by decide) (fun j h1 h2 => L_nz q.2.2.1 h1 h2 q.2.1) he.1
      have e2 : (∀ k, k < 8 → ltP (mb t I) (tpl (mb t I) z i) (tst (mb t I) z i) k ([99, 117, 112, 115, 0, 0, 0, 0].getD k 0)) ↔ ∀ k, k < 8 → ltP (mb t I) (tpl (mb t I) z i) (tst (mb t I) z i) k ([99, 117, 112, 115].getD k 0) :=
        ⟨fun h => all8 (h 0 (by omega)) (h 1 (by omega)) (h 2 (by omega)) (h 3 (by omega)) (h 4 (by omega)) (h 5 (by omega)) (h 6 (by omega)) (h 7 (by omega)), fun h => all8 (h 0 (by omega)) (h 1 (by omega)) (h 2 (by omega)) (h 3 (by omega)) (h 4 (by omega)) (h 5 (by omega)) (h 6 (by omega)) (h 7 (by omega))⟩
      rw [show tkd (mb t I) z i = wd (lst (mb t I) (tpl (mb t I) z i) (tst (mb t I) z i - tpl (mb t I) z i)) from q.2.2.2, wd_15, ← e, e2]
      exact ⟨fun h => h.2, fun h => ⟨q.1, h⟩⟩
    · exact ⟨fun h => absurd h.1 (by omega), fun h => absurd (tk_w (Or.inr ⟨by rw [show tkk _ _ _ = _ from h]; decide, by rw [show tkk _ _ _ = _ from h]; decide⟩)) (by omega)⟩
    · exact ⟨fun h => absurd h.1 (by omega), fun h => absurd (tk_w (Or.inr ⟨by rw [show tkk _ _ _ = _ from h]; decide, by rw [show tkk _ _ _ = _ from h]; decide⟩)) (by omega)⟩
    · exact ⟨fun h => absurd h.1 (by omega), fun h => absurd (tk_w (Or.inr ⟨by rw [show tkk _ _ _ = _ from h]; decide, by rw [show tkk _ _ _ = _ from h]; decide⟩)) (by omega)⟩
  refine s_isWord hm ht h160 hf hz tcl_lt he.2.1 hs h26 hK.1 hK.2.1 (fun c => hK.2.2.1 (by omega)) (fun q => ?_) (fun q => ?_)
  · rw [if_pos (key.mp q)] at hQ; exact hQ
  · rw [if_neg (fun r => q (key.mpr r))] at hQ; exact hQ

theorem tk_s {b : Nat → Int32} {z s c : Nat} (hc : 40 ≤ c) (h : tkk b z s = c) : tcl b z s = 3 := by
  rcases tk_cl (b := b) (z := z) (s := s) with q | q | q | q | q
  · omega
  · have := wd_r (l := lst b s (ten b z s - s)); omega
  · omega
  · exact q.1
  · omega
theorem tk_3 {b : Nat → Int32} {z s : Nat} (h : tcl b z s = 3) : tkk b z s = (b s).toNatClampNeg ∧ isS (b s) = true := by
  rcases tk_cl (b := b) (z := z) (s := s) with q | q | q | q | q
  · omega
  · omega
  · omega
  · exact q.2
  · omega
theorem i64_inj {x y : Int32} (h : x.toInt64 = y.toInt64) : x = y := by rw [← Int32.toInt32_toInt64 x, h, Int32.toInt32_toInt64]

set_option maxRecDepth 10000 in
theorem s_isSign {xs : xSc} {m : Nat} {I : Nat → Nat → Int32} {L : Nat → Nat → Int64} {Q : Value → xHp → Prop} (hm : 1 ≤ m) {t z i c : Nat} {x : Int32} (hx : x = io c) (hc : 40 ≤ c) (hc2 : c < 1000) (h26 : I 61 26 = 0) (hK : mK (mb t I) z i I L) (hQ : Q (.int (if tkd (mb t I) z i = c then 1 else 0)) (Hp I L)) : M xs m xi_X7_isSign [.ref 61, .int x] (Hp I L) Q := by
  obtain ⟨m, rfl⟩ : ∃ k, m = k + 1 := ⟨m - 1, by omega⟩
  have htc := tcl_lt (b := mb t I) (z := z) (s := tpl (mb t I) z i)
  refine M_go (ls := [_, _]) (ml := 2) rfl rfl rfl (zl rfl) rfl ?_
  refine r_aload_n rfl ?_
  refine r_getZ (by decide) rfl rfl (by decide) rfl ?_
  refine r_if_ne (fun c_4 => ?_) (fun c_4 => ?_)
  · exact absurd h26 c_4
  · refine r_aload_n rfl ?_
    refine r_getI (by decide) rfl rfl (by decide) hK.1 ?_
    refine r_iconst ?_
    refine r_icmp_ne (fun c_12 => ?_) (fun c_12 => ?_)
    · have c_12 := (not_congr (n_eq (a := (tcl (mb t I) z (tpl (mb t I) z i))) (b := 3) rfl rfl (by omega) (by omega))).mp c_12
      refine E_go 1 rfl ?_
      refine r_iconst ?_
      refine r_nil ?_
      refine E_go 2 rfl ?_
      refine r_iret rfl (by first | exact Or.inl rfl | exact Or.inr rfl) ?_
      refine qi hQ (if_neg fun q => ?_)
      have q3 := tk_s hc q
      first
      | exact absurd h26 c_4
      | exact absurd q3 c_12
      | exact c_22 (lg_eq.mpr (by rw [hK.2.2.2.2 c_12, hx, ← isS_io (tk_3 c_12).2, ← (tk_3 c_12).1]; exact congrArg (fun n => (io n).toInt64) q))
    · have c_12 := (n_eq (a := (tcl (mb t I) z (tpl (mb t I) z i))) (b := 3) rfl rfl (by omega) (by omega)).mp c_12
      refine r_aload_n rfl ?_
      refine r_getJ (by decide) rfl rfl (by decide) rfl ?_
      refine r_iload_n rfl ?_
      refine r_i2l ?_
      refine r_lcmp ?_
      refine r_if_ne (fun c_22 => ?_) (fun c_22 => ?_)
      · refine E_go 1 rfl ?_
        refine r_iconst ?_
        refine r_nil ?_
        refine E_go 2 rfl ?_
        refine r_iret rfl (by first | exact Or.inl rfl | exact Or.inr rfl) ?_
        refine qi hQ (if_neg fun q => ?_)
        have q3 := tk_s hc q
        first
        | exact absurd h26 c_4
        | exact absurd q3 c_12
        | exact c_22 (lg_eq.mpr (by rw [hK.2.2.2.2 c_12, hx, ← isS_io (tk_3 c_12).2, ← (tk_3 c_12).1]; exact congrArg (fun n => (io n).toInt64) q))
      · refine r_iconst ?_
        refine r_goto ?_
        refine E_go 2 rfl ?_
        refine r_iret rfl (by first | exact Or.inl rfl | exact Or.inr rfl) ?_
        refine qi hQ (if_pos ?_)
        have q2 := lg_eq.mp c_22
        rw [hK.2.2.2.2 c_12] at q2
        have q3 := i64_inj q2
        show tkk _ _ _ = c
        rw [(tk_3 c_12).1, q3, hx, io_nat (by omega)]

set_option maxRecDepth 10000 in
theorem s_isSignB {xs : xSc} {m : Nat} {I : Nat → Nat → Int32} {L : Nat → Nat → Int64} {Q : Value → xHp → Prop} (hm : 1 ≤ m) {x : Int32} (h26 : I 61 26 = 1) (hQ : Q (.int 0) (Hp I L)) : M xs m xi_X7_isSign [.ref 61, .int x] (Hp I L) Q := by
  obtain ⟨m, rfl⟩ : ∃ k, m = k + 1 := ⟨m - 1, by omega⟩
  refine M_go (ls := [_, _]) (ml := 2) rfl rfl rfl (zl rfl) rfl ?_
  refine r_aload_n rfl ?_
  refine r_getZ (by decide) rfl rfl (by decide) rfl ?_
  refine r_if_ne (fun c_4 => ?_) (fun c_4 => ?_)
  · refine E_go 1 rfl ?_
    refine r_iconst ?_
    refine r_nil ?_
    refine E_go 2 rfl ?_
    refine r_iret rfl (by first | exact Or.inl rfl | exact Or.inr rfl) ?_
    exact hQ
  · exact absurd (c_4.symm.trans h26) (by decide)
