/-! the class is made, continued -/

/-- what the class's constructor leaves -/
abbrev ciP (I : Nat → Nat → Int32) : Prop := I 0 7 = 0 ∧ I 0 8 = 0 ∧ I 1 0 = 80 ∧ I 1 1 = 0 ∧ I 1 2 = 0 ∧ I 1 3 = 0 ∧ I 29 0 = 0 ∧ ∀ s, s < 4 → I (53 + 2 * s) 0 = -1
abbrev ceP (I : Nat → Nat → Int32) : Prop := I 0 7 = 1 ∧ I 0 8 = 0 ∧ I 1 0 = 80 ∧ I 1 1 = 0 ∧ I 1 2 = 0 ∧ I 1 3 = 0 ∧ I 29 0 = 0 ∧ ∀ s, s < 4 → I (53 + 2 * s) 0 = -1

set_option maxHeartbeats 4000000 in
set_option maxRecDepth 10000 in
theorem s_X6_init {xs : xSc} {m : Nat} {Q : Value → xHp → Prop} (hm : 60 ≤ m) (hQ : ∀ I L, ceP I → cTx 0 I wTx → Q .null (Hq I L)) : M xs m xi_X6_init [.ref 0] (1, va_up (fun _ _ => 0) 0 (fun _ => 0), va_up (fun _ _ => 0) 0 (fun _ => 0), va_up (fun _ _ => none) 0 (fun _ => none)) Q := by
  obtain ⟨m, rfl⟩ : ∃ k, m = k + 6 := ⟨m - 6, by omega⟩
  refine M_go (ls := [_, _]) (ml := 2) (lim := 61) rfl rfl rfl (zl rfl) rfl ?_
  refine r_aload_n rfl ?_
  refine r_obj rfl (zl rfl) ?_
  refine r_aload_n rfl ?_
  refine r_newC (n2 := 2) rfl rfl (zl rfl) ?_
  refine r_dup rfl ?_
  refine r_init (vs := []) (as := []) (by decide) (zl rfl) rfl rfl (zl rfl) (zl rfl) (Or.inl rfl) ?_
  refine M_go (ls := [_]) (ml := 1) (lim := 7) rfl rfl rfl (zl rfl) rfl ?_
  refine r_aload_n rfl ?_
  refine r_obj rfl (zl rfl) ?_
  refine r_aload_n rfl ?_
  refine r_bipush ?_
  refine r_putI rfl rfl (by decide) ?_
  refine r_aload_n rfl ?_
  refine r_iconst ?_
  refine r_newarrayC (n2 := 3) rfl rfl (zl rfl) (by decide) rfl (zl rfl) ?_
  refine r_putA trivial rfl (by decide) (by decide) ?_
  refine r_aload_n rfl ?_
  refine r_iconst ?_
  refine r_newarrayC (n2 := 4) rfl rfl (zl rfl) (by decide) rfl (zl rfl) ?_
  refine r_putA trivial rfl (by decide) (by decide) ?_
  refine r_aload_n rfl ?_
  refine r_iconst ?_
  refine r_newarrayC (n2 := 5) rfl rfl (zl rfl) (by decide) rfl (zl rfl) ?_
  refine r_putA trivial rfl (by decide) (by decide) ?_
  refine r_aload_n rfl ?_
  refine r_iconst ?_
  refine r_newarrayC (n2 := 6) rfl rfl (zl rfl) (by decide) rfl (zl rfl) ?_
  refine r_putA trivial rfl (by decide) (by decide) ?_
  refine r_aload_n rfl ?_
  refine r_iconst ?_
  refine r_newarrayC (n2 := 7) rfl rfl (zl rfl) (by decide) rfl (zl rfl) ?_
  refine r_putA trivial rfl (by decide) (by decide) ?_
  refine r_ret rfl ?_
  refine r_putA trivial rfl (by decide) (by decide) ?_
  refine r_aload_n rfl ?_
  refine r_newC (n2 := 8) rfl rfl (zl rfl) ?_
  refine r_dup rfl ?_
  refine r_init (vs := []) (as := []) (by decide) (zl rfl) rfl rfl (zl rfl) (zl rfl) (Or.inl rfl) ?_
  refine M_go (ls := [_]) (ml := 1) (lim := 13) rfl rfl rfl (zl rfl) rfl ?_
  refine r_aload_n rfl ?_
  refine r_obj rfl (zl rfl) ?_
  refine r_aload_n rfl ?_
  refine r_bipush ?_
  refine r_putI rfl rfl (by decide) ?_
  refine r_aload_n rfl ?_
  refine r_iconst ?_
  refine r_newarrayC (n2 := 9) rfl rfl (zl rfl) (by decide) rfl (zl rfl) ?_
  refine r_putA trivial rfl (by decide) (by decide) ?_
  refine r_aload_n rfl ?_
  refine r_iconst ?_
  refine r_newarrayC (n2 := 10) rfl rfl (zl rfl) (by decide) rfl (zl rfl) ?_
  refine r_putA trivial rfl (by decide) (by decide) ?_
  refine r_aload_n rfl ?_
  refine r_iconst ?_
  refine r_newarrayC (n2 := 11) rfl rfl (zl rfl) (by decide) rfl (zl rfl) ?_
  refine r_putA trivial rfl (by decide) (by decide) ?_
  refine r_aload_n rfl ?_
  refine r_iconst ?_
  refine r_newarrayC (n2 := 12) rfl rfl (zl rfl) (by decide) rfl (zl rfl) ?_
  refine r_putA trivial rfl (by decide) (by decide) ?_
  refine r_aload_n rfl ?_
  refine r_iconst ?_
  refine r_newarrayC (n2 := 13) rfl rfl (zl rfl) (by decide) rfl (zl rfl) ?_
  refine r_putA trivial rfl (by decide) (by decide) ?_
  refine r_ret rfl ?_
  refine r_putA trivial rfl (by decide) (by decide) ?_
  refine r_aload_n rfl ?_
  refine r_newC (n2 := 14) rfl rfl (zl rfl) ?_
  refine r_dup rfl ?_
  refine r_init (vs := []) (as := []) (by decide) (zl rfl) rfl rfl (zl rfl) (zl rfl) (Or.inl rfl) ?_
  refine M_go (ls := [_]) (ml := 1) (lim := 19) rfl rfl rfl (zl rfl) rfl ?_
  refine r_aload_n rfl ?_
  refine r_obj rfl (zl rfl) ?_
  refine r_aload_n rfl ?_
  refine r_bipush ?_
  refine r_putI rfl rfl (by decide) ?_
  refine r_aload_n rfl ?_
  refine r_iconst ?_
  refine r_newarrayC (n2 := 15) rfl rfl (zl rfl) (by decide) rfl (zl rfl) ?_
  refine r_putA trivial rfl (by decide) (by decide) ?_
  refine r_aload_n rfl ?_
  refine r_iconst ?_
  refine r_newarrayC (n2 := 16) rfl rfl (zl rfl) (by decide) rfl (zl rfl) ?_
  refine r_putA trivial rfl (by decide) (by decide) ?_
  refine r_aload_n rfl ?_
  refine r_iconst ?_
  refine r_newarrayC (n2 := 17) rfl rfl (zl rfl) (by decide) rfl (zl rfl) ?_
  refine r_putA trivial rfl (by decide) (by decide) ?_
  refine r_aload_n rfl ?_
  refine r_iconst ?_
  refine r_newarrayC (n2 := 18) rfl rfl (zl rfl) (by decide) rfl (zl rfl) ?_
  refine r_putA trivial rfl (by decide) (by decide) ?_
  refine r_aload_n rfl ?_
  refine r_iconst ?_
  refine r_newarrayC (n2 := 19) rfl rfl (zl rfl) (by decide) rfl (zl rfl) ?_
  refine r_putA trivial rfl (by decide) (by decide) ?_
  refine r_ret rfl ?_
  refine r_putA trivial rfl (by decide) (by decide) ?_
  refine r_aload_n rfl ?_
  refine r_newC (n2 := 20) rfl rfl (zl rfl) ?_
  refine r_dup rfl ?_
  refine r_init (vs := []) (as := []) (by decide) (zl rfl) rfl rfl (zl rfl) (zl rfl) (Or.inl rfl) ?_
  refine M_go (ls := [_]) (ml := 1) (lim := 29) rfl rfl rfl (zl rfl) rfl ?_
  refine r_aload_n rfl ?_
  refine r_obj rfl (zl rfl) ?_
  refine r_aload_n rfl ?_
  refine r_iconst ?_
  refine r_newarrayC (n2 := 21) rfl rfl (zl rfl) (by decide) rfl (zl rfl) ?_
  refine r_putA trivial rfl (by decide) (by decide) ?_
  refine r_aload_n rfl ?_
  refine r_iconst ?_
  refine r_newarrayC (n2 := 22) rfl rfl (zl rfl) (by decide) rfl (zl rfl) ?_
  refine r_putA trivial rfl (by decide) (by decide) ?_
  refine r_aload_n rfl ?_
  refine r_iconst ?_
  refine r_newarrayC (n2 := 23) rfl rfl (zl rfl) (by decide) rfl (zl rfl) ?_
  refine r_putA trivial rfl (by decide) (by decide) ?_
  refine r_aload_n rfl ?_
  refine r_bipush ?_
  refine r_newarrayC (n2 := 24) rfl rfl (zl rfl) (by decide) rfl (zl rfl) ?_
  refine r_putA trivial rfl (by decide) (by decide) ?_
  refine r_aload_n rfl ?_
  refine r_bipush ?_
  refine r_newarrayC (n2 := 25) rfl rfl (zl rfl) (by decide) rfl (zl rfl) ?_
  refine r_putA trivial rfl (by decide) (by decide) ?_
  refine r_aload_n rfl ?_
  refine r_bipush ?_
  refine r_newarrayC (n2 := 26) rfl rfl (zl rfl) (by decide) rfl (zl rfl) ?_
  refine r_putA trivial rfl (by decide) (by decide) ?_
  refine r_aload_n rfl ?_
  refine r_bipush ?_
  refine r_newarrayC (n2 := 27) rfl rfl (zl rfl) (by decide) rfl (zl rfl) ?_
  refine r_putA trivial rfl (by decide) (by decide) ?_
  refine r_aload_n rfl ?_
  refine r_bipush ?_
  refine r_newarrayC (n2 := 28) rfl rfl (zl rfl) (by decide) rfl (zl rfl) ?_
  refine r_putA trivial rfl (by decide) (by decide) ?_
  refine r_aload_n rfl ?_
  refine r_sipush ?_
  refine r_newarrayC (n2 := 29) rfl rfl (zl rfl) (by decide) rfl (zl rfl) ?_
  refine r_putA trivial rfl (by decide) (by decide) ?_
  refine r_ret rfl ?_
  refine r_putA trivial rfl (by decide) (by decide) ?_
  refine r_aload_n rfl ?_
  refine r_newC (n2 := 30) rfl rfl (zl rfl) ?_
  refine r_dup rfl ?_
  refine r_init (vs := []) (as := []) (by decide) (zl rfl) rfl rfl (zl rfl) (zl rfl) (Or.inl rfl) ?_
  refine M_go (ls := [_]) (ml := 1) (lim := 33) rfl rfl rfl (zl rfl) rfl ?_
  refine r_aload_n rfl ?_
  refine r_obj rfl (zl rfl) ?_
  refine r_aload_n rfl ?_
  refine r_sipush ?_
  refine r_newarrayC (n2 := 31) rfl rfl (zl rfl) (by decide) rfl (zl rfl) ?_
  refine r_putA trivial rfl (by decide) (by decide) ?_
  refine r_aload_n rfl ?_
  refine r_iconst ?_
  refine r_newarrayC (n2 := 32) rfl rfl (zl rfl) (by decide) rfl (zl rfl) ?_
  refine r_putA trivial rfl (by decide) (by decide) ?_
  refine r_aload_n rfl ?_
  refine r_sipush ?_
  refine r_newarrayC (n2 := 33) rfl rfl (zl rfl) (by decide) rfl (zl rfl) ?_
  refine r_putA trivial rfl (by decide) (by decide) ?_
  refine r_ret rfl ?_
  refine r_putA trivial rfl (by decide) (by decide) ?_
  refine r_aload_n rfl ?_
  refine r_bipush ?_
  refine r_anewarrayC (n2 := 34) rfl rfl (zl rfl) (by decide) rfl (zl rfl) ?_
  refine r_putA trivial rfl (by decide) (by decide) ?_
  refine r_aload_n rfl ?_
  refine r_iconst ?_
  refine r_anewarrayC (n2 := 35) rfl rfl (zl rfl) (by decide) rfl (zl rfl) ?_
  refine r_putA trivial rfl (by decide) (by decide) ?_
  refine r_iconst ?_
  refine r_istore_n (ls' := [_, _]) (zt rfl) rfl ?_
  refine r_nil ?_
  refine E_go 1 rfl ?_
  refine r_iload_n rfl ?_
  refine r_bipush ?_
  refine r_icmp_ge (fun c_81 => ?_) (fun c_81 => ?_)
  · have c_81 := (n_le (a := 6) (b := 0) rfl rfl (by omega) (by omega)).mp c_81
    omega
  · have c_81 := (not_congr (n_le (a := 6) (b := 0) rfl rfl (by omega) (by omega))).mp c_81
    refine r_aload_n rfl ?_
    refine r_getA (q := 33) (by decide) rfl rfl (by decide) ?_
    refine r_iload_n rfl ?_
    refine r_newC (n2 := 36) rfl rfl (zl rfl) ?_
    refine r_dup rfl ?_
    refine r_init (vs := []) (as := []) (by decide) (zl rfl) rfl rfl (zl rfl) (zl rfl) (Or.inl rfl) ?_
    refine M_go (ls := [_]) (ml := 1) (lim := 38) rfl rfl rfl (zl rfl) rfl ?_
    refine r_aload_n rfl ?_
    refine r_obj rfl (zl rfl) ?_
    refine r_aload_n rfl ?_
    refine r_sipush ?_
    refine r_newarrayC (n2 := 37) rfl rfl (zl rfl) (by decide) rfl (zl rfl) ?_
    refine r_putA trivial rfl (by decide) (by decide) ?_
    refine r_aload_n rfl ?_
    refine r_iconst ?_
    refine r_newarrayC (n2 := 38) rfl rfl (zl rfl) (by decide) rfl (zl rfl) ?_
    refine r_putA trivial rfl (by decide) (by decide) ?_
    refine r_ret rfl ?_
    refine r_aastore (by decide) (by decide) (by decide) (ixE rfl (show 0 < 6 by omega) (by decide)) ?_
    refine r_iincN (y := io 1) (ls' := [_, _]) rfl (zt rfl) rfl rfl ?_
    refine r_goto ?_
    refine E_go 1 rfl ?_
    refine r_iload_n rfl ?_
    refine r_bipush ?_
    refine r_icmp_ge (fun c_81 => ?_) (fun c_81 => ?_)
    · have c_81 := (n_le (a := 6) (b := 1) rfl rfl (by omega) (by omega)).mp c_81
      omega
    · have c_81 := (not_congr (n_le (a := 6) (b := 1) rfl rfl (by omega) (by omega))).mp c_81
      refine r_aload_n rfl ?_
      refine r_getA (q := 33) (by decide) rfl rfl (by decide) ?_
      refine r_iload_n rfl ?_
      refine r_newC (n2 := 39) rfl rfl (zl rfl) ?_
      refine r_dup rfl ?_
      refine r_init (vs := []) (as := []) (by decide) (zl rfl) rfl rfl (zl rfl) (zl rfl) (Or.inl rfl) ?_
      refine M_go (ls := [_]) (ml := 1) (lim := 41) rfl rfl rfl (zl rfl) rfl ?_
      refine r_aload_n rfl ?_
      refine r_obj rfl (zl rfl) ?_
      refine r_aload_n rfl ?_
      refine r_sipush ?_
      refine r_newarrayC (n2 := 40) rfl rfl (zl rfl) (by decide) rfl (zl rfl) ?_
      refine r_putA trivial rfl (by decide) (by decide) ?_
      refine r_aload_n rfl ?_
      refine r_iconst ?_
      refine r_newarrayC (n2 := 41) rfl rfl (zl rfl) (by decide) rfl (zl rfl) ?_
      refine r_putA trivial rfl (by decide) (by decide) ?_
      refine r_ret rfl ?_
      refine r_aastore (by decide) (by decide) (by decide) (ixE rfl (show 1 < 6 by omega) (by decide)) ?_
      refine r_iincN (y := io 2) (ls' := [_, _]) rfl (zt rfl) rfl rfl ?_
      refine r_goto ?_
      refine E_go 1 rfl ?_
      refine r_iload_n rfl ?_
      refine r_bipush ?_
      refine r_icmp_ge (fun c_81 => ?_) (fun c_81 => ?_)
      · have c_81 := (n_le (a := 6) (b := 2) rfl rfl (by omega) (by omega)).mp c_81
        omega
      · have c_81 := (not_congr (n_le (a := 6) (b := 2) rfl rfl (by omega) (by omega))).mp c_81
        refine r_aload_n rfl ?_
        refine r_getA (q := 33) (by decide) rfl rfl (by decide) ?_
        refine r_iload_n rfl ?_
        refine r_newC (n2 := 42) rfl rfl (zl rfl) ?_
        refine r_dup rfl ?_
        refine r_init (vs := []) (as := []) (by decide) (zl rfl) rfl rfl (zl rfl) (zl rfl) (Or.inl rfl) ?_
        refine M_go (ls := [_]) (ml := 1) (lim := 44) rfl rfl rfl (zl rfl) rfl ?_
        refine r_aload_n rfl ?_
        refine r_obj rfl (zl rfl) ?_
        refine r_aload_n rfl ?_
        refine r_sipush ?_
        refine r_newarrayC (n2 := 43) rfl rfl (zl rfl) (by decide) rfl (zl rfl) ?_
        refine r_putA trivial rfl (by decide) (by decide) ?_
        refine r_aload_n rfl ?_
        refine r_iconst ?_
        refine r_newarrayC (n2 := 44) rfl rfl (zl rfl) (by decide) rfl (zl rfl) ?_
        refine r_putA trivial rfl (by decide) (by decide) ?_
        refine r_ret rfl ?_
        refine r_aastore (by decide) (by decide) (by decide) (ixE rfl (show 2 < 6 by omega) (by decide)) ?_
        refine r_iincN (y := io 3) (ls' := [_, _]) rfl (zt rfl) rfl rfl ?_
        refine r_goto ?_
        refine E_go 1 rfl ?_
        refine r_iload_n rfl ?_
        refine r_bipush ?_
        refine r_icmp_ge (fun c_81 => ?_) (fun c_81 => ?_)
        · have c_81 := (n_le (a := 6) (b := 3) rfl rfl (by omega) (by omega)).mp c_81
          omega
        · have c_81 := (not_congr (n_le (a := 6) (b := 3) rfl rfl (by omega) (by omega))).mp c_81
          refine r_aload_n rfl ?_
          refine r_getA (q := 33) (by decide) rfl rfl (by decide) ?_
          refine r_iload_n rfl ?_
          refine r_newC (n2 := 45) rfl rfl (zl rfl) ?_
          refine r_dup rfl ?_
          refine r_init (vs := []) (as := []) (by decide) (zl rfl) rfl rfl (zl rfl) (zl rfl) (Or.inl rfl) ?_
          refine M_go (ls := [_]) (ml := 1) (lim := 47) rfl rfl rfl (zl rfl) rfl ?_
          refine r_aload_n rfl ?_
          refine r_obj rfl (zl rfl) ?_
          refine r_aload_n rfl ?_
          refine r_sipush ?_
          refine r_newarrayC (n2 := 46) rfl rfl (zl rfl) (by decide) rfl (zl rfl) ?_
          refine r_putA trivial rfl (by decide) (by decide) ?_
          refine r_aload_n rfl ?_
          refine r_iconst ?_
          refine r_newarrayC (n2 := 47) rfl rfl (zl rfl) (by decide) rfl (zl rfl) ?_
          refine r_putA trivial rfl (by decide) (by decide) ?_
          refine r_ret rfl ?_
          refine r_aastore (by decide) (by decide) (by decide) (ixE rfl (show 3 < 6 by omega) (by decide)) ?_
          refine r_iincN (y := io 4) (ls' := [_, _]) rfl (zt rfl) rfl rfl ?_
          refine r_goto ?_
          refine E_go 1 rfl ?_
          refine r_iload_n rfl ?_
          refine r_bipush ?_
          refine r_icmp_ge (fun c_81 => ?_) (fun c_81 => ?_)
          · have c_81 := (n_le (a := 6) (b := 4) rfl rfl (by omega) (by omega)).mp c_81
            omega
          · have c_81 := (not_congr (n_le (a := 6) (b := 4) rfl rfl (by omega) (by omega))).mp c_81
            refine r_aload_n rfl ?_
            refine r_getA (q := 33) (by decide) rfl rfl (by decide) ?_
            refine r_iload_n rfl ?_
            refine r_newC (n2 := 48) rfl rfl (zl rfl) ?_
            refine r_dup rfl ?_
            refine r_init (vs := []) (as := []) (by decide) (zl rfl) rfl rfl (zl rfl) (zl rfl) (Or.inl rfl) ?_
            refine M_go (ls := [_]) (ml := 1) (lim := 50) rfl rfl rfl (zl rfl) rfl ?_
            refine r_aload_n rfl ?_
            refine r_obj rfl (zl rfl) ?_
            refine r_aload_n rfl ?_
            refine r_sipush ?_
            refine r_newarrayC (n2 := 49) rfl rfl (zl rfl) (by decide) rfl (zl rfl) ?_
            refine r_putA trivial rfl (by decide) (by decide) ?_
            refine r_aload_n rfl ?_
            refine r_iconst ?_
            refine r_newarrayC (n2 := 50) rfl rfl (zl rfl) (by decide) rfl (zl rfl) ?_
            refine r_putA trivial rfl (by decide) (by decide) ?_
            refine r_ret rfl ?_
            refine r_aastore (by decide) (by decide) (by decide) (ixE rfl (show 4 < 6 by omega) (by decide)) ?_
            refine r_iincN (y := io 5) (ls' := [_, _]) rfl (zt rfl) rfl rfl ?_
            refine r_goto ?_
            refine E_go 1 rfl ?_
            refine r_iload_n rfl ?_
            refine r_bipush ?_
            refine r_icmp_ge (fun c_81 => ?_) (fun c_81 => ?_)
            · have c_81 := (n_le (a := 6) (b := 5) rfl rfl (by omega) (by omega)).mp c_81
              omega
            · have c_81 := (not_congr (n_le (a := 6) (b := 5) rfl rfl (by omega) (by omega))).mp c_81
              refine r_aload_n rfl ?_
              refine r_getA (q := 33) (by decide) rfl rfl (by decide) ?_
              refine r_iload_n rfl ?_
              refine r_newC (n2 := 51) rfl rfl (zl rfl) ?_
              refine r_dup rfl ?_
              refine r_init (vs := []) (as := []) (by decide) (zl rfl) rfl rfl (zl rfl) (zl rfl) (Or.inl rfl) ?_
              refine M_go (ls := [_]) (ml := 1) (lim := 53) rfl rfl rfl (zl rfl) rfl ?_
              refine r_aload_n rfl ?_
              refine r_obj rfl (zl rfl) ?_
              refine r_aload_n rfl ?_
              refine r_sipush ?_
              refine r_newarrayC (n2 := 52) rfl rfl (zl rfl) (by decide) rfl (zl rfl) ?_
              refine r_putA trivial rfl (by decide) (by decide) ?_
              refine r_aload_n rfl ?_
              refine r_iconst ?_
              refine r_newarrayC (n2 := 53) rfl rfl (zl rfl) (by decide) rfl (zl rfl) ?_
              refine r_putA trivial rfl (by decide) (by decide) ?_
              refine r_ret rfl ?_
              refine r_aastore (by decide) (by decide) (by decide) (ixE rfl (show 5 < 6 by omega) (by decide)) ?_
              refine r_iincN (y := io 6) (ls' := [_, _]) rfl (zt rfl) rfl rfl ?_
              refine r_goto ?_
              refine E_go 1 rfl ?_
              refine r_iload_n rfl ?_
              refine r_bipush ?_
              refine r_icmp_ge (fun c_81 => ?_) (fun c_81 => ?_)
              · have c_81 := (n_le (a := 6) (b := 6) rfl rfl (by omega) (by omega)).mp c_81
                refine E_go 2 rfl ?_
                refine r_iconst ?_
                refine r_istore_n (ls' := [_, _]) (zt rfl) rfl ?_
                refine r_nil ?_
                refine E_go 3 rfl ?_
                refine r_iload_n rfl ?_
                refine r_iconst ?_
                refine r_icmp_ge (fun c_107 => ?_) (fun c_107 => ?_)
                · have c_107 := (n_le (a := 4) (b := 0) rfl rfl (by omega) (by omega)).mp c_107
                  omega
                · have c_107 := (not_congr (n_le (a := 4) (b := 0) rfl rfl (by omega) (by omega))).mp c_107
                  refine r_aload_n rfl ?_
                  refine r_getA (q := 34) (by decide) rfl rfl (by decide) ?_
                  refine r_iload_n rfl ?_
                  refine r_newC (n2 := 54) rfl rfl (zl rfl) ?_
                  refine r_dup rfl ?_
                  refine r_init (vs := []) (as := []) (by decide) (zl rfl) rfl rfl (zl rfl) (zl rfl) (Or.inl rfl) ?_
                  refine M_go (ls := [_]) (ml := 1) (lim := 55) rfl rfl rfl (zl rfl) rfl ?_
                  refine r_aload_n rfl ?_
                  refine r_obj rfl (zl rfl) ?_
                  refine r_aload_n rfl ?_
                  refine r_iconst ?_
                  refine r_putI rfl rfl (by decide) ?_
                  refine r_aload_n rfl ?_
                  refine r_bipush ?_
                  refine r_newarrayC (n2 := 55) rfl rfl (zl rfl) (by decide) rfl (zl rfl) ?_
                  refine r_putA trivial rfl (by decide) (by decide) ?_
                  refine r_ret rfl ?_
                  refine r_aastore (by decide) (by decide) (by decide) (ixE rfl (show 0 < 4 by omega) (by decide)) ?_
                  refine r_iincN (y := io 1) (ls' := [_, _]) rfl (zt rfl) rfl rfl ?_
                  refine r_goto ?_
                  refine E_go 3 rfl ?_
                  refine r_iload_n rfl ?_
                  refine r_iconst ?_
                  refine r_icmp_ge (fun c_107 => ?_) (fun c_107 => ?_)
                  · have c_107 := (n_le (a := 4) (b := 1) rfl rfl (by omega) (by omega)).mp c_107
                    omega
                  · have c_107 := (not_congr (n_le (a := 4) (b := 1) rfl rfl (by omega) (by omega))).mp c_107
                    refine r_aload_n rfl ?_
                    refine r_getA (q := 34) (by decide) rfl rfl (by decide) ?_
                    refine r_iload_n rfl ?_
                    refine r_newC (n2 := 56) rfl rfl (zl rfl) ?_
                    refine r_dup rfl ?_
                    refine r_init (vs := []) (as := []) (by decide) (zl rfl) rfl rfl (zl rfl) (zl rfl) (Or.inl rfl) ?_
                    refine M_go (ls := [_]) (ml := 1) (lim := 57) rfl rfl rfl (zl rfl) rfl ?_
                    refine r_aload_n rfl ?_
                    refine r_obj rfl (zl rfl) ?_
                    refine r_aload_n rfl ?_
                    refine r_iconst ?_
                    refine r_putI rfl rfl (by decide) ?_
                    refine r_aload_n rfl ?_
                    refine r_bipush ?_
                    refine r_newarrayC (n2 := 57) rfl rfl (zl rfl) (by decide) rfl (zl rfl) ?_
                    refine r_putA trivial rfl (by decide) (by decide) ?_
                    refine r_ret rfl ?_
                    refine r_aastore (by decide) (by decide) (by decide) (ixE rfl (show 1 < 4 by omega) (by decide)) ?_
                    refine r_iincN (y := io 2) (ls' := [_, _]) rfl (zt rfl) rfl rfl ?_
                    refine r_goto ?_
                    refine E_go 3 rfl ?_
                    refine r_iload_n rfl ?_
                    refine r_iconst ?_
                    refine r_icmp_ge (fun c_107 => ?_) (fun c_107 => ?_)
                    · have c_107 := (n_le (a := 4) (b := 2) rfl rfl (by omega) (by omega)).mp c_107
                      omega
                    · have c_107 := (not_congr (n_le (a := 4) (b := 2) rfl rfl (by omega) (by omega))).mp c_107
                      refine r_aload_n rfl ?_
                      refine r_getA (q := 34) (by decide) rfl rfl (by decide) ?_
                      refine r_iload_n rfl ?_
                      refine r_newC (n2 := 58) rfl rfl (zl rfl) ?_
                      refine r_dup rfl ?_
                      refine r_init (vs := []) (as := []) (by decide) (zl rfl) rfl rfl (zl rfl) (zl rfl) (Or.inl rfl) ?_
                      refine M_go (ls := [_]) (ml := 1) (lim := 59) rfl rfl rfl (zl rfl) rfl ?_
                      refine r_aload_n rfl ?_
                      refine r_obj rfl (zl rfl) ?_
                      refine r_aload_n rfl ?_
                      refine r_iconst ?_
                      refine r_putI rfl rfl (by decide) ?_
                      refine r_aload_n rfl ?_
                      refine r_bipush ?_
                      refine r_newarrayC (n2 := 59) rfl rfl (zl rfl) (by decide) rfl (zl rfl) ?_
                      refine r_putA trivial rfl (by decide) (by decide) ?_
                      refine r_ret rfl ?_
                      refine r_aastore (by decide) (by decide) (by decide) (ixE rfl (show 2 < 4 by omega) (by decide)) ?_
                      refine r_iincN (y := io 3) (ls' := [_, _]) rfl (zt rfl) rfl rfl ?_
                      refine r_goto ?_
                      refine E_go 3 rfl ?_
                      refine r_iload_n rfl ?_
                      refine r_iconst ?_
                      refine r_icmp_ge (fun c_107 => ?_) (fun c_107 => ?_)
                      · have c_107 := (n_le (a := 4) (b := 3) rfl rfl (by omega) (by omega)).mp c_107
                        omega
                      · have c_107 := (not_congr (n_le (a := 4) (b := 3) rfl rfl (by omega) (by omega))).mp c_107
                        refine r_aload_n rfl ?_
                        refine r_getA (q := 34) (by decide) rfl rfl (by decide) ?_
                        refine r_iload_n rfl ?_
                        refine r_newC (n2 := 60) rfl rfl (zl rfl) ?_
                        refine r_dup rfl ?_
                        refine r_init (vs := []) (as := []) (by decide) (zl rfl) rfl rfl (zl rfl) (zl rfl) (Or.inl rfl) ?_
                        refine M_go (ls := [_]) (ml := 1) (lim := 61) rfl rfl rfl (zl rfl) rfl ?_
                        refine r_aload_n rfl ?_
                        refine r_obj rfl (zl rfl) ?_
                        refine r_aload_n rfl ?_
                        refine r_iconst ?_
                        refine r_putI rfl rfl (by decide) ?_
                        refine r_aload_n rfl ?_
                        refine r_bipush ?_
                        refine r_newarrayC (n2 := 61) rfl rfl (zl rfl) (by decide) rfl (zl rfl) ?_
                        refine r_putA trivial rfl (by decide) (by decide) ?_
                        refine r_ret rfl ?_
                        refine r_aastore (by decide) (by decide) (by decide) (ixE rfl (show 3 < 4 by omega) (by decide)) ?_
                        refine r_iincN (y := io 4) (ls' := [_, _]) rfl (zt rfl) rfl rfl ?_
                        refine r_goto ?_
                        refine E_go 3 rfl ?_
                        refine r_iload_n rfl ?_
                        refine r_iconst ?_
                        refine r_icmp_ge (fun c_107 => ?_) (fun c_107 => ?_)
                        · have c_107 := (n_le (a := 4) (b := 4) rfl rfl (by omega) (by omega)).mp c_107
                          refine E_go 4 rfl ?_
                          refine r_aload_n rfl ?_
                          refine r_getA (q := 29) (by decide) rfl rfl (by decide) ?_
                          refine r_ldcS (by decide) ?_
                          refine r_virtual (vs := []) (as := [_]) (by decide) (zl rfl) rfl rfl (zl rfl) (zl rfl) (Or.inr (Or.inr ⟨zt rfl, rfl, zt rfl⟩)) ?_
                          refine M_ini ciP (sFr_eq (a := 61) (b := 50) ?_ sFr_F1 ?_) (by decide +kernel) (fun I L hI => ?_)
                          · repeat (first | apply sFr_new | apply sFr_put (zt rfl) (zt rfl) | exact sFr_0)
                          · decide +kernel
                          obtain ⟨h07, h08, h10, h11, h12, h13, h29, h53⟩ := hI
                          refine s_laysOut_6 (by omega) h29 (fun J j1 j2 j3 j4 => ?_)
                          refine r_aload_n rfl ?_
                          refine r_virtual (vs := []) (as := []) (by decide) (zl rfl) rfl rfl (zl rfl) (Nat.le_refl _) (Or.inr (Or.inr ⟨zt rfl, rfl, zt rfl⟩)) ?_
                          refine s_ctext (by omega) ((congrFun (j1 0 (by omega)) 7).trans h07) j3 j4 (fun J2 k1 k2 k3 k4 k5 => ?_)
                          refine r_pop rfl ?_
                          refine r_ret rfl ?_
                          refine hQ _ _ ⟨k3, ?_, ?_, ?_, ?_, ?_, k4, ?_⟩ k5
                          · rw [k2 8 (by omega), j1 0 (by omega)]; exact h08
                          · rw [k1 1 (by omega), j1 1 (by omega)]; exact h10
                          · rw [k1 1 (by omega), j1 1 (by omega)]; exact h11
                          · rw [k1 1 (by omega), j1 1 (by omega)]; exact h12
                          · rw [k1 1 (by omega), j1 1 (by omega)]; exact h13
                          · intro s hs
                            rw [k1 _ (by omega), j1 _ (by omega)]; exact h53 s hs
                        · have c_107 := (not_congr (n_le (a := 4) (b := 4) rfl rfl (by omega) (by omega))).mp c_107
                          omega
              · have c_81 := (not_congr (n_le (a := 6) (b := 6) rfl rfl (by omega) (by omega))).mp c_81
                omega
