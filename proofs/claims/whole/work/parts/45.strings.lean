/-! letters of the String constants -/

set_option maxRecDepth 10000 in
theorem s_coder {xs : xSc} {m : Nat} {h : xHp} {Q : Value → xHp → Prop} {p : Nat} (hp : 1000 ≤ p ∧ p < 1013) (hm : 1 ≤ m) (hQ : Q (.int 0) h) : M xs m xi_J0_coder_7d493 [.ref p] h Q := by
  obtain ⟨m, rfl⟩ : ∃ k, m = k + 1 := ⟨m - 1, by omega⟩
  refine M_go (ls := [_]) (ml := 1) rfl rfl rfl (zl rfl) rfl ?_
  refine r_getstatic1 rfl rfl ?_
  refine r_if_eq (fun c_3 => ?_) (fun c_3 => ?_)
  · have c_3 := (n_eq (a := 1) (b := 0) rfl rfl (by omega) (by omega)).mp c_3
    exact absurd c_3 (by decide)
  · have c_3 := (not_congr (n_eq (a := 1) (b := 0) rfl rfl (by omega) (by omega))).mp c_3
    refine r_aload_n rfl ?_
    refine r_getC rfl rfl hp ?_
    refine r_goto ?_
    refine E_go 2 rfl ?_
    refine r_iret rfl rfl ?_
    exact hQ

set_option maxRecDepth 10000 in
theorem s_isLatin1 {xs : xSc} {m : Nat} {h : xHp} {Q : Value → xHp → Prop} {p : Nat} (hp : 1000 ≤ p ∧ p < 1013) (hm : 1 ≤ m) (hQ : Q (.int 1) h) : M xs m xi_J0_isLatin1_aae02 [.ref p] h Q := by
  obtain ⟨m, rfl⟩ : ∃ k, m = k + 1 := ⟨m - 1, by omega⟩
  refine M_go (ls := [_]) (ml := 1) rfl rfl rfl (zl rfl) rfl ?_
  refine r_getstatic1 rfl rfl ?_
  refine r_if_eq (fun c_3 => ?_) (fun c_3 => ?_)
  · have c_3 := (n_eq (a := 1) (b := 0) rfl rfl (by omega) (by omega)).mp c_3
    exact absurd c_3 (by decide)
  · have c_3 := (not_congr (n_eq (a := 1) (b := 0) rfl rfl (by omega) (by omega))).mp c_3
    refine r_aload_n rfl ?_
    refine r_getC rfl rfl hp ?_
    refine r_if_ne (fun c_10 => ?_) (fun c_10 => ?_)
    · have c_10 := (not_congr (n_eq (a := 0) (b := 0) rfl rfl (by omega) (by omega))).mp c_10
      exact absurd rfl c_10
    · have c_10 := (n_eq (a := 0) (b := 0) rfl rfl (by omega) (by omega)).mp c_10
      refine r_iconst ?_
      refine r_goto ?_
      refine E_go 2 rfl ?_
      refine r_iret rfl (by first | exact Or.inl rfl | exact Or.inr rfl) ?_
      exact hQ

theorem xSn_lt : ∀ k, k < 13 → xSn.getD k 0 ≤ 37 := by decide
theorem xSb_ok : ∀ k, k < 13 → ∀ i, i < xSn.getD k 0 → (((xSb.getD k []).getD i 0 &&& 255).toUInt32 % 65536).toInt32 = (xSb.getD k []).getD i 0 ∧ 0 ≤ (xSb.getD k []).getD i 0 ∧ (xSb.getD k []).getD i 0 < 256 ∧ ((xSb.getD k []).getD i 0).toUInt32.toUInt16.toUInt32.toInt32 = (xSb.getD k []).getD i 0 := by decide +kernel

theorem n_sh0 (x : Int32) : x >>> ((0 : Int32) &&& 31) = x := by simp

set_option maxRecDepth 10000 in
theorem s_length {xs : xSc} {m : Nat} {h : xHp} {Q : Value → xHp → Prop} {p : Nat} (hp : 1000 ≤ p ∧ p < 1013) (hm : 2 ≤ m) (hQ : Q (.int (io (xSn.getD (p - 1000) 0))) h) : M xs m xi_J0_length_8abf5 [.ref p] h Q := by
  obtain ⟨m, rfl⟩ : ∃ k, m = k + 1 := ⟨m - 1, by omega⟩
  have hp2 : 2000 ≤ p + 1000 ∧ p + 1000 < 2013 := by omega
  refine M_go (ls := [_]) (ml := 1) rfl rfl rfl (zl rfl) rfl ?_
  refine r_aload_n rfl ?_
  refine r_getS rfl rfl hp ?_
  refine r_alenK rfl hp2 ?_
  refine r_aload_n rfl ?_
  refine r_virtual (vs := []) (as := []) (by decide) (zl rfl) rfl rfl (zl rfl) (Nat.le_refl _) (Or.inr (Or.inl ⟨rfl, hp.1, hp.2⟩)) ?_
  refine s_coder hp (by omega) ?_
  refine r_ishr ?_
  refine r_iret rfl trivial ?_
  refine qi hQ ?_
  exact (n_sh0 _).symm

set_option maxRecDepth 10000 in
theorem s_chk3 {xs : xSc} {m : Nat} {h : xHp} {Q : Value → xHp → Prop} {x y : Int32} (h0 : 0 ≤ x) (h1 : x < y) (hm : 1 ≤ m) (hQ : Q (.int x) h) : M xs m xi_J3_checkIndex_8e157 [.int x, .int y, .retAddr 0] h Q := by
  obtain ⟨m, rfl⟩ : ∃ k, m = k + 1 := ⟨m - 1, by omega⟩
  refine M_go (ls := [_, _, _]) (ml := 3) rfl rfl rfl (zl rfl) rfl ?_
  refine r_iload_n rfl ?_
  refine r_if_lt (fun c_1 => ?_) (fun c_1 => ?_)
  · exact absurd c_1 (Int32.not_lt.mpr h0)
  · refine r_iload_n rfl ?_
    refine r_iload_n rfl ?_
    refine r_icmp_lt (fun c_6 => ?_) (fun c_6 => ?_)
    · refine E_go 2 rfl ?_
      refine r_iload_n rfl ?_
      refine r_iret rfl trivial ?_
      exact hQ
    · exact absurd h1 c_6

set_option maxRecDepth 10000 in
theorem s_chk0 {xs : xSc} {m : Nat} {h : xHp} {Q : Value → xHp → Prop} {x y : Int32} (h0 : 0 ≤ x) (h1 : x < y) (hm : 2 ≤ m) (hQ : Q .null h) : M xs m xi_J0_checkIndex_df160 [.int x, .int y] h Q := by
  obtain ⟨m, rfl⟩ : ∃ k, m = k + 1 := ⟨m - 1, by omega⟩
  refine M_go (ls := [_, _]) (ml := 2) rfl rfl rfl (zl rfl) rfl ?_
  refine r_iload_n rfl ?_
  refine r_iload_n rfl ?_
  refine r_getstatic4 rfl ?_
  refine r_static (vs := [_, _, _]) (by decide) (zl rfl) rfl rfl (zl rfl) (Nat.le_refl _) rfl ?_
  refine s_chk3 h0 h1 (by omega) ?_
  refine r_pop rfl ?_
  refine r_ret rfl ?_
  exact hQ

/-- letter i of constant p -/
def xCh (p i : Nat) : Int32 := (xSb.getD (p - 1000) []).getD i 0
def xCl (p : Nat) : Nat := xSn.getD (p - 1000) 0
theorem xCh_ok {p i : Nat} (hp : 1000 ≤ p ∧ p < 1013) (hi : i < xCl p) : ((xCh p i &&& 255).toUInt32 % 65536).toInt32 = xCh p i ∧ 0 ≤ xCh p i ∧ xCh p i < 256 ∧ (xCh p i).toUInt32.toUInt16.toUInt32.toInt32 = xCh p i := xSb_ok (p - 1000) (by omega) i hi
theorem xCh_rc {p i : Nat} (hp : 1000 ≤ p ∧ p < 1013) (hi : i < xCl p) : xRc 2 (xCh p i) := congrArg Value.int (xCh_ok hp hi).2.2.2
theorem xCl_le {p : Nat} (hp : 1000 ≤ p ∧ p < 1013) : xCl p ≤ 37 := xSn_lt (p - 1000) (by omega)

theorem ge0 (i : Nat) (h : i < 2147483648 := by omega) : (0 : Int32) ≤ io i := (io_le (a := 0) (by omega) h).mpr (Nat.zero_le _)

set_option maxRecDepth 10000 in
theorem s_charAt1 {xs : xSc} {m : Nat} {h : xHp} {Q : Value → xHp → Prop} {p i : Nat} (hp : 1000 ≤ p ∧ p < 1013) (hi : i < xCl p) (hm : 3 ≤ m) (hQ : Q (.int (xCh p i)) h) : M xs m xi_J1_charAt_3b067 [.ref (p + 1000), .int (io i)] h Q := by
  obtain ⟨m, rfl⟩ : ∃ k, m = k + 1 := ⟨m - 1, by omega⟩
  have hp2 : 2000 ≤ p + 1000 ∧ p + 1000 < 2013 := by omega
  have h37 := xCl_le hp
  have hj : i < 2147483648 := by omega
  have hlt : io i < io (xSn.getD (p + 1000 - 2000) 0) := by
    rw [show p + 1000 - 2000 = p - 1000 by omega]
    exact (io_lt hj (show xCl p < 2147483648 by omega)).mpr hi
  have eC : (((xSb.getD (p + 1000 - 2000) []).getD (io i).toNatClampNeg 0 &&& 255).toUInt32 % 65536).toInt32 = xCh p i := by
    rw [io_nat hj, show p + 1000 - 2000 = p - 1000 by omega]
    exact (xCh_ok hp hi).1
  refine M_go (ls := [_, _]) (ml := 2) rfl rfl rfl (zl rfl) rfl ?_
  refine r_iload_n rfl ?_
  refine r_aload_n rfl ?_
  refine r_alenK rfl hp2 ?_
  refine r_static (vs := [_, _]) (by decide) (zl rfl) rfl rfl (zl rfl) (Nat.le_refl _) rfl ?_
  refine s_chk0 (ge0 _) hlt (by omega) ?_
  refine r_aload_n rfl ?_
  refine r_iload_n rfl ?_
  refine r_baloadK rfl hp2 (by rw [show p + 1000 - 2000 = p - 1000 by omega]; exact vp_io hi (show xCl p ≤ 1000 by omega)) ?_
  refine r_sipush ?_
  refine r_iand ?_
  refine r_i2c ?_
  refine r_iret rfl (by rw [eC]; exact xCh_rc hp hi) ?_
  refine qi hQ ?_
  exact eC.symm

set_option maxRecDepth 10000 in
theorem s_charAt {xs : xSc} {m : Nat} {h : xHp} {Q : Value → xHp → Prop} {p i : Nat} (hp : 1000 ≤ p ∧ p < 1013) (hi : i < xCl p) (hm : 4 ≤ m) (hQ : Q (.int (xCh p i)) h) : M xs m xi_J0_charAt_5068e [.ref p, .int (io i)] h Q := by
  obtain ⟨m, rfl⟩ : ∃ k, m = k + 1 := ⟨m - 1, by omega⟩
  refine M_go (ls := [_, _]) (ml := 2) rfl rfl rfl (zl rfl) rfl ?_
  refine r_aload_n rfl ?_
  refine r_virtual (vs := []) (as := []) (by decide) (zl rfl) rfl rfl (zl rfl) (Nat.le_refl _) (Or.inr (Or.inl ⟨rfl, hp.1, hp.2⟩)) ?_
  refine s_isLatin1 hp (by omega) ?_
  refine r_if_eq (fun c_4 => ?_) (fun c_4 => ?_)
  · have c_4 := (n_eq (a := 1) (b := 0) rfl rfl (by omega) (by omega)).mp c_4
    exact absurd c_4 (by decide)
  · have c_4 := (not_congr (n_eq (a := 1) (b := 0) rfl rfl (by omega) (by omega))).mp c_4
    refine r_aload_n rfl ?_
    refine r_getS rfl rfl hp ?_
    refine r_iload_n rfl ?_
    refine r_static (vs := [_, _]) (by decide) (zl rfl) rfl rfl (zl rfl) (Nat.le_refl _) rfl ?_
    refine s_charAt1 hp hi (by omega) ?_
    refine r_iret rfl (xCh_rc hp hi) ?_
    exact hQ
