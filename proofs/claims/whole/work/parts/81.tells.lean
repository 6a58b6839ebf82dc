/-! calls: tells -/

/-- all but place q (and slot e of the model) is as it was, or scratch -/
def fQ (q e : Nat) (I J : Mem) : Prop := (∀ p, ¬ ((13 ≤ p ∧ p ≤ 31) ∨ p = 61 ∨ (68 ≤ p ∧ p ≤ 75) ∨ p = q) → J p = I p) ∧ J 29 0 = I 29 0 ∧ ∀ k, ¬ ((13 ≤ k ∧ k ≤ 28) ∨ k = 36 ∨ k = 37 ∨ k = e) → J 61 k = I 61 k
section
variable {q e i : Nat} {I J K : Mem} {v : Int32}
theorem fQ.refl : fQ q e I I := ⟨fun _ _ => rfl, rfl, fun _ _ => rfl⟩
theorem fQ.g (h : fQ q e I J) (g : fS J K) : fQ q e I K := ⟨fun p hp => by rw [g.1 p (by omega)]; exact h.1 p hp, by rw [g.2.1]; exact h.2.1, fun k hk => by rw [g.2.2 k (by omega)]; exact h.2.2 k hk⟩
theorem fQ.up (h : fQ q e I J) (hq : 62 ≤ q) : fQ q e I (up2 J q i v) := ⟨fun p hp => by rw [up2_q (by omega)]; exact h.1 p hp, by rw [up2_q (by omega)]; exact h.2.1, fun k hk => by rw [up2_q (by omega)]; exact h.2.2 k hk⟩
theorem fQ.u4 (h : fQ 61 4 I J) : fQ 61 4 I (up2 J 61 4 v) := ⟨fun p hp => by rw [up2_q (by omega)]; exact h.1 p hp, by rw [up2_q (by omega)]; exact h.2.1, fun k hk => by rw [up2_k (by omega)]; exact h.2.2 k hk⟩
/-- only cell i of place q may differ -/
def PW (q i : Nat) (I J : Mem) : Prop := fQ q 13 I J ∧ ∀ j, ¬ j = i → J q j = I q j
theorem PW.refl : PW q i I I := ⟨fQ.refl, fun _ _ => rfl⟩
theorem PW.g (h : PW q i I J) (g : gF J K) (hq : 62 ≤ q ∧ q ≤ 67) : PW q i I K := ⟨h.1.g g.fS, fun j hj => by rw [g.1 q (by omega)]; exact h.2 j hj⟩
theorem PW.up (h : PW q i I J) (hq : 62 ≤ q) : PW q i I (up2 J q i v) := ⟨h.1.up hq, fun j hj => by rw [up2_k hj]; exact h.2 j hj⟩
theorem PW.fS (h : PW q i I J) (hq : J q i = I q i) : fS I J := by
  refine ⟨fun p hp => ?_, h.1.2.1, fun k hk => h.1.2.2 k (by omega)⟩
  by_cases c : p = q
  · subst c
    funext j
    by_cases d : j = i
    · subst d; exact hq
    · exact h.2 j d
  · exact h.1.1 p (by omega)
theorem f4_fS (h : fQ 61 4 I J) (h4 : J 61 4 = I 61 4) : fS I J := ⟨fun p hp => h.1 p (by omega), h.2.1, fun k hk => by
  by_cases c : k = 4
  · subst c; exact h4
  · exact h.2.2 k (by omega)⟩
end

set_option maxRecDepth 10000 in
theorem mLy_2 {xs : xSc} {m : Nat} (hm : 1 ≤ m) {a : Nat} {v : Int32} (ha : a < 5) {I0 : Mem} : mLy xs m 2 (io a) v (PW 66 (3 * a + 2 - 2) I0) (fun J => (PW 66 (3 * a + 2 - 2) I0) J ∧ J 66 (3 * a + 2 - 2) = v) := by
  intro J L Q hP hQ
  obtain ⟨m, rfl⟩ : ∃ k, m = k + 1 := ⟨m - 1, by omega⟩
  refine M_go (ls := [_, _, _, _]) (ml := 4) rfl rfl rfl (zl rfl) rfl ?_
  refine r_iload_n rfl ?_
  refine r_if_ne (fun c_1 => ?_) (fun c_1 => ?_)
  · have c_1 := (not_congr (n_eq (a := 2) (b := 0) rfl rfl (by omega) (by omega))).mp c_1
    refine E_go 1 rfl ?_
    refine r_iload_n rfl ?_
    refine r_iconst ?_
    refine r_icmp_ne (fun c_14 => ?_) (fun c_14 => ?_)
    · have c_14 := (not_congr (n_eq (a := 2) (b := 1) rfl rfl (by omega) (by omega))).mp c_14
      refine E_go 2 rfl ?_
      refine r_iload_n rfl ?_
      refine r_iconst ?_
      refine r_icmp_ge (fun c_27 => ?_) (fun c_27 => ?_)
      · have c_27 := (n_le (a := 5) (b := 2) rfl rfl (by omega) (by omega)).mp c_27
        omega
      · have c_27 := (not_congr (n_le (a := 5) (b := 2) rfl rfl (by omega) (by omega))).mp c_27
        refine r_aload_n rfl ?_
        refine r_getA (q := 66) (by decide) rfl rfl (by decide) ?_
        refine r_iconst ?_
        refine r_iload_n rfl ?_
        refine r_imul ?_
        refine r_iload_n rfl ?_
        refine r_iadd ?_
        refine r_iconst ?_
        refine r_isub ?_
        refine r_iload_n rfl ?_
        refine r_iastore rfl (by decide) (ixE (n_sub (a := ((3 * a) + 2)) (b := 2) (n_add (a := (3 * a)) (b := 2) (n_mul (a := 3) (b := a) rfl rfl) rfl) rfl (by omega)) (show (((3 * a) + 2) - 2) < 15 by omega) (by decide)) ?_
        refine r_goto ?_
        refine E_go 5 rfl ?_
        refine r_ret rfl ?_
        exact hQ _ ⟨hP.up (by omega), up2_at⟩
    · have c_14 := (n_eq (a := 2) (b := 1) rfl rfl (by omega) (by omega)).mp c_14
      omega
  · have c_1 := (n_eq (a := 2) (b := 0) rfl rfl (by omega) (by omega)).mp c_1
    omega

set_option maxRecDepth 10000 in
theorem mLy_3 {xs : xSc} {m : Nat} (hm : 1 ≤ m) {a : Nat} {v : Int32} (ha : a < 5) {I0 : Mem} : mLy xs m 3 (io a) v (PW 66 (3 * a + 3 - 2) I0) (fun J => (PW 66 (3 * a + 3 - 2) I0) J ∧ J 66 (3 * a + 3 - 2) = v) := by
  intro J L Q hP hQ
  obtain ⟨m, rfl⟩ : ∃ k, m = k + 1 := ⟨m - 1, by omega⟩
  refine M_go (ls := [_, _, _, _]) (ml := 4) rfl rfl rfl (zl rfl) rfl ?_
  refine r_iload_n rfl ?_
  refine r_if_ne (fun c_1 => ?_) (fun c_1 => ?_)
  · have c_1 := (not_congr (n_eq (a := 3) (b := 0) rfl rfl (by omega) (by omega))).mp c_1
    refine E_go 1 rfl ?_
    refine r_iload_n rfl ?_
    refine r_iconst ?_
    refine r_icmp_ne (fun c_14 => ?_) (fun c_14 => ?_)
    · have c_14 := (not_congr (n_eq (a := 3) (b := 1) rfl rfl (by omega) (by omega))).mp c_14
      refine E_go 2 rfl ?_
      refine r_iload_n rfl ?_
      refine r_iconst ?_
      refine r_icmp_ge (fun c_27 => ?_) (fun c_27 => ?_)
      · have c_27 := (n_le (a := 5) (b := 3) rfl rfl (by omega) (by omega)).mp c_27
        omega
      · have c_27 := (not_congr (n_le (a := 5) (b := 3) rfl rfl (by omega) (by omega))).mp c_27
        refine r_aload_n rfl ?_
        refine r_getA (q := 66) (by decide) rfl rfl (by decide) ?_
        refine r_iconst ?_
        refine r_iload_n rfl ?_
        refine r_imul ?_
        refine r_iload_n rfl ?_
        refine r_iadd ?_
        refine r_iconst ?_
        refine r_isub ?_
        refine r_iload_n rfl ?_
        refine r_iastore rfl (by decide) (ixE (n_sub (a := ((3 * a) + 3)) (b := 2) (n_add (a := (3 * a)) (b := 3) (n_mul (a := 3) (b := a) rfl rfl) rfl) rfl (by omega)) (show (((3 * a) + 3) - 2) < 15 by omega) (by decide)) ?_
        refine r_goto ?_
        refine E_go 5 rfl ?_
        refine r_ret rfl ?_
        exact hQ _ ⟨hP.up (by omega), up2_at⟩
    · have c_14 := (n_eq (a := 3) (b := 1) rfl rfl (by omega) (by omega)).mp c_14
      omega
  · have c_1 := (n_eq (a := 3) (b := 0) rfl rfl (by omega) (by omega)).mp c_1
    omega

set_option maxRecDepth 10000 in
theorem mLy_4 {xs : xSc} {m : Nat} (hm : 1 ≤ m) {a : Nat} {v : Int32} (ha : a < 5) {I0 : Mem} : mLy xs m 4 (io a) v (PW 66 (3 * a + 4 - 2) I0) (fun J => (PW 66 (3 * a + 4 - 2) I0) J ∧ J 66 (3 * a + 4 - 2) = v) := by
  intro J L Q hP hQ
  obtain ⟨m, rfl⟩ : ∃ k, m = k + 1 := ⟨m - 1, by omega⟩
  refine M_go (ls := [_, _, _, _]) (ml := 4) rfl rfl rfl (zl rfl) rfl ?_
  refine r_iload_n rfl ?_
  refine r_if_ne (fun c_1 => ?_) (fun c_1 => ?_)
  · have c_1 := (not_congr (n_eq (a := 4) (b := 0) rfl rfl (by omega) (by omega))).mp c_1
    refine E_go 1 rfl ?_
    refine r_iload_n rfl ?_
    refine r_iconst ?_
    refine r_icmp_ne (fun c_14 => ?_) (fun c_14 => ?_)
    · have c_14 := (not_congr (n_eq (a := 4) (b := 1) rfl rfl (by omega) (by omega))).mp c_14
      refine E_go 2 rfl ?_
      refine r_iload_n rfl ?_
      refine r_iconst ?_
      refine r_icmp_ge (fun c_27 => ?_) (fun c_27 => ?_)
      · have c_27 := (n_le (a := 5) (b := 4) rfl rfl (by omega) (by omega)).mp c_27
        omega
      · have c_27 := (not_congr (n_le (a := 5) (b := 4) rfl rfl (by omega) (by omega))).mp c_27
        refine r_aload_n rfl ?_
        refine r_getA (q := 66) (by decide) rfl rfl (by decide) ?_
        refine r_iconst ?_
        refine r_iload_n rfl ?_
        refine r_imul ?_
        refine r_iload_n rfl ?_
        refine r_iadd ?_
        refine r_iconst ?_
        refine r_isub ?_
        refine r_iload_n rfl ?_
        refine r_iastore rfl (by decide) (ixE (n_sub (a := ((3 * a) + 4)) (b := 2) (n_add (a := (3 * a)) (b := 4) (n_mul (a := 3) (b := a) rfl rfl) rfl) rfl (by omega)) (show (((3 * a) + 4) - 2) < 15 by omega) (by decide)) ?_
        refine r_goto ?_
        refine E_go 5 rfl ?_
        refine r_ret rfl ?_
        exact hQ _ ⟨hP.up (by omega), up2_at⟩
    · have c_14 := (n_eq (a := 4) (b := 1) rfl rfl (by omega) (by omega)).mp c_14
      omega
  · have c_1 := (n_eq (a := 4) (b := 0) rfl rfl (by omega) (by omega)).mp c_1
    omega

set_option maxRecDepth 10000 in
theorem mLy_5 {xs : xSc} {m : Nat} (hm : 1 ≤ m) {a : Nat} {v : Int32} (ha : a < 5) {I0 : Mem} : mLy xs m 5 (io a) v (PW 65 a I0) (fun J => (PW 65 a I0) J ∧ J 65 a = v) := by
  intro J L Q hP hQ
  obtain ⟨m, rfl⟩ : ∃ k, m = k + 1 := ⟨m - 1, by omega⟩
  refine M_go (ls := [_, _, _, _]) (ml := 4) rfl rfl rfl (zl rfl) rfl ?_
  refine r_iload_n rfl ?_
  refine r_if_ne (fun c_1 => ?_) (fun c_1 => ?_)
  · have c_1 := (not_congr (n_eq (a := 5) (b := 0) rfl rfl (by omega) (by omega))).mp c_1
    refine E_go 1 rfl ?_
    refine r_iload_n rfl ?_
    refine r_iconst ?_
    refine r_icmp_ne (fun c_14 => ?_) (fun c_14 => ?_)
    · have c_14 := (not_congr (n_eq (a := 5) (b := 1) rfl rfl (by omega) (by omega))).mp c_14
      refine E_go 2 rfl ?_
      refine r_iload_n rfl ?_
      refine r_iconst ?_
      refine r_icmp_ge (fun c_27 => ?_) (fun c_27 => ?_)
      · have c_27 := (n_le (a := 5) (b := 5) rfl rfl (by omega) (by omega)).mp c_27
        refine E_go 3 rfl ?_
        refine r_iload_n rfl ?_
        refine r_iconst ?_
        refine r_icmp_ne (fun c_48 => ?_) (fun c_48 => ?_)
        · have c_48 := (not_congr (n_eq (a := 5) (b := 5) rfl rfl (by omega) (by omega))).mp c_48
          omega
        · have c_48 := (n_eq (a := 5) (b := 5) rfl rfl (by omega) (by omega)).mp c_48
          refine r_aload_n rfl ?_
          refine r_getA (q := 65) (by decide) rfl rfl (by decide) ?_
          refine r_iload_n rfl ?_
          refine r_iload_n rfl ?_
          refine r_iastore rfl (by decide) (ixE rfl (show a < 5 by omega) (by decide)) ?_
          refine r_goto ?_
          refine E_go 5 rfl ?_
          refine r_ret rfl ?_
          exact hQ _ ⟨hP.up (by omega), up2_at⟩
      · have c_27 := (not_congr (n_le (a := 5) (b := 5) rfl rfl (by omega) (by omega))).mp c_27
        omega
    · have c_14 := (n_eq (a := 5) (b := 1) rfl rfl (by omega) (by omega)).mp c_14
      omega
  · have c_1 := (n_eq (a := 5) (b := 0) rfl rfl (by omega) (by omega)).mp c_1
    omega

set_option maxRecDepth 10000 in
theorem mLy_6 {xs : xSc} {m : Nat} (hm : 1 ≤ m) {a : Nat} {v : Int32} (ha : a < 5) {I0 : Mem} : mLy xs m 6 (io a) v (fQ 61 4 I0) (fun J => (fQ 61 4 I0) J ∧ J 61 4 = v) := by
  intro J L Q hP hQ
  obtain ⟨m, rfl⟩ : ∃ k, m = k + 1 := ⟨m - 1, by omega⟩
  refine M_go (ls := [_, _, _, _]) (ml := 4) rfl rfl rfl (zl rfl) rfl ?_
  refine r_iload_n rfl ?_
  refine r_if_ne (fun c_1 => ?_) (fun c_1 => ?_)
  · have c_1 := (not_congr (n_eq (a := 6) (b := 0) rfl rfl (by omega) (by omega))).mp c_1
    refine E_go 1 rfl ?_
    refine r_iload_n rfl ?_
    refine r_iconst ?_
    refine r_icmp_ne (fun c_14 => ?_) (fun c_14 => ?_)
    · have c_14 := (not_congr (n_eq (a := 6) (b := 1) rfl rfl (by omega) (by omega))).mp c_14
      refine E_go 2 rfl ?_
      refine r_iload_n rfl ?_
      refine r_iconst ?_
      refine r_icmp_ge (fun c_27 => ?_) (fun c_27 => ?_)
      · have c_27 := (n_le (a := 5) (b := 6) rfl rfl (by omega) (by omega)).mp c_27
        refine E_go 3 rfl ?_
        refine r_iload_n rfl ?_
        refine r_iconst ?_
        refine r_icmp_ne (fun c_48 => ?_) (fun c_48 => ?_)
        · have c_48 := (not_congr (n_eq (a := 6) (b := 5) rfl rfl (by omega) (by omega))).mp c_48
          refine E_go 4 rfl ?_
          refine r_aload_n rfl ?_
          refine r_iload_n rfl ?_
          refine r_putI rfl rfl (by decide) ?_
          refine r_nil ?_
          refine E_go 5 rfl ?_
          refine r_ret rfl ?_
          exact hQ _ ⟨hP.u4, up2_at⟩
        · have c_48 := (n_eq (a := 6) (b := 5) rfl rfl (by omega) (by omega)).mp c_48
          omega
      · have c_27 := (not_congr (n_le (a := 5) (b := 6) rfl rfl (by omega) (by omega))).mp c_27
        omega
    · have c_14 := (n_eq (a := 6) (b := 1) rfl rfl (by omega) (by omega)).mp c_14
      omega
  · have c_1 := (n_eq (a := 6) (b := 0) rfl rfl (by omega) (by omega)).mp c_1
    omega

theorem mP_2 {n a : Nat} {h v : Int32} {J K : Mem} (e : K 65 = J 65) (hr : ∀ j, ¬ j = 3 * a + 2 - 2 → K 66 j = J 66 j) (hv : K 66 (3 * a + 2 - 2) = v) : pEq (mP n h K) (wN (mP n h J) a v) :=
  ⟨rfl, rfl, fun b _ => ⟨⟨congrFun e b, (show K 66 (3 * b) = u1 (mNu J) a v b by
    by_cases d : b = a
    · subst d; rw [u1_eq]; exact (congrArg (K 66) (show 3 * b = 3 * b + 2 - 2 by omega)).trans hv
    · rw [u1_ne d]; exact hr _ (by omega))⟩, (hr _ (by omega)), (hr _ (by omega))⟩⟩

theorem mP_3 {n a : Nat} {h v : Int32} {J K : Mem} (e : K 65 = J 65) (hr : ∀ j, ¬ j = 3 * a + 3 - 2 → K 66 j = J 66 j) (hv : K 66 (3 * a + 3 - 2) = v) : pEq (mP n h K) (wS (mP n h J) a v) :=
  ⟨rfl, rfl, fun b _ => ⟨⟨congrFun e b, (hr _ (by omega))⟩, (show K 66 (3 * b + 1) = u1 (mTh J) a v b by
    by_cases d : b = a
    · subst d; rw [u1_eq]; exact (congrArg (K 66) (show 3 * b + 1 = 3 * b + 3 - 2 by omega)).trans hv
    · rw [u1_ne d]; exact hr _ (by omega)), (hr _ (by omega))⟩⟩

theorem mP_4 {n a : Nat} {h v : Int32} {J K : Mem} (e : K 65 = J 65) (hr : ∀ j, ¬ j = 3 * a + 4 - 2 → K 66 j = J 66 j) (hv : K 66 (3 * a + 4 - 2) = v) : pEq (mP n h K) (wP (mP n h J) a v) :=
  ⟨rfl, rfl, fun b _ => ⟨⟨congrFun e b, (hr _ (by omega))⟩, (hr _ (by omega)), (show K 66 (3 * b + 2) = u1 (mPl J) a v b by
    by_cases d : b = a
    · subst d; rw [u1_eq]; exact (congrArg (K 66) (show 3 * b + 2 = 3 * b + 4 - 2 by omega)).trans hv
    · rw [u1_ne d]; exact hr _ (by omega))⟩⟩

theorem mP_5 {n a : Nat} {h v : Int32} {J K : Mem} (e : K 66 = J 66) (hr : ∀ j, ¬ j = a → K 65 j = J 65 j) (hv : K 65 a = v) : pEq (mP n h K) (wK (mP n h J) a v) :=
  ⟨rfl, rfl, fun b _ => ⟨⟨(show K 65 b = u1 (J 65) a v b by
    by_cases d : b = a
    · subst d; rw [u1_eq]; exact hv
    · rw [u1_ne d]; exact hr _ d), congrFun (mNu_g e) b⟩, congrFun (mTh_g e) b, congrFun (mPl_g e) b⟩⟩

theorem mFo_2 {xs : xSc} {m a : Nat} (hm : 65 ≤ m) {n tc r tp s z : Nat} {ru : Ru} {I J0 : Mem} (R : RX n tc r tp I) (hl : rlz r I ru) (f1 : fS I J0) (hs : s < 4) (hz6 : z ≤ 6) (hz : I 80 s = io z) (hg : ∀ j, j < z → I 81 (40 * s + j) = I (54 + 2 * s) j) : ∀ v, v < 10 → mFo xs m s (tfW ru wN (pX n I) a z (I (54 + 2 * s)) v) (fun J => PW 66 (3 * a + 2 - 2) J0 J ∧ J 66 (3 * a + 2 - 2) = io v) (PW 66 (3 * a + 2 - 2) J0) := by
  intro v hv J L Q hP hQ
  have R1 := R.f f1
  have s7 : J 61 7 = J0 61 7 := hP.1.1.2.2 7 (by omega)
  have hX : pEq (mP n (J 61 7) J) (wN (pX n I) a (io v)) := by
    rw [s7]
    exact (mP_2 (hP.1.1.1 65 (by omega)) hP.1.2 hP.2).trans (wN_c (R1.eM f1) a (io v))
  refine s_mfo (X := wN (pX n I) a (io v)) hm ((R1.m (hl.f f1 R.r6)).g (hP.1.1.2.2 12 (by omega)) (hP.1.1.2.2 4 (by omega)) (hP.1.1.1 62 (by omega)) (hP.1.1.1 63 (by omega))) hX (wN_ok R.okX ⟨v, hv, rfl⟩) hs hz6 (by rw [hP.1.1.1 80 (by omega), f1.1 80 (by omega)]; exact hz) (fun K L2 g => ?_)
  have e : tfW ru wN (pX n I) a z (I (54 + 2 * s)) v = fo (ht ru (wN (pX n I) a (io v))) (fun j => J 81 (40 * s + j)) z 0 := by
    unfold tfW
    refine fo_c (fun j _ hj => ?_)
    show _ = J 81 (40 * s + j)
    rw [hP.1.1.1 81 (by omega), f1.1 81 (by omega)]
    exact (hg j (by omega)).symm
  rw [← e]
  exact hQ K L2 (hP.1.g g (by omega))

theorem mFo_3 {xs : xSc} {m a : Nat} (hm : 65 ≤ m) {n tc r tp s z : Nat} {ru : Ru} {I J0 : Mem} (R : RX n tc r tp I) (hl : rlz r I ru) (f1 : fS I J0) (hs : s < 4) (hz6 : z ≤ 6) (hz : I 80 s = io z) (hg : ∀ j, j < z → I 81 (40 * s + j) = I (54 + 2 * s) j) : ∀ v, v < 100 → mFo xs m s (tfW ru wS (pX n I) a z (I (54 + 2 * s)) v) (fun J => PW 66 (3 * a + 3 - 2) J0 J ∧ J 66 (3 * a + 3 - 2) = io v) (PW 66 (3 * a + 3 - 2) J0) := by
  intro v hv J L Q hP hQ
  have R1 := R.f f1
  have s7 : J 61 7 = J0 61 7 := hP.1.1.2.2 7 (by omega)
  have hX : pEq (mP n (J 61 7) J) (wS (pX n I) a (io v)) := by
    rw [s7]
    exact (mP_3 (hP.1.1.1 65 (by omega)) hP.1.2 hP.2).trans (wS_c (R1.eM f1) a (io v))
  refine s_mfo (X := wS (pX n I) a (io v)) hm ((R1.m (hl.f f1 R.r6)).g (hP.1.1.2.2 12 (by omega)) (hP.1.1.2.2 4 (by omega)) (hP.1.1.1 62 (by omega)) (hP.1.1.1 63 (by omega))) hX (wS_ok R.okX ⟨v, hv, rfl⟩) hs hz6 (by rw [hP.1.1.1 80 (by omega), f1.1 80 (by omega)]; exact hz) (fun K L2 g => ?_)
  have e : tfW ru wS (pX n I) a z (I (54 + 2 * s)) v = fo (ht ru (wS (pX n I) a (io v))) (fun j => J 81 (40 * s + j)) z 0 := by
    unfold tfW
    refine fo_c (fun j _ hj => ?_)
    show _ = J 81 (40 * s + j)
    rw [hP.1.1.1 81 (by omega), f1.1 81 (by omega)]
    exact (hg j (by omega)).symm
  rw [← e]
  exact hQ K L2 (hP.1.g g (by omega))

theorem mFo_4 {xs : xSc} {m a : Nat} (hm : 65 ≤ m) {n tc r tp s z : Nat} {ru : Ru} {I J0 : Mem} (R : RX n tc r tp I) (hl : rlz r I ru) (f1 : fS I J0) (hs : s < 4) (hz6 : z ≤ 6) (hz : I 80 s = io z) (hg : ∀ j, j < z → I 81 (40 * s + j) = I (54 + 2 * s) j) : ∀ v, v < 64 → mFo xs m s (tfW ru wP (pX n I) a z (I (54 + 2 * s)) v) (fun J => PW 66 (3 * a + 4 - 2) J0 J ∧ J 66 (3 * a + 4 - 2) = io v) (PW 66 (3 * a + 4 - 2) J0) := by
  intro v hv J L Q hP hQ
  have R1 := R.f f1
  have s7 : J 61 7 = J0 61 7 := hP.1.1.2.2 7 (by omega)
  have hX : pEq (mP n (J 61 7) J) (wP (pX n I) a (io v)) := by
    rw [s7]
    exact (mP_4 (hP.1.1.1 65 (by omega)) hP.1.2 hP.2).trans (wP_c (R1.eM f1) a (io v))
  refine s_mfo (X := wP (pX n I) a (io v)) hm ((R1.m (hl.f f1 R.r6)).g (hP.1.1.2.2 12 (by omega)) (hP.1.1.2.2 4 (by omega)) (hP.1.1.1 62 (by omega)) (hP.1.1.1 63 (by omega))) hX (wP_ok R.okX) hs hz6 (by rw [hP.1.1.1 80 (by omega), f1.1 80 (by omega)]; exact hz) (fun K L2 g => ?_)
  have e : tfW ru wP (pX n I) a z (I (54 + 2 * s)) v = fo (ht ru (wP (pX n I) a (io v))) (fun j => J 81 (40 * s + j)) z 0 := by
    unfold tfW
    refine fo_c (fun j _ hj => ?_)
    show _ = J 81 (40 * s + j)
    rw [hP.1.1.1 81 (by omega), f1.1 81 (by omega)]
    exact (hg j (by omega)).symm
  rw [← e]
  exact hQ K L2 (hP.1.g g (by omega))

theorem mFo_5 {xs : xSc} {m a : Nat} (hm : 65 ≤ m) {n tc r tp s z : Nat} {ru : Ru} {I J0 : Mem} (R : RX n tc r tp I) (hl : rlz r I ru) (f1 : fS I J0) (hs : s < 4) (hz6 : z ≤ 6) (hz : I 80 s = io z) (hg : ∀ j, j < z → I 81 (40 * s + j) = I (54 + 2 * s) j) : ∀ v, v < 6 → mFo xs m s (tfW ru wK (pX n I) a z (I (54 + 2 * s)) v) (fun J => PW 65 a J0 J ∧ J 65 a = io v) (PW 65 a J0) := by
  intro v hv J L Q hP hQ
  have R1 := R.f f1
  have s7 : J 61 7 = J0 61 7 := hP.1.1.2.2 7 (by omega)
  have hX : pEq (mP n (J 61 7) J) (wK (pX n I) a (io v)) := by
    rw [s7]
    exact (mP_5 (hP.1.1.1 66 (by omega)) hP.1.2 hP.2).trans (wK_c (R1.eM f1) a (io v))
  refine s_mfo (X := wK (pX n I) a (io v)) hm ((R1.m (hl.f f1 R.r6)).g (hP.1.1.2.2 12 (by omega)) (hP.1.1.2.2 4 (by omega)) (hP.1.1.1 62 (by omega)) (hP.1.1.1 63 (by omega))) hX (wK_ok R.okX ⟨v, hv, rfl⟩) hs hz6 (by rw [hP.1.1.1 80 (by omega), f1.1 80 (by omega)]; exact hz) (fun K L2 g => ?_)
  have e : tfW ru wK (pX n I) a z (I (54 + 2 * s)) v = fo (ht ru (wK (pX n I) a (io v))) (fun j => J 81 (40 * s + j)) z 0 := by
    unfold tfW
    refine fo_c (fun j _ hj => ?_)
    show _ = J 81 (40 * s + j)
    rw [hP.1.1.1 81 (by omega), f1.1 81 (by omega)]
    exact (hg j (by omega)).symm
  rw [← e]
  exact hQ K L2 (hP.1.g g (by omega))

theorem mFo_6 {xs : xSc} {m : Nat} (hm : 65 ≤ m) {n tc r tp s z : Nat} {I J0 : Mem} (R : RX n tc r tp I) (f1 : fS I J0) (hs : s < 4) (hz6 : z ≤ 6) (hz : I 80 s = io z) (hg : ∀ j, j < z → I 81 (40 * s + j) = I (54 + 2 * s) j) : ∀ v, v < tc → mFo xs m s (tfR I (pX n I) z (I (54 + 2 * s)) v) (fun J => fQ 61 4 J0 J ∧ J 61 4 = io v) (fQ 61 4 J0) := by
  intro v hv J L Q hP hQ
  have R1 := R.f f1
  have hv6 : v < 6 := Nat.lt_of_lt_of_le hv R.t6
  obtain ⟨c, kt1, kt2⟩ := R.2.1.2.2 v hv
  have s7 : J 61 7 = J0 61 7 := hP.1.2.2 7 (by omega)
  have hX : pEq (mP n (J 61 7) J) (pX n I) := by
    rw [s7, mP_g (hP.1.1 65 (by omega)) (hP.1.1 66 (by omega))]
    exact R1.eM f1
  have hM : MC n v (cT v I) J := ⟨⟨(hP.1.2.2 12 (by omega)).trans R1.mn, R.n5, hP.2, hv6⟩, c, mTx_s ((hP.1.1 62 (by omega)).trans (f1.1 62 (by omega))) ((hP.1.1 63 (by omega)).trans (f1.1 63 (by omega))) kt1, cT_eq kt2⟩
  refine s_mfo (X := pX n I) hm hM hX R.okX hs hz6 (by rw [hP.1.1 80 (by omega), f1.1 80 (by omega)]; exact hz) (fun K L2 g => ?_)
  have e : tfR I (pX n I) z (I (54 + 2 * s)) v = fo (ht (cT v I) (pX n I)) (fun j => J 81 (40 * s + j)) z 0 := by
    unfold tfR
    refine fo_c (fun j _ hj => ?_)
    show _ = J 81 (40 * s + j)
    rw [hP.1.1 81 (by omega), f1.1 81 (by omega)]
    exact (hg j (by omega)).symm
  rw [← e]
  exact hQ K L2 (hP.1.g g.fS)
theorem s_tl {xs : xSc} {m : Nat} {Q : Value → xHp → Prop} (hm : 66 ≤ m) {s N k : Nat} {a w old : Int32} {x3 x7 x11 : Int32} {f : Nat → Int32} {P PF : Mem → Prop} {P2 : Nat → Mem → Prop} (hN : N ≤ 100) (hk : k < 70) (hL : ∀ v, v < N → mLy xs m w a (io v) P (P2 v)) (hF2 : ∀ v, v < N → mFo xs m s (f v) (P2 v) P) (hR : mLy xs m w a old P PF) (h11 : x11 = io N - 1) {J : Mem} {L : Nat → Nat → Int64} (hP : P J) (hQ : ∀ J L2, PF J → Q (.int (tRes f N k)) (Hp J L2)) : E xs m xi_X7_tells 82 Q 210 [.ref 61, .int (io s), .int (io k), .int x3, .int a, .int w, .int old, .int x7, .int 0, .int 0, .int (-1), .int x11] [] (82, J, L, xF0) := by
  subst h11
  exact s_tloop hm hN hk hL hF2 hR hQ N (Nat.le_refl N) J L hP 0 0 (-1) (fun _ => by rw [Nat.sub_self]; rfl) (by rw [Nat.sub_self]; rfl) (by rw [Nat.sub_self]; rfl)
