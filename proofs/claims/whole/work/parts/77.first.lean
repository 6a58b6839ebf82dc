/-! told heats: the first other, and what tells -/

/-- the first minute from m on where h isn't g -/
def fo (h g : Nat → Int32) : Nat → Nat → Int32
  | 0, _ => -1
  | d + 1, m => if h m = g m then fo h g d (m + 1) else io m
theorem fo_y {h g : Nat → Int32} {d m : Nat} (hd : 0 < d) (e : h m = g m) : fo h g d m = fo h g (d - 1) (m + 1) := by
  obtain ⟨k, rfl⟩ : ∃ k, d = k + 1 := ⟨d - 1, by omega⟩
  exact if_pos e
theorem fo_n {h g : Nat → Int32} {d m : Nat} (hd : 0 < d) (e : ¬ h m = g m) : fo h g d m = io m := by
  obtain ⟨k, rfl⟩ : ∃ k, d = k + 1 := ⟨d - 1, by omega⟩
  exact if_neg e
theorem fo_c {h g k : Nat → Int32} : ∀ {d m : Nat}, (∀ j, m ≤ j → j < m + d → g j = k j) → fo h g d m = fo h k d m
  | 0, _, _ => rfl
  | d + 1, m, e => by rw [fo, fo, e m (by omega) (by omega), fo_c (d := d) (m := m + 1) (fun j h1 h2 => e j (by omega) (by omega))]
theorem ht_c {ru : Ru} {X Y : Pot} (h : pEq X Y) : ht ru X = ht ru Y := funext fun m => by unfold ht; rw [hri_c h m]

set_option maxRecDepth 10000 in
theorem s_cfo_1 {xs : xSc} {m : Nat} {I : Nat → Nat → Int32} {L : Nat → Nat → Int64} {Q : Value → xHp → Prop} (hm : 5 ≤ m) {n t e0 e1 e2 s z : Nat} (h5 : n ≤ 5) (hn : I 1 3 = io n) (h6 : t < 6) (hr : I 1 2 = io t) (hE : okE (I (tq t + 2)) e0 e1 e2) (hs : s < 4) (hz6 : z ≤ 6) (hz : I (53 + 2 * s) 1 = io z) (hQ : ∀ J, oF 19 28 I J → Q (.int (fo (ht (cT t I) (cP 1 n I)) (I (54 + 2 * s)) z 0)) (Hp J L)) : M xs m xi_X6_firstOther [.ref 0, .ref 1, .ref (53 + 2 * s)] (Hp I L) Q := by
  obtain ⟨m, rfl⟩ : ∃ k, m = k + 1 := ⟨m - 1, by omega⟩
  have hq : TxP (tq t) := txP t h6
  have hqq : 35 ≤ tq t := Nat.le_add_right _ _
  have hq52 : tq t ≤ 50 := by unfold tq; omega
  have key : ∀ d a, a + d = z → fo (ht (cT t I) (cP 1 n I)) (I (54 + 2 * s)) z 0 = fo (ht (cT t I) (cP 1 n I)) (I (54 + 2 * s)) d a → ∀ J : Mem, (oF 19 28 I J ∧ cH n J (hrs (cT t I) (cP 1 n I) a)) → E xs m xi_X6_firstOther 82 Q 10 [.ref 0, .ref 1, .ref (53 + 2 * s), .int (io a)] [] (82, J, L, xF0) := by
    intro d
    induction d using Nat.strongRecOn with
    | _ d ih =>
    intro a hd hr0 J hJ
    refine E_go 1 rfl ?_
    refine r_iload_n rfl ?_
    refine r_bipush ?_
    refine r_icmp_ge (fun c_13 => ?_) (fun c_13 => ?_)
    · have c_13 := (n_le (a := 6) (b := a) rfl rfl (by omega) (by omega)).mp c_13
      refine E_go 3 rfl ?_
      refine r_iconst ?_
      refine r_iret rfl trivial ?_
      rw [hr0, show d = 0 by omega] at hQ
      exact hQ _ hJ.1
    · have c_13 := (not_congr (n_le (a := 6) (b := a) rfl rfl (by omega) (by omega))).mp c_13
      refine r_iload_n rfl ?_
      refine r_aload_n rfl ?_
      refine r_getI (by decide) rfl (shK s hs).1 (shK s hs).2.1 ((congrFun (hJ.1 (53 + 2 * s) (by omega)) 1).trans hz) ?_
      refine r_icmp_ge (fun c_21 => ?_) (fun c_21 => ?_)
      · have c_21 := (n_le (a := z) (b := a) rfl rfl (by omega) (by omega)).mp c_21
        refine E_go 3 rfl ?_
        refine r_iconst ?_
        refine r_iret rfl trivial ?_
        rw [hr0, show d = 0 by omega] at hQ
        exact hQ _ hJ.1
      · have c_21 := (not_congr (n_le (a := z) (b := a) rfl rfl (by omega) (by omega))).mp c_21
        refine r_aload_n rfl ?_
        refine r_getA (q := 19) (by decide) rfl rfl (by decide) ?_
        refine r_iload_n rfl ?_
        refine r_aload_n rfl ?_
        refine r_aload_n rfl ?_
        refine r_getA (q := 33) (by decide) rfl rfl (by decide) ?_
        refine r_aload_n rfl ?_
        refine r_getI (by decide) rfl rfl (by decide) ((congrFun (hJ.1 1 (by omega)) 2).trans hr) ?_
        refine r_aaload (by decide) (by decide) (ixE rfl (show t < 6 by omega) (by decide)) (tx33 t h6) ?_
        refine r_virtual (vs := []) (as := [_, _, _]) (by decide) (zl rfl) rfl rfl (zl rfl) (Nat.le_refl _) (Or.inr (Or.inr ⟨zt rfl, rfl, zt rfl⟩)) ?_
        have ha6 : a < 6 := by omega
        refine s_passes_1 (by omega) (u := a) (n := n) (q := tq t) (e0 := e0) (e1 := e1) (e2 := e2) (by omega) h5 hq (by rw [hJ.1 (tq t + 2) (by omega)]; exact hE) hJ.2 (fun J2 k1 k2 k3 k4 k5 k6 => ?_)
        rw [hJ.1 (tq t + 1) (by omega), hJ.1 (tq t + 2) (by omega), hJ.1 2 (by omega), hJ.1 3 (by omega), hJ.1 5 (by omega)] at k2
        have o2 := hJ.1.trans k1.1
        refine r_aload_n rfl ?_
        refine r_getA (q := 19) (by decide) rfl rfl (by decide) ?_
        refine r_getI (by decide) rfl rfl (by decide) (k2.1.trans (show _ = (ht (cT t I) (cP 1 n I)) a from rfl)) ?_
        refine r_aload_n rfl ?_
        refine r_getA (q := (54 + 2 * s)) (by decide) (shf hs) (shK s hs).1 (shK s hs).2.1 ?_
        refine r_iload_n rfl ?_
        refine r_iaload (by decide) (shK s hs).2.2.2.2.1 (shK s hs).2.2.2.2.2.2 (ixQ rfl (show a < 40 by omega) (by decide) (shK s hs).2.2.2.2.2.1) (congrFun (o2 (54 + 2 * s) (by omega)) a) ?_
        refine r_icmp_eq (fun c_55 => ?_) (fun c_55 => ?_)
        · refine E_go 2 rfl ?_
          refine r_iincN (y := io (a + 1)) (ls' := [_, _, _, _]) rfl (zt rfl) (n_add (a := a) (b := 1) rfl rfl) rfl ?_
          refine r_goto ?_
          exact ih (d - 1) (by omega) (a + 1) (by omega) (hr0.trans (fo_y (by omega) c_55)) _ ⟨o2, k2⟩
        · refine r_iload_n rfl ?_
          refine r_iret rfl trivial ?_
          rw [hr0, fo_n (by omega) c_55] at hQ
          exact hQ _ o2
  refine M_go (ls := [_, _, _, _]) (ml := 4) rfl rfl rfl (zl rfl) rfl ?_
  refine r_aload_n rfl ?_
  refine r_getA (q := 19) (by decide) rfl rfl (by decide) ?_
  refine r_aload_n rfl ?_
  refine r_virtual (vs := []) (as := [_]) (by decide) (zl rfl) rfl rfl (zl rfl) (Nat.le_refl _) (Or.inr (Or.inr ⟨zt rfl, rfl, zt rfl⟩)) ?_
  refine s_turns_1 (by omega) (fun J1 t1 t2 t3 t4 => ?_)
  refine r_iconst ?_
  refine r_istore_n (ls' := [_, _, _, _]) (zt rfl) rfl ?_
  refine r_nil ?_
  refine key z 0 (by omega) rfl _ ⟨t1, ⟨t2, t3.trans hn, fun b hb => ?_, fun b hb => (t4 b (by omega)).2.1, fun b hb => (t4 b (by omega)).2.2⟩⟩
  rw [(t4 b (by omega)).1]
  exact (cl_at (n := n) hb).symm

set_option maxRecDepth 10000 in
theorem s_cfo_13 {xs : xSc} {m : Nat} {I : Nat → Nat → Int32} {L : Nat → Nat → Int64} {Q : Value → xHp → Prop} (hm : 5 ≤ m) {n t e0 e1 e2 s z : Nat} (h5 : n ≤ 5) (hn : I 13 3 = io n) (h6 : t < 6) (hr : I 13 2 = io t) (hE : okE (I (tq t + 2)) e0 e1 e2) (hs : s < 4) (hz6 : z ≤ 6) (hz : I (53 + 2 * s) 1 = io z) (hQ : ∀ J, oF 19 28 I J → Q (.int (fo (ht (cT t I) (cP 13 n I)) (I (54 + 2 * s)) z 0)) (Hp J L)) : M xs m xi_X6_firstOther [.ref 0, .ref 13, .ref (53 + 2 * s)] (Hp I L) Q := by
  obtain ⟨m, rfl⟩ : ∃ k, m = k + 1 := ⟨m - 1, by omega⟩
  have hq : TxP (tq t) := txP t h6
  have hqq : 35 ≤ tq t := Nat.le_add_right _ _
  have hq52 : tq t ≤ 50 := by unfold tq; omega
  have key : ∀ d a, a + d = z → fo (ht (cT t I) (cP 13 n I)) (I (54 + 2 * s)) z 0 = fo (ht (cT t I) (cP 13 n I)) (I (54 + 2 * s)) d a → ∀ J : Mem, (oF 19 28 I J ∧ cH n J (hrs (cT t I) (cP 13 n I) a)) → E xs m xi_X6_firstOther 82 Q 10 [.ref 0, .ref 13, .ref (53 + 2 * s), .int (io a)] [] (82, J, L, xF0) := by
    intro d
    induction d using Nat.strongRecOn with
    | _ d ih =>
    intro a hd hr0 J hJ
    refine E_go 1 rfl ?_
    refine r_iload_n rfl ?_
    refine r_bipush ?_
    refine r_icmp_ge (fun c_13 => ?_) (fun c_13 => ?_)
    · have c_13 := (n_le (a := 6) (b := a) rfl rfl (by omega) (by omega)).mp c_13
      refine E_go 3 rfl ?_
      refine r_iconst ?_
      refine r_iret rfl trivial ?_
      rw [hr0, show d = 0 by omega] at hQ
      exact hQ _ hJ.1
    · have c_13 := (not_congr (n_le (a := 6) (b := a) rfl rfl (by omega) (by omega))).mp c_13
      refine r_iload_n rfl ?_
      refine r_aload_n rfl ?_
      refine r_getI (by decide) rfl (shK s hs).1 (shK s hs).2.1 ((congrFun (hJ.1 (53 + 2 * s) (by omega)) 1).trans hz) ?_
      refine r_icmp_ge (fun c_21 => ?_) (fun c_21 => ?_)
      · have c_21 := (n_le (a := z) (b := a) rfl rfl (by omega) (by omega)).mp c_21
        refine E_go 3 rfl ?_
        refine r_iconst ?_
        refine r_iret rfl trivial ?_
        rw [hr0, show d = 0 by omega] at hQ
        exact hQ _ hJ.1
      · have c_21 := (not_congr (n_le (a := z) (b := a) rfl rfl (by omega) (by omega))).mp c_21
        refine r_aload_n rfl ?_
        refine r_getA (q := 19) (by decide) rfl rfl (by decide) ?_
        refine r_iload_n rfl ?_
        refine r_aload_n rfl ?_
        refine r_aload_n rfl ?_
        refine r_getA (q := 33) (by decide) rfl rfl (by decide) ?_
        refine r_aload_n rfl ?_
        refine r_getI (by decide) rfl rfl (by decide) ((congrFun (hJ.1 13 (by omega)) 2).trans hr) ?_
        refine r_aaload (by decide) (by decide) (ixE rfl (show t < 6 by omega) (by decide)) (tx33 t h6) ?_
        refine r_virtual (vs := []) (as := [_, _, _]) (by decide) (zl rfl) rfl rfl (zl rfl) (Nat.le_refl _) (Or.inr (Or.inr ⟨zt rfl, rfl, zt rfl⟩)) ?_
        have ha6 : a < 6 := by omega
        refine s_passes_13 (by omega) (u := a) (n := n) (q := tq t) (e0 := e0) (e1 := e1) (e2 := e2) (by omega) h5 hq (by rw [hJ.1 (tq t + 2) (by omega)]; exact hE) hJ.2 (fun J2 k1 k2 k3 k4 k5 k6 => ?_)
        rw [hJ.1 (tq t + 1) (by omega), hJ.1 (tq t + 2) (by omega), hJ.1 14 (by omega), hJ.1 15 (by omega), hJ.1 17 (by omega)] at k2
        have o2 := hJ.1.trans k1.1
        refine r_aload_n rfl ?_
        refine r_getA (q := 19) (by decide) rfl rfl (by decide) ?_
        refine r_getI (by decide) rfl rfl (by decide) (k2.1.trans (show _ = (ht (cT t I) (cP 13 n I)) a from rfl)) ?_
        refine r_aload_n rfl ?_
        refine r_getA (q := (54 + 2 * s)) (by decide) (shf hs) (shK s hs).1 (shK s hs).2.1 ?_
        refine r_iload_n rfl ?_
        refine r_iaload (by decide) (shK s hs).2.2.2.2.1 (shK s hs).2.2.2.2.2.2 (ixQ rfl (show a < 40 by omega) (by decide) (shK s hs).2.2.2.2.2.1) (congrFun (o2 (54 + 2 * s) (by omega)) a) ?_
        refine r_icmp_eq (fun c_55 => ?_) (fun c_55 => ?_)
        · refine E_go 2 rfl ?_
          refine r_iincN (y := io (a + 1)) (ls' := [_, _, _, _]) rfl (zt rfl) (n_add (a := a) (b := 1) rfl rfl) rfl ?_
          refine r_goto ?_
          exact ih (d - 1) (by omega) (a + 1) (by omega) (hr0.trans (fo_y (by omega) c_55)) _ ⟨o2, k2⟩
        · refine r_iload_n rfl ?_
          refine r_iret rfl trivial ?_
          rw [hr0, fo_n (by omega) c_55] at hQ
          exact hQ _ o2
  refine M_go (ls := [_, _, _, _]) (ml := 4) rfl rfl rfl (zl rfl) rfl ?_
  refine r_aload_n rfl ?_
  refine r_getA (q := 19) (by decide) rfl rfl (by decide) ?_
  refine r_aload_n rfl ?_
  refine r_virtual (vs := []) (as := [_]) (by decide) (zl rfl) rfl rfl (zl rfl) (Nat.le_refl _) (Or.inr (Or.inr ⟨zt rfl, rfl, zt rfl⟩)) ?_
  refine s_turns_13 (by omega) (fun J1 t1 t2 t3 t4 => ?_)
  refine r_iconst ?_
  refine r_istore_n (ls' := [_, _, _, _]) (zt rfl) rfl ?_
  refine r_nil ?_
  refine key z 0 (by omega) rfl _ ⟨t1, ⟨t2, t3.trans hn, fun b hb => ?_, fun b hb => (t4 b (by omega)).2.1, fun b hb => (t4 b (by omega)).2.2⟩⟩
  rw [(t4 b (by omega)).1]
  exact (cl_at (n := n) hb).symm
