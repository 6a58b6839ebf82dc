/-! the model reads tokens -/

theorem lg_lt {x y : Int64} : lg_cmp x y < 0 ↔ x.toInt < y.toInt := by
  unfold lg_cmp
  by_cases c : x > y
  · rw [if_pos c]
    have c := Int64.lt_iff_toInt_lt.mp c
    exact ⟨fun h => absurd h (by decide), fun h => by omega⟩
  · rw [if_neg c]
    have c := mt Int64.lt_iff_toInt_lt.mpr c
    by_cases e : x = y
    · rw [if_pos e]; subst e
      exact ⟨fun h => absurd h (by decide), fun h => by omega⟩
    · rw [if_neg e]
      have e := mt Int64.toInt_inj.mp e
      exact ⟨fun _ => by omega, fun _ => by decide⟩
theorem lg_gt {x y : Int64} : 0 < lg_cmp x y ↔ y.toInt < x.toInt := by
  unfold lg_cmp
  by_cases c : x > y
  · rw [if_pos c]
    have c := Int64.lt_iff_toInt_lt.mp c
    exact ⟨fun _ => c, fun _ => by decide⟩
  · rw [if_neg c]
    have c := mt Int64.lt_iff_toInt_lt.mpr c
    by_cases e : x = y
    · rw [if_pos e]
      exact ⟨fun h => absurd h (by decide), fun h => by omega⟩
    · rw [if_neg e]
      exact ⟨fun h => absurd h (by decide), fun h => by omega⟩
theorem lg_eq {x y : Int64} : lg_cmp x y = 0 ↔ x = y := by
  unfold lg_cmp
  by_cases c : x > y
  · rw [if_pos c]
    exact ⟨fun h => absurd h (by decide), fun h => by subst h; have c := Int64.lt_iff_toInt_lt.mp c; omega⟩
  · rw [if_neg c]
    by_cases e : x = y
    · rw [if_pos e]; exact ⟨fun _ => e, fun _ => rfl⟩
    · rw [if_neg e]; exact ⟨fun h => absurd h (by decide), fun h => absurd h e⟩
/-- in(x, lo, hi), of ints -/
theorem s_in {xs : xSc} {m : Nat} {h : xHp} {Q : Value → xHp → Prop} {x lo hi : Int32} {X LO HI : Int64} (hm : 1 ≤ m) (hx : X.toInt = x.toInt) (hlo : LO.toInt = lo.toInt) (hhi : HI.toInt = hi.toInt) (hQ : Q (.int (if lo ≤ x ∧ x ≤ hi then 1 else 0)) h) : M xs m xi_X7_in [.long X, .long LO, .long HI] h Q := by
  refine s_X7_in hm ?_
  refine qi hQ ?_
  by_cases c : lo ≤ x ∧ x ≤ hi
  · rw [if_pos c]
    have c1 := le_int.mp c.1
    have c2 := le_int.mp c.2
    rw [if_neg (fun q => by have q := lg_lt.mp q; omega), if_neg (fun q => by have q := lg_gt.mp q; omega)]
  · rw [if_neg c]
    by_cases d : lo ≤ x
    · have d2 : ¬ x ≤ hi := fun q => c ⟨d, q⟩
      have d1 := le_int.mp d
      have d3 := mt le_int.mpr d2
      rw [if_neg (fun q => by have q := lg_lt.mp q; omega), if_pos (lg_gt.mpr (by omega))]
    · have d3 := mt le_int.mpr d
      rw [if_pos (lg_lt.mpr (by omega))]
/-- the bytes of the model's text t -/
def mb (t : Nat) (I : Nat → Nat → Int32) : Nat → Int32 := fun i => I 62 (160 * t + i)
def mby (b : Nat → Int32) (z i : Nat) : Int32 := if i < z then b i else -1
def bOk (b : Nat → Int32) (z : Nat) : Prop := ∀ i, i < z → ∃ k, k < 256 ∧ b i = io k
theorem mby_y {b : Nat → Int32} {z i : Nat} (h : i < z) : mby b z i = b i := if_pos h
theorem mby_n {b : Nat → Int32} {z i : Nat} (h : ¬ i < z) : mby b z i = -1 := if_neg h
theorem mby_neg {b : Nat → Int32} {z i : Nat} (hb : bOk b z) : mby b z i < 0 ↔ ¬ i < z := by
  by_cases c : i < z
  · obtain ⟨k, hk, e⟩ := hb i c
    rw [mby_y c, e]
    exact ⟨fun h => absurd ((io_lt (b := 0) (by omega) (by omega)).mp h) (by omega), fun h => absurd c h⟩
  · rw [mby_n c]
    exact ⟨fun _ => c, fun _ => by decide⟩

set_option maxRecDepth 10000 in
theorem s_byteAt {xs : xSc} {m : Nat} {I : Nat → Nat → Int32} {L : Nat → Nat → Int64} {Q : Value → xHp → Prop} (hm : 1 ≤ m) {t z i : Nat} (ht : t < 6) (h160 : z ≤ 160) (hi : i ≤ 1000) (hf : I 61 19 = io (160 * t)) (hz : I 61 20 = io z) (hQ : Q (.int (mby (mb t I) z i)) (Hp I L)) : M xs m xi_X7_byteAt [.ref 61, .int (io i)] (Hp I L) Q := by
  obtain ⟨m, rfl⟩ : ∃ k, m = k + 1 := ⟨m - 1, by omega⟩
  refine M_go (ls := [_, _]) (ml := 2) rfl rfl rfl (zl rfl) rfl ?_
  refine r_iload_n rfl ?_
  refine r_aload_n rfl ?_
  refine r_getI (by decide) rfl rfl (by decide) hz ?_
  refine r_icmp_ge (fun c_5 => ?_) (fun c_5 => ?_)
  · have c_5 := (n_le (a := z) (b := i) rfl rfl (by omega) (by omega)).mp c_5
    refine E_go 1 rfl ?_
    refine r_iconst ?_
    refine r_nil ?_
    refine E_go 2 rfl ?_
    refine r_iret rfl trivial ?_
    exact qi hQ (mby_n (by omega))
  · have c_5 := (not_congr (n_le (a := z) (b := i) rfl rfl (by omega) (by omega))).mp c_5
    have c_5 := Nat.lt_of_not_le c_5
    refine r_aload_n rfl ?_
    refine r_getA (q := 62) (by decide) rfl rfl (by decide) ?_
    refine r_aload_n rfl ?_
    refine r_getI (by decide) rfl rfl (by decide) hf ?_
    refine r_iload_n rfl ?_
    refine r_iadd ?_
    refine r_iaload (by decide) rfl (by decide) (ixE (n_add (a := (160 * t)) (b := i) rfl rfl) (show ((160 * t) + i) < 960 by omega) (by decide)) rfl ?_
    refine r_goto ?_
    refine E_go 2 rfl ?_
    refine r_iret rfl trivial ?_
    exact qi hQ (mby_y c_5)

/-- a token's sort, as the model tells it -/
def tcl (b : Nat → Int32) (z s : Nat) : Nat := if z ≤ s then 0 else if isL (b s) = true then 1 else if isD (b s) = true then (if 4 < sc isD b z s - s then 4 else 2) else if isS (b s) = true then 3 else 4
def mK (b : Nat → Int32) (z i : Nat) (J : Nat → Nat → Int32) (L : Nat → Nat → Int64) : Prop := J 61 22 = io (tcl b z (tpl b z i)) ∧ J 61 23 = io (tpl b z i) ∧ (¬ tcl b z (tpl b z i) = 4 → J 61 21 = io (tst b z i)) ∧ (tcl b z (tpl b z i) = 2 → (L 61 24).toInt32 = twt b z i) ∧ (tcl b z (tpl b z i) = 3 → L 61 24 = (b (tpl b z i)).toInt64)
def nF (I J : Nat → Nat → Int32) : Prop := (∀ p, ¬ p = 61 → J p = I p) ∧ ∀ k, ¬ (21 ≤ k ∧ k ≤ 23) → J 61 k = I 61 k
theorem nF.refl {I : Nat → Nat → Int32} : nF I I := ⟨fun _ _ => rfl, fun _ _ => rfl⟩
theorem nF.up {k : Nat} {v : Int32} {I J : Nat → Nat → Int32} (h : nF I J) (h1 : 21 ≤ k) (h2 : k ≤ 23) : nF I (up2 J 61 k v) :=
  ⟨fun p hp => by rw [up2_q (by omega)]; exact h.1 p hp, fun j hj => by rw [up2_k (by omega)]; exact h.2 j hj⟩
theorem mK_of {b : Nat → Int32} {z i s : Nat} {J : Nat → Nat → Int32} {L : Nat → Nat → Int64} (hs : tpl b z i = s) (h1 : J 61 22 = io (tcl b z s)) (h2 : J 61 23 = io s) (h3 : ¬ tcl b z s = 4 → J 61 21 = io (ten b z s)) (h4 : tcl b z s = 2 → (L 61 24).toInt32 = dec b s (sc isD b z s - s)) (h5 : tcl b z s = 3 → L 61 24 = (b s).toInt64) : mK b z i J L := by
  unfold mK tst twt
  rw [hs]
  exact ⟨h1, h2, h3, h4, h5⟩
theorem tcl_0 {b : Nat → Int32} {z s : Nat} (h : z ≤ s) : tcl b z s = 0 := if_pos h
theorem tcl_1 {b : Nat → Int32} {z s : Nat} (h : s < z) (h1 : isL (b s) = true) : tcl b z s = 1 := by
  have hz : ¬ z ≤ s := by omega
  unfold tcl
  rw [if_neg hz, if_pos h1]
theorem tcl_2 {b : Nat → Int32} {z s : Nat} (h : s < z) (h1 : ¬ isL (b s) = true) (h2 : isD (b s) = true) : tcl b z s = (if 4 < sc isD b z s - s then 4 else 2) := by
  have hz : ¬ z ≤ s := by omega
  unfold tcl
  rw [if_neg hz, if_neg h1, if_pos h2]
theorem tcl_3 {b : Nat → Int32} {z s : Nat} (h : s < z) (h1 : ¬ isL (b s) = true) (h2 : ¬ isD (b s) = true) (h3 : isS (b s) = true) : tcl b z s = 3 := by
  have hz : ¬ z ≤ s := by omega
  unfold tcl
  rw [if_neg hz, if_neg h1, if_neg h2, if_pos h3]
theorem tcl_4 {b : Nat → Int32} {z s : Nat} (h : s < z) (h1 : ¬ isL (b s) = true) (h2 : ¬ isD (b s) = true) (h3 : ¬ isS (b s) = true) : tcl b z s = 4 := by
  have hz : ¬ z ≤ s := by omega
  unfold tcl
  rw [if_neg hz, if_neg h1, if_neg h2, if_neg h3]
theorem iL (x : Int32) : (if 97 ≤ x ∧ x ≤ 122 then (1 : Int32) else 0) = if isL x = true then 1 else 0 := by
  unfold isL
  by_cases c : 97 ≤ x ∧ x ≤ 122
  · rw [if_pos c, if_pos (by simp [c.1, c.2])]
  · rw [if_neg c, if_neg fun h => c (by simpa using h)]
theorem iD (x : Int32) : (if 48 ≤ x ∧ x ≤ 57 then (1 : Int32) else 0) = if isD x = true then 1 else 0 := by
  unfold isD
  by_cases c : 48 ≤ x ∧ x ≤ 57
  · rw [if_pos c, if_pos (by simp [c.1, c.2])]
  · rw [if_neg c, if_neg fun h => c (by simpa using h)]
theorem isL_1 : ¬ isL (-1) = true := by decide
theorem isD_1 : ¬ isD (-1) = true := by decide
theorem dec64 {b : Nat → Int32} {s e : Nat} {w : Int64} (h : s ≤ e) (hw : w.toInt32 = dec b s (e - s)) : (10 * w + (b e).toInt64 - 48).toInt32 = dec b s (e + 1 - s) := by
  rw [dec_s h, Int64.toInt32_sub, Int64.toInt32_add, Int64.toInt32_mul, hw, Int32.toInt32_toInt64, show (10 : Int64).toInt32 = 10 from rfl, show (48 : Int64).toInt32 = 48 from rfl, Int32.mul_comm]

set_option maxRecDepth 10000 in
theorem s_next {xs : xSc} {m : Nat} {I : Nat → Nat → Int32} {L : Nat → Nat → Int64} {Q : Value → xHp → Prop} (hm : 3 ≤ m) {t i z : Nat} (ht : t < 6) (h160 : z ≤ 160) (hf : I 61 19 = io (160 * t)) (hz : I 61 20 = io z) (hbo : bOk (mb t I) z) (hi : i ≤ z) (h5 : I 61 21 = io i) (hQ : ∀ J L2, nF I J → mK (mb t I) z i J L2 → Q .null (Hp J L2)) : M xs m xi_X7_next [.ref 61] (Hp I L) Q := by
  obtain ⟨m, rfl⟩ : ∃ k, m = k + 1 := ⟨m - 1, by omega⟩
  have keyL : ∀ s, tpl (mb t I) z i = s → s < z → isL (mb t I s) = true → ∀ d e, e + d = z → sc isL (mb t I) z s = sc isL (mb t I) z e → s ≤ e → ∀ J L2, nF I J → J 61 21 = io e → J 61 23 = io s → J 61 22 = 1 → ∀ x1 x2, E xs m xi_X7_next 82 Q 100 [.ref 61, .int x1, x2] [] (82, J, L2, xF0) := by
    intro s hs hlt hL d
    induction d using Nat.strongRecOn with
    | _ d ih =>
      intro e hd hse0 hse J L2 hJ h5 h6 h7 x1 x2
      refine E_go 4 rfl ?_
      refine r_aload_n rfl ?_
      refine r_aload_n rfl ?_
      refine r_getI (by decide) rfl rfl (by decide) h5 ?_
      refine r_virtual (vs := []) (as := [_]) (by decide) (zl rfl) rfl rfl (zl rfl) (Nat.le_refl _) (Or.inr (Or.inr ⟨zt rfl, rfl, zt rfl⟩)) ?_
      refine s_byteAt (t := t) (z := z) (i := e) (by omega) ht h160 (by omega) ((hJ.2 19 (by omega)).trans hf) ((hJ.2 20 (by omega)).trans hz) ?_
      rw [show mb t J = mb t I by unfold mb; rw [hJ.1 62 (by omega)]]
      refine r_i2l ?_
      refine r_ldc2_w ?_
      refine r_ldc2_w ?_
      refine r_static (vs := [_, _, _]) (by decide) (zl rfl) rfl rfl (zl rfl) (Nat.le_refl _) rfl ?_
      refine s_in (by omega) (x := mby (mb t I) z e) (lo := 97) (hi := 122) (Int32.toInt_toInt64 _) rfl rfl ?_
      rw [iL]
      refine r_if_eq (fun c_118 => ?_) (fun c_118 => ?_)
      · refine E_go 14 rfl ?_
        refine r_ret rfl ?_
        have he : e = sc isL (mb t I) z s := by
          refine (hse0.trans (sc_n fun hlt2 => ?_)).symm
          have q := b01.mp c_118
          rw [mby_y hlt2] at q
          exact q
        refine hQ _ _ hJ (mK_of hs ?_ h6 (fun _ => ?_) (fun q => ?_) (fun q => ?_))
        · rw [tcl_1 hlt hL]; exact h7
        · rw [(ten_1 hlt hL).1, ← he]; exact h5
        · rw [tcl_1 hlt hL] at q; exact absurd q (by decide)
        · rw [tcl_1 hlt hL] at q; exact absurd q (by decide)
      · refine r_aload_n rfl ?_
        refine r_dup rfl ?_
        refine r_getI (by decide) rfl rfl (by decide) h5 ?_
        refine r_iconst ?_
        refine r_iadd ?_
        refine r_putI rfl rfl (by decide) ?_
        refine r_goto ?_
        have q := b01n.mp c_118
        have hez : e < z := Nat.lt_of_not_le fun hn => isL_1 (by rw [mby_n (by omega)] at q; exact q)
        rw [mby_y hez] at q
        refine ih (d - 1) (by omega) (e + 1) (by omega) (hse0.trans (sc_s hez q)) (by omega) _ _ (hJ.up (by omega) (by omega)) ?_ ?_ ?_ _ _
        · rw [up2_at]; exact n_add (a := e) (b := 1) rfl rfl
        · exact h6
        · exact h7
  have keyD : ∀ s, tpl (mb t I) z i = s → s < z → ¬ isL (mb t I s) = true → isD (mb t I s) = true → ∀ d e, e + d = z → sc isD (mb t I) z s = sc isD (mb t I) z e → s ≤ e → ∀ n, n = e - s → ∀ J L2, nF I J → J 61 21 = io e → J 61 23 = io s → (e - s ≤ 4 → (L2 61 24).toInt32 = dec (mb t I) s (e - s)) → ∀ x1, E xs m xi_X7_next 82 Q 160 [.ref 61, .int x1, .int (io n)] [] (82, J, L2, xF0) := by
    intro s hs hlt hL hD d
    induction d using Nat.strongRecOn with
    | _ d ih =>
      intro e hd hse0 hse n hn J L2 hJ h5 h6 h8 x1
      refine E_go 6 rfl ?_
      refine r_aload_n rfl ?_
      refine r_aload_n rfl ?_
      refine r_getI (by decide) rfl rfl (by decide) h5 ?_
      refine r_virtual (vs := []) (as := [_]) (by decide) (zl rfl) rfl rfl (zl rfl) (Nat.le_refl _) (Or.inr (Or.inr ⟨zt rfl, rfl, zt rfl⟩)) ?_
      refine s_byteAt (t := t) (z := z) (i := e) (by omega) ht h160 (by omega) ((hJ.2 19 (by omega)).trans hf) ((hJ.2 20 (by omega)).trans hz) ?_
      rw [show mb t J = mb t I by unfold mb; rw [hJ.1 62 (by omega)]]
      refine r_i2l ?_
      refine r_ldc2_w ?_
      refine r_ldc2_w ?_
      refine r_static (vs := [_, _, _]) (by decide) (zl rfl) rfl rfl (zl rfl) (Nat.le_refl _) rfl ?_
      refine s_in (by omega) (x := mby (mb t I) z e) (lo := 48) (hi := 57) (Int32.toInt_toInt64 _) rfl rfl ?_
      rw [iD]
      refine r_if_eq (fun c_178 => ?_) (fun c_178 => ?_)
      · refine E_go 9 rfl ?_
        refine r_aload_n rfl ?_
        refine r_iload_n rfl ?_
        refine r_iconst ?_
        refine r_icmp_le (fun c_238 => ?_) (fun c_238 => ?_)
        · have c_238 := (n_le (a := n) (b := 4) rfl rfl (by omega) (by omega)).mp c_238
          refine E_go 10 rfl ?_
          refine r_iconst ?_
          refine r_nil ?_
          refine E_go 11 rfl ?_
          refine r_putI rfl rfl (by decide) ?_
          refine r_goto ?_
          refine E_go 14 rfl ?_
          refine r_ret rfl ?_
          have he : e = sc isD (mb t I) z s := by
            refine (hse0.trans (sc_n fun hlt2 => ?_)).symm
            have q := b01.mp c_178
            rw [mby_y hlt2] at q
            exact q
          have hT : tcl (mb t I) z s = 2 := by rw [tcl_2 hlt hL hD, ← he]; exact if_neg (by omega)
          refine hQ _ _ (hJ.up (by omega) (by omega)) (mK_of hs ?_ h6 (fun _ => ?_) (fun q => ?_) (fun q => ?_))
          · rw [hT]; rfl
          · rw [(ten_2 hlt hL hD).1, ← he]; exact h5
          · rw [← he]; exact h8 (by omega)
          · rw [hT] at q; exact absurd q (by decide)
        · have c_238 := (not_congr (n_le (a := n) (b := 4) rfl rfl (by omega) (by omega))).mp c_238
          refine r_iconst ?_
          refine r_goto ?_
          refine E_go 11 rfl ?_
          refine r_putI rfl rfl (by decide) ?_
          refine r_goto ?_
          refine E_go 14 rfl ?_
          refine r_ret rfl ?_
          have he : e = sc isD (mb t I) z s := by
            refine (hse0.trans (sc_n fun hlt2 => ?_)).symm
            have q := b01.mp c_178
            rw [mby_y hlt2] at q
            exact q
          have hT : tcl (mb t I) z s = 4 := by rw [tcl_2 hlt hL hD, ← he]; exact if_pos (by omega)
          refine hQ _ _ (hJ.up (by omega) (by omega)) (mK_of hs ?_ h6 (fun _ => ?_) (fun q => ?_) (fun q => ?_))
          · rw [hT]; rfl
          · rw [(ten_2 hlt hL hD).1, ← he]; exact h5
          · rw [← he]; exact h8 (by rw [hT] at q; exact absurd q (by decide))
          · rw [hT] at q; exact absurd q (by decide)
      · refine r_aload_n rfl ?_
        refine r_iload_n rfl ?_
        refine r_iconst ?_
        refine r_icmp_ge (fun c_184 => ?_) (fun c_184 => ?_)
        · have c_184 := (n_le (a := 4) (b := n) rfl rfl (by omega) (by omega)).mp c_184
          refine E_go 7 rfl ?_
          refine r_aload_n rfl ?_
          refine r_getJ (by decide) rfl rfl (by decide) rfl ?_
          refine r_nil ?_
          refine E_go 8 rfl ?_
          refine r_putJ rfl rfl (by decide) ?_
          refine r_iincN (y := io (n + 1)) (ls' := [_, _, _]) rfl (zt rfl) (n_add (a := n) (b := 1) rfl rfl) rfl ?_
          refine r_aload_n rfl ?_
          refine r_dup rfl ?_
          refine r_getI (by decide) rfl rfl (by decide) h5 ?_
          refine r_iconst ?_
          refine r_iadd ?_
          refine r_putI rfl rfl (by decide) ?_
          refine r_goto ?_
          have q := b01n.mp c_178
          have hez : e < z := Nat.lt_of_not_le fun hn => isD_1 (by rw [mby_n (by omega)] at q; exact q)
          rw [mby_y hez] at q
          refine ih (d - 1) (by omega) (e + 1) (by omega) (hse0.trans (sc_s hez q)) (by omega) (n + 1) (by omega) _ _ (hJ.up (by omega) (by omega)) ?_ ?_ (fun hle => ?_) _
          · rw [up2_at]; exact n_add (a := e) (b := 1) rfl rfl
          · exact h6
          exact absurd hle (by omega)
        · have c_184 := (not_congr (n_le (a := 4) (b := n) rfl rfl (by omega) (by omega))).mp c_184
          refine r_ldc2_w ?_
          refine r_aload_n rfl ?_
          refine r_getJ (by decide) rfl rfl (by decide) rfl ?_
          refine r_lmul ?_
          refine r_aload_n rfl ?_
          refine r_aload_n rfl ?_
          refine r_getI (by decide) rfl rfl (by decide) h5 ?_
          refine r_virtual (vs := []) (as := [_]) (by decide) (zl rfl) rfl rfl (zl rfl) (Nat.le_refl _) (Or.inr (Or.inr ⟨zt rfl, rfl, zt rfl⟩)) ?_
          refine s_byteAt (t := t) (z := z) (i := e) (by omega) ht h160 (by omega) ((hJ.2 19 (by omega)).trans hf) ((hJ.2 20 (by omega)).trans hz) ?_
          rw [show mb t J = mb t I by unfold mb; rw [hJ.1 62 (by omega)]]
          refine r_i2l ?_
          refine r_ladd ?_
          refine r_ldc2_w ?_
          refine r_lsub ?_
          refine r_goto ?_
          refine E_go 8 rfl ?_
          refine r_putJ rfl rfl (by decide) ?_
          refine r_iincN (y := io (n + 1)) (ls' := [_, _, _]) rfl (zt rfl) (n_add (a := n) (b := 1) rfl rfl) rfl ?_
          refine r_aload_n rfl ?_
          refine r_dup rfl ?_
          refine r_getI (by decide) rfl rfl (by decide) h5 ?_
          refine r_iconst ?_
          refine r_iadd ?_
          refine r_putI rfl rfl (by decide) ?_
          refine r_goto ?_
          have q := b01n.mp c_178
          have hez : e < z := Nat.lt_of_not_le fun hn => isD_1 (by rw [mby_n (by omega)] at q; exact q)
          rw [mby_y hez] at q
          refine ih (d - 1) (by omega) (e + 1) (by omega) (hse0.trans (sc_s hez q)) (by omega) (n + 1) (by omega) _ _ (hJ.up (by omega) (by omega)) ?_ ?_ (fun hle => ?_) _
          · rw [up2_at]; exact n_add (a := e) (b := 1) rfl rfl
          · exact h6
          show (10 * L2 61 24 + (mby (mb t I) z e).toInt64 - 48).toInt32 = _
          rw [mby_y hez]
          exact dec64 hse (h8 (by omega))
  have key39 : ∀ s J L2, s ≤ z → tpl (mb t I) z i = s → nF I J → J 61 21 = io s → E xs m xi_X7_next 82 Q 39 [.ref 61, xU, xU] [] (82, J, L2, xF0) := by
    intro s J L2 hsz hs hJ h5
    refine E_go 2 rfl ?_
    refine r_aload_n rfl ?_
    refine r_aload_n rfl ?_
    refine r_getI (by decide) rfl rfl (by decide) h5 ?_
    refine r_putI rfl rfl (by decide) ?_
    refine r_aload_n rfl ?_
    refine r_aload_n rfl ?_
    refine r_getI (by decide) rfl rfl (by decide) h5 ?_
    refine r_virtual (vs := []) (as := [_]) (by decide) (zl rfl) rfl rfl (zl rfl) (Nat.le_refl _) (Or.inr (Or.inr ⟨zt rfl, rfl, zt rfl⟩)) ?_
    refine s_byteAt (t := t) (z := z) (i := s) (by omega) ht h160 (by omega) ((hJ.2 19 (by omega)).trans hf) ((hJ.2 20 (by omega)).trans hz) ?_
    rw [show mb t (up2 J 61 23 (io s)) = mb t I by unfold mb; rw [up2_q (by omega), hJ.1 62 (by omega)]]
    refine r_istore_n (ls' := [_, _, _]) (zt rfl) rfl ?_
    refine r_aload_n rfl ?_
    refine r_iconst ?_
    refine r_putI rfl rfl (by decide) ?_
    refine r_iload_n rfl ?_
    refine r_if_ge (fun c_62 => ?_) (fun c_62 => ?_)
    · refine E_go 3 rfl ?_
      have hlt : s < z := Classical.byContradiction fun hn => absurd ((mby_neg hbo).mpr hn) (Int32.not_lt.mpr c_62)
      refine r_iload_n rfl ?_
      refine r_i2l ?_
      refine r_ldc2_w ?_
      refine r_ldc2_w ?_
      refine r_static (vs := [_, _, _]) (by decide) (zl rfl) rfl rfl (zl rfl) (Nat.le_refl _) rfl ?_
      refine s_in (by omega) (x := mby (mb t I) z s) (lo := 97) (hi := 122) (Int32.toInt_toInt64 _) rfl rfl ?_
      rw [iL]
      refine r_if_eq (fun c_92 => ?_) (fun c_92 => ?_)
      · refine E_go 5 rfl ?_
        have hL : ¬ isL (mb t I s) = true := by
          have q := b01.mp c_92
          rw [mby_y hlt] at q
          exact q
        refine r_iload_n rfl ?_
        refine r_i2l ?_
        refine r_ldc2_w ?_
        refine r_ldc2_w ?_
        refine r_static (vs := [_, _, _]) (by decide) (zl rfl) rfl rfl (zl rfl) (Nat.le_refl _) rfl ?_
        refine s_in (by omega) (x := mby (mb t I) z s) (lo := 48) (hi := 57) (Int32.toInt_toInt64 _) rfl rfl ?_
        rw [iD]
        refine r_if_eq (fun c_145 => ?_) (fun c_145 => ?_)
        · refine E_go 12 rfl ?_
          have hD : ¬ isD (mb t I s) = true := by
            have q := b01.mp c_145
            rw [mby_y hlt] at q
            exact q
          refine r_iload_n rfl ?_
          refine r_bipush ?_
          refine r_icmp_eq (fun c_255 => ?_) (fun c_255 => ?_)
          · refine E_go 13 rfl ?_
            refine r_aload_n rfl ?_
            refine r_iconst ?_
            refine r_putI rfl rfl (by decide) ?_
            refine r_aload_n rfl ?_
            refine r_iload_n rfl ?_
            refine r_i2l ?_
            refine r_putJ rfl rfl (by decide) ?_
            refine r_aload_n rfl ?_
            refine r_dup rfl ?_
            refine r_getI (by decide) rfl rfl (by decide) h5 ?_
            refine r_iconst ?_
            refine r_iadd ?_
            refine r_putI rfl rfl (by decide) ?_
            refine r_nil ?_
            refine E_go 14 rfl ?_
            refine r_ret rfl ?_
            have hx : isS (mb t I s) = true := by
              rw [← mby_y (b := mb t I) hlt]
              unfold isS
              first
              | (rw [c_255]; decide)
              | (rw [c_261]; decide)
              | (rw [c_267]; decide)
              | (rw [c_273]; decide)
              | (rw [c_279]; decide)
              | (rw [c_285]; decide)
              | (rw [c_291]; decide)
              | (rw [c_297]; decide)
            have hT := tcl_3 hlt hL hD hx
            refine hQ _ _ ((((hJ.up (by omega) (by omega)).up (by omega) (by omega)).up (by omega) (by omega)).up (by omega) (by omega)) (mK_of hs ?_ ?_ (fun _ => ?_) (fun q => ?_) (fun q => ?_))
            · rw [hT]; rfl
            · simp [up2]
            · rw [(ten_3 hlt hL hD).1, up2_at]; exact n_add (a := s) (b := 1) rfl rfl
            · rw [hT] at q; exact absurd q (by decide)
            · show (mby (mb t I) z s).toInt64 = _
              rw [mby_y hlt]
          · refine r_iload_n rfl ?_
            refine r_bipush ?_
            refine r_icmp_eq (fun c_261 => ?_) (fun c_261 => ?_)
            · refine E_go 13 rfl ?_
              refine r_aload_n rfl ?_
              refine r_iconst ?_
              refine r_putI rfl rfl (by decide) ?_
              refine r_aload_n rfl ?_
              refine r_iload_n rfl ?_
              refine r_i2l ?_
              refine r_putJ rfl rfl (by decide) ?_
              refine r_aload_n rfl ?_
              refine r_dup rfl ?_
              refine r_getI (by decide) rfl rfl (by decide) h5 ?_
              refine r_iconst ?_
              refine r_iadd ?_
              refine r_putI rfl rfl (by decide) ?_
              refine r_nil ?_
              refine E_go 14 rfl ?_
              refine r_ret rfl ?_
              have hx : isS (mb t I s) = true := by
                rw [← mby_y (b := mb t I) hlt]
                unfold isS
                first
                | (rw [c_255]; decide)
                | (rw [c_261]; decide)
                | (rw [c_267]; decide)
                | (rw [c_273]; decide)
                | (rw [c_279]; decide)
                | (rw [c_285]; decide)
                | (rw [c_291]; decide)
                | (rw [c_297]; decide)
              have hT := tcl_3 hlt hL hD hx
              refine hQ _ _ ((((hJ.up (by omega) (by omega)).up (by omega) (by omega)).up (by omega) (by omega)).up (by omega) (by omega)) (mK_of hs ?_ ?_ (fun _ => ?_) (fun q => ?_) (fun q => ?_))
              · rw [hT]; rfl
              · simp [up2]
              · rw [(ten_3 hlt hL hD).1, up2_at]; exact n_add (a := s) (b := 1) rfl rfl
              · rw [hT] at q; exact absurd q (by decide)
              · show (mby (mb t I) z s).toInt64 = _
                rw [mby_y hlt]
            · refine r_iload_n rfl ?_
              refine r_bipush ?_
              refine r_icmp_eq (fun c_267 => ?_) (fun c_267 => ?_)
              · refine E_go 13 rfl ?_
                refine r_aload_n rfl ?_
                refine r_iconst ?_
                refine r_putI rfl rfl (by decide) ?_
                refine r_aload_n rfl ?_
                refine r_iload_n rfl ?_
                refine r_i2l ?_
                refine r_putJ rfl rfl (by decide) ?_
                refine r_aload_n rfl ?_
                refine r_dup rfl ?_
                refine r_getI (by decide) rfl rfl (by decide) h5 ?_
                refine r_iconst ?_
                refine r_iadd ?_
                refine r_putI rfl rfl (by decide) ?_
                refine r_nil ?_
                refine E_go 14 rfl ?_
                refine r_ret rfl ?_
                have hx : isS (mb t I s) = true := by
                  rw [← mby_y (b := mb t I) hlt]
                  unfold isS
                  first
                  | (rw [c_255]; decide)
                  | (rw [c_261]; decide)
                  | (rw [c_267]; decide)
                  | (rw [c_273]; decide)
                  | (rw [c_279]; decide)
                  | (rw [c_285]; decide)
                  | (rw [c_291]; decide)
                  | (rw [c_297]; decide)
                have hT := tcl_3 hlt hL hD hx
                refine hQ _ _ ((((hJ.up (by omega) (by omega)).up (by omega) (by omega)).up (by omega) (by omega)).up (by omega) (by omega)) (mK_of hs ?_ ?_ (fun _ => ?_) (fun q => ?_) (fun q => ?_))
                · rw [hT]; rfl
                · simp [up2]
                · rw [(ten_3 hlt hL hD).1, up2_at]; exact n_add (a := s) (b := 1) rfl rfl
                · rw [hT] at q; exact absurd q (by decide)
                · show (mby (mb t I) z s).toInt64 = _
                  rw [mby_y hlt]
              · refine r_iload_n rfl ?_
                refine r_bipush ?_
                refine r_icmp_eq (fun c_273 => ?_) (fun c_273 => ?_)
                · refine E_go 13 rfl ?_
                  refine r_aload_n rfl ?_
                  refine r_iconst ?_
                  refine r_putI rfl rfl (by decide) ?_
                  refine r_aload_n rfl ?_
                  refine r_iload_n rfl ?_
                  refine r_i2l ?_
                  refine r_putJ rfl rfl (by decide) ?_
                  refine r_aload_n rfl ?_
                  refine r_dup rfl ?_
                  refine r_getI (by decide) rfl rfl (by decide) h5 ?_
                  refine r_iconst ?_
                  refine r_iadd ?_
                  refine r_putI rfl rfl (by decide) ?_
                  refine r_nil ?_
                  refine E_go 14 rfl ?_
                  refine r_ret rfl ?_
                  have hx : isS (mb t I s) = true := by
                    rw [← mby_y (b := mb t I) hlt]
                    unfold isS
                    first
                    | (rw [c_255]; decide)
                    | (rw [c_261]; decide)
                    | (rw [c_267]; decide)
                    | (rw [c_273]; decide)
                    | (rw [c_279]; decide)
                    | (rw [c_285]; decide)
                    | (rw [c_291]; decide)
                    | (rw [c_297]; decide)
                  have hT := tcl_3 hlt hL hD hx
                  refine hQ _ _ ((((hJ.up (by omega) (by omega)).up (by omega) (by omega)).up (by omega) (by omega)).up (by omega) (by omega)) (mK_of hs ?_ ?_ (fun _ => ?_) (fun q => ?_) (fun q => ?_))
                  · rw [hT]; rfl
                  · simp [up2]
                  · rw [(ten_3 hlt hL hD).1, up2_at]; exact n_add (a := s) (b := 1) rfl rfl
                  · rw [hT] at q; exact absurd q (by decide)
                  · show (mby (mb t I) z s).toInt64 = _
                    rw [mby_y hlt]
                · refine r_iload_n rfl ?_
                  refine r_bipush ?_
                  refine r_icmp_eq (fun c_279 => ?_) (fun c_279 => ?_)
                  · refine E_go 13 rfl ?_
                    refine r_aload_n rfl ?_
                    refine r_iconst ?_
                    refine r_putI rfl rfl (by decide) ?_
                    refine r_aload_n rfl ?_
                    refine r_iload_n rfl ?_
                    refine r_i2l ?_
                    refine r_putJ rfl rfl (by decide) ?_
                    refine r_aload_n rfl ?_
                    refine r_dup rfl ?_
                    refine r_getI (by decide) rfl rfl (by decide) h5 ?_
                    refine r_iconst ?_
                    refine r_iadd ?_
                    refine r_putI rfl rfl (by decide) ?_
                    refine r_nil ?_
                    refine E_go 14 rfl ?_
                    refine r_ret rfl ?_
                    have hx : isS (mb t I s) = true := by
                      rw [← mby_y (b := mb t I) hlt]
                      unfold isS
                      first
                      | (rw [c_255]; decide)
                      | (rw [c_261]; decide)
                      | (rw [c_267]; decide)
                      | (rw [c_273]; decide)
                      | (rw [c_279]; decide)
                      | (rw [c_285]; decide)
                      | (rw [c_291]; decide)
                      | (rw [c_297]; decide)
                    have hT := tcl_3 hlt hL hD hx
                    refine hQ _ _ ((((hJ.up (by omega) (by omega)).up (by omega) (by omega)).up (by omega) (by omega)).up (by omega) (by omega)) (mK_of hs ?_ ?_ (fun _ => ?_) (fun q => ?_) (fun q => ?_))
                    · rw [hT]; rfl
                    · simp [up2]
                    · rw [(ten_3 hlt hL hD).1, up2_at]; exact n_add (a := s) (b := 1) rfl rfl
                    · rw [hT] at q; exact absurd q (by decide)
                    · show (mby (mb t I) z s).toInt64 = _
                      rw [mby_y hlt]
                  · refine r_iload_n rfl ?_
                    refine r_bipush ?_
                    refine r_icmp_eq (fun c_285 => ?_) (fun c_285 => ?_)
                    · refine E_go 13 rfl ?_
                      refine r_aload_n rfl ?_
                      refine r_iconst ?_
                      refine r_putI rfl rfl (by decide) ?_
                      refine r_aload_n rfl ?_
                      refine r_iload_n rfl ?_
                      refine r_i2l ?_
                      refine r_putJ rfl rfl (by decide) ?_
                      refine r_aload_n rfl ?_
                      refine r_dup rfl ?_
                      refine r_getI (by decide) rfl rfl (by decide) h5 ?_
                      refine r_iconst ?_
                      refine r_iadd ?_
                      refine r_putI rfl rfl (by decide) ?_
                      refine r_nil ?_
                      refine E_go 14 rfl ?_
                      refine r_ret rfl ?_
                      have hx : isS (mb t I s) = true := by
                        rw [← mby_y (b := mb t I) hlt]
                        unfold isS
                        first
                        | (rw [c_255]; decide)
                        | (rw [c_261]; decide)
                        | (rw [c_267]; decide)
                        | (rw [c_273]; decide)
                        | (rw [c_279]; decide)
                        | (rw [c_285]; decide)
                        | (rw [c_291]; decide)
                        | (rw [c_297]; decide)
                      have hT := tcl_3 hlt hL hD hx
                      refine hQ _ _ ((((hJ.up (by omega) (by omega)).up (by omega) (by omega)).up (by omega) (by omega)).up (by omega) (by omega)) (mK_of hs ?_ ?_ (fun _ => ?_) (fun q => ?_) (fun q => ?_))
                      · rw [hT]; rfl
                      · simp [up2]
                      · rw [(ten_3 hlt hL hD).1, up2_at]; exact n_add (a := s) (b := 1) rfl rfl
                      · rw [hT] at q; exact absurd q (by decide)
                      · show (mby (mb t I) z s).toInt64 = _
                        rw [mby_y hlt]
                    · refine r_iload_n rfl ?_
                      refine r_bipush ?_
                      refine r_icmp_eq (fun c_291 => ?_) (fun c_291 => ?_)
                      · refine E_go 13 rfl ?_
                        refine r_aload_n rfl ?_
                        refine r_iconst ?_
                        refine r_putI rfl rfl (by decide) ?_
                        refine r_aload_n rfl ?_
                        refine r_iload_n rfl ?_
                        refine r_i2l ?_
                        refine r_putJ rfl rfl (by decide) ?_
                        refine r_aload_n rfl ?_
                        refine r_dup rfl ?_
                        refine r_getI (by decide) rfl rfl (by decide) h5 ?_
                        refine r_iconst ?_
                        refine r_iadd ?_
                        refine r_putI rfl rfl (by decide) ?_
                        refine r_nil ?_
                        refine E_go 14 rfl ?_
                        refine r_ret rfl ?_
                        have hx : isS (mb t I s) = true := by
                          rw [← mby_y (b := mb t I) hlt]
                          unfold isS
                          first
                          | (rw [c_255]; decide)
                          | (rw [c_261]; decide)
                          | (rw [c_267]; decide)
                          | (rw [c_273]; decide)
                          | (rw [c_279]; decide)
                          | (rw [c_285]; decide)
                          | (rw [c_291]; decide)
                          | (rw [c_297]; decide)
                        have hT := tcl_3 hlt hL hD hx
                        refine hQ _ _ ((((hJ.up (by omega) (by omega)).up (by omega) (by omega)).up (by omega) (by omega)).up (by omega) (by omega)) (mK_of hs ?_ ?_ (fun _ => ?_) (fun q => ?_) (fun q => ?_))
                        · rw [hT]; rfl
                        · simp [up2]
                        · rw [(ten_3 hlt hL hD).1, up2_at]; exact n_add (a := s) (b := 1) rfl rfl
                        · rw [hT] at q; exact absurd q (by decide)
                        · show (mby (mb t I) z s).toInt64 = _
                          rw [mby_y hlt]
                      · refine r_iload_n rfl ?_
                        refine r_bipush ?_
                        refine r_icmp_ne (fun c_297 => ?_) (fun c_297 => ?_)
                        · refine E_go 14 rfl ?_
                          refine r_ret rfl ?_
                          have hx : ¬ isS (mb t I s) = true := by
                            rw [← mby_y (b := mb t I) hlt]
                            unfold isS
                            simp only [Bool.or_eq_true, decide_eq_true_eq]
                            simp [c_255, c_261, c_267, c_273, c_279, c_285, c_291, c_297]
                          have hT := tcl_4 hlt hL hD hx
                          refine hQ _ _ ((hJ.up (by omega) (by omega)).up (by omega) (by omega)) (mK_of hs ?_ ?_ (fun q => absurd hT q) (fun q => ?_) (fun q => ?_))
                          · rw [hT]; rfl
                          · simp [up2]
                          · rw [hT] at q; exact absurd q (by decide)
                          · rw [hT] at q; exact absurd q (by decide)
                        · refine r_nil ?_
                          refine E_go 13 rfl ?_
                          refine r_aload_n rfl ?_
                          refine r_iconst ?_
                          refine r_putI rfl rfl (by decide) ?_
                          refine r_aload_n rfl ?_
                          refine r_iload_n rfl ?_
                          refine r_i2l ?_
                          refine r_putJ rfl rfl (by decide) ?_
                          refine r_aload_n rfl ?_
                          refine r_dup rfl ?_
                          refine r_getI (by decide) rfl rfl (by decide) h5 ?_
                          refine r_iconst ?_
                          refine r_iadd ?_
                          refine r_putI rfl rfl (by decide) ?_
                          refine r_nil ?_
                          refine E_go 14 rfl ?_
                          refine r_ret rfl ?_
                          have hx : isS (mb t I s) = true := by
                            rw [← mby_y (b := mb t I) hlt]
                            unfold isS
                            first
                            | (rw [c_255]; decide)
                            | (rw [c_261]; decide)
                            | (rw [c_267]; decide)
                            | (rw [c_273]; decide)
                            | (rw [c_279]; decide)
                            | (rw [c_285]; decide)
                            | (rw [c_291]; decide)
                            | (rw [c_297]; decide)
                          have hT := tcl_3 hlt hL hD hx
                          refine hQ _ _ ((((hJ.up (by omega) (by omega)).up (by omega) (by omega)).up (by omega) (by omega)).up (by omega) (by omega)) (mK_of hs ?_ ?_ (fun _ => ?_) (fun q => ?_) (fun q => ?_))
                          · rw [hT]; rfl
                          · simp [up2]
                          · rw [(ten_3 hlt hL hD).1, up2_at]; exact n_add (a := s) (b := 1) rfl rfl
                          · rw [hT] at q; exact absurd q (by decide)
                          · show (mby (mb t I) z s).toInt64 = _
                            rw [mby_y hlt]
        · have hD : isD (mb t I s) = true := by
            have q := b01n.mp c_145
            rw [mby_y hlt] at q
            exact q
          refine r_aload_n rfl ?_
          refine r_iconst ?_
          refine r_putI rfl rfl (by decide) ?_
          refine r_aload_n rfl ?_
          refine r_lconst ?_
          refine r_putJ rfl rfl (by decide) ?_
          refine r_iconst ?_
          refine r_istore_n (ls' := [_, _, _]) (zt rfl) rfl ?_
          refine r_nil ?_
          refine keyD s hs hlt hL hD (z - s) s (by omega) rfl (Nat.le_refl _) 0 (by omega) _ _ (((hJ.up (by omega) (by omega)).up (by omega) (by omega)).up (by omega) (by omega)) ?_ ?_ (fun _ => ?_) _
          · exact h5
          · simp [up2]
          rw [Nat.sub_self]; rfl
      · have hL : isL (mb t I s) = true := by
          have q := b01n.mp c_92
          rw [mby_y hlt] at q
          exact q
        refine r_aload_n rfl ?_
        refine r_iconst ?_
        refine r_putI rfl rfl (by decide) ?_
        refine r_nil ?_
        refine keyL s hs hlt hL (z - s) s (by omega) rfl (Nat.le_refl _) _ _ (((hJ.up (by omega) (by omega)).up (by omega) (by omega)).up (by omega) (by omega)) ?_ ?_ ?_ _ _
        · exact h5
        · simp [up2]
        · simp [up2]
    · refine r_aload_n rfl ?_
      refine r_iconst ?_
      refine r_putI rfl rfl (by decide) ?_
      refine r_aload_n rfl ?_
      refine r_aload_n rfl ?_
      refine r_getI (by decide) rfl rfl (by decide) ((hJ.2 20 (by omega)).trans hz) ?_
      refine r_putI rfl rfl (by decide) ?_
      refine r_goto ?_
      refine E_go 14 rfl ?_
      refine r_ret rfl ?_
      have hn : ¬ s < z := (mby_neg hbo).mp (Int32.not_le.mp c_62)
      have e : s = z := by omega
      subst e
      have h0 := tcl_0 (b := mb t I) (Nat.le_refl s)
      refine hQ _ _ ((((hJ.up (by omega) (by omega)).up (by omega) (by omega)).up (by omega) (by omega)).up (by omega) (by omega)) (mK_of hs ?_ ?_ (fun _ => ?_) (fun q => ?_) (fun q => ?_))
      · rw [h0]; rfl
      · rw [up2_at]
      · rw [(ten_0 (Nat.le_refl s)).1]; exact h5
      · rw [h0] at q; exact absurd q (by decide)
      · rw [h0] at q; exact absurd q (by decide)
  have key : ∀ d k, k + d = z → tpl (mb t I) z i = sc isB (mb t I) z k → ∀ J, nF I J → J 61 21 = io k → E xs m xi_X7_next 82 Q 0 [.ref 61, xU, xU] [] (82, J, L, xF0) := by
    intro d
    induction d using Nat.strongRecOn with
    | _ d ih =>
    intro k hd hk0 J hJ h5
    refine E_go 0 rfl ?_
    refine r_aload_n rfl ?_
    refine r_aload_n rfl ?_
    refine r_getI (by decide) rfl rfl (by decide) h5 ?_
    refine r_virtual (vs := []) (as := [_]) (by decide) (zl rfl) rfl rfl (zl rfl) (Nat.le_refl _) (Or.inr (Or.inr ⟨zt rfl, rfl, zt rfl⟩)) ?_
    refine s_byteAt (t := t) (z := z) (i := k) (by omega) ht h160 (by omega) ((hJ.2 19 (by omega)).trans hf) ((hJ.2 20 (by omega)).trans hz) ?_
    rw [show mb t J = mb t I by unfold mb; rw [hJ.1 62 (by omega)]]
    refine r_bipush ?_
    refine r_icmp_eq (fun c_10 => ?_) (fun c_10 => ?_)
    · refine E_go 1 rfl ?_
      refine r_aload_n rfl ?_
      refine r_dup rfl ?_
      refine r_getI (by decide) rfl rfl (by decide) h5 ?_
      refine r_iconst ?_
      refine r_iadd ?_
      refine r_putI rfl rfl (by decide) ?_
      refine r_goto ?_
      have hbl : k < z ∧ isB (mb t I k) = true := by
        by_cases hkz : k < z
        · refine ⟨hkz, ?_⟩
          rw [← mby_y (b := mb t I) hkz]
          unfold isB
          first
          | (rw [c_10]; decide)
          | (rw [c_23]; decide)
        · exfalso
          first
          | (rw [mby_n hkz] at c_10; exact absurd c_10 (by decide))
          | (rw [mby_n hkz] at c_23; exact absurd c_23 (by decide))
      refine ih (d - 1) (by omega) (k + 1) (by omega) (hk0.trans (sc_s hbl.1 hbl.2)) _ (hJ.up (by omega) (by omega)) (by rw [up2_at]; exact n_add (a := k) (b := 1) rfl rfl)
    · refine r_aload_n rfl ?_
      refine r_aload_n rfl ?_
      refine r_getI (by decide) rfl rfl (by decide) h5 ?_
      refine r_virtual (vs := []) (as := [_]) (by decide) (zl rfl) rfl rfl (zl rfl) (Nat.le_refl _) (Or.inr (Or.inr ⟨zt rfl, rfl, zt rfl⟩)) ?_
      refine s_byteAt (t := t) (z := z) (i := k) (by omega) ht h160 (by omega) ((hJ.2 19 (by omega)).trans hf) ((hJ.2 20 (by omega)).trans hz) ?_
      rw [show mb t J = mb t I by unfold mb; rw [hJ.1 62 (by omega)]]
      refine r_bipush ?_
      refine r_icmp_ne (fun c_23 => ?_) (fun c_23 => ?_)
      · refine key39 k J L (by omega) (hk0.trans (sc_n fun hkz => ?_)) hJ h5
        rw [mby_y hkz] at c_10 c_23
        simp [isB, c_10, c_23]
      · refine r_nil ?_
        refine E_go 1 rfl ?_
        refine r_aload_n rfl ?_
        refine r_dup rfl ?_
        refine r_getI (by decide) rfl rfl (by decide) h5 ?_
        refine r_iconst ?_
        refine r_iadd ?_
        refine r_putI rfl rfl (by decide) ?_
        refine r_goto ?_
        have hbl : k < z ∧ isB (mb t I k) = true := by
          by_cases hkz : k < z
          · refine ⟨hkz, ?_⟩
            rw [← mby_y (b := mb t I) hkz]
            unfold isB
            first
            | (rw [c_10]; decide)
            | (rw [c_23]; decide)
          · exfalso
            first
            | (rw [mby_n hkz] at c_10; exact absurd c_10 (by decide))
            | (rw [mby_n hkz] at c_23; exact absurd c_23 (by decide))
        refine ih (d - 1) (by omega) (k + 1) (by omega) (hk0.trans (sc_s hbl.1 hbl.2)) _ (hJ.up (by omega) (by omega)) (by rw [up2_at]; exact n_add (a := k) (b := 1) rfl rfl)
  exact M_goE (ml := 3) rfl rfl (zl rfl) rfl (key (z - i) i (by omega) rfl I nF.refl h5)
