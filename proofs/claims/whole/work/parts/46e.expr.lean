/-! the model reads an expression -/

/-- the model reads text t, at token i, o open, names told by w -/
def mCx (t z i o : Nat) (w : Vw) (I : Nat → Nat → Int32) (L : Nat → Nat → Int64) : Prop := (t < 6 ∧ z ≤ 160 ∧ i ≤ z) ∧ (I 61 19 = io (160 * t) ∧ I 61 20 = io z ∧ I 61 25 = io o ∧ I 61 26 = 0) ∧ bOk (mb t I) z ∧ mK (mb t I) z i I L ∧ ∀ k, k < 6 → I 61 (13 + k) = w k
def vF (I J : Nat → Nat → Int32) : Prop := (∀ p, ¬ p = 61 → J p = I p) ∧ ∀ k, ¬ (21 ≤ k ∧ k ≤ 27) → J 61 k = I 61 k
theorem vF.refl {I : Nat → Nat → Int32} : vF I I := ⟨fun _ _ => rfl, fun _ _ => rfl⟩
theorem vF.up {k : Nat} {v : Int32} {I J : Nat → Nat → Int32} (h : vF I J) (h1 : 21 ≤ k) (h2 : k ≤ 27) : vF I (up2 J 61 k v) :=
  ⟨fun p hp => by rw [up2_q (by omega)]; exact h.1 p hp, fun j hj => by rw [up2_k (by omega)]; exact h.2 j hj⟩
theorem vF.trans {I J K : Nat → Nat → Int32} (h : vF I J) (h2 : vF J K) : vF I K := ⟨fun p hp => by rw [h2.1 p hp, h.1 p hp], fun k hk => by rw [h2.2 k hk, h.2 k hk]⟩
theorem nF.v {I J : Nat → Nat → Int32} (h : nF I J) : vF I J := ⟨h.1, fun k hk => h.2 k (by omega)⟩
theorem vF.mbe {t : Nat} {I J : Nat → Nat → Int32} (h : vF I J) : mb t J = mb t I := by
  unfold mb
  rw [h.1 62 (by omega)]
/-- so much is read, with value v -/
def MR (t z o : Nat) (w : Vw) (r : PR) (I J : Nat → Nat → Int32) (L : Nat → Nat → Int64) (v : Int32) : Prop := vF I J ∧ (r.1 = true → (J 61 25 = io o ∧ J 61 26 = 0) ∧ mK (mb t I) z r.2.1 J L ∧ ∀ st, ev w r.2.2 st = v :: st) ∧ (¬ r.1 = true → J 61 26 = 1 ∧ J 61 27 = io (tpl (mb t I) z r.2.1))
def Mp (xs : xSc) (mi m o : Nat) (F : PFn) : Prop := ∀ (I : Nat → Nat → Int32) (L : Nat → Nat → Int64) (Q : Value → xHp → Prop) (t i z : Nat) (w : Vw), mCx t z i o w I L → (∀ J L2 v, MR t z o w (F (mb t I) z i) I J L2 v → Q (.int v) (Hp J L2)) → M xs m mi [.ref 61] (Hp I L) Q
theorem MR_c {t z i o : Nat} {w : Vw} {r : PR} {I J : Nat → Nat → Int32} {L L2 : Nat → Nat → Int64} {v : Int32} (h : mCx t z i o w I L) (hM : MR t z o w r I J L2 v) (hr : r.1 = true) (hz : r.2.1 ≤ z) : mCx t z r.2.1 o w J L2 := by
  obtain ⟨⟨h1, h2, h3⟩, ⟨h4, h5, h6, h7⟩, h8, h9, h10⟩ := h
  obtain ⟨k1, k2, k3⟩ := hM
  obtain ⟨⟨j1, j2⟩, j3, j4⟩ := k2 hr
  refine ⟨⟨h1, h2, hz⟩, ⟨by rw [k1.2 19 (by omega)]; exact h4, by rw [k1.2 20 (by omega)]; exact h5, j1, j2⟩, by rw [k1.mbe]; exact h8, by rw [k1.mbe]; exact j3, fun k hk => by rw [k1.2 (13 + k) (by omega)]; exact h10 k hk⟩
/-- more is read, and a word laid behind it -/
theorem MR_app {t z o : Nat} {w : Vw} {r q : PR} {I J J1 J2 : Nat → Nat → Int32} {L1 L2 : Nat → Nat → Int64} {v v2 vv ww : Int32} (h : MR t z o w r I J L1 v) (hr : r.1 = true) (h1 : vF J J1) (h2 : MR t z o w q J1 J2 L2 v2) (hw : ∀ st, stp w ww (v2 :: v :: st) = vv :: st) : MR t z o w (q.1, q.2.1, r.2.2 ++ (q.2.2 ++ [ww])) I J2 L2 vv := by
  have e : mb t J1 = mb t I := (h1.mbe).trans h.1.mbe
  refine ⟨(h.1.trans h1).trans h2.1, fun hq => ?_, fun hq => ?_⟩
  · obtain ⟨k1, k2, k3⟩ := h2.2.1 hq
    rw [e] at k2
    refine ⟨k1, k2, fun st => ?_⟩
    rw [ev_app, (h.2.1 hr).2.2, ev_app, k3, ev_one, hw]
  · have k := h2.2.2 hq
    rw [e] at k
    exact k
/-- .. when something opened ahead of it -/
theorem MR_op {t z o : Nat} {w : Vw} {q : PR} {I J1 J2 : Nat → Nat → Int32} {L2 : Nat → Nat → Int64} {v2 vv ww : Int32} (h1 : vF I J1) (h2 : MR t z (o + 1) w q J1 J2 L2 v2) (hw : ∀ st, stp w ww (v2 :: st) = vv :: st) : MR t z o w (q.1, q.2.1, q.2.2 ++ [ww]) I (up2 J2 61 25 (J2 61 25 - 1)) L2 vv := by
  have e : mb t J1 = mb t I := h1.mbe
  refine ⟨(h1.trans h2.1).up (by omega) (by omega), fun hq => ?_, fun hq => ?_⟩
  · obtain ⟨k1, k2, k3⟩ := h2.2.1 hq
    rw [e] at k2
    refine ⟨⟨?_, ?_⟩, ?_, fun st => ?_⟩
    · rw [up2_at, k1.1]; exact n_sub (a := o + 1) (b := 1) rfl rfl (by omega)
    · rw [up2_k (by omega)]; exact k1.2
    · unfold mK at k2 ⊢
      rw [up2_k (by omega), up2_k (by omega), up2_k (by omega)]; exact k2
    · rw [ev_app, k3, ev_one, hw]
  · have k := h2.2.2 hq
    rw [e] at k
    rw [up2_k (by omega), up2_k (by omega)]
    exact k
section
variable {w : Vw} {a b : Int32} {st : List Int32}
theorem e_mul : stp w (-42) (b :: a :: st) = a * b :: st := by rw [stp_o (Or.inr (by decide)) (by decide)]; rfl
theorem e_add : stp w (-43) (b :: a :: st) = (a + b) :: st := by rw [stp_o (Or.inr (by decide)) (by decide)]; rfl
theorem e_sub : stp w (-45) (b :: a :: st) = (a - b) :: st := by rw [stp_o (Or.inr (by decide)) (by decide)]; rfl
theorem e_lt : stp w (-60) (b :: a :: st) = (if a < b then 1 else 0) :: st := by rw [stp_o (Or.inr (by decide)) (by decide)]; rfl
theorem e_eq : stp w (-61) (b :: a :: st) = (if a = b then 1 else 0) :: st := by rw [stp_o (Or.inr (by decide)) (by decide)]; rfl
theorem e_and : stp w (-7) (b :: a :: st) = (if a = 0 then 0 else if b = 0 then 0 else 1) :: st := by rw [stp_o (Or.inl (by decide)) (by decide)]; rfl
theorem e_or : stp w (-6) (b :: a :: st) = (if a = 0 then (if b = 0 then 0 else 1) else 1) :: st := by rw [stp_o (Or.inl (by decide)) (by decide)]; rfl
theorem opw_9 : ∀ st : List Int32, opw (-9) (a :: st) = -a :: st
  | [] => rfl
  | _ :: _ => rfl
theorem opw_8 : ∀ st : List Int32, opw (-8) (a :: st) = (if a = 0 then 1 else 0) :: st
  | [] => rfl
  | _ :: _ => rfl
theorem e_neg : stp w (-9) (a :: st) = -a :: st := by rw [stp_o (Or.inl (by decide)) (by decide)]; exact opw_9 st
theorem e_not : stp w (-8) (a :: st) = (if a = 0 then 1 else 0) :: st := by rw [stp_o (Or.inl (by decide)) (by decide)]; exact opw_8 st
theorem e_name {k : Nat} (h1 : 10 ≤ k) (h2 : k < 16) : stp w (-(io k)) st = w (k - 10) :: st := by
  have e : k = 10 ∨ k = 11 ∨ k = 12 ∨ k = 13 ∨ k = 14 ∨ k = 15 := by omega
  rcases e with rfl | rfl | rfl | rfl | rfl | rfl <;> (rw [stp_v (by decide) (by decide)]; rfl)
theorem e_num {x : Int32} (h1 : 0 ≤ x.toInt) (h2 : x.toInt < 10000) : stp w x st = x :: st := by
  refine stp_w (Or.inl ?_) (le_int.mpr h1)
  rw [lt_int]
  unfold nmv
  have e1 : (-x).toInt = -x.toInt := by rw [Int32.toInt_neg]; exact bm (by omega) (by omega)
  rw [sub_int (by rw [e1, show (10 : Int32).toInt = 10 from rfl]; omega) (by rw [e1, show (10 : Int32).toInt = 10 from rfl]; omega), e1, show (10 : Int32).toInt = 10 from rfl, show (0 : Int32).toInt = 0 from rfl]
  omega
end
theorem dec_b {b : Nat → Int32} {s : Nat} : ∀ n, n ≤ 4 → (∀ j, j < n → isD (b (s + j)) = true) → 0 ≤ (dec b s n).toInt ∧ (dec b s n).toInt < (10 ^ n : Nat)
  | 0, _, _ => ⟨Int.le_refl 0, (by decide : (0 : Int) < 1)⟩
  | n + 1, h, hd => by
    obtain ⟨i1, i2⟩ := dec_b n (by omega) (fun j hj => hd j (by omega))
    have h3 := hd n (by omega)
    simp only [isD, Bool.and_eq_true, decide_eq_true_eq] at h3
    have h4 := le_int.mp h3.1
    have h5 := le_int.mp h3.2
    rw [show (48 : Int32).toInt = 48 from rfl] at h4
    rw [show (57 : Int32).toInt = 57 from rfl] at h5
    have p : (10 ^ n : Nat) ≤ 1000 := Nat.le_trans (Nat.pow_le_pow_right (by decide) (show n ≤ 3 by omega)) (by decide)
    have e1 : (dec b s n * 10).toInt = (dec b s n).toInt * 10 := mul_int (by rw [show (10 : Int32).toInt = 10 from rfl]; omega) (by rw [show (10 : Int32).toInt = 10 from rfl]; omega)
    have e2 : (dec b s n * 10 + b (s + n)).toInt = (dec b s n).toInt * 10 + (b (s + n)).toInt := by rw [add_int (by rw [e1]; omega) (by rw [e1]; omega), e1]
    have e3 : (dec b s (n + 1)).toInt = (dec b s n).toInt * 10 + (b (s + n)).toInt - 48 := by
      show (dec b s n * 10 + b (s + n) - 48).toInt = _
      rw [sub_int (by rw [e2, show (48 : Int32).toInt = 48 from rfl]; omega) (by rw [e2, show (48 : Int32).toInt = 48 from rfl]; omega), e2]
      rfl
    rw [e3, Nat.pow_succ]
    omega
theorem twt_b {b : Nat → Int32} {z i : Nat} (h : tkd b z i = 2) : 0 ≤ (twt b z i).toInt ∧ (twt b z i).toInt < 10000 := by
  have h2 : tkk b z (tpl b z i) = 2 := h
  generalize hs : tpl b z i = s at h2
  unfold twt
  rw [hs]
  by_cases c0 : z ≤ s
  · rw [(ten_0 c0).2] at h2; exact absurd h2 (by decide)
  have c0 : s < z := by omega
  by_cases c1 : isL (b s) = true
  · rw [(ten_1 c0 c1).2] at h2; exact absurd h2 wd_ne
  by_cases c2 : isD (b s) = true
  · rw [(ten_2 c0 c1 c2).2] at h2
    by_cases c4 : 4 < sc isD b z s - s
    · rw [if_pos c4] at h2; exact absurd h2 (by decide)
    · obtain ⟨i1, i2⟩ := dec_b (b := b) (s := s) (sc isD b z s - s) (by omega) (fun j hj => sc_all (P := isD) (by omega) (show s + j < sc isD b z s by omega))
      have p : (10 ^ (sc isD b z s - s) : Nat) ≤ 10000 := Nat.le_trans (Nat.pow_le_pow_right (by decide) (show sc isD b z s - s ≤ 4 by omega)) (by decide)
      exact ⟨i1, by omega⟩
  · rw [(ten_3 c0 c1 c2).2] at h2
    by_cases c3 : isS (b s) = true
    · rw [if_pos c3] at h2
      have := isS_k c3
      omega
    · rw [if_neg c3] at h2; exact absurd h2 (by decide)
theorem mK_w {b : Nat → Int32} {z i c : Nat} {J : Nat → Nat → Int32} {L : Nat → Nat → Int64} (h : mK b z i J L) (hc : 40 ≤ c) (hk : tkd b z i = c) : L 61 24 = (io c).toInt64 := by
  have q := tk_s hc hk
  rw [h.2.2.2.2 q, ← isS_io (tk_3 q).2, ← (tk_3 q).1, show tkk b z (tpl b z i) = c from hk]
theorem nF.cx {t z i j o : Nat} {w : Vw} {I J : Nat → Nat → Int32} {L L2 : Nat → Nat → Int64} (h : mCx t z i o w I L) (hn : nF I J) (hk : mK (mb t I) z j J L2) (hj : j ≤ z) : mCx t z j o w J L2 := by
  obtain ⟨⟨h1, h2, h3⟩, ⟨h4, h5, h6, h7⟩, h8, h9, h10⟩ := h
  have e := hn.v.mbe (t := t)
  exact ⟨⟨h1, h2, hj⟩, ⟨by rw [hn.2 19 (by omega)]; exact h4, by rw [hn.2 20 (by omega)]; exact h5, by rw [hn.2 25 (by omega)]; exact h6, by rw [hn.2 26 (by omega)]; exact h7⟩, by rw [e]; exact h8, by rw [e]; exact hk, fun k hk => by rw [hn.2 (13 + k) (by omega)]; exact h10 k hk⟩
theorem s_nextM {xs : xSc} {m : Nat} {I : Nat → Nat → Int32} {L : Nat → Nat → Int64} {Q : Value → xHp → Prop} {t z i o : Nat} {w : Vw} (hm : 3 ≤ m) (h : mCx t z i o w I L) (hk : ¬ tkd (mb t I) z i = 1) (hQ : ∀ J L2, nF I J → mCx t z (tst (mb t I) z i) o w J L2 → Q .null (Hp J L2)) : M xs m xi_X7_next [.ref 61] (Hp I L) Q := by
  have h0 := h
  obtain ⟨⟨h1, h2, h3⟩, ⟨h4, h5, h6, h7⟩, h8, h9, h10⟩ := h
  have hz := tst_z (b := mb t I) h3
  exact s_next hm h1 h2 h4 h5 h8 hz (h9.2.2.1 (tk_n hk)) (fun J L2 k1 k2 => hQ J L2 k1 (nF.cx h0 k1 k2 hz))
/-- what fail() leaves -/
abbrev fl (I : Nat → Nat → Int32) : Nat → Nat → Int32 := up2 (up2 I 61 26 1) 61 27 (I 61 23)
theorem MR_fl {t z i o : Nat} {w : Vw} {c : List Int32} {I : Nat → Nat → Int32} {L : Nat → Nat → Int64} {v : Int32} (h : mCx t z i o w I L) : MR t z o w (false, i, c) I (fl I) L v :=
  ⟨(vF.refl.up (by omega) (by omega)).up (by omega) (by omega), fun q => Bool.noConfusion q, fun _ => ⟨by simp [fl, up2], by simp [fl, up2]; exact h.2.2.2.1.2.1⟩⟩
theorem s_opens5 {xs : xSc} {m : Nat} {I : Nat → Nat → Int32} {L : Nat → Nat → Int64} {Q : Value → xHp → Prop} (hm : 2 ≤ m) (h25 : I 61 25 = io 5) (h26 : I 61 26 = 0) (hQ : Q (.int 0) (Hp (fl I) L)) : M xs m xi_X7_opens [.ref 61] (Hp I L) Q := by
  obtain ⟨m, rfl⟩ : ∃ k, m = k + 1 := ⟨m - 1, by omega⟩
  refine M_go (ls := [_]) (ml := 1) rfl rfl rfl (zl rfl) rfl ?_
  refine r_aload_n rfl ?_
  refine r_getI (by decide) rfl rfl (by decide) h25 ?_
  refine r_iconst ?_
  refine r_icmp_ne (fun c_5 => ?_) (fun c_5 => ?_)
  · have c_5 := (not_congr (n_eq (a := 5) (b := 5) rfl rfl (by omega) (by omega))).mp c_5
    omega
  · have c_5 := (n_eq (a := 5) (b := 5) rfl rfl (by omega) (by omega)).mp c_5
    refine r_aload_n rfl ?_
    refine r_virtual (vs := []) (as := []) (by decide) (zl rfl) rfl rfl (zl rfl) (Nat.le_refl _) (Or.inr (Or.inr ⟨zt rfl, rfl, zt rfl⟩)) ?_
    refine s_fail0 (by omega) h26 ?_
    refine r_iconst ?_
    refine r_iret rfl (by first | exact Or.inl rfl | exact Or.inr rfl) ?_
    exact hQ

set_option maxRecDepth 10000 in
theorem s_opensS {xs : xSc} {m : Nat} {I : Nat → Nat → Int32} {L : Nat → Nat → Int64} {Q : Value → xHp → Prop} {t z i o : Nat} {w : Vw} (hm : 4 ≤ m) (ho : o < 5) (h : mCx t z i o w I L) (hk : ¬ tkd (mb t I) z i = 1) (hQ : ∀ J L2, vF I J → mCx t z (tst (mb t I) z i) (o + 1) w J L2 → Q (.int 1) (Hp J L2)) : M xs m xi_X7_opens [.ref 61] (Hp I L) Q := by
  obtain ⟨m, rfl⟩ : ∃ k, m = k + 1 := ⟨m - 1, by omega⟩
  obtain ⟨⟨h1, h2, h3⟩, ⟨h4, h5, h6, h7⟩, h8, h9, h10⟩ := h
  have hC : mCx t z i (o + 1) w (up2 I 61 25 (io o + 1)) L := by
    refine ⟨⟨h1, h2, h3⟩, ⟨h4, h5, ?_, h7⟩, h8, ?_, fun k hk => ?_⟩
    · rw [up2_at]; exact n_add (a := o) (b := 1) rfl rfl
    · exact h9
    · rw [up2_k (by omega)]; exact h10 k hk
  refine M_go (ls := [_]) (ml := 1) rfl rfl rfl (zl rfl) rfl ?_
  refine r_aload_n rfl ?_
  refine r_getI (by decide) rfl rfl (by decide) h6 ?_
  refine r_iconst ?_
  refine r_icmp_ne (fun c_5 => ?_) (fun c_5 => ?_)
  · have c_5 := (not_congr (n_eq (a := o) (b := 5) rfl rfl (by omega) (by omega))).mp c_5
    refine E_go 1 rfl ?_
    refine r_aload_n rfl ?_
    refine r_dup rfl ?_
    refine r_getI (by decide) rfl rfl (by decide) h6 ?_
    refine r_iconst ?_
    refine r_iadd ?_
    refine r_putI rfl rfl (by decide) ?_
    refine r_aload_n rfl ?_
    refine r_virtual (vs := []) (as := []) (by decide) (zl rfl) rfl rfl (zl rfl) (Nat.le_refl _) (Or.inr (Or.inr ⟨zt rfl, rfl, zt rfl⟩)) ?_
    refine s_nextM (by omega) hC hk (fun J L2 k1 k2 => ?_)
    refine r_iconst ?_
    refine r_iret rfl (by first | exact Or.inl rfl | exact Or.inr rfl) ?_
    exact hQ J L2 ((vF.refl.up (by omega) (by omega)).trans k1.v) k2
  · have c_5 := (n_eq (a := o) (b := 5) rfl rfl (by omega) (by omega)).mp c_5
    omega

set_option maxRecDepth 10000 in
theorem s_name {xs : xSc} {m : Nat} {I : Nat → Nat → Int32} {L : Nat → Nat → Int64} {Q : Value → xHp → Prop} {t z i o : Nat} {w : Vw} (hm : 4 ≤ m) (h : mCx t z i o w I L) (hQ1 : 10 ≤ tkd (mb t I) z i → tkd (mb t I) z i < 16 → Q (.int (w (tkd (mb t I) z i - 10))) (Hp I L)) (hQ0 : ¬ (10 ≤ tkd (mb t I) z i ∧ tkd (mb t I) z i < 16) → Q (.int 0) (Hp (fl I) L)) : M xs m xi_X7_name [.ref 61] (Hp I L) Q := by
  obtain ⟨m, rfl⟩ : ∃ k, m = k + 1 := ⟨m - 1, by omega⟩
  refine M_go (ls := [_]) (ml := 1) rfl rfl rfl (zl rfl) rfl ?_
  refine r_aload_n rfl ?_
  refine r_bipush ?_
  refine r_bipush ?_
  refine r_bipush ?_
  refine r_bipush ?_
  refine r_iconst ?_
  refine r_iconst ?_
  refine r_iconst ?_
  refine r_iconst ?_
  refine r_virtual (vs := []) (as := [_, _, _, _, _, _, _, _]) (by decide) (zl rfl) rfl rfl (zl rfl) (Nat.le_refl _) (Or.inr (Or.inr ⟨zt rfl, rfl, zt rfl⟩)) ?_
  refine s_isW_10 (by omega) h.1.1 h.1.2.1 h.2.1.1 h.2.1.2.1 h.1.2.2 h.2.1.2.2.2 h.2.2.2.1 ?_
  refine r_if_eq (fun c_16 => ?_) (fun c_16 => ?_)
  · refine E_go 1 rfl ?_
    refine r_aload_n rfl ?_
    refine r_bipush ?_
    refine r_bipush ?_
    refine r_bipush ?_
    refine r_bipush ?_
    refine r_bipush ?_
    refine r_bipush ?_
    refine r_iconst ?_
    refine r_iconst ?_
    refine r_virtual (vs := []) (as := [_, _, _, _, _, _, _, _]) (by decide) (zl rfl) rfl rfl (zl rfl) (Nat.le_refl _) (Or.inr (Or.inr ⟨zt rfl, rfl, zt rfl⟩)) ?_
    refine s_isW_11 (by omega) h.1.1 h.1.2.1 h.2.1.1 h.2.1.2.1 h.1.2.2 h.2.1.2.2.2 h.2.2.2.1 ?_
    refine r_if_eq (fun c_42 => ?_) (fun c_42 => ?_)
    · refine E_go 2 rfl ?_
      refine r_aload_n rfl ?_
      refine r_bipush ?_
      refine r_bipush ?_
      refine r_bipush ?_
      refine r_bipush ?_
      refine r_bipush ?_
      refine r_bipush ?_
      refine r_iconst ?_
      refine r_iconst ?_
      refine r_virtual (vs := []) (as := [_, _, _, _, _, _, _, _]) (by decide) (zl rfl) rfl rfl (zl rfl) (Nat.le_refl _) (Or.inr (Or.inr ⟨zt rfl, rfl, zt rfl⟩)) ?_
      refine s_isW_12 (by omega) h.1.1 h.1.2.1 h.2.1.1 h.2.1.2.1 h.1.2.2 h.2.1.2.2.2 h.2.2.2.1 ?_
      refine r_if_eq (fun c_68 => ?_) (fun c_68 => ?_)
      · refine E_go 3 rfl ?_
        refine r_aload_n rfl ?_
        refine r_bipush ?_
        refine r_bipush ?_
        refine r_bipush ?_
        refine r_bipush ?_
        refine r_bipush ?_
        refine r_iconst ?_
        refine r_iconst ?_
        refine r_iconst ?_
        refine r_virtual (vs := []) (as := [_, _, _, _, _, _, _, _]) (by decide) (zl rfl) rfl rfl (zl rfl) (Nat.le_refl _) (Or.inr (Or.inr ⟨zt rfl, rfl, zt rfl⟩)) ?_
        refine s_isW_13 (by omega) h.1.1 h.1.2.1 h.2.1.1 h.2.1.2.1 h.1.2.2 h.2.1.2.2.2 h.2.2.2.1 ?_
        refine r_if_eq (fun c_93 => ?_) (fun c_93 => ?_)
        · refine E_go 4 rfl ?_
          refine r_aload_n rfl ?_
          refine r_bipush ?_
          refine r_bipush ?_
          refine r_bipush ?_
          refine r_bipush ?_
          refine r_bipush ?_
          refine r_bipush ?_
          refine r_iconst ?_
          refine r_iconst ?_
          refine r_virtual (vs := []) (as := [_, _, _, _, _, _, _, _]) (by decide) (zl rfl) rfl rfl (zl rfl) (Nat.le_refl _) (Or.inr (Or.inr ⟨zt rfl, rfl, zt rfl⟩)) ?_
          refine s_isW_14 (by omega) h.1.1 h.1.2.1 h.2.1.1 h.2.1.2.1 h.1.2.2 h.2.1.2.2.2 h.2.2.2.1 ?_
          refine r_if_eq (fun c_119 => ?_) (fun c_119 => ?_)
          · refine E_go 5 rfl ?_
            refine r_aload_n rfl ?_
            refine r_bipush ?_
            refine r_bipush ?_
            refine r_bipush ?_
            refine r_bipush ?_
            refine r_iconst ?_
            refine r_iconst ?_
            refine r_iconst ?_
            refine r_iconst ?_
            refine r_virtual (vs := []) (as := [_, _, _, _, _, _, _, _]) (by decide) (zl rfl) rfl rfl (zl rfl) (Nat.le_refl _) (Or.inr (Or.inr ⟨zt rfl, rfl, zt rfl⟩)) ?_
            refine s_isW_15 (by omega) h.1.1 h.1.2.1 h.2.1.1 h.2.1.2.1 h.1.2.2 h.2.1.2.2.2 h.2.2.2.1 ?_
            refine r_if_eq (fun c_143 => ?_) (fun c_143 => ?_)
            · refine E_go 6 rfl ?_
              refine r_aload_n rfl ?_
              refine r_virtual (vs := []) (as := []) (by decide) (zl rfl) rfl rfl (zl rfl) (Nat.le_refl _) (Or.inr (Or.inr ⟨zt rfl, rfl, zt rfl⟩)) ?_
              refine s_fail0 (by omega) h.2.1.2.2.2 ?_
              refine r_iconst ?_
              refine r_iret rfl trivial ?_
              have q0 := b01.mp c_16
              have q1 := b01.mp c_42
              have q2 := b01.mp c_68
              have q3 := b01.mp c_93
              have q4 := b01.mp c_119
              have q5 := b01.mp c_143
              exact hQ0 (fun q => by omega)
            · refine r_aload_n rfl ?_
              refine r_getI (by decide) rfl rfl (by decide) rfl ?_
              refine r_iret rfl trivial ?_
              have e := b01n.mp c_143
              have hx := hQ1 (by omega) (by omega)
              rw [e] at hx
              rw [h.2.2.2.2 5 (by omega)]
              exact hx
          · refine r_aload_n rfl ?_
            refine r_getI (by decide) rfl rfl (by decide) rfl ?_
            refine r_iret rfl trivial ?_
            have e := b01n.mp c_119
            have hx := hQ1 (by omega) (by omega)
            rw [e] at hx
            rw [h.2.2.2.2 4 (by omega)]
            exact hx
        · refine r_aload_n rfl ?_
          refine r_getI (by decide) rfl rfl (by decide) rfl ?_
          refine r_iret rfl trivial ?_
          have e := b01n.mp c_93
          have hx := hQ1 (by omega) (by omega)
          rw [e] at hx
          rw [h.2.2.2.2 3 (by omega)]
          exact hx
      · refine r_aload_n rfl ?_
        refine r_getI (by decide) rfl rfl (by decide) rfl ?_
        refine r_iret rfl trivial ?_
        have e := b01n.mp c_68
        have hx := hQ1 (by omega) (by omega)
        rw [e] at hx
        rw [h.2.2.2.2 2 (by omega)]
        exact hx
    · refine r_aload_n rfl ?_
      refine r_getI (by decide) rfl rfl (by decide) rfl ?_
      refine r_iret rfl trivial ?_
      have e := b01n.mp c_42
      have hx := hQ1 (by omega) (by omega)
      rw [e] at hx
      rw [h.2.2.2.2 1 (by omega)]
      exact hx
  · refine r_aload_n rfl ?_
    refine r_getI (by decide) rfl rfl (by decide) rfl ?_
    refine r_iret rfl trivial ?_
    have e := b01n.mp c_16
    have hx := hQ1 (by omega) (by omega)
    rw [e] at hx
    rw [h.2.2.2.2 0 (by omega)]
    exact hx
