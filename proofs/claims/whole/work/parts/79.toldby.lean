/-! told heats: by number, thirst, plan, kind, rule; the model -/

def wK (X : Pot) (a : Nat) (v : Int32) : Pot := (X.1, X.2.1, u1 X.2.2.1 a v, X.2.2.2.1, X.2.2.2.2.1, X.2.2.2.2.2)
def wN (X : Pot) (a : Nat) (v : Int32) : Pot := (X.1, X.2.1, X.2.2.1, u1 X.2.2.2.1 a v, X.2.2.2.2.1, X.2.2.2.2.2)
def wS (X : Pot) (a : Nat) (v : Int32) : Pot := (X.1, X.2.1, X.2.2.1, X.2.2.2.1, u1 X.2.2.2.2.1 a v, X.2.2.2.2.2)
theorem u1_c {f g : Nat → Int32} {a b : Nat} {v : Int32} (h : f b = g b) : u1 f a v b = u1 g a v b := by
  by_cases e : b = a
  · subst e; rw [u1_eq, u1_eq]
  · rw [u1_ne e, u1_ne e, h]
theorem wK_c {X Y : Pot} (h : pEq X Y) (a : Nat) (v : Int32) : pEq (wK X a v) (wK Y a v) := ⟨h.1, h.2.1, fun b hb => ⟨⟨u1_c (h.2.2 b hb).1.1, (h.2.2 b hb).1.2⟩, (h.2.2 b hb).2⟩⟩
theorem wN_c {X Y : Pot} (h : pEq X Y) (a : Nat) (v : Int32) : pEq (wN X a v) (wN Y a v) := ⟨h.1, h.2.1, fun b hb => ⟨⟨(h.2.2 b hb).1.1, u1_c (h.2.2 b hb).1.2⟩, (h.2.2 b hb).2⟩⟩
theorem wS_c {X Y : Pot} (h : pEq X Y) (a : Nat) (v : Int32) : pEq (wS X a v) (wS Y a v) := ⟨h.1, h.2.1, fun b hb => ⟨(h.2.2 b hb).1, u1_c (h.2.2 b hb).2.1, (h.2.2 b hb).2.2⟩⟩
theorem u1_is {f : Nat → Int32} {a : Nat} {v : Int32} {n k : Nat} (h : ∀ b, b < n → isN k (f b)) (hv : isN k v) : ∀ b, b < n → isN k (u1 f a v b) := fun b hb => by
  by_cases e : b = a
  · subst e; rw [u1_eq]; exact hv
  · rw [u1_ne e]; exact h b hb
theorem wK_ok {X : Pot} {a : Nat} {v : Int32} (h : okX X) (hv : isN 6 v) : okX (wK X a v) := ⟨h.1, h.2.1, u1_is h.2.2.1 hv, h.2.2.2⟩
theorem wN_ok {X : Pot} {a : Nat} {v : Int32} (h : okX X) (hv : isN 10 v) : okX (wN X a v) := ⟨h.1, h.2.1, h.2.2.1, u1_is h.2.2.2.1 hv, h.2.2.2.2⟩
theorem wS_ok {X : Pot} {a : Nat} {v : Int32} (h : okX X) (hv : isN 100 v) : okX (wS X a v) := ⟨h.1, h.2.1, h.2.2.1, h.2.2.2.1, u1_is h.2.2.2.2 hv⟩
section
variable {n r a : Nat} {X : Pot} {v : Int32} {I J : Nat → Nat → Int32}
theorem TC.num (h : TC n r X I J) : TC n r (wN X a v) I (up2 J 15 a v) := by
  refine ⟨h.1.up (by omega) (by omega), h.2.1, h.2.2.1, h.2.2.2.1, h.2.2.2.2.1, fun c hc => ?_⟩
  obtain ⟨⟨q1, q2⟩, q3, q4⟩ := h.2.2.2.2.2 c hc
  exact ⟨⟨q1, (congrFun up2_p c).trans (u1_c q2)⟩, q3, q4⟩
theorem TC.thi (h : TC n r X I J) : TC n r (wS X a v) I (up2 J 16 a v) := by
  refine ⟨h.1.up (by omega) (by omega), h.2.1, h.2.2.1, h.2.2.2.1, h.2.2.2.2.1, fun c hc => ?_⟩
  obtain ⟨⟨q1, q2⟩, q3, q4⟩ := h.2.2.2.2.2 c hc
  exact ⟨⟨q1, q2⟩, (congrFun up2_p c).trans (u1_c q3), q4⟩
theorem TC.knd (h : TC n r X I J) : TC n r (wK X a v) I (up2 J 14 a v) := by
  refine ⟨h.1.up (by omega) (by omega), h.2.1, h.2.2.1, h.2.2.2.1, h.2.2.2.2.1, fun c hc => ?_⟩
  obtain ⟨⟨q1, q2⟩, q3, q4⟩ := h.2.2.2.2.2 c hc
  exact ⟨⟨(congrFun up2_p c).trans (u1_c q1), q2⟩, q3, q4⟩
theorem TC.rul {t : Nat} (h : TC n r X I J) : TC n t X I (up2 J 13 2 (io t)) := ⟨h.1.up (by omega) (by omega), h.2.1, rfl, h.2.2.2⟩
end
/-- told, as a function of the value -/
def tfW (ru : Ru) (W : Pot → Nat → Int32 → Pot) (X : Pot) (a z : Nat) (g : Nat → Int32) : Nat → Int32 := fun v => fo (ht ru (W X a (io v))) g z 0
def tfR (I : Nat → Nat → Int32) (X : Pot) (z : Nat) (g : Nat → Int32) : Nat → Int32 := fun t => fo (ht (cT t I) X) g z 0

set_option maxRecDepth 10000 in
theorem cTo_num {xs : xSc} {m : Nat} {I : Nat → Nat → Int32} (hm : 6 ≤ m) {n tc r tp s z a : Nat} {ru : Ru} (R : RX n tc r tp I) (hl : rlz r I ru) (hs : s < 4) (hz6 : z ≤ 6) (hz : I (53 + 2 * s) 1 = io z) (ha : a < n) : cTo xs m s 2 (io a) 10 (tfW ru wN (pX n I) a z (I (54 + 2 * s))) I := by
  intro v hv J L Q hJ hQ
  have h5 := R.n5
  obtain ⟨m, rfl⟩ : ∃ k, m = k + 6 := ⟨m - 6, by omega⟩
  refine M_go (ls := [_, _, _, _, _]) (ml := 5) rfl rfl rfl (zl rfl) rfl ?_
  refine r_aload_n rfl ?_
  refine r_getA (q := 13) (by decide) rfl rfl (by decide) ?_
  refine r_aload_n rfl ?_
  refine r_getA (q := 1) (by decide) rfl rfl (by decide) ?_
  refine r_virtual (vs := []) (as := [_]) (by decide) (zl rfl) rfl rfl (zl rfl) (Nat.le_refl _) (Or.inr (Or.inr ⟨zt rfl, rfl, zt rfl⟩)) ?_
  refine s_becomes_13_1 (by omega) (fun J1 b1 => ?_)
  have t0 := TC_bec ((R.c hl).f hJ) b1
  rw [hJ.pe] at t0
  refine r_aload_n rfl ?_
  refine r_getA (q := 13) (by decide) rfl rfl (by decide) ?_
  refine r_iload_n rfl ?_
  refine r_iload_n rfl ?_
  refine r_iload rfl ?_
  refine r_virtual (vs := []) (as := [_, _, _]) (by decide) (zl rfl) rfl rfl (zl rfl) (Nat.le_refl _) (Or.inr (Or.inr ⟨zt rfl, rfl, zt rfl⟩)) ?_
  refine M_go (ls := [_, _, _, _]) (ml := 4) rfl rfl rfl (zl rfl) rfl ?_
  refine r_iload_n rfl ?_
  refine r_table ?_
  refine r_sw1 (fun cs => ?_) (fun ds => ?_)
  · exact absurd ((n_eq (a := 2) (b := 0) rfl rfl (by omega) (by omega)).mp cs) (by omega)
  refine r_sw1 (fun cs => ?_) (fun ds => ?_)
  · exact absurd ((n_eq (a := 2) (b := 1) rfl rfl (by omega) (by omega)).mp cs) (by omega)
  refine r_sw1 (fun cs => ?_) (fun ds => ?_)
  · refine E_go 3 rfl ?_
    refine r_aload_n rfl ?_
    refine r_getA (q := 15) (by decide) rfl rfl (by decide) ?_
    refine r_iload_n rfl ?_
    refine r_iload_n rfl ?_
    refine r_iastore rfl (by decide) (ixE rfl (show a < 5 by omega) (by decide)) ?_
    refine r_goto ?_
    refine E_go 8 rfl ?_
    refine r_ret rfl ?_
    refine r_aload_n rfl ?_
    refine r_aload_n rfl ?_
    refine r_getA (q := 13) (by decide) rfl rfl (by decide) ?_
    refine r_aload_n rfl ?_
    refine r_virtual (vs := []) (as := [_, _]) (by decide) (zl rfl) rfl rfl (zl rfl) (Nat.le_refl _) (Or.inr (Or.inr ⟨zt rfl, rfl, zt rfl⟩)) ?_
    have t1 := t0.num (a := a) (v := io v)
    have f1 : fS J (up2 J1 15 a (io v)) := t1.1.fS (by omega) (by omega)
    have f2 := hJ.trans f1
    have eg : (up2 J1 15 a (io v)) (54 + 2 * s) = I (54 + 2 * s) := f2.1 _ (by omega)
    refine w_cfo13 (ru := ru) (by omega) R.n5 R.r6 (((R.c hl).f f2).2) t1 hs hz6 (by rw [f2.1 (53 + 2 * s) (by omega)]; exact hz) (fun K k1 => ?_)
    rw [eg]
    have fK := f2.trans (k1.fS (by omega) (by omega))
    refine r_iconst ?_
    refine r_icmp_ne (fun c_32 => ?_) (fun c_32 => ?_)
    · refine E_go 1 rfl ?_
      refine r_iconst ?_
      refine r_nil ?_
      refine E_go 2 rfl ?_
      refine r_iret rfl (by first | exact Or.inl rfl | exact Or.inr rfl) ?_
      have q := hQ _ fK
      unfold tfW at q
      first | (rw [if_pos c_32] at q; exact q) | (rw [if_neg c_32] at q; exact q)
    · refine r_iconst ?_
      refine r_goto ?_
      refine E_go 2 rfl ?_
      refine r_iret rfl (by first | exact Or.inl rfl | exact Or.inr rfl) ?_
      have q := hQ _ fK
      unfold tfW at q
      first | (rw [if_pos c_32] at q; exact q) | (rw [if_neg c_32] at q; exact q)
  · exact absurd rfl ds

set_option maxRecDepth 10000 in
theorem cVa_num {xs : xSc} {m : Nat} {I : Nat → Nat → Int32} (hm : 1 ≤ m) : cVa xs m 2 10 I := by
  intro J L Q hJ hQ
  obtain ⟨m, rfl⟩ : ∃ k, m = k + 1 := ⟨m - 1, by omega⟩
  refine M_go (ls := [_, _]) (ml := 2) rfl rfl rfl (zl rfl) rfl ?_
  refine r_iload_n rfl ?_
  refine r_table ?_
  refine r_sw1 (fun cs => ?_) (fun ds => ?_)
  · exact absurd ((n_eq (a := 2) (b := 0) rfl rfl (by omega) (by omega)).mp cs) (by omega)
  refine r_sw1 (fun cs => ?_) (fun ds => ?_)
  · exact absurd ((n_eq (a := 2) (b := 1) rfl rfl (by omega) (by omega)).mp cs) (by omega)
  refine r_sw1 (fun cs => ?_) (fun ds => ?_)
  · refine E_go 3 rfl ?_
    refine r_bipush ?_
    refine r_iret rfl trivial ?_
    exact hQ
  · exact absurd rfl ds

set_option maxRecDepth 10000 in
theorem cTo_thi {xs : xSc} {m : Nat} {I : Nat → Nat → Int32} (hm : 6 ≤ m) {n tc r tp s z a : Nat} {ru : Ru} (R : RX n tc r tp I) (hl : rlz r I ru) (hs : s < 4) (hz6 : z ≤ 6) (hz : I (53 + 2 * s) 1 = io z) (ha : a < n) : cTo xs m s 3 (io a) 100 (tfW ru wS (pX n I) a z (I (54 + 2 * s))) I := by
  intro v hv J L Q hJ hQ
  have h5 := R.n5
  obtain ⟨m, rfl⟩ : ∃ k, m = k + 6 := ⟨m - 6, by omega⟩
  refine M_go (ls := [_, _, _, _, _]) (ml := 5) rfl rfl rfl (zl rfl) rfl ?_
  refine r_aload_n rfl ?_
  refine r_getA (q := 13) (by decide) rfl rfl (by decide) ?_
  refine r_aload_n rfl ?_
  refine r_getA (q := 1) (by decide) rfl rfl (by decide) ?_
  refine r_virtual (vs := []) (as := [_]) (by decide) (zl rfl) rfl rfl (zl rfl) (Nat.le_refl _) (Or.inr (Or.inr ⟨zt rfl, rfl, zt rfl⟩)) ?_
  refine s_becomes_13_1 (by omega) (fun J1 b1 => ?_)
  have t0 := TC_bec ((R.c hl).f hJ) b1
  rw [hJ.pe] at t0
  refine r_aload_n rfl ?_
  refine r_getA (q := 13) (by decide) rfl rfl (by decide) ?_
  refine r_iload_n rfl ?_
  refine r_iload_n rfl ?_
  refine r_iload rfl ?_
  refine r_virtual (vs := []) (as := [_, _, _]) (by decide) (zl rfl) rfl rfl (zl rfl) (Nat.le_refl _) (Or.inr (Or.inr ⟨zt rfl, rfl, zt rfl⟩)) ?_
  refine M_go (ls := [_, _, _, _]) (ml := 4) rfl rfl rfl (zl rfl) rfl ?_
  refine r_iload_n rfl ?_
  refine r_table ?_
  refine r_sw1 (fun cs => ?_) (fun ds => ?_)
  · exact absurd ((n_eq (a := 3) (b := 0) rfl rfl (by omega) (by omega)).mp cs) (by omega)
  refine r_sw1 (fun cs => ?_) (fun ds => ?_)
  · exact absurd ((n_eq (a := 3) (b := 1) rfl rfl (by omega) (by omega)).mp cs) (by omega)
  refine r_sw1 (fun cs => ?_) (fun ds => ?_)
  · exact absurd ((n_eq (a := 3) (b := 2) rfl rfl (by omega) (by omega)).mp cs) (by omega)
  refine r_sw1 (fun cs => ?_) (fun ds => ?_)
  · refine E_go 4 rfl ?_
    refine r_aload_n rfl ?_
    refine r_getA (q := 16) (by decide) rfl rfl (by decide) ?_
    refine r_iload_n rfl ?_
    refine r_iload_n rfl ?_
    refine r_iastore rfl (by decide) (ixE rfl (show a < 5 by omega) (by decide)) ?_
    refine r_goto ?_
    refine E_go 8 rfl ?_
    refine r_ret rfl ?_
    refine r_aload_n rfl ?_
    refine r_aload_n rfl ?_
    refine r_getA (q := 13) (by decide) rfl rfl (by decide) ?_
    refine r_aload_n rfl ?_
    refine r_virtual (vs := []) (as := [_, _]) (by decide) (zl rfl) rfl rfl (zl rfl) (Nat.le_refl _) (Or.inr (Or.inr ⟨zt rfl, rfl, zt rfl⟩)) ?_
    have t1 := t0.thi (a := a) (v := io v)
    have f1 : fS J (up2 J1 16 a (io v)) := t1.1.fS (by omega) (by omega)
    have f2 := hJ.trans f1
    have eg : (up2 J1 16 a (io v)) (54 + 2 * s) = I (54 + 2 * s) := f2.1 _ (by omega)
    refine w_cfo13 (ru := ru) (by omega) R.n5 R.r6 (((R.c hl).f f2).2) t1 hs hz6 (by rw [f2.1 (53 + 2 * s) (by omega)]; exact hz) (fun K k1 => ?_)
    rw [eg]
    have fK := f2.trans (k1.fS (by omega) (by omega))
    refine r_iconst ?_
    refine r_icmp_ne (fun c_32 => ?_) (fun c_32 => ?_)
    · refine E_go 1 rfl ?_
      refine r_iconst ?_
      refine r_nil ?_
      refine E_go 2 rfl ?_
      refine r_iret rfl (by first | exact Or.inl rfl | exact Or.inr rfl) ?_
      have q := hQ _ fK
      unfold tfW at q
      first | (rw [if_pos c_32] at q; exact q) | (rw [if_neg c_32] at q; exact q)
    · refine r_iconst ?_
      refine r_goto ?_
      refine E_go 2 rfl ?_
      refine r_iret rfl (by first | exact Or.inl rfl | exact Or.inr rfl) ?_
      have q := hQ _ fK
      unfold tfW at q
      first | (rw [if_pos c_32] at q; exact q) | (rw [if_neg c_32] at q; exact q)
  · exact absurd rfl ds

set_option maxRecDepth 10000 in
theorem cVa_thi {xs : xSc} {m : Nat} {I : Nat → Nat → Int32} (hm : 1 ≤ m) : cVa xs m 3 100 I := by
  intro J L Q hJ hQ
  obtain ⟨m, rfl⟩ : ∃ k, m = k + 1 := ⟨m - 1, by omega⟩
  refine M_go (ls := [_, _]) (ml := 2) rfl rfl rfl (zl rfl) rfl ?_
  refine r_iload_n rfl ?_
  refine r_table ?_
  refine r_sw1 (fun cs => ?_) (fun ds => ?_)
  · exact absurd ((n_eq (a := 3) (b := 0) rfl rfl (by omega) (by omega)).mp cs) (by omega)
  refine r_sw1 (fun cs => ?_) (fun ds => ?_)
  · exact absurd ((n_eq (a := 3) (b := 1) rfl rfl (by omega) (by omega)).mp cs) (by omega)
  refine r_sw1 (fun cs => ?_) (fun ds => ?_)
  · exact absurd ((n_eq (a := 3) (b := 2) rfl rfl (by omega) (by omega)).mp cs) (by omega)
  refine r_sw1 (fun cs => ?_) (fun ds => ?_)
  · refine E_go 4 rfl ?_
    refine r_bipush ?_
    refine r_iret rfl trivial ?_
    exact hQ
  · exact absurd rfl ds

set_option maxRecDepth 10000 in
theorem cTo_plan {xs : xSc} {m : Nat} {I : Nat → Nat → Int32} (hm : 6 ≤ m) {n tc r tp s z a : Nat} {ru : Ru} (R : RX n tc r tp I) (hl : rlz r I ru) (hs : s < 4) (hz6 : z ≤ 6) (hz : I (53 + 2 * s) 1 = io z) (ha : a < n) : cTo xs m s 4 (io a) 64 (tfW ru wP (pX n I) a z (I (54 + 2 * s))) I := by
  intro v hv J L Q hJ hQ
  have h5 := R.n5
  obtain ⟨m, rfl⟩ : ∃ k, m = k + 6 := ⟨m - 6, by omega⟩
  refine M_go (ls := [_, _, _, _, _]) (ml := 5) rfl rfl rfl (zl rfl) rfl ?_
  refine r_aload_n rfl ?_
  refine r_getA (q := 13) (by decide) rfl rfl (by decide) ?_
  refine r_aload_n rfl ?_
  refine r_getA (q := 1) (by decide) rfl rfl (by decide) ?_
  refine r_virtual (vs := []) (as := [_]) (by decide) (zl rfl) rfl rfl (zl rfl) (Nat.le_refl _) (Or.inr (Or.inr ⟨zt rfl, rfl, zt rfl⟩)) ?_
  refine s_becomes_13_1 (by omega) (fun J1 b1 => ?_)
  have t0 := TC_bec ((R.c hl).f hJ) b1
  rw [hJ.pe] at t0
  refine r_aload_n rfl ?_
  refine r_getA (q := 13) (by decide) rfl rfl (by decide) ?_
  refine r_iload_n rfl ?_
  refine r_iload_n rfl ?_
  refine r_iload rfl ?_
  refine r_virtual (vs := []) (as := [_, _, _]) (by decide) (zl rfl) rfl rfl (zl rfl) (Nat.le_refl _) (Or.inr (Or.inr ⟨zt rfl, rfl, zt rfl⟩)) ?_
  refine M_go (ls := [_, _, _, _]) (ml := 4) rfl rfl rfl (zl rfl) rfl ?_
  refine r_iload_n rfl ?_
  refine r_table ?_
  refine r_sw1 (fun cs => ?_) (fun ds => ?_)
  · exact absurd ((n_eq (a := 4) (b := 0) rfl rfl (by omega) (by omega)).mp cs) (by omega)
  refine r_sw1 (fun cs => ?_) (fun ds => ?_)
  · exact absurd ((n_eq (a := 4) (b := 1) rfl rfl (by omega) (by omega)).mp cs) (by omega)
  refine r_sw1 (fun cs => ?_) (fun ds => ?_)
  · exact absurd ((n_eq (a := 4) (b := 2) rfl rfl (by omega) (by omega)).mp cs) (by omega)
  refine r_sw1 (fun cs => ?_) (fun ds => ?_)
  · exact absurd ((n_eq (a := 4) (b := 3) rfl rfl (by omega) (by omega)).mp cs) (by omega)
  refine r_sw1 (fun cs => ?_) (fun ds => ?_)
  · refine E_go 5 rfl ?_
    refine r_aload_n rfl ?_
    refine r_getA (q := 17) (by decide) rfl rfl (by decide) ?_
    refine r_iload_n rfl ?_
    refine r_iload_n rfl ?_
    refine r_iastore rfl (by decide) (ixE rfl (show a < 5 by omega) (by decide)) ?_
    refine r_goto ?_
    refine E_go 8 rfl ?_
    refine r_ret rfl ?_
    refine r_aload_n rfl ?_
    refine r_aload_n rfl ?_
    refine r_getA (q := 13) (by decide) rfl rfl (by decide) ?_
    refine r_aload_n rfl ?_
    refine r_virtual (vs := []) (as := [_, _]) (by decide) (zl rfl) rfl rfl (zl rfl) (Nat.le_refl _) (Or.inr (Or.inr ⟨zt rfl, rfl, zt rfl⟩)) ?_
    have t1 := t0.plan (a := a) (v := io v)
    have f1 : fS J (up2 J1 17 a (io v)) := t1.1.fS (by omega) (by omega)
    have f2 := hJ.trans f1
    have eg : (up2 J1 17 a (io v)) (54 + 2 * s) = I (54 + 2 * s) := f2.1 _ (by omega)
    refine w_cfo13 (ru := ru) (by omega) R.n5 R.r6 (((R.c hl).f f2).2) t1 hs hz6 (by rw [f2.1 (53 + 2 * s) (by omega)]; exact hz) (fun K k1 => ?_)
    rw [eg]
    have fK := f2.trans (k1.fS (by omega) (by omega))
    refine r_iconst ?_
    refine r_icmp_ne (fun c_32 => ?_) (fun c_32 => ?_)
    · refine E_go 1 rfl ?_
      refine r_iconst ?_
      refine r_nil ?_
      refine E_go 2 rfl ?_
      refine r_iret rfl (by first | exact Or.inl rfl | exact Or.inr rfl) ?_
      have q := hQ _ fK
      unfold tfW at q
      first | (rw [if_pos c_32] at q; exact q) | (rw [if_neg c_32] at q; exact q)
    · refine r_iconst ?_
      refine r_goto ?_
      refine E_go 2 rfl ?_
      refine r_iret rfl (by first | exact Or.inl rfl | exact Or.inr rfl) ?_
      have q := hQ _ fK
      unfold tfW at q
      first | (rw [if_pos c_32] at q; exact q) | (rw [if_neg c_32] at q; exact q)
  · exact absurd rfl ds

set_option maxRecDepth 10000 in
theorem cVa_plan {xs : xSc} {m : Nat} {I : Nat → Nat → Int32} (hm : 1 ≤ m) : cVa xs m 4 64 I := by
  intro J L Q hJ hQ
  obtain ⟨m, rfl⟩ : ∃ k, m = k + 1 := ⟨m - 1, by omega⟩
  refine M_go (ls := [_, _]) (ml := 2) rfl rfl rfl (zl rfl) rfl ?_
  refine r_iload_n rfl ?_
  refine r_table ?_
  refine r_sw1 (fun cs => ?_) (fun ds => ?_)
  · exact absurd ((n_eq (a := 4) (b := 0) rfl rfl (by omega) (by omega)).mp cs) (by omega)
  refine r_sw1 (fun cs => ?_) (fun ds => ?_)
  · exact absurd ((n_eq (a := 4) (b := 1) rfl rfl (by omega) (by omega)).mp cs) (by omega)
  refine r_sw1 (fun cs => ?_) (fun ds => ?_)
  · exact absurd ((n_eq (a := 4) (b := 2) rfl rfl (by omega) (by omega)).mp cs) (by omega)
  refine r_sw1 (fun cs => ?_) (fun ds => ?_)
  · exact absurd ((n_eq (a := 4) (b := 3) rfl rfl (by omega) (by omega)).mp cs) (by omega)
  refine r_sw1 (fun cs => ?_) (fun ds => ?_)
  · refine E_go 5 rfl ?_
    refine r_bipush ?_
    refine r_iret rfl trivial ?_
    exact hQ
  · exact absurd rfl ds

set_option maxRecDepth 10000 in
theorem cTo_knd {xs : xSc} {m : Nat} {I : Nat → Nat → Int32} (hm : 6 ≤ m) {n tc r tp s z a : Nat} {ru : Ru} (R : RX n tc r tp I) (hl : rlz r I ru) (hs : s < 4) (hz6 : z ≤ 6) (hz : I (53 + 2 * s) 1 = io z) (ha : a < n) : cTo xs m s 5 (io a) 6 (tfW ru wK (pX n I) a z (I (54 + 2 * s))) I := by
  intro v hv J L Q hJ hQ
  have h5 := R.n5
  obtain ⟨m, rfl⟩ : ∃ k, m = k + 6 := ⟨m - 6, by omega⟩
  refine M_go (ls := [_, _, _, _, _]) (ml := 5) rfl rfl rfl (zl rfl) rfl ?_
  refine r_aload_n rfl ?_
  refine r_getA (q := 13) (by decide) rfl rfl (by decide) ?_
  refine r_aload_n rfl ?_
  refine r_getA (q := 1) (by decide) rfl rfl (by decide) ?_
  refine r_virtual (vs := []) (as := [_]) (by decide) (zl rfl) rfl rfl (zl rfl) (Nat.le_refl _) (Or.inr (Or.inr ⟨zt rfl, rfl, zt rfl⟩)) ?_
  refine s_becomes_13_1 (by omega) (fun J1 b1 => ?_)
  have t0 := TC_bec ((R.c hl).f hJ) b1
  rw [hJ.pe] at t0
  refine r_aload_n rfl ?_
  refine r_getA (q := 13) (by decide) rfl rfl (by decide) ?_
  refine r_iload_n rfl ?_
  refine r_iload_n rfl ?_
  refine r_iload rfl ?_
  refine r_virtual (vs := []) (as := [_, _, _]) (by decide) (zl rfl) rfl rfl (zl rfl) (Nat.le_refl _) (Or.inr (Or.inr ⟨zt rfl, rfl, zt rfl⟩)) ?_
  refine M_go (ls := [_, _, _, _]) (ml := 4) rfl rfl rfl (zl rfl) rfl ?_
  refine r_iload_n rfl ?_
  refine r_table ?_
  refine r_sw1 (fun cs => ?_) (fun ds => ?_)
  · exact absurd ((n_eq (a := 5) (b := 0) rfl rfl (by omega) (by omega)).mp cs) (by omega)
  refine r_sw1 (fun cs => ?_) (fun ds => ?_)
  · exact absurd ((n_eq (a := 5) (b := 1) rfl rfl (by omega) (by omega)).mp cs) (by omega)
  refine r_sw1 (fun cs => ?_) (fun ds => ?_)
  · exact absurd ((n_eq (a := 5) (b := 2) rfl rfl (by omega) (by omega)).mp cs) (by omega)
  refine r_sw1 (fun cs => ?_) (fun ds => ?_)
  · exact absurd ((n_eq (a := 5) (b := 3) rfl rfl (by omega) (by omega)).mp cs) (by omega)
  refine r_sw1 (fun cs => ?_) (fun ds => ?_)
  · exact absurd ((n_eq (a := 5) (b := 4) rfl rfl (by omega) (by omega)).mp cs) (by omega)
  refine r_sw1 (fun cs => ?_) (fun ds => ?_)
  · refine E_go 6 rfl ?_
    refine r_aload_n rfl ?_
    refine r_getA (q := 14) (by decide) rfl rfl (by decide) ?_
    refine r_iload_n rfl ?_
    refine r_iload_n rfl ?_
    refine r_iastore rfl (by decide) (ixE rfl (show a < 5 by omega) (by decide)) ?_
    refine r_goto ?_
    refine E_go 8 rfl ?_
    refine r_ret rfl ?_
    refine r_aload_n rfl ?_
    refine r_aload_n rfl ?_
    refine r_getA (q := 13) (by decide) rfl rfl (by decide) ?_
    refine r_aload_n rfl ?_
    refine r_virtual (vs := []) (as := [_, _]) (by decide) (zl rfl) rfl rfl (zl rfl) (Nat.le_refl _) (Or.inr (Or.inr ⟨zt rfl, rfl, zt rfl⟩)) ?_
    have t1 := t0.knd (a := a) (v := io v)
    have f1 : fS J (up2 J1 14 a (io v)) := t1.1.fS (by omega) (by omega)
    have f2 := hJ.trans f1
    have eg : (up2 J1 14 a (io v)) (54 + 2 * s) = I (54 + 2 * s) := f2.1 _ (by omega)
    refine w_cfo13 (ru := ru) (by omega) R.n5 R.r6 (((R.c hl).f f2).2) t1 hs hz6 (by rw [f2.1 (53 + 2 * s) (by omega)]; exact hz) (fun K k1 => ?_)
    rw [eg]
    have fK := f2.trans (k1.fS (by omega) (by omega))
    refine r_iconst ?_
    refine r_icmp_ne (fun c_32 => ?_) (fun c_32 => ?_)
    · refine E_go 1 rfl ?_
      refine r_iconst ?_
      refine r_nil ?_
      refine E_go 2 rfl ?_
      refine r_iret rfl (by first | exact Or.inl rfl | exact Or.inr rfl) ?_
      have q := hQ _ fK
      unfold tfW at q
      first | (rw [if_pos c_32] at q; exact q) | (rw [if_neg c_32] at q; exact q)
    · refine r_iconst ?_
      refine r_goto ?_
      refine E_go 2 rfl ?_
      refine r_iret rfl (by first | exact Or.inl rfl | exact Or.inr rfl) ?_
      have q := hQ _ fK
      unfold tfW at q
      first | (rw [if_pos c_32] at q; exact q) | (rw [if_neg c_32] at q; exact q)
  · exact absurd rfl ds

set_option maxRecDepth 10000 in
theorem cVa_knd {xs : xSc} {m : Nat} {I : Nat → Nat → Int32} (hm : 1 ≤ m) : cVa xs m 5 6 I := by
  intro J L Q hJ hQ
  obtain ⟨m, rfl⟩ : ∃ k, m = k + 1 := ⟨m - 1, by omega⟩
  refine M_go (ls := [_, _]) (ml := 2) rfl rfl rfl (zl rfl) rfl ?_
  refine r_iload_n rfl ?_
  refine r_table ?_
  refine r_sw1 (fun cs => ?_) (fun ds => ?_)
  · exact absurd ((n_eq (a := 5) (b := 0) rfl rfl (by omega) (by omega)).mp cs) (by omega)
  refine r_sw1 (fun cs => ?_) (fun ds => ?_)
  · exact absurd ((n_eq (a := 5) (b := 1) rfl rfl (by omega) (by omega)).mp cs) (by omega)
  refine r_sw1 (fun cs => ?_) (fun ds => ?_)
  · exact absurd ((n_eq (a := 5) (b := 2) rfl rfl (by omega) (by omega)).mp cs) (by omega)
  refine r_sw1 (fun cs => ?_) (fun ds => ?_)
  · exact absurd ((n_eq (a := 5) (b := 3) rfl rfl (by omega) (by omega)).mp cs) (by omega)
  refine r_sw1 (fun cs => ?_) (fun ds => ?_)
  · exact absurd ((n_eq (a := 5) (b := 4) rfl rfl (by omega) (by omega)).mp cs) (by omega)
  refine r_sw1 (fun cs => ?_) (fun ds => ?_)
  · refine E_go 6 rfl ?_
    refine r_bipush ?_
    refine r_iret rfl trivial ?_
    exact hQ
  · exact absurd rfl ds

set_option maxRecDepth 10000 in
theorem cTo_rul {xs : xSc} {m : Nat} {I : Nat → Nat → Int32} (hm : 6 ≤ m) {n tc r tp s z : Nat} {ru : Ru} (R : RX n tc r tp I) (hl : rlz r I ru) (hs : s < 4) (hz6 : z ≤ 6) (hz : I (53 + 2 * s) 1 = io z) : cTo xs m s 8 (-1) tc (tfR I (pX n I) z (I (54 + 2 * s))) I := by
  intro v hv J L Q hJ hQ
  have h5 := R.n5
  obtain ⟨m, rfl⟩ : ∃ k, m = k + 6 := ⟨m - 6, by omega⟩
  refine M_go (ls := [_, _, _, _, _]) (ml := 5) rfl rfl rfl (zl rfl) rfl ?_
  refine r_aload_n rfl ?_
  refine r_getA (q := 13) (by decide) rfl rfl (by decide) ?_
  refine r_aload_n rfl ?_
  refine r_getA (q := 1) (by decide) rfl rfl (by decide) ?_
  refine r_virtual (vs := []) (as := [_]) (by decide) (zl rfl) rfl rfl (zl rfl) (Nat.le_refl _) (Or.inr (Or.inr ⟨zt rfl, rfl, zt rfl⟩)) ?_
  refine s_becomes_13_1 (by omega) (fun J1 b1 => ?_)
  have t0 := TC_bec ((R.c hl).f hJ) b1
  rw [hJ.pe] at t0
  refine r_aload_n rfl ?_
  refine r_getA (q := 13) (by decide) rfl rfl (by decide) ?_
  refine r_iload_n rfl ?_
  refine r_iload_n rfl ?_
  refine r_iload rfl ?_
  refine r_virtual (vs := []) (as := [_, _, _]) (by decide) (zl rfl) rfl rfl (zl rfl) (Nat.le_refl _) (Or.inr (Or.inr ⟨zt rfl, rfl, zt rfl⟩)) ?_
  refine M_go (ls := [_, _, _, _]) (ml := 4) rfl rfl rfl (zl rfl) rfl ?_
  refine r_iload_n rfl ?_
  refine r_table ?_
  refine r_sw1 (fun cs => ?_) (fun ds => ?_)
  · exact absurd ((n_eq (a := 8) (b := 0) rfl rfl (by omega) (by omega)).mp cs) (by omega)
  refine r_sw1 (fun cs => ?_) (fun ds => ?_)
  · exact absurd ((n_eq (a := 8) (b := 1) rfl rfl (by omega) (by omega)).mp cs) (by omega)
  refine r_sw1 (fun cs => ?_) (fun ds => ?_)
  · exact absurd ((n_eq (a := 8) (b := 2) rfl rfl (by omega) (by omega)).mp cs) (by omega)
  refine r_sw1 (fun cs => ?_) (fun ds => ?_)
  · exact absurd ((n_eq (a := 8) (b := 3) rfl rfl (by omega) (by omega)).mp cs) (by omega)
  refine r_sw1 (fun cs => ?_) (fun ds => ?_)
  · exact absurd ((n_eq (a := 8) (b := 4) rfl rfl (by omega) (by omega)).mp cs) (by omega)
  refine r_sw1 (fun cs => ?_) (fun ds => ?_)
  · exact absurd ((n_eq (a := 8) (b := 5) rfl rfl (by omega) (by omega)).mp cs) (by omega)
  refine r_sw1 (fun cs => ?_) (fun ds => ?_)
  · exact absurd ((n_eq (a := 8) (b := 6) rfl rfl (by omega) (by omega)).mp cs) (by omega)
  refine r_sw1 (fun cs => ?_) (fun ds => ?_)
  · exact absurd ((n_eq (a := 8) (b := 7) rfl rfl (by omega) (by omega)).mp cs) (by omega)
  refine r_sw1 (fun cs => ?_) (fun ds => ?_)
  · refine E_go 7 rfl ?_
    refine r_aload_n rfl ?_
    refine r_iload_n rfl ?_
    refine r_putI rfl rfl (by decide) ?_
    refine r_goto ?_
    refine E_go 8 rfl ?_
    refine r_ret rfl ?_
    refine r_aload_n rfl ?_
    refine r_aload_n rfl ?_
    refine r_getA (q := 13) (by decide) rfl rfl (by decide) ?_
    refine r_aload_n rfl ?_
    refine r_virtual (vs := []) (as := [_, _]) (by decide) (zl rfl) rfl rfl (zl rfl) (Nat.le_refl _) (Or.inr (Or.inr ⟨zt rfl, rfl, zt rfl⟩)) ?_
    have t1 := t0.rul (t := v)
    have f1 : fS J (up2 J1 13 2 (io v)) := t1.1.fS (by omega) (by omega)
    have f2 := hJ.trans f1
    have eg : (up2 J1 13 2 (io v)) (54 + 2 * s) = I (54 + 2 * s) := f2.1 _ (by omega)
    obtain ⟨c, kt1, kt2⟩ := R.2.1.2.2 v hv
    have hv6 : v < 6 := Nat.lt_of_lt_of_le hv R.t6
    have := tq_b hv6
    refine w_cfo13 (ru := cT v I) (by omega) R.n5 hv6 ⟨c, cTx_s (f2.1 _ (by omega)) (f2.1 _ (by omega)) kt2, cT_eq kt2⟩ t1 hs hz6 (by rw [f2.1 (53 + 2 * s) (by omega)]; exact hz) (fun K k1 => ?_)
    rw [eg]
    have fK := f2.trans (k1.fS (by omega) (by omega))
    refine r_iconst ?_
    refine r_icmp_ne (fun c_32 => ?_) (fun c_32 => ?_)
    · refine E_go 1 rfl ?_
      refine r_iconst ?_
      refine r_nil ?_
      refine E_go 2 rfl ?_
      refine r_iret rfl (by first | exact Or.inl rfl | exact Or.inr rfl) ?_
      have q := hQ _ fK
      unfold tfR at q
      first | (rw [if_pos c_32] at q; exact q) | (rw [if_neg c_32] at q; exact q)
    · refine r_iconst ?_
      refine r_goto ?_
      refine E_go 2 rfl ?_
      refine r_iret rfl (by first | exact Or.inl rfl | exact Or.inr rfl) ?_
      have q := hQ _ fK
      unfold tfR at q
      first | (rw [if_pos c_32] at q; exact q) | (rw [if_neg c_32] at q; exact q)
  · exact absurd rfl ds

set_option maxRecDepth 10000 in
theorem cVa_rul {xs : xSc} {m : Nat} {I : Nat → Nat → Int32} (hm : 1 ≤ m) {n tc r tp : Nat} (R : RX n tc r tp I) : cVa xs m 8 tc I := by
  intro J L Q hJ hQ
  obtain ⟨m, rfl⟩ : ∃ k, m = k + 1 := ⟨m - 1, by omega⟩
  refine M_go (ls := [_, _]) (ml := 2) rfl rfl rfl (zl rfl) rfl ?_
  refine r_iload_n rfl ?_
  refine r_table ?_
  refine r_sw1 (fun cs => ?_) (fun ds => ?_)
  · exact absurd ((n_eq (a := 8) (b := 0) rfl rfl (by omega) (by omega)).mp cs) (by omega)
  refine r_sw1 (fun cs => ?_) (fun ds => ?_)
  · exact absurd ((n_eq (a := 8) (b := 1) rfl rfl (by omega) (by omega)).mp cs) (by omega)
  refine r_sw1 (fun cs => ?_) (fun ds => ?_)
  · exact absurd ((n_eq (a := 8) (b := 2) rfl rfl (by omega) (by omega)).mp cs) (by omega)
  refine r_sw1 (fun cs => ?_) (fun ds => ?_)
  · exact absurd ((n_eq (a := 8) (b := 3) rfl rfl (by omega) (by omega)).mp cs) (by omega)
  refine r_sw1 (fun cs => ?_) (fun ds => ?_)
  · exact absurd ((n_eq (a := 8) (b := 4) rfl rfl (by omega) (by omega)).mp cs) (by omega)
  refine r_sw1 (fun cs => ?_) (fun ds => ?_)
  · exact absurd ((n_eq (a := 8) (b := 5) rfl rfl (by omega) (by omega)).mp cs) (by omega)
  refine r_sw1 (fun cs => ?_) (fun ds => ?_)
  · exact absurd ((n_eq (a := 8) (b := 6) rfl rfl (by omega) (by omega)).mp cs) (by omega)
  refine r_sw1 (fun cs => ?_) (fun ds => ?_)
  · exact absurd ((n_eq (a := 8) (b := 7) rfl rfl (by omega) (by omega)).mp cs) (by omega)
  refine r_sw1 (fun cs => ?_) (fun ds => ?_)
  · refine E_go 7 rfl ?_
    refine r_aload_n rfl ?_
    refine r_getI (by decide) rfl rfl (by decide) ((congrFun (hJ.1 0 (by omega)) 7).trans R.ct) ?_
    refine r_iret rfl trivial ?_
    exact hQ
  · exact absurd rfl ds
