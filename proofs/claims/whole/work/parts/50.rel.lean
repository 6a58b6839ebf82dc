/-! the relation between the class's places and the model's -/
def pEq (X Y : Pot) : Prop := X.1 = Y.1 ∧ X.2.1 = Y.2.1 ∧ ∀ a, a < X.2.1 → (X.2.2.1 a = Y.2.2.1 a ∧ X.2.2.2.1 a = Y.2.2.2.1 a) ∧ X.2.2.2.2.1 a = Y.2.2.2.2.1 a ∧ X.2.2.2.2.2 a = Y.2.2.2.2.2 a
theorem pEq.refl {X : Pot} : pEq X X := ⟨rfl, rfl, fun _ _ => ⟨⟨rfl, rfl⟩, rfl, rfl⟩⟩
theorem pEq.symm {X Y : Pot} (h : pEq X Y) : pEq Y X := ⟨h.1.symm, h.2.1.symm, fun a ha => by
  obtain ⟨⟨h1, h2⟩, h3, h4⟩ := h.2.2 a (by rw [h.2.1]; exact ha)
  exact ⟨⟨h1.symm, h2.symm⟩, h3.symm, h4.symm⟩⟩
theorem pEq.trans {X Y Z : Pot} (h : pEq X Y) (h2 : pEq Y Z) : pEq X Z := ⟨h.1.trans h2.1, h.2.1.trans h2.2.1, fun a ha => by
  obtain ⟨⟨i1, i2⟩, i3, i4⟩ := h.2.2 a ha
  obtain ⟨⟨j1, j2⟩, j3, j4⟩ := h2.2.2 a (by rw [← h.2.1]; exact ha)
  exact ⟨⟨i1.trans j1, i2.trans j2⟩, i3.trans j3, i4.trans j4⟩⟩
theorem shw_c2 {K K2 N N2 t : Nat → Int32} {m : Int32} : ∀ {n : Nat}, (∀ a, a < n → K a = K2 a ∧ N a = N2 a) → shw K N t m n = shw K2 N2 t m n
  | 0, _ => rfl
  | n + 1, h => by
    rw [shw, shw, shw_c2 (fun a ha => h a (by omega)), (h n (by omega)).1, (h n (by omega)).2]
theorem rch_c {ru : Ru} {K K2 N N2 : Nat → Int32} {m sh : Int32} {a : Nat} {s : Ms} (h1 : K a = K2 a) (h2 : N a = N2 a) : rch ru K N m sh a s = rch ru K2 N2 m sh a s := by
  unfold rch
  rw [h1, h2]
theorem tal_c {ru : Ru} {K K2 N N2 P P2 : Nat → Int32} {m sh : Int32} {s : Ms} : ∀ {n : Nat}, (∀ a, a < n → (K a = K2 a ∧ N a = N2 a) ∧ P a = P2 a) → tal ru K N P m sh n s = tal ru K2 N2 P2 m sh n s
  | 0, _ => rfl
  | n + 1, h => by
    have e := h n (by omega)
    rw [tal, tal, tal_c (fun a ha => h a (by omega)), e.2, rch_c e.1.1 e.1.2]
theorem mnt_c {ru : Ru} {K K2 N N2 P P2 : Nat → Int32} {m n : Nat} {s : Hs} (h : ∀ a, a < n → (K a = K2 a ∧ N a = N2 a) ∧ P a = P2 a) : mnt ru n K N P m s = mnt ru n K2 N2 P2 m s := by
  unfold mnt
  rw [shw_c2 (fun a ha => (h a ha).1)]
  dsimp only
  rw [tal_c h]
theorem hrs_c {ru : Ru} {X Y : Pot} (h : pEq X Y) : ∀ m, hrs ru X m = hrs ru Y m
  | 0 => by
    obtain ⟨h1, h2, h3⟩ := h
    rw [hrs, hrs, h1, ← h2, cl_ext (fun a ha => (h3 a ha).2.1)]
  | m + 1 => by
    rw [hrs, hrs, hrs_c h m, ← h.2.1, mnt_c (fun a ha => ⟨(h.2.2 a ha).1, (h.2.2 a ha).2.2⟩)]
theorem hri_c {ru : Ru} {X Y : Pot} (h : pEq X Y) (m : Nat) : hri ru X m = hri ru Y m := by
  rw [hri, hri, hrs_c h m, ← h.2.1, mnt_c (fun a ha => ⟨(h.2.2 a ha).1, (h.2.2 a ha).2.2⟩)]
theorem hD_c {n : Nat} {J : Nat → Nat → Int32} {ru : Ru} {X Y : Pot} (h : pEq X Y) (hd : hD n J ru X) : hD n J ru Y := by
  unfold hD at hd ⊢
  rw [hrs_c h 6] at hd
  exact ⟨hd.1, fun k hk => by rw [← hri_c h k]; exact hd.2 k hk⟩
theorem mD_c {n : Nat} {J : Nat → Nat → Int32} {ru : Ru} {X Y : Pot} (h : pEq X Y) (hd : mD n J ru X) : mD n J ru Y := by
  unfold mD at hd ⊢
  rw [hrs_c h 6] at hd
  exact ⟨hd.1, fun k hk => by rw [← hri_c h k]; exact hd.2 k hk⟩
abbrev W3 : Type := List Int32 × List Int32 × List Int32
/-- the class's text t is one with the words c -/
def cTx (t : Nat) (I : Nat → Nat → Int32) (c : W3) : Prop := okE (I (tq t + 2)) c.1.length (c.1.length + c.2.1.length) (c.1.length + c.2.1.length + c.2.2.length) ∧ ∀ j, j < c.1.length + c.2.1.length + c.2.2.length → I (tq t + 1) j = (c.1 ++ c.2.1 ++ c.2.2).getD j 0
theorem cT_eq {t : Nat} {I : Nat → Nat → Int32} {c : W3} (h : cTx t I c) : cT t I = ruL c := by
  obtain ⟨hE, hc⟩ := h
  funext part w
  unfold cT cru ruL
  match part with
  | 0 =>
    rw [eN_0 hE, rn_ev _ c.1 rfl (fun j hj => by rw [Nat.zero_add, hc j (by omega), gD_l (by rw [List.length_append]; omega), gD_l hj])]
    rfl
  | 1 =>
    rw [eN_0 hE, eN_1 hE, Nat.add_sub_cancel_left, rn_ev _ c.2.1 rfl (fun j hj => by rw [hc _ (by omega), gD_l (by rw [List.length_append]; omega), gD_r (by omega), Nat.add_sub_cancel_left])]
    rfl
  | n + 2 =>
    rw [eN_1 hE, eN_2 hE, Nat.add_sub_cancel_left, rn_ev _ c.2.2 rfl (fun j hj => by rw [hc _ (by omega), gD_r (by rw [List.length_append]; omega), List.length_append, Nat.add_sub_cancel_left])]
    rfl
def hadB (x : Int32) : Prop := -999999 ≤ x.toInt ∧ x.toInt ≤ 999999
/-- aunts, pot -/
def RA (n : Nat) (I : Nat → Nat → Int32) : Prop := (n ≤ 5 ∧ I 1 3 = io n ∧ I 61 12 = io n) ∧ (I 61 7 = I 1 0 ∧ isN 100 (I 1 0)) ∧ (I 61 8 = I 1 1 ∧ isN 1000 (I 1 1)) ∧ ∀ a, a < n → (I 65 a = I 2 a ∧ isN 6 (I 2 a)) ∧ (mNu I a = I 3 a ∧ isN 10 (I 3 a)) ∧ (mTh I a = I 4 a ∧ isN 100 (I 4 a)) ∧ (mPl I a = I 5 a ∧ isN 64 (I 5 a)) ∧ I 67 a = I 6 a ∧ hadB (I 6 a)
/-- texts, the rule -/
def RT (tc r : Nat) (I : Nat → Nat → Int32) : Prop := (1 ≤ tc ∧ tc ≤ 6 ∧ I 0 7 = io tc ∧ I 61 3 = io tc) ∧ (r < tc ∧ I 1 2 = io r ∧ I 61 4 = io r) ∧ ∀ t, t < tc → ∃ c, mTx t I c ∧ cTx t I c
/-- the tape -/
def RP (tp : Nat) (I : Nat → Nat → Int32) : Prop := (tp ≤ 160 ∧ I 29 0 = io tp ∧ I 61 6 = io tp) ∧ ∀ i, i < tp → I 64 i = I 32 i ∧ isN 256 (I 32 i)
/-- the image -/
def RIy (n tc nk rk : Nat) (I : Nat → Nat → Int32) : Prop := (nk ≤ n ∧ I 7 3 = io nk ∧ I 61 41 = io nk) ∧ (rk < tc ∧ I 7 2 = io rk ∧ I 61 44 = io rk) ∧ (I 61 42 = I 7 0 ∧ isN 100 (I 7 0)) ∧ (I 61 43 = I 7 1 ∧ isN 1000 (I 7 1)) ∧ ∀ a, a < nk → I 8 a = I 2 a ∧ (I 76 (3 * a) = I 9 a ∧ isN 10 (I 9 a)) ∧ (I 76 (3 * a + 1) = I 10 a ∧ isN 100 (I 10 a)) ∧ (I 76 (3 * a + 2) = I 11 a ∧ isN 64 (I 11 a)) ∧ I 77 a = I 12 a ∧ hadB (I 12 a)
def RI (n tc : Nat) (I : Nat → Nat → Int32) : Prop := (I 0 8 = 0 ∧ I 61 41 = -1) ∨ (I 0 8 = 1 ∧ ∃ nk rk, RIy n tc nk rk I)
/-- a sheet: missing, or a row -/
def RHs (s : Nat) (I : Nat → Nat → Int32) : Prop := (I (53 + 2 * s) 0 = -1 ∧ I 78 s = 0) ∨ ∃ so z, (so < 3 ∧ z ≤ 40) ∧ (I (53 + 2 * s) 0 = io so ∧ I (53 + 2 * s) 1 = io z) ∧ (I 78 s = 1 ∧ I 79 s = io so ∧ I 80 s = io z) ∧ ∀ i, i < z → I 81 (40 * s + i) = I (54 + 2 * s) i
def RH (I : Nat → Nat → Int32) : Prop := ∀ s, s < 4 → RHs s I
def RX (n tc r tp : Nat) (I : Nat → Nat → Int32) : Prop := RA n I ∧ RT tc r I ∧ RP tp I ∧ RI n tc I ∧ RH I
def Rel (I : Nat → Nat → Int32) : Prop := ∃ n tc r tp, RX n tc r tp I
/-- only what may be left anyhow changes -/
def scr (p : Nat) : Prop := (13 ≤ p ∧ p ≤ 31) ∨ p = 61 ∨ (68 ≤ p ∧ p ≤ 75)
def fS (I J : Nat → Nat → Int32) : Prop := (∀ p, ¬ ((13 ≤ p ∧ p ≤ 31) ∨ p = 61 ∨ (68 ≤ p ∧ p ≤ 75)) → J p = I p) ∧ J 29 0 = I 29 0 ∧ ∀ k, ¬ ((13 ≤ k ∧ k ≤ 28) ∨ k = 36 ∨ k = 37) → J 61 k = I 61 k
theorem fS.refl {I : Nat → Nat → Int32} : fS I I := ⟨fun _ _ => rfl, rfl, fun _ _ => rfl⟩
theorem fS.trans {I J K : Nat → Nat → Int32} (h : fS I J) (h2 : fS J K) : fS I K := ⟨fun p hp => by rw [h2.1 p hp, h.1 p hp], by rw [h2.2.1, h.2.1], fun k hk => by rw [h2.2.2 k hk, h.2.2 k hk]⟩
theorem oF.fS {p q : Nat} {I J : Nat → Nat → Int32} (h : oF p q I J) (h1 : 13 ≤ p) (h2 : q ≤ 28) : fS I J := ⟨fun r hr => h r (by omega), by rw [h 29 (by omega)], fun k _ => by rw [h 61 (by omega)]⟩
theorem gF.fS {I J : Nat → Nat → Int32} (h : gF I J) : fS I J := ⟨fun r hr => h.1 r (by omega), by rw [h.1 29 (by omega)], fun k hk => h.2 k (by omega)⟩
theorem rF.fS {I J : Nat → Nat → Int32} (h : rF I J) : fS I J := ⟨fun r hr => h.1 r (by omega), by rw [h.1 29 (by omega)], fun k hk => h.2 k (by omega)⟩
theorem tF.fS {I J : Nat → Nat → Int32} (h : tF I J) : fS I J := ⟨fun r hr => h.1 r (by omega), h.2, fun k _ => by rw [h.1 61 (by omega)]⟩
theorem fS.up {p k : Nat} {v : Int32} {I J : Nat → Nat → Int32} (h : fS I J) (hp : (13 ≤ p ∧ p ≤ 28) ∨ (68 ≤ p ∧ p ≤ 75)) : fS I (up2 J p k v) :=
  ⟨fun q hq => by rw [up2_q (by omega)]; exact h.1 q hq, by rw [up2_q (by omega)]; exact h.2.1, fun j hj => by rw [up2_q (by omega)]; exact h.2.2 j hj⟩
theorem fS.s {k : Nat} {v : Int32} {I J : Nat → Nat → Int32} (h : fS I J) (hk : (13 ≤ k ∧ k ≤ 28) ∨ k = 36 ∨ k = 37) : fS I (up2 J 61 k v) :=
  ⟨fun q hq => by rw [up2_q (by omega)]; exact h.1 q hq, by rw [up2_q (by omega)]; exact h.2.1, fun j hj => by rw [up2_k (by omega)]; exact h.2.2 j hj⟩
theorem RA.f {n : Nat} {I J : Nat → Nat → Int32} (h : RA n I) (f : fS I J) : RA n J := by
  unfold RA mNu mTh mPl at h ⊢
  rw [f.1 1 (by omega), f.1 2 (by omega), f.1 3 (by omega), f.1 4 (by omega), f.1 5 (by omega), f.1 6 (by omega), f.1 65 (by omega), f.1 66 (by omega), f.1 67 (by omega), f.2.2 12 (by omega), f.2.2 7 (by omega), f.2.2 8 (by omega)]
  exact h
theorem mTx_s {t : Nat} {I J : Nat → Nat → Int32} {c : W3} (h2 : J 62 = I 62) (h3 : J 63 = I 63) (h : mTx t I c) : mTx t J c := mTx_f h2 h3 h
theorem cTx_s {t : Nat} {I J : Nat → Nat → Int32} {c : W3} (h1 : J (tq t + 1) = I (tq t + 1)) (h2 : J (tq t + 2) = I (tq t + 2)) (h : cTx t I c) : cTx t J c := by
  unfold cTx at h ⊢
  rw [h1, h2]
  exact h
theorem tq_b {t : Nat} (h : t < 6) : 35 ≤ tq t ∧ tq t + 2 < 53 := by unfold tq; omega
theorem RT.f {tc r : Nat} {I J : Nat → Nat → Int32} (h : RT tc r I) (f : fS I J) : RT tc r J := by
  obtain ⟨⟨h1, h2, h3, h4⟩, ⟨h5, h6, h7⟩, h8⟩ := h
  refine ⟨⟨h1, h2, by rw [f.1 0 (by omega)]; exact h3, by rw [f.2.2 3 (by omega)]; exact h4⟩, ⟨h5, by rw [f.1 1 (by omega)]; exact h6, by rw [f.2.2 4 (by omega)]; exact h7⟩, fun t ht => ?_⟩
  obtain ⟨c, k1, k2⟩ := h8 t ht
  have := tq_b (show t < 6 by omega)
  exact ⟨c, mTx_s (f.1 62 (by omega)) (f.1 63 (by omega)) k1, cTx_s (f.1 _ (by omega)) (f.1 _ (by omega)) k2⟩
theorem RP.f {tp : Nat} {I J : Nat → Nat → Int32} (h : RP tp I) (f : fS I J) : RP tp J := by
  unfold RP at h ⊢
  rw [f.2.1, f.2.2 6 (by omega), f.1 64 (by omega), f.1 32 (by omega)]
  exact h
theorem RI.f {n tc : Nat} {I J : Nat → Nat → Int32} (h : RI n tc I) (f : fS I J) : RI n tc J := by
  unfold RI RIy at h ⊢
  rw [f.1 0 (by omega), f.1 2 (by omega), f.1 7 (by omega), f.1 8 (by omega), f.1 9 (by omega), f.1 10 (by omega), f.1 11 (by omega), f.1 12 (by omega), f.1 76 (by omega), f.1 77 (by omega), f.2.2 41 (by omega), f.2.2 42 (by omega), f.2.2 43 (by omega), f.2.2 44 (by omega)]
  exact h
theorem RH.f {I J : Nat → Nat → Int32} (h : RH I) (f : fS I J) : RH J := by
  intro s hs
  have h := h s hs
  unfold RHs at h ⊢
  rw [f.1 (53 + 2 * s) (by omega), f.1 (54 + 2 * s) (by omega), f.1 78 (by omega), f.1 79 (by omega), f.1 80 (by omega), f.1 81 (by omega)]
  exact h
theorem RX.f {n tc r tp : Nat} {I J : Nat → Nat → Int32} (h : RX n tc r tp I) (f : fS I J) : RX n tc r tp J := ⟨h.1.f f, h.2.1.f f, h.2.2.1.f f, h.2.2.2.1.f f, h.2.2.2.2.f f⟩
theorem RX.rel {n tc r tp : Nat} {I : Nat → Nat → Int32} (h : RX n tc r tp I) : Rel I := ⟨n, tc, r, tp, h⟩
section
variable {n tc r tp : Nat} {I J : Nat → Nat → Int32}
theorem RX.n5 (h : RX n tc r tp I) : n ≤ 5 := h.1.1.1
theorem RX.cn (h : RX n tc r tp I) : I 1 3 = io n := h.1.1.2.1
theorem RX.mn (h : RX n tc r tp I) : I 61 12 = io n := h.1.1.2.2
theorem RX.cr (h : RX n tc r tp I) : I 1 2 = io r := h.2.1.2.1.2.1
theorem RX.mr (h : RX n tc r tp I) : I 61 4 = io r := h.2.1.2.1.2.2
theorem RX.rt (h : RX n tc r tp I) : r < tc := h.2.1.2.1.1
theorem RX.t6 (h : RX n tc r tp I) : tc ≤ 6 := h.2.1.1.2.1
theorem RX.r6 (h : RX n tc r tp I) : r < 6 := Nat.lt_of_lt_of_le h.rt h.t6
theorem RX.ct (h : RX n tc r tp I) : I 0 7 = io tc := h.2.1.1.2.2.1
theorem RX.mt (h : RX n tc r tp I) : I 61 3 = io tc := h.2.1.1.2.2.2
theorem RX.cp (h : RX n tc r tp I) : I 29 0 = io tp := h.2.2.1.1.2.1
theorem RX.mp (h : RX n tc r tp I) : I 61 6 = io tp := h.2.2.1.1.2.2
theorem RX.mh (h : RX n tc r tp I) : I 61 7 = I 1 0 := h.1.2.1.1
theorem RX.mo (h : RX n tc r tp I) : I 61 8 = I 1 1 := h.1.2.2.1.1
/-- the table as it is -/
abbrev pX (n : Nat) (I : Nat → Nat → Int32) : Pot := cP 1 n I
theorem RX.okX (h : RX n tc r tp I) : okX (pX n I) := ⟨h.1.2.1.2, h.n5, fun a ha => (h.1.2.2.2 a ha).1.2, fun a ha => (h.1.2.2.2 a ha).2.1.2, fun a ha => (h.1.2.2.2 a ha).2.2.1.2⟩
theorem RX.pM (h : RX n tc r tp I) : pEq (mP n (I 61 7) I) (pX n I) := ⟨h.mh, rfl, fun a ha => by
  obtain ⟨i1, i2, i3, i4, i5⟩ := h.1.2.2.2 a ha
  exact ⟨⟨i1.1, i2.1⟩, i3.1, i4.1⟩⟩
theorem fS.pe {n : Nat} {I J : Nat → Nat → Int32} (f : fS I J) : pX n J = pX n I := by
  unfold pX cP
  rw [f.1 1 (by omega), f.1 2 (by omega), f.1 3 (by omega), f.1 4 (by omega), f.1 5 (by omega)]
/-- what the rule says -/
def rlz (r : Nat) (I : Nat → Nat → Int32) (ru : Ru) : Prop := ∃ c, mTx r I c ∧ cTx r I c ∧ ru = ruL c
theorem RX.rl (h : RX n tc r tp I) : ∃ ru, rlz r I ru := by
  obtain ⟨c, k1, k2⟩ := h.2.1.2.2 r h.rt
  exact ⟨ruL c, c, k1, k2, rfl⟩
theorem rlz.f {ru : Ru} (h : rlz r I ru) (f : fS I J) (hr : r < 6) : rlz r J ru := by
  obtain ⟨c, k1, k2, k3⟩ := h
  have := tq_b hr
  exact ⟨c, mTx_s (f.1 62 (by omega)) (f.1 63 (by omega)) k1, cTx_s (f.1 _ (by omega)) (f.1 _ (by omega)) k2, k3⟩
end
