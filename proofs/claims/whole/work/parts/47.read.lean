/-! the model reads a text -/

/-- the model's reader changes its own slots alone -/
def rF (I J : Nat → Nat → Int32) : Prop := (∀ p, ¬ p = 61 → J p = I p) ∧ ∀ k, ¬ (19 ≤ k ∧ k ≤ 27) → J 61 k = I 61 k
theorem rF.refl {I : Nat → Nat → Int32} : rF I I := ⟨fun _ _ => rfl, fun _ _ => rfl⟩
theorem rF.up {k : Nat} {v : Int32} {I J : Nat → Nat → Int32} (h : rF I J) (h1 : 19 ≤ k) (h2 : k ≤ 27) : rF I (up2 J 61 k v) :=
  ⟨fun p hp => by rw [up2_q (by omega)]; exact h.1 p hp, fun j hj => by rw [up2_k (by omega)]; exact h.2 j hj⟩
theorem rF.v {I J K : Nat → Nat → Int32} (h : rF I J) (h2 : vF J K) : rF I K := ⟨fun p hp => by rw [h2.1 p hp, h.1 p hp], fun k hk => by rw [h2.2 k (by omega), h.2 k hk]⟩
theorem MR_sf {t z o : Nat} {w : Vw} {r : PR} {c : List Int32} {I J : Nat → Nat → Int32} {L : Nat → Nat → Int64} {v v2 : Int32} (h : MR t z o w r I J L v) (hr : ¬ r.1 = true) : MR t z o w (false, r.2.1, c) I J L v2 := ⟨h.1, fun q => Bool.noConfusion q, fun _ => h.2.2 hr⟩
theorem MR_bf {t z o : Nat} {w : Vw} {r : PR} {I J1 J2 : Nat → Nat → Int32} {L2 : Nat → Nat → Int64} {v v2 : Int32} (h1 : vF I J1) (h : MR t z o w r J1 J2 L2 v) (hr : ¬ r.1 = true) : MR t z o w r I J2 L2 v2 := by
  have k := h.2.2 hr
  rw [h1.mbe] at k
  exact ⟨h1.trans h.1, fun q => absurd q hr, fun _ => k⟩
theorem MR_uf {t z o : Nat} {w : Vw} {q : PR} {I J1 J2 : Nat → Nat → Int32} {L2 : Nat → Nat → Int64} {v vv : Int32} (h1 : vF I J1) (h2 : MR t z o w q J1 J2 L2 v) (hC : mCx t z q.2.1 o w J2 L2) : MR t z o w (false, q.2.1, []) I (fl J2) L2 vv := by
  refine ⟨((h1.trans h2.1).up (by omega) (by omega)).up (by omega) (by omega), fun q => Bool.noConfusion q, fun _ => ⟨?_, ?_⟩⟩
  · simp [fl, up2]
  · have k := hC.2.2.2.1.2.1
    rw [h2.1.mbe, h1.mbe] at k
    simp [fl, up2]
    exact k
theorem MR_cf {t z o j : Nat} {w : Vw} {q : PR} {I J1 J2 J3 : Nat → Nat → Int32} {L2 L3 : Nat → Nat → Int64} {v : Int32} (h1 : vF I J1) (h2 : MR t z o w q J1 J2 L2 v) (hr : q.1 = true) (hn : nF J2 J3) (hC : mCx t z j o w J3 L3) : MR t z o w (true, j, q.2.2) I J3 L3 v := by
  have hv : vF I J3 := (h1.trans h2.1).trans hn.v
  refine ⟨hv, fun _ => ⟨hC.2.1.2.2, ?_, fun st => ?_⟩, fun q => absurd rfl q⟩
  · have k := hC.2.2.2.1
    rw [hv.mbe] at k
    exact k
  · exact (h2.2.1 hr).2.2 st

set_option maxRecDepth 10000 in
theorem s_partM {xs : xSc} {m : Nat} {I : Nat → Nat → Int32} {L : Nat → Nat → Int64} {Q : Value → xHp → Prop} {t i z j : Nat} {w : Vw} (hm : 50 ≤ m) (h : mCx t z i 0 w I L) (hQ : ∀ J L2 v, MR t z 0 w (gP j (mb t I) z i) I J L2 v → Q (.int v) (Hp J L2)) : M xs m xi_X7_part [.ref 61, .int (if tkd (mb t I) z i = 3 + j then 1 else 0)] (Hp I L) Q := by
  obtain ⟨m, rfl⟩ : ∃ k, m = k + 1 := ⟨m - 1, by omega⟩
  refine M_go (ls := [_, _, _]) (ml := 3) rfl rfl rfl (zl rfl) rfl ?_
  refine r_iload_n rfl ?_
  refine r_if_ne (fun c_1 => ?_) (fun c_1 => ?_)
  · refine E_go 1 rfl ?_
    have c_1 := b01n.mp c_1
    refine r_aload_n rfl ?_
    refine r_getZ (by decide) rfl rfl (by decide) h.2.1.2.2.2 ?_
    refine r_if_ne (fun c_12 => ?_) (fun c_12 => ?_)
    · have c_12 := (not_congr (n_eq (a := 0) (b := 0) rfl rfl (by omega) (by omega))).mp c_12
      omega
    · have c_12 := (n_eq (a := 0) (b := 0) rfl rfl (by omega) (by omega)).mp c_12
      refine r_aload_n rfl ?_
      refine r_virtual (vs := []) (as := []) (by decide) (zl rfl) rfl rfl (zl rfl) (Nat.le_refl _) (Or.inr (Or.inr ⟨zt rfl, rfl, zt rfl⟩)) ?_
      refine s_nextM (by omega) h (by omega) (fun J1 L3 n1 hC1 => ?_)
      refine r_nil ?_
      refine E_go 2 rfl ?_
      refine r_aload_n rfl ?_
      refine r_getZ (by decide) rfl rfl (by decide) hC1.2.1.2.2.2 ?_
      refine r_if_eq (fun c_23 => ?_) (fun c_23 => ?_)
      · have c_23 := (n_eq (a := 0) (b := 0) rfl rfl (by omega) (by omega)).mp c_23
        refine E_go 3 rfl ?_
        refine r_aload_n rfl ?_
        refine r_virtual (vs := []) (as := []) (by decide) (zl rfl) rfl rfl (zl rfl) (Nat.le_refl _) (Or.inr (Or.inr ⟨zt rfl, rfl, zt rfl⟩)) ?_
        refine mp_0.2.2 m (by omega) J1 L3 _ t _ z w hC1 (fun J2 L4 v hM2 => ?_)
        rw [n1.v.mbe] at hM2
        have hT2 := tst_z (b := mb t I) h.1.2.2
        have hgq := gO_gd 5 (mb t I) z _ hT2
        by_cases hr : (gO 5 (mb t I) z (tst (mb t I) z i)).1 = true
        · have hC2 := MR_c hC1 hM2 hr hgq.1.2
          refine r_nil ?_
          refine E_go 4 rfl ?_
          refine r_istore_n (ls' := [_, _, _]) (zt rfl) rfl ?_
          refine r_aload_n rfl ?_
          refine r_bipush ?_
          refine r_virtual (vs := []) (as := [_]) (by decide) (zl rfl) rfl rfl (zl rfl) (Nat.le_refl _) (Or.inr (Or.inr ⟨zt rfl, rfl, zt rfl⟩)) ?_
          refine s_isSign (t := t) (z := z) (i := (gO 5 (mb t I) z (tst (mb t I) z i)).2.1) (c := 59) (by omega) rfl (by omega) (by omega) hC2.2.1.2.2.2 hC2.2.2.2.1 ?_
          rw [hM2.1.mbe, n1.v.mbe]
          refine r_if_ne (fun c_41 => ?_) (fun c_41 => ?_)
          · refine E_go 5 rfl ?_
            refine r_aload_n rfl ?_
            refine r_getZ (by decide) rfl rfl (by decide) hC2.2.1.2.2.2 ?_
            refine r_if_ne (fun c_52 => ?_) (fun c_52 => ?_)
            · have c_52 := (not_congr (n_eq (a := 0) (b := 0) rfl rfl (by omega) (by omega))).mp c_52
              omega
            · have c_52 := (n_eq (a := 0) (b := 0) rfl rfl (by omega) (by omega)).mp c_52
              refine r_aload_n rfl ?_
              refine r_virtual (vs := []) (as := []) (by decide) (zl rfl) rfl rfl (zl rfl) (Nat.le_refl _) (Or.inr (Or.inr ⟨zt rfl, rfl, zt rfl⟩)) ?_
              have hk2 : tkd (mb t I) z (gO 5 (mb t I) z (tst (mb t I) z i)).2.1 = 59 := b01n.mp c_41
              refine s_nextM (by omega) hC2 (by rw [hM2.1.mbe, n1.v.mbe, hk2]; decide) (fun J3 L5 n3 hC4 => ?_)
              rw [hM2.1.mbe, n1.v.mbe] at hC4
              refine r_nil ?_
              refine E_go 6 rfl ?_
              refine r_iload_n rfl ?_
              refine r_iret rfl trivial ?_
              refine hQ _ _ _ ?_
              rw [gP_t c_1 hr hk2]
              exact MR_cf n1.v hM2 hr n3 hC4
          · refine r_aload_n rfl ?_
            refine r_virtual (vs := []) (as := []) (by decide) (zl rfl) rfl rfl (zl rfl) (Nat.le_refl _) (Or.inr (Or.inr ⟨zt rfl, rfl, zt rfl⟩)) ?_
            refine s_fail0 (by omega) hC2.2.1.2.2.2 ?_
            refine r_nil ?_
            refine E_go 5 rfl ?_
            refine r_aload_n rfl ?_
            refine r_getZ (by decide) rfl rfl (by decide) (show fl J2 61 26 = 1 by simp [fl, up2]) ?_
            refine r_if_ne (fun c_52 => ?_) (fun c_52 => ?_)
            · have c_52 := (not_congr (n_eq (a := 1) (b := 0) rfl rfl (by omega) (by omega))).mp c_52
              refine E_go 6 rfl ?_
              refine r_iload_n rfl ?_
              refine r_iret rfl trivial ?_
              refine hQ _ _ _ ?_
              rw [gP_s c_1 hr (b01.mp c_41)]
              exact MR_uf n1.v hM2 hC2
            · have c_52 := (n_eq (a := 1) (b := 0) rfl rfl (by omega) (by omega)).mp c_52
              omega
        · have hb := (hM2.2.2 hr).1
          refine r_nil ?_
          refine E_go 4 rfl ?_
          refine r_istore_n (ls' := [_, _, _]) (zt rfl) rfl ?_
          refine r_aload_n rfl ?_
          refine r_bipush ?_
          refine r_virtual (vs := []) (as := [_]) (by decide) (zl rfl) rfl rfl (zl rfl) (Nat.le_refl _) (Or.inr (Or.inr ⟨zt rfl, rfl, zt rfl⟩)) ?_
          refine s_isSignB (by omega) hb ?_
          refine r_if_ne (fun c_41 => ?_) (fun c_41 => ?_)
          · have c_41 := (not_congr (n_eq (a := 0) (b := 0) rfl rfl (by omega) (by omega))).mp c_41
            omega
          · have c_41 := (n_eq (a := 0) (b := 0) rfl rfl (by omega) (by omega)).mp c_41
            refine r_aload_n rfl ?_
            refine r_virtual (vs := []) (as := []) (by decide) (zl rfl) rfl rfl (zl rfl) (Nat.le_refl _) (Or.inr (Or.inr ⟨zt rfl, rfl, zt rfl⟩)) ?_
            refine s_fail1 (by omega) hb ?_
            refine r_nil ?_
            refine E_go 5 rfl ?_
            refine r_aload_n rfl ?_
            refine r_getZ (by decide) rfl rfl (by decide) hb ?_
            refine r_if_ne (fun c_52 => ?_) (fun c_52 => ?_)
            · have c_52 := (not_congr (n_eq (a := 1) (b := 0) rfl rfl (by omega) (by omega))).mp c_52
              refine E_go 6 rfl ?_
              refine r_iload_n rfl ?_
              refine r_iret rfl trivial ?_
              refine hQ _ _ _ ?_
              rw [gP_f c_1 hr]
              exact MR_bf n1.v hM2 hr
            · have c_52 := (n_eq (a := 1) (b := 0) rfl rfl (by omega) (by omega)).mp c_52
              omega
      · have c_23 := (not_congr (n_eq (a := 0) (b := 0) rfl rfl (by omega) (by omega))).mp c_23
        omega
  · have c_1 := b01.mp c_1
    refine r_aload_n rfl ?_
    refine r_virtual (vs := []) (as := []) (by decide) (zl rfl) rfl rfl (zl rfl) (Nat.le_refl _) (Or.inr (Or.inr ⟨zt rfl, rfl, zt rfl⟩)) ?_
    refine s_fail0 (by omega) h.2.1.2.2.2 ?_
    refine r_nil ?_
    refine E_go 1 rfl ?_
    refine r_aload_n rfl ?_
    refine r_getZ (by decide) rfl rfl (by decide) (show fl I 61 26 = 1 by simp [fl, up2]) ?_
    refine r_if_ne (fun c_12 => ?_) (fun c_12 => ?_)
    · have c_12 := (not_congr (n_eq (a := 1) (b := 0) rfl rfl (by omega) (by omega))).mp c_12
      refine E_go 2 rfl ?_
      refine r_aload_n rfl ?_
      refine r_getZ (by decide) rfl rfl (by decide) (show fl I 61 26 = 1 by simp [fl, up2]) ?_
      refine r_if_eq (fun c_23 => ?_) (fun c_23 => ?_)
      · have c_23 := (n_eq (a := 1) (b := 0) rfl rfl (by omega) (by omega)).mp c_23
        omega
      · have c_23 := (not_congr (n_eq (a := 1) (b := 0) rfl rfl (by omega) (by omega))).mp c_23
        refine r_iconst ?_
        refine r_goto ?_
        refine E_go 4 rfl ?_
        refine r_istore_n (ls' := [_, _, _]) (zt rfl) rfl ?_
        refine r_aload_n rfl ?_
        refine r_bipush ?_
        refine r_virtual (vs := []) (as := [_]) (by decide) (zl rfl) rfl rfl (zl rfl) (Nat.le_refl _) (Or.inr (Or.inr ⟨zt rfl, rfl, zt rfl⟩)) ?_
        refine s_isSignB (by omega) (by simp [fl, up2]) ?_
        refine r_if_ne (fun c_41 => ?_) (fun c_41 => ?_)
        · have c_41 := (not_congr (n_eq (a := 0) (b := 0) rfl rfl (by omega) (by omega))).mp c_41
          omega
        · have c_41 := (n_eq (a := 0) (b := 0) rfl rfl (by omega) (by omega)).mp c_41
          refine r_aload_n rfl ?_
          refine r_virtual (vs := []) (as := []) (by decide) (zl rfl) rfl rfl (zl rfl) (Nat.le_refl _) (Or.inr (Or.inr ⟨zt rfl, rfl, zt rfl⟩)) ?_
          refine s_fail1 (by omega) (by simp [fl, up2]) ?_
          refine r_nil ?_
          refine E_go 5 rfl ?_
          refine r_aload_n rfl ?_
          refine r_getZ (by decide) rfl rfl (by decide) (show fl I 61 26 = 1 by simp [fl, up2]) ?_
          refine r_if_ne (fun c_52 => ?_) (fun c_52 => ?_)
          · have c_52 := (not_congr (n_eq (a := 1) (b := 0) rfl rfl (by omega) (by omega))).mp c_52
            refine E_go 6 rfl ?_
            refine r_iload_n rfl ?_
            refine r_iret rfl trivial ?_
            refine hQ _ _ _ ?_
            rw [gP_k c_1]
            exact MR_fl h
          · have c_52 := (n_eq (a := 1) (b := 0) rfl rfl (by omega) (by omega)).mp c_52
            omega
    · have c_12 := (n_eq (a := 1) (b := 0) rfl rfl (by omega) (by omega)).mp c_12
      omega

theorem ev_hd {w : Vw} {c : List Int32} {v : Int32} (h : ∀ st, ev w c st = v :: st) : (ev w c []).headD 0 = v := by rw [h]; rfl

set_option maxRecDepth 10000 in
theorem s_readX0 {xs : xSc} {m : Nat} {I : Nat → Nat → Int32} {L : Nat → Nat → Int64} {Q : Value → xHp → Prop} {t z : Nat} {w : Vw} (hm : 51 ≤ m) (ht : t < 6) (h160 : z ≤ 160) (hz : I 63 t = io z) (hbo : bOk (mb t I) z) (hw : ∀ k, k < 6 → I 61 (13 + k) = w k) (hQ : ∀ J L2 v, rF I J → ((gT (mb t I) z).1 = true → v = ruL (gT (mb t I) z).2.2 0 w) → ((gT (mb t I) z).1 = true → J 61 26 = 0) → (¬ (gT (mb t I) z).1 = true → J 61 26 = 1 ∧ J 61 27 = io (tpl (mb t I) z (gT (mb t I) z).2.1)) → Q (.int v) (Hp J L2)) : M xs m xi_X7_read [.ref 61, .int (io t), .int 0] (Hp I L) Q := by
  obtain ⟨m, rfl⟩ : ∃ k, m = k + 1 := ⟨m - 1, by omega⟩
  have htcl := fun J p => tcl_lt (b := mb t J) (z := z) (s := p)
  refine M_go (ls := [_, _, _, _, _, _]) (ml := 6) rfl rfl rfl (zl rfl) rfl ?_
  refine r_aload_n rfl ?_
  refine r_sipush ?_
  refine r_iload_n rfl ?_
  refine r_imul ?_
  refine r_putI rfl rfl (by decide) ?_
  refine r_aload_n rfl ?_
  refine r_aload_n rfl ?_
  refine r_getA (q := 63) (by decide) rfl rfl (by decide) ?_
  refine r_iload_n rfl ?_
  refine r_iaload (by decide) rfl (by decide) (ixE rfl (show t < 6 by omega) (by decide)) hz ?_
  refine r_putI rfl rfl (by decide) ?_
  refine r_aload_n rfl ?_
  refine r_iconst ?_
  refine r_putI rfl rfl (by decide) ?_
  refine r_aload_n rfl ?_
  refine r_iconst ?_
  refine r_putI rfl rfl (by decide) ?_
  refine r_aload_n rfl ?_
  refine r_iconst ?_
  refine r_putZ rfl rfl (by decide) (by first | exact Or.inl rfl | exact Or.inr rfl) ?_
  refine r_aload_n rfl ?_
  refine r_virtual (vs := []) (as := []) (by decide) (zl rfl) rfl rfl (zl rfl) (Nat.le_refl _) (Or.inr (Or.inr ⟨zt rfl, rfl, zt rfl⟩)) ?_
  have hmb0 : mb t (up2 (up2 (up2 (up2 (up2 I 61 19 (160 * io t)) 61 20 (io z)) 61 21 0) 61 25 0) 61 26 0) = mb t I := by
    unfold mb
    rw [up2_q (by omega), up2_q (by omega), up2_q (by omega), up2_q (by omega), up2_q (by omega)]
  refine s_next (by omega) (t := t) (i := 0) (z := z) ht h160 (n_mul (a := 160) (b := t) rfl rfl) rfl (by rw [hmb0]; exact hbo) (Nat.zero_le _) rfl (fun J0 L0 n0 k0 => ?_)
  rw [hmb0] at k0
  have m0 : mb t J0 = mb t I := n0.v.mbe.trans hmb0
  have f0 : rF I J0 := (((((rF.refl.up (by omega) (by omega)).up (by omega) (by omega)).up (by omega) (by omega)).up (by omega) (by omega)).up (by omega) (by omega)).v n0.v
  have hC0 : mCx t z 0 0 w J0 L0 := by
    refine ⟨⟨ht, h160, Nat.zero_le _⟩, ⟨?_, ?_, ?_, ?_⟩, by rw [m0]; exact hbo, by rw [m0]; exact k0, fun k hk => by rw [f0.2 (13 + k) (by omega)]; exact hw k hk⟩
    · rw [n0.2 19 (by omega)]; exact n_mul (a := 160) (b := t) rfl rfl
    · rw [n0.2 20 (by omega)]; rfl
    · rw [n0.2 25 (by omega)]; rfl
    · rw [n0.2 26 (by omega)]; rfl
  refine r_aload_n rfl ?_
  refine r_aload_n rfl ?_
  refine r_bipush ?_
  refine r_bipush ?_
  refine r_bipush ?_
  refine r_iconst ?_
  refine r_iconst ?_
  refine r_iconst ?_
  refine r_iconst ?_
  refine r_iconst ?_
  refine r_virtual (vs := []) (as := [_, _, _, _, _, _, _, _]) (by decide) (zl rfl) rfl rfl (zl rfl) (Nat.le_refl _) (Or.inr (Or.inr ⟨zt rfl, rfl, zt rfl⟩)) ?_
  refine s_isW_3 (t := t) (z := z) (i := 0) (by omega) hC0.1.1 hC0.1.2.1 hC0.2.1.1 hC0.2.1.2.1 hC0.1.2.2 hC0.2.1.2.2.2 hC0.2.2.2.1 ?_
  refine r_virtual (vs := []) (as := [_]) (by decide) (zl rfl) rfl rfl (zl rfl) (Nat.le_refl _) (Or.inr (Or.inr ⟨zt rfl, rfl, zt rfl⟩)) ?_
  refine s_partM (j := 0) (by omega) hC0 (fun J1 L1 v0 hM0 => ?_)
  rw [m0] at hM0
  have m1 : mb t J1 = mb t I := hM0.1.mbe.trans m0
  have f1 := f0.v hM0.1
  by_cases hr0 : (gP 0 (mb t I) z 0).1 = true
  · have hC1 := MR_c hC0 (r := (gP 0 (mb t I) z 0)) hM0 hr0 (pPt_gd _ hC0.1.2.2).1.2
    refine r_istore_n (ls' := [_, _, _, _, _, _]) (zt rfl) rfl ?_
    refine r_aload_n rfl ?_
    refine r_getZ (by decide) rfl rfl (by decide) hC1.2.1.2.2.2 ?_
    refine r_if_eq (fun c_62 => ?_) (fun c_62 => ?_)
    · have c_62 := (n_eq (a := 0) (b := 0) rfl rfl (by omega) (by omega)).mp c_62
      refine E_go 1 rfl ?_
      refine r_aload_n rfl ?_
      refine r_aload_n rfl ?_
      refine r_bipush ?_
      refine r_bipush ?_
      refine r_bipush ?_
      refine r_bipush ?_
      refine r_iconst ?_
      refine r_iconst ?_
      refine r_iconst ?_
      refine r_iconst ?_
      refine r_virtual (vs := []) (as := [_, _, _, _, _, _, _, _]) (by decide) (zl rfl) rfl rfl (zl rfl) (Nat.le_refl _) (Or.inr (Or.inr ⟨zt rfl, rfl, zt rfl⟩)) ?_
      refine s_isW_4 (t := t) (z := z) (i := (gP 0 (mb t I) z 0).2.1) (by omega) hC1.1.1 hC1.1.2.1 hC1.2.1.1 hC1.2.1.2.1 hC1.1.2.2 hC1.2.1.2.2.2 hC1.2.2.2.1 ?_
      refine r_virtual (vs := []) (as := [_]) (by decide) (zl rfl) rfl rfl (zl rfl) (Nat.le_refl _) (Or.inr (Or.inr ⟨zt rfl, rfl, zt rfl⟩)) ?_
      refine s_partM (j := 1) (by omega) hC1 (fun J2 L2 v1 hM1 => ?_)
      rw [m1] at hM1
      have m2 : mb t J2 = mb t I := hM1.1.mbe.trans m1
      have f2 := f1.v hM1.1
      by_cases hr1 : (gP 1 (mb t I) z (gP 0 (mb t I) z 0).2.1).1 = true
      · have hC2 := MR_c hC1 (r := (gP 1 (mb t I) z (gP 0 (mb t I) z 0).2.1)) hM1 hr1 (pPt_gd _ hC1.1.2.2).1.2
        refine r_nil ?_
        refine E_go 2 rfl ?_
        refine r_istore (ls' := [_, _, _, _, _, _]) (zt rfl) rfl ?_
        refine r_aload_n rfl ?_
        refine r_getZ (by decide) rfl rfl (by decide) hC2.2.1.2.2.2 ?_
        refine r_if_eq (fun c_95 => ?_) (fun c_95 => ?_)
        · have c_95 := (n_eq (a := 0) (b := 0) rfl rfl (by omega) (by omega)).mp c_95
          refine E_go 3 rfl ?_
          refine r_aload_n rfl ?_
          refine r_aload_n rfl ?_
          refine r_bipush ?_
          refine r_bipush ?_
          refine r_bipush ?_
          refine r_bipush ?_
          refine r_bipush ?_
          refine r_iconst ?_
          refine r_iconst ?_
          refine r_iconst ?_
          refine r_virtual (vs := []) (as := [_, _, _, _, _, _, _, _]) (by decide) (zl rfl) rfl rfl (zl rfl) (Nat.le_refl _) (Or.inr (Or.inr ⟨zt rfl, rfl, zt rfl⟩)) ?_
          refine s_isW_5 (t := t) (z := z) (i := (gP 1 (mb t I) z (gP 0 (mb t I) z 0).2.1).2.1) (by omega) hC2.1.1 hC2.1.2.1 hC2.2.1.1 hC2.2.1.2.1 hC2.1.2.2 hC2.2.1.2.2.2 hC2.2.2.2.1 ?_
          refine r_virtual (vs := []) (as := [_]) (by decide) (zl rfl) rfl rfl (zl rfl) (Nat.le_refl _) (Or.inr (Or.inr ⟨zt rfl, rfl, zt rfl⟩)) ?_
          refine s_partM (j := 2) (by omega) hC2 (fun J3 L3 v2 hM2 => ?_)
          rw [m2] at hM2
          have m3 : mb t J3 = mb t I := hM2.1.mbe.trans m2
          have f3 := f2.v hM2.1
          by_cases hr2 : (gP 2 (mb t I) z (gP 1 (mb t I) z (gP 0 (mb t I) z 0).2.1).2.1).1 = true
          · have hC3 := MR_c hC2 (r := (gP 2 (mb t I) z (gP 1 (mb t I) z (gP 0 (mb t I) z 0).2.1).2.1)) hM2 hr2 (pPt_gd _ hC2.1.2.2).1.2
            have htc3 := tcl_lt (b := mb t J3) (z := z) (s := tpl (mb t J3) z (gP 2 (mb t I) z (gP 1 (mb t I) z (gP 0 (mb t I) z 0).2.1).2.1).2.1)
            refine r_nil ?_
            refine E_go 4 rfl ?_
            refine r_istore (ls' := [_, _, _, _, _, _]) (zt rfl) rfl ?_
            refine r_aload_n rfl ?_
            refine r_getZ (by decide) rfl rfl (by decide) hC3.2.1.2.2.2 ?_
            refine r_if_ne (fun c_129 => ?_) (fun c_129 => ?_)
            · have c_129 := (not_congr (n_eq (a := 0) (b := 0) rfl rfl (by omega) (by omega))).mp c_129
              omega
            · have c_129 := (n_eq (a := 0) (b := 0) rfl rfl (by omega) (by omega)).mp c_129
              refine r_aload_n rfl ?_
              refine r_getI (by decide) rfl rfl (by decide) hC3.2.2.2.1.1 ?_
              refine r_if_eq (fun c_136 => ?_) (fun c_136 => ?_)
              · have c_136 := (n_eq (a := (tcl (mb t J3) z (tpl (mb t J3) z (gP 2 (mb t I) z (gP 1 (mb t I) z (gP 0 (mb t I) z 0).2.1).2.1).2.1))) (b := 0) rfl rfl (by omega) (by omega)).mp c_136
                refine E_go 5 rfl ?_
                refine r_iload_n rfl ?_
                refine r_if_ne (fun c_144 => ?_) (fun c_144 => ?_)
                · have c_144 := (not_congr (n_eq (a := 0) (b := 0) rfl rfl (by omega) (by omega))).mp c_144
                  omega
                · have c_144 := (n_eq (a := 0) (b := 0) rfl rfl (by omega) (by omega)).mp c_144
                  refine r_iload_n rfl ?_
                  refine r_goto ?_
                  refine E_go 8 rfl ?_
                  refine r_iret rfl trivial ?_
                  have e := gT_2 hr0 hr1
                  have k0 := c_136
                  rw [m3] at k0
                  have q0 : tkd (mb t I) z (gP 2 (mb t I) z (gP 1 (mb t I) z (gP 0 (mb t I) z 0).2.1).2.1).2.1 = 0 := tk_0.mp k0
                  have hg : (gT (mb t I) z).1 = true := by rw [e]; simp [q0, hr2]
                  refine hQ _ _ _ f3 (fun _ => ?_) (fun _ => hC3.2.1.2.2.2) (fun q => absurd hg q)
                  rw [e]
                  exact (ev_hd (hM0.2.1 hr0).2.2).symm
              · have c_136 := (not_congr (n_eq (a := (tcl (mb t J3) z (tpl (mb t J3) z (gP 2 (mb t I) z (gP 1 (mb t I) z (gP 0 (mb t I) z 0).2.1).2.1).2.1))) (b := 0) rfl rfl (by omega) (by omega))).mp c_136
                refine r_aload_n rfl ?_
                refine r_virtual (vs := []) (as := []) (by decide) (zl rfl) rfl rfl (zl rfl) (Nat.le_refl _) (Or.inr (Or.inr ⟨zt rfl, rfl, zt rfl⟩)) ?_
                refine s_fail0 (by omega) hC3.2.1.2.2.2 ?_
                refine r_nil ?_
                refine E_go 5 rfl ?_
                refine r_iload_n rfl ?_
                refine r_if_ne (fun c_144 => ?_) (fun c_144 => ?_)
                · have c_144 := (not_congr (n_eq (a := 0) (b := 0) rfl rfl (by omega) (by omega))).mp c_144
                  omega
                · have c_144 := (n_eq (a := 0) (b := 0) rfl rfl (by omega) (by omega)).mp c_144
                  refine r_iload_n rfl ?_
                  refine r_goto ?_
                  refine E_go 8 rfl ?_
                  refine r_iret rfl trivial ?_
                  have e := gT_2 hr0 hr1
                  have k0 := c_136
                  rw [m3] at k0
                  have q0 : ¬ tkd (mb t I) z (gP 2 (mb t I) z (gP 1 (mb t I) z (gP 0 (mb t I) z 0).2.1).2.1).2.1 = 0 := fun q => k0 (tk_0.mpr q)
                  have hg : ¬ (gT (mb t I) z).1 = true := by rw [e]; simp [q0]
                  refine hQ _ _ _ ((f3.up (by omega) (by omega)).up (by omega) (by omega)) (fun q => absurd q hg) (fun q => absurd q hg) (fun _ => ⟨by simp [fl, up2], ?_⟩)
                  rw [e]
                  simp [fl, up2]
                  have k := hC3.2.2.2.1.2.1
                  rw [m3] at k
                  exact k
          · have hb3 := hM2.2.2 hr2
            rw [m2] at hb3
            refine r_nil ?_
            refine E_go 4 rfl ?_
            refine r_istore (ls' := [_, _, _, _, _, _]) (zt rfl) rfl ?_
            refine r_aload_n rfl ?_
            refine r_getZ (by decide) rfl rfl (by decide) hb3.1 ?_
            refine r_if_ne (fun c_129 => ?_) (fun c_129 => ?_)
            · have c_129 := (not_congr (n_eq (a := 1) (b := 0) rfl rfl (by omega) (by omega))).mp c_129
              refine E_go 5 rfl ?_
              refine r_iload_n rfl ?_
              refine r_if_ne (fun c_144 => ?_) (fun c_144 => ?_)
              · have c_144 := (not_congr (n_eq (a := 0) (b := 0) rfl rfl (by omega) (by omega))).mp c_144
                omega
              · have c_144 := (n_eq (a := 0) (b := 0) rfl rfl (by omega) (by omega)).mp c_144
                refine r_iload_n rfl ?_
                refine r_goto ?_
                refine E_go 8 rfl ?_
                refine r_iret rfl trivial ?_
                have e := gT_2 hr0 hr1
                have hg : ¬ (gT (mb t I) z).1 = true := by rw [e]; simp [hr2]
                refine hQ _ _ _ f3 (fun q => absurd q hg) (fun q => absurd q hg) (fun _ => ⟨hb3.1, ?_⟩)
                rw [e]
                exact hb3.2
            · have c_129 := (n_eq (a := 1) (b := 0) rfl rfl (by omega) (by omega)).mp c_129
              omega
        · have c_95 := (not_congr (n_eq (a := 0) (b := 0) rfl rfl (by omega) (by omega))).mp c_95
          omega
      · have hb2 := hM1.2.2 hr1
        rw [m1] at hb2
        refine r_nil ?_
        refine E_go 2 rfl ?_
        refine r_istore (ls' := [_, _, _, _, _, _]) (zt rfl) rfl ?_
        refine r_aload_n rfl ?_
        refine r_getZ (by decide) rfl rfl (by decide) hb2.1 ?_
        refine r_if_eq (fun c_95 => ?_) (fun c_95 => ?_)
        · have c_95 := (n_eq (a := 1) (b := 0) rfl rfl (by omega) (by omega)).mp c_95
          omega
        · have c_95 := (not_congr (n_eq (a := 1) (b := 0) rfl rfl (by omega) (by omega))).mp c_95
          refine r_iconst ?_
          refine r_goto ?_
          refine E_go 4 rfl ?_
          refine r_istore (ls' := [_, _, _, _, _, _]) (zt rfl) rfl ?_
          refine r_aload_n rfl ?_
          refine r_getZ (by decide) rfl rfl (by decide) hb2.1 ?_
          refine r_if_ne (fun c_129 => ?_) (fun c_129 => ?_)
          · have c_129 := (not_congr (n_eq (a := 1) (b := 0) rfl rfl (by omega) (by omega))).mp c_129
            refine E_go 5 rfl ?_
            refine r_iload_n rfl ?_
            refine r_if_ne (fun c_144 => ?_) (fun c_144 => ?_)
            · have c_144 := (not_congr (n_eq (a := 0) (b := 0) rfl rfl (by omega) (by omega))).mp c_144
              omega
            · have c_144 := (n_eq (a := 0) (b := 0) rfl rfl (by omega) (by omega)).mp c_144
              refine r_iload_n rfl ?_
              refine r_goto ?_
              refine E_go 8 rfl ?_
              refine r_iret rfl trivial ?_
              have e := gT_1 hr0 hr1
              have hg : ¬ (gT (mb t I) z).1 = true := by rw [e]; exact Bool.noConfusion
              refine hQ _ _ _ f2 (fun q => absurd q hg) (fun q => absurd q hg) (fun _ => ⟨hb2.1, ?_⟩)
              rw [e]
              exact hb2.2
          · have c_129 := (n_eq (a := 1) (b := 0) rfl rfl (by omega) (by omega)).mp c_129
            omega
    · have c_62 := (not_congr (n_eq (a := 0) (b := 0) rfl rfl (by omega) (by omega))).mp c_62
      omega
  · have hb1 := hM0.2.2 hr0
    rw [m0] at hb1
    refine r_istore_n (ls' := [_, _, _, _, _, _]) (zt rfl) rfl ?_
    refine r_aload_n rfl ?_
    refine r_getZ (by decide) rfl rfl (by decide) hb1.1 ?_
    refine r_if_eq (fun c_62 => ?_) (fun c_62 => ?_)
    · have c_62 := (n_eq (a := 1) (b := 0) rfl rfl (by omega) (by omega)).mp c_62
      omega
    · have c_62 := (not_congr (n_eq (a := 1) (b := 0) rfl rfl (by omega) (by omega))).mp c_62
      refine r_iconst ?_
      refine r_goto ?_
      refine E_go 2 rfl ?_
      refine r_istore (ls' := [_, _, _, _, _, _]) (zt rfl) rfl ?_
      refine r_aload_n rfl ?_
      refine r_getZ (by decide) rfl rfl (by decide) hb1.1 ?_
      refine r_if_eq (fun c_95 => ?_) (fun c_95 => ?_)
      · have c_95 := (n_eq (a := 1) (b := 0) rfl rfl (by omega) (by omega)).mp c_95
        omega
      · have c_95 := (not_congr (n_eq (a := 1) (b := 0) rfl rfl (by omega) (by omega))).mp c_95
        refine r_iconst ?_
        refine r_goto ?_
        refine E_go 4 rfl ?_
        refine r_istore (ls' := [_, _, _, _, _, _]) (zt rfl) rfl ?_
        refine r_aload_n rfl ?_
        refine r_getZ (by decide) rfl rfl (by decide) hb1.1 ?_
        refine r_if_ne (fun c_129 => ?_) (fun c_129 => ?_)
        · have c_129 := (not_congr (n_eq (a := 1) (b := 0) rfl rfl (by omega) (by omega))).mp c_129
          refine E_go 5 rfl ?_
          refine r_iload_n rfl ?_
          refine r_if_ne (fun c_144 => ?_) (fun c_144 => ?_)
          · have c_144 := (not_congr (n_eq (a := 0) (b := 0) rfl rfl (by omega) (by omega))).mp c_144
            omega
          · have c_144 := (n_eq (a := 0) (b := 0) rfl rfl (by omega) (by omega)).mp c_144
            refine r_iload_n rfl ?_
            refine r_goto ?_
            refine E_go 8 rfl ?_
            refine r_iret rfl trivial ?_
            have e := gT_0 hr0
            have hg : ¬ (gT (mb t I) z).1 = true := by rw [e]; exact Bool.noConfusion
            refine hQ _ _ _ f1 (fun q => absurd q hg) (fun q => absurd q hg) (fun _ => ⟨hb1.1, ?_⟩)
            rw [e]
            exact hb1.2
        · have c_129 := (n_eq (a := 1) (b := 0) rfl rfl (by omega) (by omega)).mp c_129
          omega

set_option maxRecDepth 10000 in
theorem s_readX1 {xs : xSc} {m : Nat} {I : Nat → Nat → Int32} {L : Nat → Nat → Int64} {Q : Value → xHp → Prop} {t z : Nat} {w : Vw} (hm : 51 ≤ m) (ht : t < 6) (h160 : z ≤ 160) (hz : I 63 t = io z) (hbo : bOk (mb t I) z) (hw : ∀ k, k < 6 → I 61 (13 + k) = w k) (hQ : ∀ J L2 v, rF I J → ((gT (mb t I) z).1 = true → v = ruL (gT (mb t I) z).2.2 1 w) → ((gT (mb t I) z).1 = true → J 61 26 = 0) → (¬ (gT (mb t I) z).1 = true → J 61 26 = 1 ∧ J 61 27 = io (tpl (mb t I) z (gT (mb t I) z).2.1)) → Q (.int v) (Hp J L2)) : M xs m xi_X7_read [.ref 61, .int (io t), .int 1] (Hp I L) Q := by
  obtain ⟨m, rfl⟩ : ∃ k, m = k + 1 := ⟨m - 1, by omega⟩
  have htcl := fun J p => tcl_lt (b := mb t J) (z := z) (s := p)
  refine M_go (ls := [_, _, _, _, _, _]) (ml := 6) rfl rfl rfl (zl rfl) rfl ?_
  refine r_aload_n rfl ?_
  refine r_sipush ?_
  refine r_iload_n rfl ?_
  refine r_imul ?_
  refine r_putI rfl rfl (by decide) ?_
  refine r_aload_n rfl ?_
  refine r_aload_n rfl ?_
  refine r_getA (q := 63) (by decide) rfl rfl (by decide) ?_
  refine r_iload_n rfl ?_
  refine r_iaload (by decide) rfl (by decide) (ixE rfl (show t < 6 by omega) (by decide)) hz ?_
  refine r_putI rfl rfl (by decide) ?_
  refine r_aload_n rfl ?_
  refine r_iconst ?_
  refine r_putI rfl rfl (by decide) ?_
  refine r_aload_n rfl ?_
  refine r_iconst ?_
  refine r_putI rfl rfl (by decide) ?_
  refine r_aload_n rfl ?_
  refine r_iconst ?_
  refine r_putZ rfl rfl (by decide) (by first | exact Or.inl rfl | exact Or.inr rfl) ?_
  refine r_aload_n rfl ?_
  refine r_virtual (vs := []) (as := []) (by decide) (zl rfl) rfl rfl (zl rfl) (Nat.le_refl _) (Or.inr (Or.inr ⟨zt rfl, rfl, zt rfl⟩)) ?_
  have hmb0 : mb t (up2 (up2 (up2 (up2 (up2 I 61 19 (160 * io t)) 61 20 (io z)) 61 21 0) 61 25 0) 61 26 0) = mb t I := by
    unfold mb
    rw [up2_q (by omega), up2_q (by omega), up2_q (by omega), up2_q (by omega), up2_q (by omega)]
  refine s_next (by omega) (t := t) (i := 0) (z := z) ht h160 (n_mul (a := 160) (b := t) rfl rfl) rfl (by rw [hmb0]; exact hbo) (Nat.zero_le _) rfl (fun J0 L0 n0 k0 => ?_)
  rw [hmb0] at k0
  have m0 : mb t J0 = mb t I := n0.v.mbe.trans hmb0
  have f0 : rF I J0 := (((((rF.refl.up (by omega) (by omega)).up (by omega) (by omega)).up (by omega) (by omega)).up (by omega) (by omega)).up (by omega) (by omega)).v n0.v
  have hC0 : mCx t z 0 0 w J0 L0 := by
    refine ⟨⟨ht, h160, Nat.zero_le _⟩, ⟨?_, ?_, ?_, ?_⟩, by rw [m0]; exact hbo, by rw [m0]; exact k0, fun k hk => by rw [f0.2 (13 + k) (by omega)]; exact hw k hk⟩
    · rw [n0.2 19 (by omega)]; exact n_mul (a := 160) (b := t) rfl rfl
    · rw [n0.2 20 (by omega)]; rfl
    · rw [n0.2 25 (by omega)]; rfl
    · rw [n0.2 26 (by omega)]; rfl
  refine r_aload_n rfl ?_
  refine r_aload_n rfl ?_
  refine r_bipush ?_
  refine r_bipush ?_
  refine r_bipush ?_
  refine r_iconst ?_
  refine r_iconst ?_
  refine r_iconst ?_
  refine r_iconst ?_
  refine r_iconst ?_
  refine r_virtual (vs := []) (as := [_, _, _, _, _, _, _, _]) (by decide) (zl rfl) rfl rfl (zl rfl) (Nat.le_refl _) (Or.inr (Or.inr ⟨zt rfl, rfl, zt rfl⟩)) ?_
  refine s_isW_3 (t := t) (z := z) (i := 0) (by omega) hC0.1.1 hC0.1.2.1 hC0.2.1.1 hC0.2.1.2.1 hC0.1.2.2 hC0.2.1.2.2.2 hC0.2.2.2.1 ?_
  refine r_virtual (vs := []) (as := [_]) (by decide) (zl rfl) rfl rfl (zl rfl) (Nat.le_refl _) (Or.inr (Or.inr ⟨zt rfl, rfl, zt rfl⟩)) ?_
  refine s_partM (j := 0) (by omega) hC0 (fun J1 L1 v0 hM0 => ?_)
  rw [m0] at hM0
  have m1 : mb t J1 = mb t I := hM0.1.mbe.trans m0
  have f1 := f0.v hM0.1
  by_cases hr0 : (gP 0 (mb t I) z 0).1 = true
  · have hC1 := MR_c hC0 (r := (gP 0 (mb t I) z 0)) hM0 hr0 (pPt_gd _ hC0.1.2.2).1.2
    refine r_istore_n (ls' := [_, _, _, _, _, _]) (zt rfl) rfl ?_
    refine r_aload_n rfl ?_
    refine r_getZ (by decide) rfl rfl (by decide) hC1.2.1.2.2.2 ?_
    refine r_if_eq (fun c_62 => ?_) (fun c_62 => ?_)
    · have c_62 := (n_eq (a := 0) (b := 0) rfl rfl (by omega) (by omega)).mp c_62
      refine E_go 1 rfl ?_
      refine r_aload_n rfl ?_
      refine r_aload_n rfl ?_
      refine r_bipush ?_
      refine r_bipush ?_
      refine r_bipush ?_
      refine r_bipush ?_
      refine r_iconst ?_
      refine r_iconst ?_
      refine r_iconst ?_
      refine r_iconst ?_
      refine r_virtual (vs := []) (as := [_, _, _, _, _, _, _, _]) (by decide) (zl rfl) rfl rfl (zl rfl) (Nat.le_refl _) (Or.inr (Or.inr ⟨zt rfl, rfl, zt rfl⟩)) ?_
      refine s_isW_4 (t := t) (z := z) (i := (gP 0 (mb t I) z 0).2.1) (by omega) hC1.1.1 hC1.1.2.1 hC1.2.1.1 hC1.2.1.2.1 hC1.1.2.2 hC1.2.1.2.2.2 hC1.2.2.2.1 ?_
      refine r_virtual (vs := []) (as := [_]) (by decide) (zl rfl) rfl rfl (zl rfl) (Nat.le_refl _) (Or.inr (Or.inr ⟨zt rfl, rfl, zt rfl⟩)) ?_
      refine s_partM (j := 1) (by omega) hC1 (fun J2 L2 v1 hM1 => ?_)
      rw [m1] at hM1
      have m2 : mb t J2 = mb t I := hM1.1.mbe.trans m1
      have f2 := f1.v hM1.1
      by_cases hr1 : (gP 1 (mb t I) z (gP 0 (mb t I) z 0).2.1).1 = true
      · have hC2 := MR_c hC1 (r := (gP 1 (mb t I) z (gP 0 (mb t I) z 0).2.1)) hM1 hr1 (pPt_gd _ hC1.1.2.2).1.2
        refine r_nil ?_
        refine E_go 2 rfl ?_
        refine r_istore (ls' := [_, _, _, _, _, _]) (zt rfl) rfl ?_
        refine r_aload_n rfl ?_
        refine r_getZ (by decide) rfl rfl (by decide) hC2.2.1.2.2.2 ?_
        refine r_if_eq (fun c_95 => ?_) (fun c_95 => ?_)
        · have c_95 := (n_eq (a := 0) (b := 0) rfl rfl (by omega) (by omega)).mp c_95
          refine E_go 3 rfl ?_
          refine r_aload_n rfl ?_
          refine r_aload_n rfl ?_
          refine r_bipush ?_
          refine r_bipush ?_
          refine r_bipush ?_
          refine r_bipush ?_
          refine r_bipush ?_
          refine r_iconst ?_
          refine r_iconst ?_
          refine r_iconst ?_
          refine r_virtual (vs := []) (as := [_, _, _, _, _, _, _, _]) (by decide) (zl rfl) rfl rfl (zl rfl) (Nat.le_refl _) (Or.inr (Or.inr ⟨zt rfl, rfl, zt rfl⟩)) ?_
          refine s_isW_5 (t := t) (z := z) (i := (gP 1 (mb t I) z (gP 0 (mb t I) z 0).2.1).2.1) (by omega) hC2.1.1 hC2.1.2.1 hC2.2.1.1 hC2.2.1.2.1 hC2.1.2.2 hC2.2.1.2.2.2 hC2.2.2.2.1 ?_
          refine r_virtual (vs := []) (as := [_]) (by decide) (zl rfl) rfl rfl (zl rfl) (Nat.le_refl _) (Or.inr (Or.inr ⟨zt rfl, rfl, zt rfl⟩)) ?_
          refine s_partM (j := 2) (by omega) hC2 (fun J3 L3 v2 hM2 => ?_)
          rw [m2] at hM2
          have m3 : mb t J3 = mb t I := hM2.1.mbe.trans m2
          have f3 := f2.v hM2.1
          by_cases hr2 : (gP 2 (mb t I) z (gP 1 (mb t I) z (gP 0 (mb t I) z 0).2.1).2.1).1 = true
          · have hC3 := MR_c hC2 (r := (gP 2 (mb t I) z (gP 1 (mb t I) z (gP 0 (mb t I) z 0).2.1).2.1)) hM2 hr2 (pPt_gd _ hC2.1.2.2).1.2
            have htc3 := tcl_lt (b := mb t J3) (z := z) (s := tpl (mb t J3) z (gP 2 (mb t I) z (gP 1 (mb t I) z (gP 0 (mb t I) z 0).2.1).2.1).2.1)
            refine r_nil ?_
            refine E_go 4 rfl ?_
            refine r_istore (ls' := [_, _, _, _, _, _]) (zt rfl) rfl ?_
            refine r_aload_n rfl ?_
            refine r_getZ (by decide) rfl rfl (by decide) hC3.2.1.2.2.2 ?_
            refine r_if_ne (fun c_129 => ?_) (fun c_129 => ?_)
            · have c_129 := (not_congr (n_eq (a := 0) (b := 0) rfl rfl (by omega) (by omega))).mp c_129
              omega
            · have c_129 := (n_eq (a := 0) (b := 0) rfl rfl (by omega) (by omega)).mp c_129
              refine r_aload_n rfl ?_
              refine r_getI (by decide) rfl rfl (by decide) hC3.2.2.2.1.1 ?_
              refine r_if_eq (fun c_136 => ?_) (fun c_136 => ?_)
              · have c_136 := (n_eq (a := (tcl (mb t J3) z (tpl (mb t J3) z (gP 2 (mb t I) z (gP 1 (mb t I) z (gP 0 (mb t I) z 0).2.1).2.1).2.1))) (b := 0) rfl rfl (by omega) (by omega)).mp c_136
                refine E_go 5 rfl ?_
                refine r_iload_n rfl ?_
                refine r_if_ne (fun c_144 => ?_) (fun c_144 => ?_)
                · have c_144 := (not_congr (n_eq (a := 1) (b := 0) rfl rfl (by omega) (by omega))).mp c_144
                  refine E_go 6 rfl ?_
                  refine r_iload_n rfl ?_
                  refine r_iconst ?_
                  refine r_icmp_ne (fun c_153 => ?_) (fun c_153 => ?_)
                  · have c_153 := (not_congr (n_eq (a := 1) (b := 1) rfl rfl (by omega) (by omega))).mp c_153
                    omega
                  · have c_153 := (n_eq (a := 1) (b := 1) rfl rfl (by omega) (by omega)).mp c_153
                    refine r_iload rfl ?_
                    refine r_goto ?_
                    refine E_go 8 rfl ?_
                    refine r_iret rfl trivial ?_
                    have e := gT_2 hr0 hr1
                    have k0 := c_136
                    rw [m3] at k0
                    have q0 : tkd (mb t I) z (gP 2 (mb t I) z (gP 1 (mb t I) z (gP 0 (mb t I) z 0).2.1).2.1).2.1 = 0 := tk_0.mp k0
                    have hg : (gT (mb t I) z).1 = true := by rw [e]; simp [q0, hr2]
                    refine hQ _ _ _ f3 (fun _ => ?_) (fun _ => hC3.2.1.2.2.2) (fun q => absurd hg q)
                    rw [e]
                    exact (ev_hd (hM1.2.1 hr1).2.2).symm
                · have c_144 := (n_eq (a := 1) (b := 0) rfl rfl (by omega) (by omega)).mp c_144
                  omega
              · have c_136 := (not_congr (n_eq (a := (tcl (mb t J3) z (tpl (mb t J3) z (gP 2 (mb t I) z (gP 1 (mb t I) z (gP 0 (mb t I) z 0).2.1).2.1).2.1))) (b := 0) rfl rfl (by omega) (by omega))).mp c_136
                refine r_aload_n rfl ?_
                refine r_virtual (vs := []) (as := []) (by decide) (zl rfl) rfl rfl (zl rfl) (Nat.le_refl _) (Or.inr (Or.inr ⟨zt rfl, rfl, zt rfl⟩)) ?_
                refine s_fail0 (by omega) hC3.2.1.2.2.2 ?_
                refine r_nil ?_
                refine E_go 5 rfl ?_
                refine r_iload_n rfl ?_
                refine r_if_ne (fun c_144 => ?_) (fun c_144 => ?_)
                · have c_144 := (not_congr (n_eq (a := 1) (b := 0) rfl rfl (by omega) (by omega))).mp c_144
                  refine E_go 6 rfl ?_
                  refine r_iload_n rfl ?_
                  refine r_iconst ?_
                  refine r_icmp_ne (fun c_153 => ?_) (fun c_153 => ?_)
                  · have c_153 := (not_congr (n_eq (a := 1) (b := 1) rfl rfl (by omega) (by omega))).mp c_153
                    omega
                  · have c_153 := (n_eq (a := 1) (b := 1) rfl rfl (by omega) (by omega)).mp c_153
                    refine r_iload rfl ?_
                    refine r_goto ?_
                    refine E_go 8 rfl ?_
                    refine r_iret rfl trivial ?_
                    have e := gT_2 hr0 hr1
                    have k0 := c_136
                    rw [m3] at k0
                    have q0 : ¬ tkd (mb t I) z (gP 2 (mb t I) z (gP 1 (mb t I) z (gP 0 (mb t I) z 0).2.1).2.1).2.1 = 0 := fun q => k0 (tk_0.mpr q)
                    have hg : ¬ (gT (mb t I) z).1 = true := by rw [e]; simp [q0]
                    refine hQ _ _ _ ((f3.up (by omega) (by omega)).up (by omega) (by omega)) (fun q => absurd q hg) (fun q => absurd q hg) (fun _ => ⟨by simp [fl, up2], ?_⟩)
                    rw [e]
                    simp [fl, up2]
                    have k := hC3.2.2.2.1.2.1
                    rw [m3] at k
                    exact k
                · have c_144 := (n_eq (a := 1) (b := 0) rfl rfl (by omega) (by omega)).mp c_144
                  omega
          · have hb3 := hM2.2.2 hr2
            rw [m2] at hb3
            refine r_nil ?_
            refine E_go 4 rfl ?_
            refine r_istore (ls' := [_, _, _, _, _, _]) (zt rfl) rfl ?_
            refine r_aload_n rfl ?_
            refine r_getZ (by decide) rfl rfl (by decide) hb3.1 ?_
            refine r_if_ne (fun c_129 => ?_) (fun c_129 => ?_)
            · have c_129 := (not_congr (n_eq (a := 1) (b := 0) rfl rfl (by omega) (by omega))).mp c_129
              refine E_go 5 rfl ?_
              refine r_iload_n rfl ?_
              refine r_if_ne (fun c_144 => ?_) (fun c_144 => ?_)
              · have c_144 := (not_congr (n_eq (a := 1) (b := 0) rfl rfl (by omega) (by omega))).mp c_144
                refine E_go 6 rfl ?_
                refine r_iload_n rfl ?_
                refine r_iconst ?_
                refine r_icmp_ne (fun c_153 => ?_) (fun c_153 => ?_)
                · have c_153 := (not_congr (n_eq (a := 1) (b := 1) rfl rfl (by omega) (by omega))).mp c_153
                  omega
                · have c_153 := (n_eq (a := 1) (b := 1) rfl rfl (by omega) (by omega)).mp c_153
                  refine r_iload rfl ?_
                  refine r_goto ?_
                  refine E_go 8 rfl ?_
                  refine r_iret rfl trivial ?_
                  have e := gT_2 hr0 hr1
                  have hg : ¬ (gT (mb t I) z).1 = true := by rw [e]; simp [hr2]
                  refine hQ _ _ _ f3 (fun q => absurd q hg) (fun q => absurd q hg) (fun _ => ⟨hb3.1, ?_⟩)
                  rw [e]
                  exact hb3.2
              · have c_144 := (n_eq (a := 1) (b := 0) rfl rfl (by omega) (by omega)).mp c_144
                omega
            · have c_129 := (n_eq (a := 1) (b := 0) rfl rfl (by omega) (by omega)).mp c_129
              omega
        · have c_95 := (not_congr (n_eq (a := 0) (b := 0) rfl rfl (by omega) (by omega))).mp c_95
          omega
      · have hb2 := hM1.2.2 hr1
        rw [m1] at hb2
        refine r_nil ?_
        refine E_go 2 rfl ?_
        refine r_istore (ls' := [_, _, _, _, _, _]) (zt rfl) rfl ?_
        refine r_aload_n rfl ?_
        refine r_getZ (by decide) rfl rfl (by decide) hb2.1 ?_
        refine r_if_eq (fun c_95 => ?_) (fun c_95 => ?_)
        · have c_95 := (n_eq (a := 1) (b := 0) rfl rfl (by omega) (by omega)).mp c_95
          omega
        · have c_95 := (not_congr (n_eq (a := 1) (b := 0) rfl rfl (by omega) (by omega))).mp c_95
          refine r_iconst ?_
          refine r_goto ?_
          refine E_go 4 rfl ?_
          refine r_istore (ls' := [_, _, _, _, _, _]) (zt rfl) rfl ?_
          refine r_aload_n rfl ?_
          refine r_getZ (by decide) rfl rfl (by decide) hb2.1 ?_
          refine r_if_ne (fun c_129 => ?_) (fun c_129 => ?_)
          · have c_129 := (not_congr (n_eq (a := 1) (b := 0) rfl rfl (by omega) (by omega))).mp c_129
            refine E_go 5 rfl ?_
            refine r_iload_n rfl ?_
            refine r_if_ne (fun c_144 => ?_) (fun c_144 => ?_)
            · have c_144 := (not_congr (n_eq (a := 1) (b := 0) rfl rfl (by omega) (by omega))).mp c_144
              refine E_go 6 rfl ?_
              refine r_iload_n rfl ?_
              refine r_iconst ?_
              refine r_icmp_ne (fun c_153 => ?_) (fun c_153 => ?_)
              · have c_153 := (not_congr (n_eq (a := 1) (b := 1) rfl rfl (by omega) (by omega))).mp c_153
                omega
              · have c_153 := (n_eq (a := 1) (b := 1) rfl rfl (by omega) (by omega)).mp c_153
                refine r_iload rfl ?_
                refine r_goto ?_
                refine E_go 8 rfl ?_
                refine r_iret rfl trivial ?_
                have e := gT_1 hr0 hr1
                have hg : ¬ (gT (mb t I) z).1 = true := by rw [e]; exact Bool.noConfusion
                refine hQ _ _ _ f2 (fun q => absurd q hg) (fun q => absurd q hg) (fun _ => ⟨hb2.1, ?_⟩)
                rw [e]
                exact hb2.2
            · have c_144 := (n_eq (a := 1) (b := 0) rfl rfl (by omega) (by omega)).mp c_144
              omega
          · have c_129 := (n_eq (a := 1) (b := 0) rfl rfl (by omega) (by omega)).mp c_129
            omega
    · have c_62 := (not_congr (n_eq (a := 0) (b := 0) rfl rfl (by omega) (by omega))).mp c_62
      omega
  · have hb1 := hM0.2.2 hr0
    rw [m0] at hb1
    refine r_istore_n (ls' := [_, _, _, _, _, _]) (zt rfl) rfl ?_
    refine r_aload_n rfl ?_
    refine r_getZ (by decide) rfl rfl (by decide) hb1.1 ?_
    refine r_if_eq (fun c_62 => ?_) (fun c_62 => ?_)
    · have c_62 := (n_eq (a := 1) (b := 0) rfl rfl (by omega) (by omega)).mp c_62
      omega
    · have c_62 := (not_congr (n_eq (a := 1) (b := 0) rfl rfl (by omega) (by omega))).mp c_62
      refine r_iconst ?_
      refine r_goto ?_
      refine E_go 2 rfl ?_
      refine r_istore (ls' := [_, _, _, _, _, _]) (zt rfl) rfl ?_
      refine r_aload_n rfl ?_
      refine r_getZ (by decide) rfl rfl (by decide) hb1.1 ?_
      refine r_if_eq (fun c_95 => ?_) (fun c_95 => ?_)
      · have c_95 := (n_eq (a := 1) (b := 0) rfl rfl (by omega) (by omega)).mp c_95
        omega
      · have c_95 := (not_congr (n_eq (a := 1) (b := 0) rfl rfl (by omega) (by omega))).mp c_95
        refine r_iconst ?_
        refine r_goto ?_
        refine E_go 4 rfl ?_
        refine r_istore (ls' := [_, _, _, _, _, _]) (zt rfl) rfl ?_
        refine r_aload_n rfl ?_
        refine r_getZ (by decide) rfl rfl (by decide) hb1.1 ?_
        refine r_if_ne (fun c_129 => ?_) (fun c_129 => ?_)
        · have c_129 := (not_congr (n_eq (a := 1) (b := 0) rfl rfl (by omega) (by omega))).mp c_129
          refine E_go 5 rfl ?_
          refine r_iload_n rfl ?_
          refine r_if_ne (fun c_144 => ?_) (fun c_144 => ?_)
          · have c_144 := (not_congr (n_eq (a := 1) (b := 0) rfl rfl (by omega) (by omega))).mp c_144
            refine E_go 6 rfl ?_
            refine r_iload_n rfl ?_
            refine r_iconst ?_
            refine r_icmp_ne (fun c_153 => ?_) (fun c_153 => ?_)
            · have c_153 := (not_congr (n_eq (a := 1) (b := 1) rfl rfl (by omega) (by omega))).mp c_153
              omega
            · have c_153 := (n_eq (a := 1) (b := 1) rfl rfl (by omega) (by omega)).mp c_153
              refine r_iload rfl ?_
              refine r_goto ?_
              refine E_go 8 rfl ?_
              refine r_iret rfl trivial ?_
              have e := gT_0 hr0
              have hg : ¬ (gT (mb t I) z).1 = true := by rw [e]; exact Bool.noConfusion
              refine hQ _ _ _ f1 (fun q => absurd q hg) (fun q => absurd q hg) (fun _ => ⟨hb1.1, ?_⟩)
              rw [e]
              exact hb1.2
          · have c_144 := (n_eq (a := 1) (b := 0) rfl rfl (by omega) (by omega)).mp c_144
            omega
        · have c_129 := (n_eq (a := 1) (b := 0) rfl rfl (by omega) (by omega)).mp c_129
          omega

set_option maxRecDepth 10000 in
theorem s_readX2 {xs : xSc} {m : Nat} {I : Nat → Nat → Int32} {L : Nat → Nat → Int64} {Q : Value → xHp → Prop} {t z : Nat} {w : Vw} (hm : 51 ≤ m) (ht : t < 6) (h160 : z ≤ 160) (hz : I 63 t = io z) (hbo : bOk (mb t I) z) (hw : ∀ k, k < 6 → I 61 (13 + k) = w k) (hQ : ∀ J L2 v, rF I J → ((gT (mb t I) z).1 = true → v = ruL (gT (mb t I) z).2.2 2 w) → ((gT (mb t I) z).1 = true → J 61 26 = 0) → (¬ (gT (mb t I) z).1 = true → J 61 26 = 1 ∧ J 61 27 = io (tpl (mb t I) z (gT (mb t I) z).2.1)) → Q (.int v) (Hp J L2)) : M xs m xi_X7_read [.ref 61, .int (io t), .int 2] (Hp I L) Q := by
  obtain ⟨m, rfl⟩ : ∃ k, m = k + 1 := ⟨m - 1, by omega⟩
  have htcl := fun J p => tcl_lt (b := mb t J) (z := z) (s := p)
  refine M_go (ls := [_, _, _, _, _, _]) (ml := 6) rfl rfl rfl (zl rfl) rfl ?_
  refine r_aload_n rfl ?_
  refine r_sipush ?_
  refine r_iload_n rfl ?_
  refine r_imul ?_
  refine r_putI rfl rfl (by decide) ?_
  refine r_aload_n rfl ?_
  refine r_aload_n rfl ?_
  refine r_getA (q := 63) (by decide) rfl rfl (by decide) ?_
  refine r_iload_n rfl ?_
  refine r_iaload (by decide) rfl (by decide) (ixE rfl (show t < 6 by omega) (by decide)) hz ?_
  refine r_putI rfl rfl (by decide) ?_
  refine r_aload_n rfl ?_
  refine r_iconst ?_
  refine r_putI rfl rfl (by decide) ?_
  refine r_aload_n rfl ?_
  refine r_iconst ?_
  refine r_putI rfl rfl (by decide) ?_
  refine r_aload_n rfl ?_
  refine r_iconst ?_
  refine r_putZ rfl rfl (by decide) (by first | exact Or.inl rfl | exact Or.inr rfl) ?_
  refine r_aload_n rfl ?_
  refine r_virtual (vs := []) (as := []) (by decide) (zl rfl) rfl rfl (zl rfl) (Nat.le_refl _) (Or.inr (Or.inr ⟨zt rfl, rfl, zt rfl⟩)) ?_
  have hmb0 : mb t (up2 (up2 (up2 (up2 (up2 I 61 19 (160 * io t)) 61 20 (io z)) 61 21 0) 61 25 0) 61 26 0) = mb t I := by
    unfold mb
    rw [up2_q (by omega), up2_q (by omega), up2_q (by omega), up2_q (by omega), up2_q (by omega)]
  refine s_next (by omega) (t := t) (i := 0) (z := z) ht h160 (n_mul (a := 160) (b := t) rfl rfl) rfl (by rw [hmb0]; exact hbo) (Nat.zero_le _) rfl (fun J0 L0 n0 k0 => ?_)
  rw [hmb0] at k0
  have m0 : mb t J0 = mb t I := n0.v.mbe.trans hmb0
  have f0 : rF I J0 := (((((rF.refl.up (by omega) (by omega)).up (by omega) (by omega)).up (by omega) (by omega)).up (by omega) (by omega)).up (by omega) (by omega)).v n0.v
  have hC0 : mCx t z 0 0 w J0 L0 := by
    refine ⟨⟨ht, h160, Nat.zero_le _⟩, ⟨?_, ?_, ?_, ?_⟩, by rw [m0]; exact hbo, by rw [m0]; exact k0, fun k hk => by rw [f0.2 (13 + k) (by omega)]; exact hw k hk⟩
    · rw [n0.2 19 (by omega)]; exact n_mul (a := 160) (b := t) rfl rfl
    · rw [n0.2 20 (by omega)]; rfl
    · rw [n0.2 25 (by omega)]; rfl
    · rw [n0.2 26 (by omega)]; rfl
  refine r_aload_n rfl ?_
  refine r_aload_n rfl ?_
  refine r_bipush ?_
  refine r_bipush ?_
  refine r_bipush ?_
  refine r_iconst ?_
  refine r_iconst ?_
  refine r_iconst ?_
  refine r_iconst ?_
  refine r_iconst ?_
  refine r_virtual (vs := []) (as := [_, _, _, _, _, _, _, _]) (by decide) (zl rfl) rfl rfl (zl rfl) (Nat.le_refl _) (Or.inr (Or.inr ⟨zt rfl, rfl, zt rfl⟩)) ?_
  refine s_isW_3 (t := t) (z := z) (i := 0) (by omega) hC0.1.1 hC0.1.2.1 hC0.2.1.1 hC0.2.1.2.1 hC0.1.2.2 hC0.2.1.2.2.2 hC0.2.2.2.1 ?_
  refine r_virtual (vs := []) (as := [_]) (by decide) (zl rfl) rfl rfl (zl rfl) (Nat.le_refl _) (Or.inr (Or.inr ⟨zt rfl, rfl, zt rfl⟩)) ?_
  refine s_partM (j := 0) (by omega) hC0 (fun J1 L1 v0 hM0 => ?_)
  rw [m0] at hM0
  have m1 : mb t J1 = mb t I := hM0.1.mbe.trans m0
  have f1 := f0.v hM0.1
  by_cases hr0 : (gP 0 (mb t I) z 0).1 = true
  · have hC1 := MR_c hC0 (r := (gP 0 (mb t I) z 0)) hM0 hr0 (pPt_gd _ hC0.1.2.2).1.2
    refine r_istore_n (ls' := [_, _, _, _, _, _]) (zt rfl) rfl ?_
    refine r_aload_n rfl ?_
    refine r_getZ (by decide) rfl rfl (by decide) hC1.2.1.2.2.2 ?_
    refine r_if_eq (fun c_62 => ?_) (fun c_62 => ?_)
    · have c_62 := (n_eq (a := 0) (b := 0) rfl rfl (by omega) (by omega)).mp c_62
      refine E_go 1 rfl ?_
      refine r_aload_n rfl ?_
      refine r_aload_n rfl ?_
      refine r_bipush ?_
      refine r_bipush ?_
      refine r_bipush ?_
      refine r_bipush ?_
      refine r_iconst ?_
      refine r_iconst ?_
      refine r_iconst ?_
      refine r_iconst ?_
      refine r_virtual (vs := []) (as := [_, _, _, _, _, _, _, _]) (by decide) (zl rfl) rfl rfl (zl rfl) (Nat.le_refl _) (Or.inr (Or.inr ⟨zt rfl, rfl, zt rfl⟩)) ?_
      refine s_isW_4 (t := t) (z := z) (i := (gP 0 (mb t I) z 0).2.1) (by omega) hC1.1.1 hC1.1.2.1 hC1.2.1.1 hC1.2.1.2.1 hC1.1.2.2 hC1.2.1.2.2.2 hC1.2.2.2.1 ?_
      refine r_virtual (vs := []) (as := [_]) (by decide) (zl rfl) rfl rfl (zl rfl) (Nat.le_refl _) (Or.inr (Or.inr ⟨zt rfl, rfl, zt rfl⟩)) ?_
      refine s_partM (j := 1) (by omega) hC1 (fun J2 L2 v1 hM1 => ?_)
      rw [m1] at hM1
      have m2 : mb t J2 = mb t I := hM1.1.mbe.trans m1
      have f2 := f1.v hM1.1
      by_cases hr1 : (gP 1 (mb t I) z (gP 0 (mb t I) z 0).2.1).1 = true
      · have hC2 := MR_c hC1 (r := (gP 1 (mb t I) z (gP 0 (mb t I) z 0).2.1)) hM1 hr1 (pPt_gd _ hC1.1.2.2).1.2
        refine r_nil ?_
        refine E_go 2 rfl ?_
        refine r_istore (ls' := [_, _, _, _, _, _]) (zt rfl) rfl ?_
        refine r_aload_n rfl ?_
        refine r_getZ (by decide) rfl rfl (by decide) hC2.2.1.2.2.2 ?_
        refine r_if_eq (fun c_95 => ?_) (fun c_95 => ?_)
        · have c_95 := (n_eq (a := 0) (b := 0) rfl rfl (by omega) (by omega)).mp c_95
          refine E_go 3 rfl ?_
          refine r_aload_n rfl ?_
          refine r_aload_n rfl ?_
          refine r_bipush ?_
          refine r_bipush ?_
          refine r_bipush ?_
          refine r_bipush ?_
          refine r_bipush ?_
          refine r_iconst ?_
          refine r_iconst ?_
          refine r_iconst ?_
          refine r_virtual (vs := []) (as := [_, _, _, _, _, _, _, _]) (by decide) (zl rfl) rfl rfl (zl rfl) (Nat.le_refl _) (Or.inr (Or.inr ⟨zt rfl, rfl, zt rfl⟩)) ?_
          refine s_isW_5 (t := t) (z := z) (i := (gP 1 (mb t I) z (gP 0 (mb t I) z 0).2.1).2.1) (by omega) hC2.1.1 hC2.1.2.1 hC2.2.1.1 hC2.2.1.2.1 hC2.1.2.2 hC2.2.1.2.2.2 hC2.2.2.2.1 ?_
          refine r_virtual (vs := []) (as := [_]) (by decide) (zl rfl) rfl rfl (zl rfl) (Nat.le_refl _) (Or.inr (Or.inr ⟨zt rfl, rfl, zt rfl⟩)) ?_
          refine s_partM (j := 2) (by omega) hC2 (fun J3 L3 v2 hM2 => ?_)
          rw [m2] at hM2
          have m3 : mb t J3 = mb t I := hM2.1.mbe.trans m2
          have f3 := f2.v hM2.1
          by_cases hr2 : (gP 2 (mb t I) z (gP 1 (mb t I) z (gP 0 (mb t I) z 0).2.1).2.1).1 = true
          · have hC3 := MR_c hC2 (r := (gP 2 (mb t I) z (gP 1 (mb t I) z (gP 0 (mb t I) z 0).2.1).2.1)) hM2 hr2 (pPt_gd _ hC2.1.2.2).1.2
            have htc3 := tcl_lt (b := mb t J3) (z := z) (s := tpl (mb t J3) z (gP 2 (mb t I) z (gP 1 (mb t I) z (gP 0 (mb t I) z 0).2.1).2.1).2.1)
            refine r_nil ?_
            refine E_go 4 rfl ?_
            refine r_istore (ls' := [_, _, _, _, _, _]) (zt rfl) rfl ?_
            refine r_aload_n rfl ?_
            refine r_getZ (by decide) rfl rfl (by decide) hC3.2.1.2.2.2 ?_
            refine r_if_ne (fun c_129 => ?_) (fun c_129 => ?_)
            · have c_129 := (not_congr (n_eq (a := 0) (b := 0) rfl rfl (by omega) (by omega))).mp c_129
              omega
            · have c_129 := (n_eq (a := 0) (b := 0) rfl rfl (by omega) (by omega)).mp c_129
              refine r_aload_n rfl ?_
              refine r_getI (by decide) rfl rfl (by decide) hC3.2.2.2.1.1 ?_
              refine r_if_eq (fun c_136 => ?_) (fun c_136 => ?_)
              · have c_136 := (n_eq (a := (tcl (mb t J3) z (tpl (mb t J3) z (gP 2 (mb t I) z (gP 1 (mb t I) z (gP 0 (mb t I) z 0).2.1).2.1).2.1))) (b := 0) rfl rfl (by omega) (by omega)).mp c_136
                refine E_go 5 rfl ?_
                refine r_iload_n rfl ?_
                refine r_if_ne (fun c_144 => ?_) (fun c_144 => ?_)
                · have c_144 := (not_congr (n_eq (a := 2) (b := 0) rfl rfl (by omega) (by omega))).mp c_144
                  refine E_go 6 rfl ?_
                  refine r_iload_n rfl ?_
                  refine r_iconst ?_
                  refine r_icmp_ne (fun c_153 => ?_) (fun c_153 => ?_)
                  · have c_153 := (not_congr (n_eq (a := 2) (b := 1) rfl rfl (by omega) (by omega))).mp c_153
                    refine E_go 7 rfl ?_
                    refine r_iload rfl ?_
                    refine r_nil ?_
                    refine E_go 8 rfl ?_
                    refine r_iret rfl trivial ?_
                    have e := gT_2 hr0 hr1
                    have k0 := c_136
                    rw [m3] at k0
                    have q0 : tkd (mb t I) z (gP 2 (mb t I) z (gP 1 (mb t I) z (gP 0 (mb t I) z 0).2.1).2.1).2.1 = 0 := tk_0.mp k0
                    have hg : (gT (mb t I) z).1 = true := by rw [e]; simp [q0, hr2]
                    refine hQ _ _ _ f3 (fun _ => ?_) (fun _ => hC3.2.1.2.2.2) (fun q => absurd hg q)
                    rw [e]
                    exact (ev_hd (hM2.2.1 hr2).2.2).symm
                  · have c_153 := (n_eq (a := 2) (b := 1) rfl rfl (by omega) (by omega)).mp c_153
                    omega
                · have c_144 := (n_eq (a := 2) (b := 0) rfl rfl (by omega) (by omega)).mp c_144
                  omega
              · have c_136 := (not_congr (n_eq (a := (tcl (mb t J3) z (tpl (mb t J3) z (gP 2 (mb t I) z (gP 1 (mb t I) z (gP 0 (mb t I) z 0).2.1).2.1).2.1))) (b := 0) rfl rfl (by omega) (by omega))).mp c_136
                refine r_aload_n rfl ?_
                refine r_virtual (vs := []) (as := []) (by decide) (zl rfl) rfl rfl (zl rfl) (Nat.le_refl _) (Or.inr (Or.inr ⟨zt rfl, rfl, zt rfl⟩)) ?_
                refine s_fail0 (by omega) hC3.2.1.2.2.2 ?_
                refine r_nil ?_
                refine E_go 5 rfl ?_
                refine r_iload_n rfl ?_
                refine r_if_ne (fun c_144 => ?_) (fun c_144 => ?_)
                · have c_144 := (not_congr (n_eq (a := 2) (b := 0) rfl rfl (by omega) (by omega))).mp c_144
                  refine E_go 6 rfl ?_
                  refine r_iload_n rfl ?_
                  refine r_iconst ?_
                  refine r_icmp_ne (fun c_153 => ?_) (fun c_153 => ?_)
                  · have c_153 := (not_congr (n_eq (a := 2) (b := 1) rfl rfl (by omega) (by omega))).mp c_153
                    refine E_go 7 rfl ?_
                    refine r_iload rfl ?_
                    refine r_nil ?_
                    refine E_go 8 rfl ?_
                    refine r_iret rfl trivial ?_
                    have e := gT_2 hr0 hr1
                    have k0 := c_136
                    rw [m3] at k0
                    have q0 : ¬ tkd (mb t I) z (gP 2 (mb t I) z (gP 1 (mb t I) z (gP 0 (mb t I) z 0).2.1).2.1).2.1 = 0 := fun q => k0 (tk_0.mpr q)
                    have hg : ¬ (gT (mb t I) z).1 = true := by rw [e]; simp [q0]
                    refine hQ _ _ _ ((f3.up (by omega) (by omega)).up (by omega) (by omega)) (fun q => absurd q hg) (fun q => absurd q hg) (fun _ => ⟨by simp [fl, up2], ?_⟩)
                    rw [e]
                    simp [fl, up2]
                    have k := hC3.2.2.2.1.2.1
                    rw [m3] at k
                    exact k
                  · have c_153 := (n_eq (a := 2) (b := 1) rfl rfl (by omega) (by omega)).mp c_153
                    omega
                · have c_144 := (n_eq (a := 2) (b := 0) rfl rfl (by omega) (by omega)).mp c_144
                  omega
          · have hb3 := hM2.2.2 hr2
            rw [m2] at hb3
            refine r_nil ?_
            refine E_go 4 rfl ?_
            refine r_istore (ls' := [_, _, _, _, _, _]) (zt rfl) rfl ?_
            refine r_aload_n rfl ?_
            refine r_getZ (by decide) rfl rfl (by decide) hb3.1 ?_
            refine r_if_ne (fun c_129 => ?_) (fun c_129 => ?_)
            · have c_129 := (not_congr (n_eq (a := 1) (b := 0) rfl rfl (by omega) (by omega))).mp c_129
              refine E_go 5 rfl ?_
              refine r_iload_n rfl ?_
              refine r_if_ne (fun c_144 => ?_) (fun c_144 => ?_)
              · have c_144 := (not_congr (n_eq (a := 2) (b := 0) rfl rfl (by omega) (by omega))).mp c_144
                refine E_go 6 rfl ?_
                refine r_iload_n rfl ?_
                refine r_iconst ?_
                refine r_icmp_ne (fun c_153 => ?_) (fun c_153 => ?_)
                · have c_153 := (not_congr (n_eq (a := 2) (b := 1) rfl rfl (by omega) (by omega))).mp c_153
                  refine E_go 7 rfl ?_
                  refine r_iload rfl ?_
                  refine r_nil ?_
                  refine E_go 8 rfl ?_
                  refine r_iret rfl trivial ?_
                  have e := gT_2 hr0 hr1
                  have hg : ¬ (gT (mb t I) z).1 = true := by rw [e]; simp [hr2]
                  refine hQ _ _ _ f3 (fun q => absurd q hg) (fun q => absurd q hg) (fun _ => ⟨hb3.1, ?_⟩)
                  rw [e]
                  exact hb3.2
                · have c_153 := (n_eq (a := 2) (b := 1) rfl rfl (by omega) (by omega)).mp c_153
                  omega
              · have c_144 := (n_eq (a := 2) (b := 0) rfl rfl (by omega) (by omega)).mp c_144
                omega
            · have c_129 := (n_eq (a := 1) (b := 0) rfl rfl (by omega) (by omega)).mp c_129
              omega
        · have c_95 := (not_congr (n_eq (a := 0) (b := 0) rfl rfl (by omega) (by omega))).mp c_95
          omega
      · have hb2 := hM1.2.2 hr1
        rw [m1] at hb2
        refine r_nil ?_
        refine E_go 2 rfl ?_
        refine r_istore (ls' := [_, _, _, _, _, _]) (zt rfl) rfl ?_
        refine r_aload_n rfl ?_
        refine r_getZ (by decide) rfl rfl (by decide) hb2.1 ?_
        refine r_if_eq (fun c_95 => ?_) (fun c_95 => ?_)
        · have c_95 := (n_eq (a := 1) (b := 0) rfl rfl (by omega) (by omega)).mp c_95
          omega
        · have c_95 := (not_congr (n_eq (a := 1) (b := 0) rfl rfl (by omega) (by omega))).mp c_95
          refine r_iconst ?_
          refine r_goto ?_
          refine E_go 4 rfl ?_
          refine r_istore (ls' := [_, _, _, _, _, _]) (zt rfl) rfl ?_
          refine r_aload_n rfl ?_
          refine r_getZ (by decide) rfl rfl (by decide) hb2.1 ?_
          refine r_if_ne (fun c_129 => ?_) (fun c_129 => ?_)
          · have c_129 := (not_congr (n_eq (a := 1) (b := 0) rfl rfl (by omega) (by omega))).mp c_129
            refine E_go 5 rfl ?_
            refine r_iload_n rfl ?_
            refine r_if_ne (fun c_144 => ?_) (fun c_144 => ?_)
            · have c_144 := (not_congr (n_eq (a := 2) (b := 0) rfl rfl (by omega) (by omega))).mp c_144
              refine E_go 6 rfl ?_
              refine r_iload_n rfl ?_
              refine r_iconst ?_
              refine r_icmp_ne (fun c_153 => ?_) (fun c_153 => ?_)
              · have c_153 := (not_congr (n_eq (a := 2) (b := 1) rfl rfl (by omega) (by omega))).mp c_153
                refine E_go 7 rfl ?_
                refine r_iload rfl ?_
                refine r_nil ?_
                refine E_go 8 rfl ?_
                refine r_iret rfl trivial ?_
                have e := gT_1 hr0 hr1
                have hg : ¬ (gT (mb t I) z).1 = true := by rw [e]; exact Bool.noConfusion
                refine hQ _ _ _ f2 (fun q => absurd q hg) (fun q => absurd q hg) (fun _ => ⟨hb2.1, ?_⟩)
                rw [e]
                exact hb2.2
              · have c_153 := (n_eq (a := 2) (b := 1) rfl rfl (by omega) (by omega)).mp c_153
                omega
            · have c_144 := (n_eq (a := 2) (b := 0) rfl rfl (by omega) (by omega)).mp c_144
              omega
          · have c_129 := (n_eq (a := 1) (b := 0) rfl rfl (by omega) (by omega)).mp c_129
            omega
    · have c_62 := (not_congr (n_eq (a := 0) (b := 0) rfl rfl (by omega) (by omega))).mp c_62
      omega
  · have hb1 := hM0.2.2 hr0
    rw [m0] at hb1
    refine r_istore_n (ls' := [_, _, _, _, _, _]) (zt rfl) rfl ?_
    refine r_aload_n rfl ?_
    refine r_getZ (by decide) rfl rfl (by decide) hb1.1 ?_
    refine r_if_eq (fun c_62 => ?_) (fun c_62 => ?_)
    · have c_62 := (n_eq (a := 1) (b := 0) rfl rfl (by omega) (by omega)).mp c_62
      omega
    · have c_62 := (not_congr (n_eq (a := 1) (b := 0) rfl rfl (by omega) (by omega))).mp c_62
      refine r_iconst ?_
      refine r_goto ?_
      refine E_go 2 rfl ?_
      refine r_istore (ls' := [_, _, _, _, _, _]) (zt rfl) rfl ?_
      refine r_aload_n rfl ?_
      refine r_getZ (by decide) rfl rfl (by decide) hb1.1 ?_
      refine r_if_eq (fun c_95 => ?_) (fun c_95 => ?_)
      · have c_95 := (n_eq (a := 1) (b := 0) rfl rfl (by omega) (by omega)).mp c_95
        omega
      · have c_95 := (not_congr (n_eq (a := 1) (b := 0) rfl rfl (by omega) (by omega))).mp c_95
        refine r_iconst ?_
        refine r_goto ?_
        refine E_go 4 rfl ?_
        refine r_istore (ls' := [_, _, _, _, _, _]) (zt rfl) rfl ?_
        refine r_aload_n rfl ?_
        refine r_getZ (by decide) rfl rfl (by decide) hb1.1 ?_
        refine r_if_ne (fun c_129 => ?_) (fun c_129 => ?_)
        · have c_129 := (not_congr (n_eq (a := 1) (b := 0) rfl rfl (by omega) (by omega))).mp c_129
          refine E_go 5 rfl ?_
          refine r_iload_n rfl ?_
          refine r_if_ne (fun c_144 => ?_) (fun c_144 => ?_)
          · have c_144 := (not_congr (n_eq (a := 2) (b := 0) rfl rfl (by omega) (by omega))).mp c_144
            refine E_go 6 rfl ?_
            refine r_iload_n rfl ?_
            refine r_iconst ?_
            refine r_icmp_ne (fun c_153 => ?_) (fun c_153 => ?_)
            · have c_153 := (not_congr (n_eq (a := 2) (b := 1) rfl rfl (by omega) (by omega))).mp c_153
              refine E_go 7 rfl ?_
              refine r_iload rfl ?_
              refine r_nil ?_
              refine E_go 8 rfl ?_
              refine r_iret rfl trivial ?_
              have e := gT_0 hr0
              have hg : ¬ (gT (mb t I) z).1 = true := by rw [e]; exact Bool.noConfusion
              refine hQ _ _ _ f1 (fun q => absurd q hg) (fun q => absurd q hg) (fun _ => ⟨hb1.1, ?_⟩)
              rw [e]
              exact hb1.2
            · have c_153 := (n_eq (a := 2) (b := 1) rfl rfl (by omega) (by omega)).mp c_153
              omega
          · have c_144 := (n_eq (a := 2) (b := 0) rfl rfl (by omega) (by omega)).mp c_144
            omega
        · have c_129 := (n_eq (a := 1) (b := 0) rfl rfl (by omega) (by omega)).mp c_129
          omega

/-- the model's text t is one with the words c -/
def mTx (t : Nat) (I : Nat → Nat → Int32) (c : List Int32 × List Int32 × List Int32) : Prop := ∃ z, (z ≤ 160 ∧ I 63 t = io z) ∧ bOk (mb t I) z ∧ (gT (mb t I) z).1 = true ∧ (gT (mb t I) z).2.2 = c
theorem s_read {xs : xSc} {m : Nat} {I : Nat → Nat → Int32} {L : Nat → Nat → Int64} {Q : Value → xHp → Prop} (hm : 51 ≤ m) {t h : Nat} {c : List Int32 × List Int32 × List Int32} {w : Vw} (ht : t < 6) (hh : h < 3) (hc : mTx t I c) (hw : ∀ k, k < 6 → I 61 (13 + k) = w k) (hQ : ∀ J L', rF I J → Q (.int (ruL c h w)) (Hp J L')) : M xs m xi_X7_read [.ref 61, .int (io t), .int (io h)] (Hp I L) Q := by
  obtain ⟨z, ⟨h1, h2⟩, h3, h4, rfl⟩ := hc
  have e : h = 0 ∨ h = 1 ∨ h = 2 := by omega
  rcases e with rfl | rfl | rfl
  · exact s_readX0 hm ht h1 h2 h3 hw (fun J L2 v k1 k2 _ _ => by rw [k2 h4]; exact hQ J L2 k1)
  · exact s_readX1 hm ht h1 h2 h3 hw (fun J L2 v k1 k2 _ _ => by rw [k2 h4]; exact hQ J L2 k1)
  · exact s_readX2 hm ht h1 h2 h3 hw (fun J L2 v k1 k2 _ _ => by rw [k2 h4]; exact hQ J L2 k1)
