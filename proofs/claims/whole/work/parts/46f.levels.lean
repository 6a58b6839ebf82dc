/-! the model reads an expression, level by level -/

section
variable {b : Nat → Int32} {z i : Nat} {J : Nat → Nat → Int32} {L : Nat → Nat → Int64}
theorem mK_43 (h : mK b z i J L) (hk : tkd b z i = 43) : L 61 24 = 43 := (mK_w h (by decide) hk).trans (by decide)
theorem mK_60 (h : mK b z i J L) (hk : tkd b z i = 60) : L 61 24 = 60 := (mK_w h (by decide) hk).trans (by decide)
theorem mK_45 (h : mK b z i J L) (hk : tkd b z i = 45) : ¬ L 61 24 = 43 := by
  rw [mK_w h (by decide) hk]
  decide
theorem mK_61 (h : mK b z i J L) (hk : tkd b z i = 61) : ¬ L 61 24 = 60 := by
  rw [mK_w h (by decide) hk]
  decide
end
theorem mb_op {t : Nat} {I : Nat → Nat → Int32} {v : Int32} : mb t (up2 I 61 25 v) = mb t I := by
  unfold mb
  rw [up2_q (by omega)]
theorem mCx_op {t z i o : Nat} {w : Vw} {I : Nat → Nat → Int32} {L : Nat → Nat → Int64} (h : mCx t z i (o + 1) w I L) : mCx t z i o w (up2 I 61 25 (I 61 25 - 1)) L := by
  obtain ⟨h0, ⟨h4, h5, h6, h7⟩, h8, h9, h10⟩ := h
  refine ⟨h0, ⟨h4, h5, ?_, h7⟩, h8, h9, fun k hk => ?_⟩
  · rw [up2_at, h6]; exact n_sub (a := o + 1) (b := 1) rfl rfl (by omega)
  · rw [up2_k (by omega)]; exact h10 k hk
theorem MR_bad {t z o : Nat} {w : Vw} {q : PR} {I J1 J2 : Nat → Nat → Int32} {L2 : Nat → Nat → Int64} {v vv x : Int32} (h2 : MR t z (o + 1) w q J1 J2 L2 v) (h1 : vF I J1) (hr : ¬ q.1 = true) : MR t z o w q I (up2 J2 61 25 x) L2 vv := by
  have k := h2.2.2 hr
  rw [h1.mbe] at k
  exact ⟨(h1.trans h2.1).up (by omega) (by omega), fun q => absurd q hr, fun _ => by rw [up2_k (by omega), up2_k (by omega)]; exact k⟩
theorem MR_un {t z o : Nat} {w : Vw} {q : PR} {I J1 J2 : Nat → Nat → Int32} {L2 : Nat → Nat → Int64} {v vv x : Int32} (h1 : vF I J1) (h2 : MR t z (o + 1) w q J1 J2 L2 v) (hr : q.1 = true) (hC : mCx t z q.2.1 (o + 1) w J2 L2) : MR t z o w (false, q.2.1, []) I (up2 (fl J2) 61 25 x) L2 vv := by
  refine ⟨(((h1.trans h2.1).up (by omega) (by omega)).up (by omega) (by omega)).up (by omega) (by omega), fun q => Bool.noConfusion q, fun _ => ⟨?_, ?_⟩⟩
  · simp [fl, up2]
  · have k := hC.2.2.2.1.2.1
    rw [h2.1.mbe, h1.mbe] at k
    simp [fl, up2]
    exact k
theorem MR_cl {t z o j : Nat} {w : Vw} {q : PR} {I J1 J2 J3 : Nat → Nat → Int32} {L2 L3 : Nat → Nat → Int64} {v x : Int32} (h1 : vF I J1) (h2 : MR t z (o + 1) w q J1 J2 L2 v) (hr : q.1 = true) (hn : nF (up2 J2 61 25 x) J3) (hC : mCx t z j o w J3 L3) : MR t z o w (true, j, q.2.2) I J3 L3 v := by
  have hv : vF I J3 := ((h1.trans h2.1).up (by omega) (by omega)).trans hn.v
  refine ⟨hv, fun _ => ⟨hC.2.1.2.2, ?_, fun st => ?_⟩, fun q => absurd rfl q⟩
  · have k := hC.2.2.2.1
    rw [hv.mbe] at k
    exact k
  · exact (h2.2.1 hr).2.2 st

set_option maxRecDepth 10000 in
theorem s_atom5 {xs : xSc} {m : Nat} (hm : 10 ≤ m) : Mp xs xi_X7_atom5 (m + 1) 5 (fun b z i => pAt (tkd b z) (tst b z) (twt b z) none i) := by
  intro I L Q t i z w h hQ
  dsimp only at hQ
  have htc := tcl_lt (b := mb t I) (z := z) (s := tpl (mb t I) z i)
  refine M_go (ls := [_, _]) (ml := 2) rfl rfl rfl (zl rfl) rfl ?_
  refine r_iconst ?_
  refine r_istore_n (ls' := [_, _]) (zt rfl) rfl ?_
  refine r_aload_n rfl ?_
  refine r_bipush ?_
  refine r_virtual (vs := []) (as := [_]) (by decide) (zl rfl) rfl rfl (zl rfl) (Nat.le_refl _) (Or.inr (Or.inr ⟨zt rfl, rfl, zt rfl⟩)) ?_
  refine s_isSign (t := t) (z := z) (i := i) (c := 45) (by omega) rfl (by omega) (by omega) h.2.1.2.2.2 h.2.2.2.1 ?_
  refine r_if_eq (fun c_8 => ?_) (fun c_8 => ?_)
  · refine E_go 1 rfl ?_
    refine r_aload_n rfl ?_
    refine r_bipush ?_
    refine r_virtual (vs := []) (as := [_]) (by decide) (zl rfl) rfl rfl (zl rfl) (Nat.le_refl _) (Or.inr (Or.inr ⟨zt rfl, rfl, zt rfl⟩)) ?_
    refine s_isSign (t := t) (z := z) (i := i) (c := 40) (by omega) rfl (by omega) (by omega) h.2.1.2.2.2 h.2.2.2.1 ?_
    refine r_if_eq (fun c_25 => ?_) (fun c_25 => ?_)
    · refine E_go 2 rfl ?_
      refine r_aload_n rfl ?_
      refine r_getZ (by decide) rfl rfl (by decide) rfl ?_
      refine r_if_ne (fun c_40 => ?_) (fun c_40 => ?_)
      · exact absurd h.2.1.2.2.2 c_40
      · refine r_aload_n rfl ?_
        refine r_getI (by decide) rfl rfl (by decide) h.2.2.2.1.1 ?_
        refine r_iconst ?_
        refine r_icmp_ne (fun c_48 => ?_) (fun c_48 => ?_)
        · have c_48 := (not_congr (n_eq (a := (tcl (mb t I) z (tpl (mb t I) z i))) (b := 2) rfl rfl (by omega) (by omega))).mp c_48
          refine E_go 3 rfl ?_
          refine r_aload_n rfl ?_
          refine r_getZ (by decide) rfl rfl (by decide) rfl ?_
          refine r_if_ne (fun c_68 => ?_) (fun c_68 => ?_)
          · exact absurd h.2.1.2.2.2 c_68
          · refine r_aload_n rfl ?_
            refine r_getI (by decide) rfl rfl (by decide) h.2.2.2.1.1 ?_
            refine r_iconst ?_
            refine r_icmp_ne (fun c_76 => ?_) (fun c_76 => ?_)
            · have c_76 := (not_congr (n_eq (a := (tcl (mb t I) z (tpl (mb t I) z i))) (b := 1) rfl rfl (by omega) (by omega))).mp c_76
              refine E_go 4 rfl ?_
              refine r_aload_n rfl ?_
              refine r_virtual (vs := []) (as := []) (by decide) (zl rfl) rfl rfl (zl rfl) (Nat.le_refl _) (Or.inr (Or.inr ⟨zt rfl, rfl, zt rfl⟩)) ?_
              refine s_fail0 (by omega) h.2.1.2.2.2 ?_
              refine r_nil ?_
              refine E_go 5 rfl ?_
              refine r_iload_n rfl ?_
              refine r_iret rfl trivial ?_
              have q1 := b01.mp c_8
              have q2 := b01.mp c_25
              have q3 : ¬ tkd (mb t I) z i = 2 := fun q => c_48 (tk_2.mpr q)
              have q4 : ¬ (10 ≤ tkd (mb t I) z i ∧ tkd (mb t I) z i < 16) := fun q => c_76 (tk_w (Or.inr q))
              refine hQ _ _ _ ?_
              rw [pAt_f0 q3 q4]
              exact MR_fl h
            · have c_76 := (n_eq (a := (tcl (mb t I) z (tpl (mb t I) z i))) (b := 1) rfl rfl (by omega) (by omega)).mp c_76
              refine r_aload_n rfl ?_
              refine r_virtual (vs := []) (as := []) (by decide) (zl rfl) rfl rfl (zl rfl) (Nat.le_refl _) (Or.inr (Or.inr ⟨zt rfl, rfl, zt rfl⟩)) ?_
              refine s_name (by omega) h (fun hn1 hn2 => ?_) (fun hn => ?_)
              · skip
                refine r_istore_n (ls' := [_, _]) (zt rfl) rfl ?_
                refine r_aload_n rfl ?_
                refine r_getZ (by decide) rfl rfl (by decide) rfl ?_
                refine r_if_ne (fun c_88 => ?_) (fun c_88 => ?_)
                · exact absurd h.2.1.2.2.2 c_88
                · refine r_aload_n rfl ?_
                  refine r_virtual (vs := []) (as := []) (by decide) (zl rfl) rfl rfl (zl rfl) (Nat.le_refl _) (Or.inr (Or.inr ⟨zt rfl, rfl, zt rfl⟩)) ?_
                  refine s_nextM (by omega) h (by omega) (fun J1 L3 n1 hC1 => ?_)
                  refine r_goto ?_
                  refine E_go 5 rfl ?_
                  refine r_iload_n rfl ?_
                  refine r_iret rfl trivial ?_
                  refine hQ _ _ _ ?_
                  rw [pAt_n hn1 hn2]
                  refine ⟨n1.v, fun _ => ⟨hC1.2.1.2.2, ?_, fun st => ?_⟩, fun q => absurd rfl q⟩
                  · have := hC1.2.2.2.1; rw [n1.v.mbe] at this; exact this
                  · rw [ev_one]; exact e_name hn1 hn2
              · skip
                refine r_istore_n (ls' := [_, _]) (zt rfl) rfl ?_
                refine r_aload_n rfl ?_
                refine r_getZ (by decide) rfl rfl (by decide) rfl ?_
                refine r_if_ne (fun c_88 => ?_) (fun c_88 => ?_)
                · refine E_go 5 rfl ?_
                  refine r_iload_n rfl ?_
                  refine r_iret rfl trivial ?_
                  have q1 := b01.mp c_8
                  have q2 := b01.mp c_25
                  have q3 : ¬ tkd (mb t I) z i = 2 := fun q => c_48 (tk_2.mpr q)
                  have q4 := hn
                  refine hQ _ _ _ ?_
                  rw [pAt_f0 q3 q4]
                  exact MR_fl h
                · exact absurd (show fl I 61 26 = 0 from c_88) (by simp [fl, up2])
        · have c_48 := (n_eq (a := (tcl (mb t I) z (tpl (mb t I) z i))) (b := 2) rfl rfl (by omega) (by omega)).mp c_48
          refine r_aload_n rfl ?_
          refine r_getJ (by decide) rfl rfl (by decide) rfl ?_
          refine r_l2i ?_
          refine r_istore_n (ls' := [_, _]) (zt rfl) rfl ?_
          refine r_aload_n rfl ?_
          refine r_virtual (vs := []) (as := []) (by decide) (zl rfl) rfl rfl (zl rfl) (Nat.le_refl _) (Or.inr (Or.inr ⟨zt rfl, rfl, zt rfl⟩)) ?_
          have hk : tkd (mb t I) z i = 2 := tk_2.mp c_48
          refine s_nextM (by omega) h (by omega) (fun J1 L3 n1 hC1 => ?_)
          refine r_goto ?_
          refine E_go 5 rfl ?_
          refine r_iload_n rfl ?_
          refine r_iret rfl trivial ?_
          refine hQ _ _ _ ?_
          rw [pAt_2 hk]
          refine ⟨n1.v, fun _ => ⟨hC1.2.1.2.2, ?_, fun st => ?_⟩, fun q => absurd rfl q⟩
          · have := hC1.2.2.2.1; rw [n1.v.mbe] at this; exact this
          · rw [ev_one, h.2.2.2.1.2.2.2.1 c_48]; exact e_num (twt_b hk).1 (twt_b hk).2
    · refine r_aload_n rfl ?_
      refine r_virtual (vs := []) (as := []) (by decide) (zl rfl) rfl rfl (zl rfl) (Nat.le_refl _) (Or.inr (Or.inr ⟨zt rfl, rfl, zt rfl⟩)) ?_
      refine s_opens5 (by omega) h.2.1.2.2.1 h.2.1.2.2.2 ?_
      refine r_pop rfl ?_
      refine r_goto ?_
      refine E_go 5 rfl ?_
      refine r_iload_n rfl ?_
      refine r_iret rfl trivial ?_
      refine hQ _ _ _ ?_
      rw [pAt_f0 (by have q := b01n.mp c_25; omega) (by have q := b01n.mp c_25; omega)]
      exact MR_fl h
  · refine r_aload_n rfl ?_
    refine r_virtual (vs := []) (as := []) (by decide) (zl rfl) rfl rfl (zl rfl) (Nat.le_refl _) (Or.inr (Or.inr ⟨zt rfl, rfl, zt rfl⟩)) ?_
    refine s_opens5 (by omega) h.2.1.2.2.1 h.2.1.2.2.2 ?_
    refine r_pop rfl ?_
    refine r_goto ?_
    refine E_go 5 rfl ?_
    refine r_iload_n rfl ?_
    refine r_iret rfl trivial ?_
    refine hQ _ _ _ ?_
    rw [pAt_f0 (by have q := b01n.mp c_8; omega) (by have q := b01n.mp c_8; omega)]
    exact MR_fl h

set_option maxRecDepth 10000 in
theorem s_term5 {xs : xSc} {m o : Nat} {F : PFn} (hm : 10 ≤ m) (hg : ∀ b z, gd z (F b z)) (hel : Mp xs xi_X7_atom5 m o F) : Mp xs xi_X7_term5 (m + 1) o (fun b z i => pLp (tkd b z) (tst b z) opT (F b z) 160 (F b z i)) := by
  intro I L Q t i z w h hQ
  dsimp only at hQ
  have key : ∀ d (r : PR) (J : Nat → Nat → Int32) (L2 : Nat → Nat → Int64) (v : Int32) , pLp (tkd (mb t I) z) (tst (mb t I) z) opT (F (mb t I) z) 160 (F (mb t I) z i) = pLp (tkd (mb t I) z) (tst (mb t I) z) opT (F (mb t I) z) d r → z ≤ r.2.1 + d → r.2.1 ≤ z → MR t z o w r I J L2 v → E xs m xi_X7_term5 82 Q 5 [.ref 61, .int v] [] (82, J, L2, xF0) := by
    intro d
    induction d using Nat.strongRecOn with
    | _ d ih =>
    intro r J L2 v  hr0 hd hz0 hM
    by_cases hr : r.1 = true
    · have hC := MR_c h hM hr hz0
      refine E_go 1 rfl ?_
      refine r_aload_n rfl ?_
      refine r_bipush ?_
      refine r_virtual (vs := []) (as := [_]) (by decide) (zl rfl) rfl rfl (zl rfl) (Nat.le_refl _) (Or.inr (Or.inr ⟨zt rfl, rfl, zt rfl⟩)) ?_
      refine s_isSign (t := t) (z := z) (i := r.2.1) (c := 42) (by omega) rfl (by omega) (by omega) hC.2.1.2.2.2 hC.2.2.2.1 ?_
      rw [hM.1.mbe]
      refine r_if_eq (fun c_11 => ?_) (fun c_11 => ?_)
      · refine E_go 2 rfl ?_
        refine r_iload_n rfl ?_
        refine r_iret rfl trivial ?_
        have e : pLp (tkd (mb t I) z) (tst (mb t I) z) opT (F (mb t I) z) 160 (F (mb t I) z i) = r := by rw [hr0]; exact pLp_n (by simp [opT, b01.mp c_11])
        have hQ2 := hQ J L2 v
        rw [e] at hQ2
        exact hQ2 hM
      · refine r_aload_n rfl ?_
        refine r_virtual (vs := []) (as := []) (by decide) (zl rfl) rfl rfl (zl rfl) (Nat.le_refl _) (Or.inr (Or.inr ⟨zt rfl, rfl, zt rfl⟩)) ?_
        have hk : tkd (mb t I) z r.2.1 = 42 := b01n.mp c_11
        have hop : opT (tkd (mb t I) z r.2.1) = some (-42) := by rw [hk]; rfl
        have hT := tst_lt (b := mb t I) hz0 (by omega : ¬ tkd (mb t I) z r.2.1 = 0)
        have hT2 := tst_z (b := mb t I) hz0
        have hq := hg (mb t I) z _ hT2
        refine s_nextM (by omega) hC (by rw [hM.1.mbe, hk]; decide) (fun J1 L3 n1 hC1 => ?_)
        rw [hM.1.mbe] at hC1
        refine r_iload_n rfl ?_
        refine r_aload_n rfl ?_
        refine r_virtual (vs := []) (as := []) (by decide) (zl rfl) rfl rfl (zl rfl) (Nat.le_refl _) (Or.inr (Or.inr ⟨zt rfl, rfl, zt rfl⟩)) ?_
        refine hel J1 L3 _ t _ z w hC1 (fun J2 L4 v2 hM2 => ?_)
        rw [n1.v.mbe, hM.1.mbe] at hM2
        refine r_imul ?_
        refine r_istore_n (ls' := [_, _]) (zt rfl) rfl ?_
        refine r_goto ?_
        refine ih (d - 1) (by omega) ((F (mb t I) z (tst (mb t I) z r.2.1)).1, (F (mb t I) z (tst (mb t I) z r.2.1)).2.1, r.2.2 ++ ((F (mb t I) z (tst (mb t I) z r.2.1)).2.2 ++ [-42])) J2 L4 _ ?_ ?_ ?_ (MR_app hM hr n1.v hM2 (fun st => e_mul))
        · rw [hr0]; exact pLp_s (by omega) hr hop
        · dsimp only; omega
        · exact hq.1.2
    · refine E_go 1 rfl ?_
      refine r_aload_n rfl ?_
      refine r_bipush ?_
      refine r_virtual (vs := []) (as := [_]) (by decide) (zl rfl) rfl rfl (zl rfl) (Nat.le_refl _) (Or.inr (Or.inr ⟨zt rfl, rfl, zt rfl⟩)) ?_
      refine s_isSignB (by omega) (hM.2.2 hr).1 ?_
      refine r_if_eq (fun c_11 => ?_) (fun c_11 => ?_)
      · have c_11 := (n_eq (a := 0) (b := 0) rfl rfl (by omega) (by omega)).mp c_11
        refine E_go 2 rfl ?_
        refine r_iload_n rfl ?_
        refine r_iret rfl trivial ?_
        have e : pLp (tkd (mb t I) z) (tst (mb t I) z) opT (F (mb t I) z) 160 (F (mb t I) z i) = r := by rw [hr0]; exact pLp_f hr
        have hQ2 := hQ J L2 v
        rw [e] at hQ2
        exact hQ2 hM
      · have c_11 := (not_congr (n_eq (a := 0) (b := 0) rfl rfl (by omega) (by omega))).mp c_11
        omega
  refine M_go (ls := [_, _]) (ml := 2) rfl rfl rfl (zl rfl) rfl ?_
  refine r_aload_n rfl ?_
  refine r_virtual (vs := []) (as := []) (by decide) (zl rfl) rfl rfl (zl rfl) (Nat.le_refl _) (Or.inr (Or.inr ⟨zt rfl, rfl, zt rfl⟩)) ?_
  refine hel I L _ t i z w h (fun J L2 v hM => ?_)
  refine r_istore_n (ls' := [_, _]) (zt rfl) rfl ?_
  refine r_nil ?_
  refine key 160 (F (mb t I) z i) J L2 v rfl ?_ ?_ hM
  · have := h.1.2.1; have := hg (mb t I) z i h.1.2.2; omega
  · exact (hg (mb t I) z i h.1.2.2).1.2

set_option maxRecDepth 10000 in
theorem s_added5 {xs : xSc} {m o : Nat} {F : PFn} (hm : 10 ≤ m) (hg : ∀ b z, gd z (F b z)) (hel : Mp xs xi_X7_term5 m o F) : Mp xs xi_X7_added5 (m + 1) o (fun b z i => pLp (tkd b z) (tst b z) opS (F b z) 160 (F b z i)) := by
  intro I L Q t i z w h hQ
  dsimp only at hQ
  have key : ∀ d (r : PR) (J : Nat → Nat → Int32) (L2 : Nat → Nat → Int64) (v : Int32) (x0 x1 : Value), pLp (tkd (mb t I) z) (tst (mb t I) z) opS (F (mb t I) z) 160 (F (mb t I) z i) = pLp (tkd (mb t I) z) (tst (mb t I) z) opS (F (mb t I) z) d r → z ≤ r.2.1 + d → r.2.1 ≤ z → MR t z o w r I J L2 v → E xs m xi_X7_added5 82 Q 5 [.ref 61, .int v, x0, x1] [] (82, J, L2, xF0) := by
    intro d
    induction d using Nat.strongRecOn with
    | _ d ih =>
    intro r J L2 v x0 x1 hr0 hd hz0 hM
    by_cases hr : r.1 = true
    · have hC := MR_c h hM hr hz0
      refine E_go 1 rfl ?_
      refine r_aload_n rfl ?_
      refine r_bipush ?_
      refine r_virtual (vs := []) (as := [_]) (by decide) (zl rfl) rfl rfl (zl rfl) (Nat.le_refl _) (Or.inr (Or.inr ⟨zt rfl, rfl, zt rfl⟩)) ?_
      refine s_isSign (t := t) (z := z) (i := r.2.1) (c := 43) (by omega) rfl (by omega) (by omega) hC.2.1.2.2.2 hC.2.2.2.1 ?_
      rw [hM.1.mbe]
      refine r_if_ne (fun c_11 => ?_) (fun c_11 => ?_)
      · refine E_go 2 rfl ?_
        refine r_aload_n rfl ?_
        refine r_getJ (by decide) rfl rfl (by decide) rfl ?_
        refine r_ldc2_w ?_
        refine r_lcmp ?_
        refine r_if_ne (fun c_31 => ?_) (fun c_31 => ?_)
        · exact absurd (lg_eq.mpr (mK_43 hC.2.2.2.1 (by rw [hM.1.mbe]; exact b01n.mp c_11))) c_31
        · refine r_iconst ?_
          refine r_goto ?_
          refine E_go 4 rfl ?_
          refine r_istore_n (ls' := [_, _, _, _]) (zt rfl) rfl ?_
          refine r_aload_n rfl ?_
          refine r_virtual (vs := []) (as := []) (by decide) (zl rfl) rfl rfl (zl rfl) (Nat.le_refl _) (Or.inr (Or.inr ⟨zt rfl, rfl, zt rfl⟩)) ?_
          have hk : tkd (mb t I) z r.2.1 = 43 := b01n.mp c_11
          have hop : opS (tkd (mb t I) z r.2.1) = some (-43) := by rw [hk]; rfl
          have hT := tst_lt (b := mb t I) hz0 (by omega : ¬ tkd (mb t I) z r.2.1 = 0)
          have hT2 := tst_z (b := mb t I) hz0
          have hq := hg (mb t I) z _ hT2
          refine s_nextM (by omega) hC (by rw [hM.1.mbe, hk]; decide) (fun J1 L3 n1 hC1 => ?_)
          rw [hM.1.mbe] at hC1
          refine r_aload_n rfl ?_
          refine r_virtual (vs := []) (as := []) (by decide) (zl rfl) rfl rfl (zl rfl) (Nat.le_refl _) (Or.inr (Or.inr ⟨zt rfl, rfl, zt rfl⟩)) ?_
          refine hel J1 L3 _ t _ z w hC1 (fun J2 L4 v2 hM2 => ?_)
          rw [n1.v.mbe, hM.1.mbe] at hM2
          refine r_istore_n (ls' := [_, _, _, _]) (zt rfl) rfl ?_
          refine r_iload_n rfl ?_
          refine r_if_eq (fun c_50 => ?_) (fun c_50 => ?_)
          · have c_50 := (n_eq (a := 1) (b := 0) rfl rfl (by omega) (by omega)).mp c_50
            omega
          · have c_50 := (not_congr (n_eq (a := 1) (b := 0) rfl rfl (by omega) (by omega))).mp c_50
            refine r_iload_n rfl ?_
            refine r_iload_n rfl ?_
            refine r_iadd ?_
            refine r_goto ?_
            refine E_go 6 rfl ?_
            refine r_istore_n (ls' := [_, _, _, _]) (zt rfl) rfl ?_
            refine r_goto ?_
            refine ih (d - 1) (by omega) ((F (mb t I) z (tst (mb t I) z r.2.1)).1, (F (mb t I) z (tst (mb t I) z r.2.1)).2.1, r.2.2 ++ ((F (mb t I) z (tst (mb t I) z r.2.1)).2.2 ++ [-43])) J2 L4 _ _ _ ?_ ?_ ?_ (MR_app hM hr n1.v hM2 (fun st => e_add))
            · rw [hr0]; exact pLp_s (by omega) hr hop
            · dsimp only; omega
            · exact hq.1.2
      · refine r_aload_n rfl ?_
        refine r_bipush ?_
        refine r_virtual (vs := []) (as := [_]) (by decide) (zl rfl) rfl rfl (zl rfl) (Nat.le_refl _) (Or.inr (Or.inr ⟨zt rfl, rfl, zt rfl⟩)) ?_
        refine s_isSign (t := t) (z := z) (i := r.2.1) (c := 45) (by omega) rfl (by omega) (by omega) hC.2.1.2.2.2 hC.2.2.2.1 ?_
        rw [hM.1.mbe]
        refine r_if_eq (fun c_20 => ?_) (fun c_20 => ?_)
        · refine E_go 7 rfl ?_
          refine r_iload_n rfl ?_
          refine r_iret rfl trivial ?_
          have e : pLp (tkd (mb t I) z) (tst (mb t I) z) opS (F (mb t I) z) 160 (F (mb t I) z i) = r := by rw [hr0]; exact pLp_n (by simp [opS, b01.mp c_11, b01.mp c_20])
          have hQ2 := hQ J L2 v
          rw [e] at hQ2
          exact hQ2 hM
        · refine r_nil ?_
          refine E_go 2 rfl ?_
          refine r_aload_n rfl ?_
          refine r_getJ (by decide) rfl rfl (by decide) rfl ?_
          refine r_ldc2_w ?_
          refine r_lcmp ?_
          refine r_if_ne (fun c_31 => ?_) (fun c_31 => ?_)
          · refine E_go 3 rfl ?_
            refine r_iconst ?_
            refine r_nil ?_
            refine E_go 4 rfl ?_
            refine r_istore_n (ls' := [_, _, _, _]) (zt rfl) rfl ?_
            refine r_aload_n rfl ?_
            refine r_virtual (vs := []) (as := []) (by decide) (zl rfl) rfl rfl (zl rfl) (Nat.le_refl _) (Or.inr (Or.inr ⟨zt rfl, rfl, zt rfl⟩)) ?_
            have hk : tkd (mb t I) z r.2.1 = 45 := b01n.mp c_20
            have hop : opS (tkd (mb t I) z r.2.1) = some (-45) := by rw [hk]; rfl
            have hT := tst_lt (b := mb t I) hz0 (by omega : ¬ tkd (mb t I) z r.2.1 = 0)
            have hT2 := tst_z (b := mb t I) hz0
            have hq := hg (mb t I) z _ hT2
            refine s_nextM (by omega) hC (by rw [hM.1.mbe, hk]; decide) (fun J1 L3 n1 hC1 => ?_)
            rw [hM.1.mbe] at hC1
            refine r_aload_n rfl ?_
            refine r_virtual (vs := []) (as := []) (by decide) (zl rfl) rfl rfl (zl rfl) (Nat.le_refl _) (Or.inr (Or.inr ⟨zt rfl, rfl, zt rfl⟩)) ?_
            refine hel J1 L3 _ t _ z w hC1 (fun J2 L4 v2 hM2 => ?_)
            rw [n1.v.mbe, hM.1.mbe] at hM2
            refine r_istore_n (ls' := [_, _, _, _]) (zt rfl) rfl ?_
            refine r_iload_n rfl ?_
            refine r_if_eq (fun c_50 => ?_) (fun c_50 => ?_)
            · have c_50 := (n_eq (a := 0) (b := 0) rfl rfl (by omega) (by omega)).mp c_50
              refine E_go 5 rfl ?_
              refine r_iload_n rfl ?_
              refine r_iload_n rfl ?_
              refine r_isub ?_
              refine r_nil ?_
              refine E_go 6 rfl ?_
              refine r_istore_n (ls' := [_, _, _, _]) (zt rfl) rfl ?_
              refine r_goto ?_
              refine ih (d - 1) (by omega) ((F (mb t I) z (tst (mb t I) z r.2.1)).1, (F (mb t I) z (tst (mb t I) z r.2.1)).2.1, r.2.2 ++ ((F (mb t I) z (tst (mb t I) z r.2.1)).2.2 ++ [-45])) J2 L4 _ _ _ ?_ ?_ ?_ (MR_app hM hr n1.v hM2 (fun st => e_sub))
              · rw [hr0]; exact pLp_s (by omega) hr hop
              · dsimp only; omega
              · exact hq.1.2
            · have c_50 := (not_congr (n_eq (a := 0) (b := 0) rfl rfl (by omega) (by omega))).mp c_50
              omega
          · exact absurd (lg_eq.mp c_31) (mK_45 hC.2.2.2.1 (by rw [hM.1.mbe]; exact b01n.mp c_20))
    · refine E_go 1 rfl ?_
      refine r_aload_n rfl ?_
      refine r_bipush ?_
      refine r_virtual (vs := []) (as := [_]) (by decide) (zl rfl) rfl rfl (zl rfl) (Nat.le_refl _) (Or.inr (Or.inr ⟨zt rfl, rfl, zt rfl⟩)) ?_
      refine s_isSignB (by omega) (hM.2.2 hr).1 ?_
      refine r_if_ne (fun c_11 => ?_) (fun c_11 => ?_)
      · have c_11 := (not_congr (n_eq (a := 0) (b := 0) rfl rfl (by omega) (by omega))).mp c_11
        omega
      · have c_11 := (n_eq (a := 0) (b := 0) rfl rfl (by omega) (by omega)).mp c_11
        refine r_aload_n rfl ?_
        refine r_bipush ?_
        refine r_virtual (vs := []) (as := [_]) (by decide) (zl rfl) rfl rfl (zl rfl) (Nat.le_refl _) (Or.inr (Or.inr ⟨zt rfl, rfl, zt rfl⟩)) ?_
        refine s_isSignB (by omega) (hM.2.2 hr).1 ?_
        refine r_if_eq (fun c_20 => ?_) (fun c_20 => ?_)
        · have c_20 := (n_eq (a := 0) (b := 0) rfl rfl (by omega) (by omega)).mp c_20
          refine E_go 7 rfl ?_
          refine r_iload_n rfl ?_
          refine r_iret rfl trivial ?_
          have e : pLp (tkd (mb t I) z) (tst (mb t I) z) opS (F (mb t I) z) 160 (F (mb t I) z i) = r := by rw [hr0]; exact pLp_f hr
          have hQ2 := hQ J L2 v
          rw [e] at hQ2
          exact hQ2 hM
        · have c_20 := (not_congr (n_eq (a := 0) (b := 0) rfl rfl (by omega) (by omega))).mp c_20
          omega
  refine M_go (ls := [_, _, _, _]) (ml := 4) rfl rfl rfl (zl rfl) rfl ?_
  refine r_aload_n rfl ?_
  refine r_virtual (vs := []) (as := []) (by decide) (zl rfl) rfl rfl (zl rfl) (Nat.le_refl _) (Or.inr (Or.inr ⟨zt rfl, rfl, zt rfl⟩)) ?_
  refine hel I L _ t i z w h (fun J L2 v hM => ?_)
  refine r_istore_n (ls' := [_, _, _, _]) (zt rfl) rfl ?_
  refine r_nil ?_
  refine key 160 (F (mb t I) z i) J L2 v _ _ rfl ?_ ?_ hM
  · have := h.1.2.1; have := hg (mb t I) z i h.1.2.2; omega
  · exact (hg (mb t I) z i h.1.2.2).1.2

set_option maxRecDepth 10000 in
theorem s_not5 {xs : xSc} {m : Nat} {F : PFn} (hm : 10 ≤ m) (hg : ∀ b z, gd z (F b z)) (hel : Mp xs xi_X7_added5 m 5 F) : Mp xs xi_X7_not5 (m + 1) 5 (fun b z i => pNt (tkd b z) (tst b z) none (pCm (tkd b z) (tst b z) (F b z)) i) := by
  intro I L Q t i z w h hQ
  dsimp only at hQ
  refine M_go (ls := [_, _, _, _]) (ml := 4) rfl rfl rfl (zl rfl) rfl ?_
  refine r_aload_n rfl ?_
  refine r_bipush ?_
  refine r_bipush ?_
  refine r_bipush ?_
  refine r_iconst ?_
  refine r_iconst ?_
  refine r_iconst ?_
  refine r_iconst ?_
  refine r_iconst ?_
  refine r_virtual (vs := []) (as := [_, _, _, _, _, _, _, _]) (by decide) (zl rfl) rfl rfl (zl rfl) (Nat.le_refl _) (Or.inr (Or.inr ⟨zt rfl, rfl, zt rfl⟩)) ?_
  refine s_isW_8 (t := t) (z := z) (i := i) (by omega) h.1.1 h.1.2.1 h.2.1.1 h.2.1.2.1 h.1.2.2 h.2.1.2.2.2 h.2.2.2.1 ?_
  refine r_if_eq (fun c_15 => ?_) (fun c_15 => ?_)
  · refine E_go 1 rfl ?_
    refine r_aload_n rfl ?_
    refine r_virtual (vs := []) (as := []) (by decide) (zl rfl) rfl rfl (zl rfl) (Nat.le_refl _) (Or.inr (Or.inr ⟨zt rfl, rfl, zt rfl⟩)) ?_
    refine hel I L _ t i z w h (fun J L2 v hM => ?_)
    have hg1 := hg (mb t I) z i h.1.2.2
    by_cases hr : (F (mb t I) z i).1 = true
    · have hC := MR_c h hM hr hg1.1.2
      refine r_istore_n (ls' := [_, _, _, _]) (zt rfl) rfl ?_
      refine r_aload_n rfl ?_
      refine r_bipush ?_
      refine r_virtual (vs := []) (as := [_]) (by decide) (zl rfl) rfl rfl (zl rfl) (Nat.le_refl _) (Or.inr (Or.inr ⟨zt rfl, rfl, zt rfl⟩)) ?_
      refine s_isSign (t := t) (z := z) (i := (F (mb t I) z i).2.1) (c := 60) (by omega) rfl (by omega) (by omega) hC.2.1.2.2.2 hC.2.2.2.1 ?_
      rw [hM.1.mbe]
      refine r_if_ne (fun c_36 => ?_) (fun c_36 => ?_)
      · refine E_go 2 rfl ?_
        refine r_aload_n rfl ?_
        refine r_getJ (by decide) rfl rfl (by decide) rfl ?_
        refine r_ldc2_w ?_
        refine r_lcmp ?_
        refine r_if_ne (fun c_58 => ?_) (fun c_58 => ?_)
        · exact absurd (lg_eq.mpr (mK_60 hC.2.2.2.1 (by rw [hM.1.mbe]; exact b01n.mp c_36))) c_58
        · refine r_iconst ?_
          refine r_goto ?_
          refine E_go 4 rfl ?_
          refine r_istore_n (ls' := [_, _, _, _]) (zt rfl) rfl ?_
          refine r_aload_n rfl ?_
          refine r_virtual (vs := []) (as := []) (by decide) (zl rfl) rfl rfl (zl rfl) (Nat.le_refl _) (Or.inr (Or.inr ⟨zt rfl, rfl, zt rfl⟩)) ?_
          have hk : tkd (mb t I) z (F (mb t I) z i).2.1 = 60 := b01n.mp c_36
          refine s_nextM (by omega) hC (by rw [hM.1.mbe, hk]; decide) (fun J1 L3 n1 hC1 => ?_)
          rw [hM.1.mbe] at hC1
          refine r_aload_n rfl ?_
          refine r_virtual (vs := []) (as := []) (by decide) (zl rfl) rfl rfl (zl rfl) (Nat.le_refl _) (Or.inr (Or.inr ⟨zt rfl, rfl, zt rfl⟩)) ?_
          refine hel J1 L3 _ t _ z w hC1 (fun J2 L4 v2 hM2 => ?_)
          rw [n1.v.mbe, hM.1.mbe] at hM2
          refine r_istore_n (ls' := [_, _, _, _]) (zt rfl) rfl ?_
          refine r_iload_n rfl ?_
          refine r_if_eq (fun c_77 => ?_) (fun c_77 => ?_)
          · have c_77 := (n_eq (a := 1) (b := 0) rfl rfl (by omega) (by omega)).mp c_77
            omega
          · have c_77 := (not_congr (n_eq (a := 1) (b := 0) rfl rfl (by omega) (by omega))).mp c_77
            refine r_iload_n rfl ?_
            refine r_iload_n rfl ?_
            refine r_icmp_ge (fun c_82 => ?_) (fun c_82 => ?_)
            · refine E_go 7 rfl ?_
              refine r_iconst ?_
              refine r_nil ?_
              refine E_go 8 rfl ?_
              refine r_iret rfl trivial ?_
              refine hQ _ _ _ ?_
              rw [pNt_n (b01.mp c_15), pCm_y hr (by omega), hk]
              exact MR_app (ww := -(io 60)) hM hr n1.v hM2 (fun st => by rw [show -(io 60) = (-60 : Int32) from rfl, e_lt, if_neg (Int32.not_lt.mpr c_82)])
            · refine r_goto ?_
              refine E_go 6 rfl ?_
              refine r_iconst ?_
              refine r_goto ?_
              refine E_go 8 rfl ?_
              refine r_iret rfl trivial ?_
              refine hQ _ _ _ ?_
              rw [pNt_n (b01.mp c_15), pCm_y hr (by omega), hk]
              exact MR_app (ww := -(io 60)) hM hr n1.v hM2 (fun st => by rw [show -(io 60) = (-60 : Int32) from rfl, e_lt, if_pos (Int32.not_le.mp c_82)])
      · refine r_aload_n rfl ?_
        refine r_bipush ?_
        refine r_virtual (vs := []) (as := [_]) (by decide) (zl rfl) rfl rfl (zl rfl) (Nat.le_refl _) (Or.inr (Or.inr ⟨zt rfl, rfl, zt rfl⟩)) ?_
        refine s_isSign (t := t) (z := z) (i := (F (mb t I) z i).2.1) (c := 61) (by omega) rfl (by omega) (by omega) hC.2.1.2.2.2 hC.2.2.2.1 ?_
        rw [hM.1.mbe]
        refine r_if_ne (fun c_45 => ?_) (fun c_45 => ?_)
        · refine E_go 2 rfl ?_
          refine r_aload_n rfl ?_
          refine r_getJ (by decide) rfl rfl (by decide) rfl ?_
          refine r_ldc2_w ?_
          refine r_lcmp ?_
          refine r_if_ne (fun c_58 => ?_) (fun c_58 => ?_)
          · refine E_go 3 rfl ?_
            refine r_iconst ?_
            refine r_nil ?_
            refine E_go 4 rfl ?_
            refine r_istore_n (ls' := [_, _, _, _]) (zt rfl) rfl ?_
            refine r_aload_n rfl ?_
            refine r_virtual (vs := []) (as := []) (by decide) (zl rfl) rfl rfl (zl rfl) (Nat.le_refl _) (Or.inr (Or.inr ⟨zt rfl, rfl, zt rfl⟩)) ?_
            have hk : tkd (mb t I) z (F (mb t I) z i).2.1 = 61 := b01n.mp c_45
            refine s_nextM (by omega) hC (by rw [hM.1.mbe, hk]; decide) (fun J1 L3 n1 hC1 => ?_)
            rw [hM.1.mbe] at hC1
            refine r_aload_n rfl ?_
            refine r_virtual (vs := []) (as := []) (by decide) (zl rfl) rfl rfl (zl rfl) (Nat.le_refl _) (Or.inr (Or.inr ⟨zt rfl, rfl, zt rfl⟩)) ?_
            refine hel J1 L3 _ t _ z w hC1 (fun J2 L4 v2 hM2 => ?_)
            rw [n1.v.mbe, hM.1.mbe] at hM2
            refine r_istore_n (ls' := [_, _, _, _]) (zt rfl) rfl ?_
            refine r_iload_n rfl ?_
            refine r_if_eq (fun c_77 => ?_) (fun c_77 => ?_)
            · have c_77 := (n_eq (a := 0) (b := 0) rfl rfl (by omega) (by omega)).mp c_77
              refine E_go 5 rfl ?_
              refine r_iload_n rfl ?_
              refine r_iload_n rfl ?_
              refine r_icmp_ne (fun c_90 => ?_) (fun c_90 => ?_)
              · refine E_go 7 rfl ?_
                refine r_iconst ?_
                refine r_nil ?_
                refine E_go 8 rfl ?_
                refine r_iret rfl trivial ?_
                refine hQ _ _ _ ?_
                rw [pNt_n (b01.mp c_15), pCm_y hr (by omega), hk]
                exact MR_app (ww := -(io 61)) hM hr n1.v hM2 (fun st => by rw [show -(io 61) = (-61 : Int32) from rfl, e_eq, if_neg c_90])
              · refine r_nil ?_
                refine E_go 6 rfl ?_
                refine r_iconst ?_
                refine r_goto ?_
                refine E_go 8 rfl ?_
                refine r_iret rfl trivial ?_
                refine hQ _ _ _ ?_
                rw [pNt_n (b01.mp c_15), pCm_y hr (by omega), hk]
                exact MR_app (ww := -(io 61)) hM hr n1.v hM2 (fun st => by rw [show -(io 61) = (-61 : Int32) from rfl, e_eq, if_pos c_90])
            · have c_77 := (not_congr (n_eq (a := 0) (b := 0) rfl rfl (by omega) (by omega))).mp c_77
              omega
          · exact absurd (lg_eq.mp c_58) (mK_61 hC.2.2.2.1 (by rw [hM.1.mbe]; exact b01n.mp c_45))
        · refine r_iload_n rfl ?_
          refine r_iret rfl trivial ?_
          refine hQ _ _ _ ?_
          rw [pNt_n (b01.mp c_15), pCm_n ?_]
          · exact hM
          · have q1 := b01.mp c_36
            have q2 := b01.mp c_45
            exact fun q => by omega
    · have hb := (hM.2.2 hr).1
      refine r_istore_n (ls' := [_, _, _, _]) (zt rfl) rfl ?_
      refine r_aload_n rfl ?_
      refine r_bipush ?_
      refine r_virtual (vs := []) (as := [_]) (by decide) (zl rfl) rfl rfl (zl rfl) (Nat.le_refl _) (Or.inr (Or.inr ⟨zt rfl, rfl, zt rfl⟩)) ?_
      refine s_isSignB (by omega) hb ?_
      refine r_if_ne (fun c_36 => ?_) (fun c_36 => ?_)
      · have c_36 := (not_congr (n_eq (a := 0) (b := 0) rfl rfl (by omega) (by omega))).mp c_36
        omega
      · have c_36 := (n_eq (a := 0) (b := 0) rfl rfl (by omega) (by omega)).mp c_36
        refine r_aload_n rfl ?_
        refine r_bipush ?_
        refine r_virtual (vs := []) (as := [_]) (by decide) (zl rfl) rfl rfl (zl rfl) (Nat.le_refl _) (Or.inr (Or.inr ⟨zt rfl, rfl, zt rfl⟩)) ?_
        refine s_isSignB (by omega) hb ?_
        refine r_if_ne (fun c_45 => ?_) (fun c_45 => ?_)
        · have c_45 := (not_congr (n_eq (a := 0) (b := 0) rfl rfl (by omega) (by omega))).mp c_45
          omega
        · have c_45 := (n_eq (a := 0) (b := 0) rfl rfl (by omega) (by omega)).mp c_45
          refine r_iload_n rfl ?_
          refine r_iret rfl trivial ?_
          refine hQ _ _ _ ?_
          rw [pNt_n (b01.mp c_15), pCm_n ?_]
          · exact hM
          · exact fun q => absurd q.1 hr
  · refine r_aload_n rfl ?_
    refine r_virtual (vs := []) (as := []) (by decide) (zl rfl) rfl rfl (zl rfl) (Nat.le_refl _) (Or.inr (Or.inr ⟨zt rfl, rfl, zt rfl⟩)) ?_
    refine s_opens5 (by omega) h.2.1.2.2.1 h.2.1.2.2.2 ?_
    refine r_pop rfl ?_
    refine r_iconst ?_
    refine r_iret rfl trivial ?_
    refine hQ _ _ _ ?_
    rw [pNt_80 (b01n.mp c_15)]
    exact MR_fl h

set_option maxRecDepth 10000 in
theorem s_both5 {xs : xSc} {m o : Nat} {F : PFn} (hm : 10 ≤ m) (hg : ∀ b z, gd z (F b z)) (hel : Mp xs xi_X7_not5 m o F) : Mp xs xi_X7_both5 (m + 1) o (fun b z i => pLp (tkd b z) (tst b z) opA (F b z) 160 (F b z i)) := by
  intro I L Q t i z w h hQ
  dsimp only at hQ
  have key : ∀ d (r : PR) (J : Nat → Nat → Int32) (L2 : Nat → Nat → Int64) (v : Int32) (x0 : Value), pLp (tkd (mb t I) z) (tst (mb t I) z) opA (F (mb t I) z) 160 (F (mb t I) z i) = pLp (tkd (mb t I) z) (tst (mb t I) z) opA (F (mb t I) z) d r → z ≤ r.2.1 + d → r.2.1 ≤ z → MR t z o w r I J L2 v → E xs m xi_X7_both5 82 Q 5 [.ref 61, .int v, x0] [] (82, J, L2, xF0) := by
    intro d
    induction d using Nat.strongRecOn with
    | _ d ih =>
    intro r J L2 v x0 hr0 hd hz0 hM
    by_cases hr : r.1 = true
    · have hC := MR_c h hM hr hz0
      refine E_go 1 rfl ?_
      refine r_aload_n rfl ?_
      refine r_bipush ?_
      refine r_bipush ?_
      refine r_bipush ?_
      refine r_iconst ?_
      refine r_iconst ?_
      refine r_iconst ?_
      refine r_iconst ?_
      refine r_iconst ?_
      refine r_virtual (vs := []) (as := [_, _, _, _, _, _, _, _]) (by decide) (zl rfl) rfl rfl (zl rfl) (Nat.le_refl _) (Or.inr (Or.inr ⟨zt rfl, rfl, zt rfl⟩)) ?_
      refine s_isW_7 (t := t) (z := z) (i := r.2.1) (by omega) hC.1.1 hC.1.2.1 hC.2.1.1 hC.2.1.2.1 hz0 hC.2.1.2.2.2 hC.2.2.2.1 ?_
      rw [hM.1.mbe]
      refine r_if_eq (fun c_20 => ?_) (fun c_20 => ?_)
      · refine E_go 4 rfl ?_
        refine r_iload_n rfl ?_
        refine r_iret rfl trivial ?_
        have e : pLp (tkd (mb t I) z) (tst (mb t I) z) opA (F (mb t I) z) 160 (F (mb t I) z i) = r := by rw [hr0]; exact pLp_n (by simp [opA, b01.mp c_20])
        have hQ2 := hQ J L2 v
        rw [e] at hQ2
        exact hQ2 hM
      · refine r_aload_n rfl ?_
        refine r_virtual (vs := []) (as := []) (by decide) (zl rfl) rfl rfl (zl rfl) (Nat.le_refl _) (Or.inr (Or.inr ⟨zt rfl, rfl, zt rfl⟩)) ?_
        have hk : tkd (mb t I) z r.2.1 = 7 := b01n.mp c_20
        have hop : opA (tkd (mb t I) z r.2.1) = some (-7) := by rw [hk]; rfl
        have hT := tst_lt (b := mb t I) hz0 (by omega : ¬ tkd (mb t I) z r.2.1 = 0)
        have hT2 := tst_z (b := mb t I) hz0
        have hq := hg (mb t I) z _ hT2
        refine s_nextM (by omega) hC (by rw [hM.1.mbe, hk]; decide) (fun J1 L3 n1 hC1 => ?_)
        rw [hM.1.mbe] at hC1
        refine r_aload_n rfl ?_
        refine r_virtual (vs := []) (as := []) (by decide) (zl rfl) rfl rfl (zl rfl) (Nat.le_refl _) (Or.inr (Or.inr ⟨zt rfl, rfl, zt rfl⟩)) ?_
        refine hel J1 L3 _ t _ z w hC1 (fun J2 L4 v2 hM2 => ?_)
        rw [n1.v.mbe, hM.1.mbe] at hM2
        refine r_istore_n (ls' := [_, _, _]) (zt rfl) rfl ?_
        refine r_iload_n rfl ?_
        refine r_if_eq (fun c_33 => ?_) (fun c_33 => ?_)
        · refine E_go 2 rfl ?_
          refine r_iconst ?_
          refine r_nil ?_
          refine E_go 3 rfl ?_
          refine r_istore_n (ls' := [_, _, _]) (zt rfl) rfl ?_
          refine r_goto ?_
          refine ih (d - 1) (by omega) ((F (mb t I) z (tst (mb t I) z r.2.1)).1, (F (mb t I) z (tst (mb t I) z r.2.1)).2.1, r.2.2 ++ ((F (mb t I) z (tst (mb t I) z r.2.1)).2.2 ++ [-7])) J2 L4 _ _ ?_ ?_ ?_ (MR_app hM hr n1.v hM2 (fun st => by first | rw [e_and, if_pos c_33] | rw [e_and, if_neg c_33, if_pos c_37]))
          · rw [hr0]; exact pLp_s (by omega) hr hop
          · dsimp only; omega
          · exact hq.1.2
        · refine r_iload_n rfl ?_
          refine r_if_eq (fun c_37 => ?_) (fun c_37 => ?_)
          · refine E_go 2 rfl ?_
            refine r_iconst ?_
            refine r_nil ?_
            refine E_go 3 rfl ?_
            refine r_istore_n (ls' := [_, _, _]) (zt rfl) rfl ?_
            refine r_goto ?_
            refine ih (d - 1) (by omega) ((F (mb t I) z (tst (mb t I) z r.2.1)).1, (F (mb t I) z (tst (mb t I) z r.2.1)).2.1, r.2.2 ++ ((F (mb t I) z (tst (mb t I) z r.2.1)).2.2 ++ [-7])) J2 L4 _ _ ?_ ?_ ?_ (MR_app hM hr n1.v hM2 (fun st => by first | rw [e_and, if_pos c_33] | rw [e_and, if_neg c_33, if_pos c_37]))
            · rw [hr0]; exact pLp_s (by omega) hr hop
            · dsimp only; omega
            · exact hq.1.2
          · refine r_iconst ?_
            refine r_goto ?_
            refine E_go 3 rfl ?_
            refine r_istore_n (ls' := [_, _, _]) (zt rfl) rfl ?_
            refine r_goto ?_
            refine ih (d - 1) (by omega) ((F (mb t I) z (tst (mb t I) z r.2.1)).1, (F (mb t I) z (tst (mb t I) z r.2.1)).2.1, r.2.2 ++ ((F (mb t I) z (tst (mb t I) z r.2.1)).2.2 ++ [-7])) J2 L4 _ _ ?_ ?_ ?_ (MR_app hM hr n1.v hM2 (fun st => by rw [e_and, if_neg c_33, if_neg c_37]))
            · rw [hr0]; exact pLp_s (by omega) hr hop
            · dsimp only; omega
            · exact hq.1.2
    · refine E_go 1 rfl ?_
      refine r_aload_n rfl ?_
      refine r_bipush ?_
      refine r_bipush ?_
      refine r_bipush ?_
      refine r_iconst ?_
      refine r_iconst ?_
      refine r_iconst ?_
      refine r_iconst ?_
      refine r_iconst ?_
      refine r_virtual (vs := []) (as := [_, _, _, _, _, _, _, _]) (by decide) (zl rfl) rfl rfl (zl rfl) (Nat.le_refl _) (Or.inr (Or.inr ⟨zt rfl, rfl, zt rfl⟩)) ?_
      refine s_isWordB (by omega) (hM.2.2 hr).1 ?_
      refine r_if_eq (fun c_20 => ?_) (fun c_20 => ?_)
      · have c_20 := (n_eq (a := 0) (b := 0) rfl rfl (by omega) (by omega)).mp c_20
        refine E_go 4 rfl ?_
        refine r_iload_n rfl ?_
        refine r_iret rfl trivial ?_
        have e : pLp (tkd (mb t I) z) (tst (mb t I) z) opA (F (mb t I) z) 160 (F (mb t I) z i) = r := by rw [hr0]; exact pLp_f hr
        have hQ2 := hQ J L2 v
        rw [e] at hQ2
        exact hQ2 hM
      · have c_20 := (not_congr (n_eq (a := 0) (b := 0) rfl rfl (by omega) (by omega))).mp c_20
        omega
  refine M_go (ls := [_, _, _]) (ml := 3) rfl rfl rfl (zl rfl) rfl ?_
  refine r_aload_n rfl ?_
  refine r_virtual (vs := []) (as := []) (by decide) (zl rfl) rfl rfl (zl rfl) (Nat.le_refl _) (Or.inr (Or.inr ⟨zt rfl, rfl, zt rfl⟩)) ?_
  refine hel I L _ t i z w h (fun J L2 v hM => ?_)
  refine r_istore_n (ls' := [_, _, _]) (zt rfl) rfl ?_
  refine r_nil ?_
  refine key 160 (F (mb t I) z i) J L2 v _ rfl ?_ ?_ hM
  · have := h.1.2.1; have := hg (mb t I) z i h.1.2.2; omega
  · exact (hg (mb t I) z i h.1.2.2).1.2

set_option maxRecDepth 10000 in
theorem s_either5 {xs : xSc} {m o : Nat} {F : PFn} (hm : 10 ≤ m) (hg : ∀ b z, gd z (F b z)) (hel : Mp xs xi_X7_both5 m o F) : Mp xs xi_X7_either5 (m + 1) o (fun b z i => pLp (tkd b z) (tst b z) opO (F b z) 160 (F b z i)) := by
  intro I L Q t i z w h hQ
  dsimp only at hQ
  have key : ∀ d (r : PR) (J : Nat → Nat → Int32) (L2 : Nat → Nat → Int64) (v : Int32) (x0 : Value), pLp (tkd (mb t I) z) (tst (mb t I) z) opO (F (mb t I) z) 160 (F (mb t I) z i) = pLp (tkd (mb t I) z) (tst (mb t I) z) opO (F (mb t I) z) d r → z ≤ r.2.1 + d → r.2.1 ≤ z → MR t z o w r I J L2 v → E xs m xi_X7_either5 82 Q 5 [.ref 61, .int v, x0] [] (82, J, L2, xF0) := by
    intro d
    induction d using Nat.strongRecOn with
    | _ d ih =>
    intro r J L2 v x0 hr0 hd hz0 hM
    by_cases hr : r.1 = true
    · have hC := MR_c h hM hr hz0
      refine E_go 1 rfl ?_
      refine r_aload_n rfl ?_
      refine r_bipush ?_
      refine r_bipush ?_
      refine r_iconst ?_
      refine r_iconst ?_
      refine r_iconst ?_
      refine r_iconst ?_
      refine r_iconst ?_
      refine r_iconst ?_
      refine r_virtual (vs := []) (as := [_, _, _, _, _, _, _, _]) (by decide) (zl rfl) rfl rfl (zl rfl) (Nat.le_refl _) (Or.inr (Or.inr ⟨zt rfl, rfl, zt rfl⟩)) ?_
      refine s_isW_6 (t := t) (z := z) (i := r.2.1) (by omega) hC.1.1 hC.1.2.1 hC.2.1.1 hC.2.1.2.1 hz0 hC.2.1.2.2.2 hC.2.2.2.1 ?_
      rw [hM.1.mbe]
      refine r_if_eq (fun c_19 => ?_) (fun c_19 => ?_)
      · refine E_go 5 rfl ?_
        refine r_iload_n rfl ?_
        refine r_iret rfl trivial ?_
        have e : pLp (tkd (mb t I) z) (tst (mb t I) z) opO (F (mb t I) z) 160 (F (mb t I) z i) = r := by rw [hr0]; exact pLp_n (by simp [opO, b01.mp c_19])
        have hQ2 := hQ J L2 v
        rw [e] at hQ2
        exact hQ2 hM
      · refine r_aload_n rfl ?_
        refine r_virtual (vs := []) (as := []) (by decide) (zl rfl) rfl rfl (zl rfl) (Nat.le_refl _) (Or.inr (Or.inr ⟨zt rfl, rfl, zt rfl⟩)) ?_
        have hk : tkd (mb t I) z r.2.1 = 6 := b01n.mp c_19
        have hop : opO (tkd (mb t I) z r.2.1) = some (-6) := by rw [hk]; rfl
        have hT := tst_lt (b := mb t I) hz0 (by omega : ¬ tkd (mb t I) z r.2.1 = 0)
        have hT2 := tst_z (b := mb t I) hz0
        have hq := hg (mb t I) z _ hT2
        refine s_nextM (by omega) hC (by rw [hM.1.mbe, hk]; decide) (fun J1 L3 n1 hC1 => ?_)
        rw [hM.1.mbe] at hC1
        refine r_aload_n rfl ?_
        refine r_virtual (vs := []) (as := []) (by decide) (zl rfl) rfl rfl (zl rfl) (Nat.le_refl _) (Or.inr (Or.inr ⟨zt rfl, rfl, zt rfl⟩)) ?_
        refine hel J1 L3 _ t _ z w hC1 (fun J2 L4 v2 hM2 => ?_)
        rw [n1.v.mbe, hM.1.mbe] at hM2
        refine r_istore_n (ls' := [_, _, _]) (zt rfl) rfl ?_
        refine r_iload_n rfl ?_
        refine r_if_ne (fun c_32 => ?_) (fun c_32 => ?_)
        · refine E_go 2 rfl ?_
          refine r_iconst ?_
          refine r_goto ?_
          refine E_go 4 rfl ?_
          refine r_istore_n (ls' := [_, _, _]) (zt rfl) rfl ?_
          refine r_goto ?_
          refine ih (d - 1) (by omega) ((F (mb t I) z (tst (mb t I) z r.2.1)).1, (F (mb t I) z (tst (mb t I) z r.2.1)).2.1, r.2.2 ++ ((F (mb t I) z (tst (mb t I) z r.2.1)).2.2 ++ [-6])) J2 L4 _ _ ?_ ?_ ?_ (MR_app hM hr n1.v hM2 (fun st => by first | rw [e_or, if_neg c_32] | rw [e_or, if_pos c_32, if_neg c_36]))
          · rw [hr0]; exact pLp_s (by omega) hr hop
          · dsimp only; omega
          · exact hq.1.2
        · refine r_iload_n rfl ?_
          refine r_if_eq (fun c_36 => ?_) (fun c_36 => ?_)
          · refine E_go 3 rfl ?_
            refine r_iconst ?_
            refine r_nil ?_
            refine E_go 4 rfl ?_
            refine r_istore_n (ls' := [_, _, _]) (zt rfl) rfl ?_
            refine r_goto ?_
            refine ih (d - 1) (by omega) ((F (mb t I) z (tst (mb t I) z r.2.1)).1, (F (mb t I) z (tst (mb t I) z r.2.1)).2.1, r.2.2 ++ ((F (mb t I) z (tst (mb t I) z r.2.1)).2.2 ++ [-6])) J2 L4 _ _ ?_ ?_ ?_ (MR_app hM hr n1.v hM2 (fun st => by rw [e_or, if_pos c_32, if_pos c_36]))
            · rw [hr0]; exact pLp_s (by omega) hr hop
            · dsimp only; omega
            · exact hq.1.2
          · refine r_nil ?_
            refine E_go 2 rfl ?_
            refine r_iconst ?_
            refine r_goto ?_
            refine E_go 4 rfl ?_
            refine r_istore_n (ls' := [_, _, _]) (zt rfl) rfl ?_
            refine r_goto ?_
            refine ih (d - 1) (by omega) ((F (mb t I) z (tst (mb t I) z r.2.1)).1, (F (mb t I) z (tst (mb t I) z r.2.1)).2.1, r.2.2 ++ ((F (mb t I) z (tst (mb t I) z r.2.1)).2.2 ++ [-6])) J2 L4 _ _ ?_ ?_ ?_ (MR_app hM hr n1.v hM2 (fun st => by first | rw [e_or, if_neg c_32] | rw [e_or, if_pos c_32, if_neg c_36]))
            · rw [hr0]; exact pLp_s (by omega) hr hop
            · dsimp only; omega
            · exact hq.1.2
    · refine E_go 1 rfl ?_
      refine r_aload_n rfl ?_
      refine r_bipush ?_
      refine r_bipush ?_
      refine r_iconst ?_
      refine r_iconst ?_
      refine r_iconst ?_
      refine r_iconst ?_
      refine r_iconst ?_
      refine r_iconst ?_
      refine r_virtual (vs := []) (as := [_, _, _, _, _, _, _, _]) (by decide) (zl rfl) rfl rfl (zl rfl) (Nat.le_refl _) (Or.inr (Or.inr ⟨zt rfl, rfl, zt rfl⟩)) ?_
      refine s_isWordB (by omega) (hM.2.2 hr).1 ?_
      refine r_if_eq (fun c_19 => ?_) (fun c_19 => ?_)
      · have c_19 := (n_eq (a := 0) (b := 0) rfl rfl (by omega) (by omega)).mp c_19
        refine E_go 5 rfl ?_
        refine r_iload_n rfl ?_
        refine r_iret rfl trivial ?_
        have e : pLp (tkd (mb t I) z) (tst (mb t I) z) opO (F (mb t I) z) 160 (F (mb t I) z i) = r := by rw [hr0]; exact pLp_f hr
        have hQ2 := hQ J L2 v
        rw [e] at hQ2
        exact hQ2 hM
      · have c_19 := (not_congr (n_eq (a := 0) (b := 0) rfl rfl (by omega) (by omega))).mp c_19
        omega
  refine M_go (ls := [_, _, _]) (ml := 3) rfl rfl rfl (zl rfl) rfl ?_
  refine r_aload_n rfl ?_
  refine r_virtual (vs := []) (as := []) (by decide) (zl rfl) rfl rfl (zl rfl) (Nat.le_refl _) (Or.inr (Or.inr ⟨zt rfl, rfl, zt rfl⟩)) ?_
  refine hel I L _ t i z w h (fun J L2 v hM => ?_)
  refine r_istore_n (ls' := [_, _, _]) (zt rfl) rfl ?_
  refine r_nil ?_
  refine key 160 (F (mb t I) z i) J L2 v _ rfl ?_ ?_ hM
  · have := h.1.2.1; have := hg (mb t I) z i h.1.2.2; omega
  · exact (hg (mb t I) z i h.1.2.2).1.2

set_option maxRecDepth 10000 in
theorem s_atom4 {xs : xSc} {m o : Nat} {G G2 : PFn} (hm : 10 ≤ m) (hd5 : o < 5) (hgo : ∀ b z, gd z (G2 b z)) (hda : Mp xs xi_X7_atom5 m (o + 1) G) (hdo : Mp xs xi_X7_either5 m (o + 1) G2) : Mp xs xi_X7_atom4 (m + 1) o (fun b z i => pAt (tkd b z) (tst b z) (twt b z) (some (G b z, G2 b z)) i) := by
  intro I L Q t i z w h hQ
  dsimp only at hQ
  have htc := tcl_lt (b := mb t I) (z := z) (s := tpl (mb t I) z i)
  refine M_go (ls := [_, _]) (ml := 2) rfl rfl rfl (zl rfl) rfl ?_
  refine r_iconst ?_
  refine r_istore_n (ls' := [_, _]) (zt rfl) rfl ?_
  refine r_aload_n rfl ?_
  refine r_bipush ?_
  refine r_virtual (vs := []) (as := [_]) (by decide) (zl rfl) rfl rfl (zl rfl) (Nat.le_refl _) (Or.inr (Or.inr ⟨zt rfl, rfl, zt rfl⟩)) ?_
  refine s_isSign (t := t) (z := z) (i := i) (c := 45) (by omega) rfl (by omega) (by omega) h.2.1.2.2.2 h.2.2.2.1 ?_
  refine r_if_eq (fun c_8 => ?_) (fun c_8 => ?_)
  · refine E_go 1 rfl ?_
    refine r_aload_n rfl ?_
    refine r_bipush ?_
    refine r_virtual (vs := []) (as := [_]) (by decide) (zl rfl) rfl rfl (zl rfl) (Nat.le_refl _) (Or.inr (Or.inr ⟨zt rfl, rfl, zt rfl⟩)) ?_
    refine s_isSign (t := t) (z := z) (i := i) (c := 40) (by omega) rfl (by omega) (by omega) h.2.1.2.2.2 h.2.2.2.1 ?_
    refine r_if_eq (fun c_43 => ?_) (fun c_43 => ?_)
    · refine E_go 3 rfl ?_
      refine r_aload_n rfl ?_
      refine r_getZ (by decide) rfl rfl (by decide) rfl ?_
      refine r_if_ne (fun c_99 => ?_) (fun c_99 => ?_)
      · exact absurd h.2.1.2.2.2 c_99
      · refine r_aload_n rfl ?_
        refine r_getI (by decide) rfl rfl (by decide) h.2.2.2.1.1 ?_
        refine r_iconst ?_
        refine r_icmp_ne (fun c_107 => ?_) (fun c_107 => ?_)
        · have c_107 := (not_congr (n_eq (a := (tcl (mb t I) z (tpl (mb t I) z i))) (b := 2) rfl rfl (by omega) (by omega))).mp c_107
          refine E_go 4 rfl ?_
          refine r_aload_n rfl ?_
          refine r_getZ (by decide) rfl rfl (by decide) rfl ?_
          refine r_if_ne (fun c_127 => ?_) (fun c_127 => ?_)
          · exact absurd h.2.1.2.2.2 c_127
          · refine r_aload_n rfl ?_
            refine r_getI (by decide) rfl rfl (by decide) h.2.2.2.1.1 ?_
            refine r_iconst ?_
            refine r_icmp_ne (fun c_135 => ?_) (fun c_135 => ?_)
            · have c_135 := (not_congr (n_eq (a := (tcl (mb t I) z (tpl (mb t I) z i))) (b := 1) rfl rfl (by omega) (by omega))).mp c_135
              refine E_go 5 rfl ?_
              refine r_aload_n rfl ?_
              refine r_virtual (vs := []) (as := []) (by decide) (zl rfl) rfl rfl (zl rfl) (Nat.le_refl _) (Or.inr (Or.inr ⟨zt rfl, rfl, zt rfl⟩)) ?_
              refine s_fail0 (by omega) h.2.1.2.2.2 ?_
              refine r_nil ?_
              refine E_go 6 rfl ?_
              refine r_iload_n rfl ?_
              refine r_iret rfl trivial ?_
              have q1 := b01.mp c_8
              have q2 := b01.mp c_43
              have q3 : ¬ tkd (mb t I) z i = 2 := fun q => c_107 (tk_2.mpr q)
              have q4 : ¬ (10 ≤ tkd (mb t I) z i ∧ tkd (mb t I) z i < 16) := fun q => c_135 (tk_w (Or.inr q))
              refine hQ _ _ _ ?_
              rw [pAt_f q3 q4 q1 q2]
              exact MR_fl h
            · have c_135 := (n_eq (a := (tcl (mb t I) z (tpl (mb t I) z i))) (b := 1) rfl rfl (by omega) (by omega)).mp c_135
              refine r_aload_n rfl ?_
              refine r_virtual (vs := []) (as := []) (by decide) (zl rfl) rfl rfl (zl rfl) (Nat.le_refl _) (Or.inr (Or.inr ⟨zt rfl, rfl, zt rfl⟩)) ?_
              refine s_name (by omega) h (fun hn1 hn2 => ?_) (fun hn => ?_)
              · skip
                refine r_istore_n (ls' := [_, _]) (zt rfl) rfl ?_
                refine r_aload_n rfl ?_
                refine r_getZ (by decide) rfl rfl (by decide) rfl ?_
                refine r_if_ne (fun c_147 => ?_) (fun c_147 => ?_)
                · exact absurd h.2.1.2.2.2 c_147
                · refine r_aload_n rfl ?_
                  refine r_virtual (vs := []) (as := []) (by decide) (zl rfl) rfl rfl (zl rfl) (Nat.le_refl _) (Or.inr (Or.inr ⟨zt rfl, rfl, zt rfl⟩)) ?_
                  refine s_nextM (by omega) h (by omega) (fun J1 L3 n1 hC1 => ?_)
                  refine r_goto ?_
                  refine E_go 6 rfl ?_
                  refine r_iload_n rfl ?_
                  refine r_iret rfl trivial ?_
                  refine hQ _ _ _ ?_
                  rw [pAt_n hn1 hn2]
                  refine ⟨n1.v, fun _ => ⟨hC1.2.1.2.2, ?_, fun st => ?_⟩, fun q => absurd rfl q⟩
                  · have := hC1.2.2.2.1; rw [n1.v.mbe] at this; exact this
                  · rw [ev_one]; exact e_name hn1 hn2
              · skip
                refine r_istore_n (ls' := [_, _]) (zt rfl) rfl ?_
                refine r_aload_n rfl ?_
                refine r_getZ (by decide) rfl rfl (by decide) rfl ?_
                refine r_if_ne (fun c_147 => ?_) (fun c_147 => ?_)
                · refine E_go 6 rfl ?_
                  refine r_iload_n rfl ?_
                  refine r_iret rfl trivial ?_
                  have q1 := b01.mp c_8
                  have q2 := b01.mp c_43
                  have q3 : ¬ tkd (mb t I) z i = 2 := fun q => c_107 (tk_2.mpr q)
                  have q4 := hn
                  refine hQ _ _ _ ?_
                  rw [pAt_f q3 q4 q1 q2]
                  exact MR_fl h
                · exact absurd (show fl I 61 26 = 0 from c_147) (by simp [fl, up2])
        · have c_107 := (n_eq (a := (tcl (mb t I) z (tpl (mb t I) z i))) (b := 2) rfl rfl (by omega) (by omega)).mp c_107
          refine r_aload_n rfl ?_
          refine r_getJ (by decide) rfl rfl (by decide) rfl ?_
          refine r_l2i ?_
          refine r_istore_n (ls' := [_, _]) (zt rfl) rfl ?_
          refine r_aload_n rfl ?_
          refine r_virtual (vs := []) (as := []) (by decide) (zl rfl) rfl rfl (zl rfl) (Nat.le_refl _) (Or.inr (Or.inr ⟨zt rfl, rfl, zt rfl⟩)) ?_
          have hk : tkd (mb t I) z i = 2 := tk_2.mp c_107
          refine s_nextM (by omega) h (by omega) (fun J1 L3 n1 hC1 => ?_)
          refine r_goto ?_
          refine E_go 6 rfl ?_
          refine r_iload_n rfl ?_
          refine r_iret rfl trivial ?_
          refine hQ _ _ _ ?_
          rw [pAt_2 hk]
          refine ⟨n1.v, fun _ => ⟨hC1.2.1.2.2, ?_, fun st => ?_⟩, fun q => absurd rfl q⟩
          · have := hC1.2.2.2.1; rw [n1.v.mbe] at this; exact this
          · rw [ev_one, h.2.2.2.1.2.2.2.1 c_107]; exact e_num (twt_b hk).1 (twt_b hk).2
    · refine r_aload_n rfl ?_
      refine r_virtual (vs := []) (as := []) (by decide) (zl rfl) rfl rfl (zl rfl) (Nat.le_refl _) (Or.inr (Or.inr ⟨zt rfl, rfl, zt rfl⟩)) ?_
      have hk : tkd (mb t I) z i = 40 := b01n.mp c_43
      refine s_opensS (by omega) hd5 h (by omega) (fun J1 L3 v1 hC1 => ?_)
      refine r_if_eq (fun c_50 => ?_) (fun c_50 => ?_)
      · have c_50 := (n_eq (a := 1) (b := 0) rfl rfl (by omega) (by omega)).mp c_50
        omega
      · have c_50 := (not_congr (n_eq (a := 1) (b := 0) rfl rfl (by omega) (by omega))).mp c_50
        refine r_aload_n rfl ?_
        refine r_virtual (vs := []) (as := []) (by decide) (zl rfl) rfl rfl (zl rfl) (Nat.le_refl _) (Or.inr (Or.inr ⟨zt rfl, rfl, zt rfl⟩)) ?_
        refine hdo J1 L3 _ t _ z w hC1 (fun J2 L4 v hM2 => ?_)
        rw [v1.mbe] at hM2
        have hT2 := tst_z (b := mb t I) h.1.2.2
        have hgq := hgo (mb t I) z _ hT2
        by_cases hr : (G2 (mb t I) z (tst (mb t I) z i)).1 = true
        · have hC2 := MR_c hC1 hM2 hr hgq.1.2
          refine r_istore_n (ls' := [_, _]) (zt rfl) rfl ?_
          refine r_aload_n rfl ?_
          refine r_bipush ?_
          refine r_virtual (vs := []) (as := [_]) (by decide) (zl rfl) rfl rfl (zl rfl) (Nat.le_refl _) (Or.inr (Or.inr ⟨zt rfl, rfl, zt rfl⟩)) ?_
          refine s_isSign (t := t) (z := z) (i := (G2 (mb t I) z (tst (mb t I) z i)).2.1) (c := 41) (by omega) rfl (by omega) (by omega) hC2.2.1.2.2.2 hC2.2.2.2.1 ?_
          rw [hM2.1.mbe, v1.mbe]
          refine r_if_ne (fun c_64 => ?_) (fun c_64 => ?_)
          · refine E_go 2 rfl ?_
            refine r_aload_n rfl ?_
            refine r_dup rfl ?_
            refine r_getI (by decide) rfl rfl (by decide) rfl ?_
            refine r_iconst ?_
            refine r_isub ?_
            refine r_putI rfl rfl (by decide) ?_
            refine r_aload_n rfl ?_
            refine r_getZ (by decide) rfl rfl (by decide) rfl ?_
            refine r_if_ne (fun c_85 => ?_) (fun c_85 => ?_)
            · exact absurd (show J2 61 26 = 0 from hC2.2.1.2.2.2) c_85
            · refine r_aload_n rfl ?_
              refine r_virtual (vs := []) (as := []) (by decide) (zl rfl) rfl rfl (zl rfl) (Nat.le_refl _) (Or.inr (Or.inr ⟨zt rfl, rfl, zt rfl⟩)) ?_
              have hk2 : tkd (mb t I) z (G2 (mb t I) z (tst (mb t I) z i)).2.1 = 41 := b01n.mp c_64
              have hC3 := mCx_op hC2
              refine s_nextM (by omega) hC3 (by rw [mb_op, hM2.1.mbe, v1.mbe, hk2]; decide) (fun J3 L5 n3 hC4 => ?_)
              rw [mb_op, hM2.1.mbe, v1.mbe] at hC4
              refine r_goto ?_
              refine E_go 6 rfl ?_
              refine r_iload_n rfl ?_
              refine r_iret rfl trivial ?_
              refine hQ _ _ _ ?_
              rw [pAt_p1 hk hr hk2]
              exact MR_cl v1 hM2 hr n3 hC4
          · refine r_aload_n rfl ?_
            refine r_virtual (vs := []) (as := []) (by decide) (zl rfl) rfl rfl (zl rfl) (Nat.le_refl _) (Or.inr (Or.inr ⟨zt rfl, rfl, zt rfl⟩)) ?_
            refine s_fail0 (by omega) hC2.2.1.2.2.2 ?_
            refine r_nil ?_
            refine E_go 2 rfl ?_
            refine r_aload_n rfl ?_
            refine r_dup rfl ?_
            refine r_getI (by decide) rfl rfl (by decide) rfl ?_
            refine r_iconst ?_
            refine r_isub ?_
            refine r_putI rfl rfl (by decide) ?_
            refine r_aload_n rfl ?_
            refine r_getZ (by decide) rfl rfl (by decide) rfl ?_
            refine r_if_ne (fun c_85 => ?_) (fun c_85 => ?_)
            · refine E_go 6 rfl ?_
              refine r_iload_n rfl ?_
              refine r_iret rfl trivial ?_
              refine hQ _ _ _ ?_
              rw [pAt_p2 hk hr (b01.mp c_64)]
              exact MR_un v1 hM2 hr hC2
            · exact absurd (show fl J2 61 26 = 0 from c_85) (by simp [fl, up2])
        · have hb := (hM2.2.2 hr).1
          refine r_istore_n (ls' := [_, _]) (zt rfl) rfl ?_
          refine r_aload_n rfl ?_
          refine r_bipush ?_
          refine r_virtual (vs := []) (as := [_]) (by decide) (zl rfl) rfl rfl (zl rfl) (Nat.le_refl _) (Or.inr (Or.inr ⟨zt rfl, rfl, zt rfl⟩)) ?_
          refine s_isSignB (by omega) hb ?_
          refine r_if_ne (fun c_64 => ?_) (fun c_64 => ?_)
          · have c_64 := (not_congr (n_eq (a := 0) (b := 0) rfl rfl (by omega) (by omega))).mp c_64
            omega
          · have c_64 := (n_eq (a := 0) (b := 0) rfl rfl (by omega) (by omega)).mp c_64
            refine r_aload_n rfl ?_
            refine r_virtual (vs := []) (as := []) (by decide) (zl rfl) rfl rfl (zl rfl) (Nat.le_refl _) (Or.inr (Or.inr ⟨zt rfl, rfl, zt rfl⟩)) ?_
            refine s_fail1 (by omega) hb ?_
            refine r_nil ?_
            refine E_go 2 rfl ?_
            refine r_aload_n rfl ?_
            refine r_dup rfl ?_
            refine r_getI (by decide) rfl rfl (by decide) rfl ?_
            refine r_iconst ?_
            refine r_isub ?_
            refine r_putI rfl rfl (by decide) ?_
            refine r_aload_n rfl ?_
            refine r_getZ (by decide) rfl rfl (by decide) rfl ?_
            refine r_if_ne (fun c_85 => ?_) (fun c_85 => ?_)
            · refine E_go 6 rfl ?_
              refine r_iload_n rfl ?_
              refine r_iret rfl trivial ?_
              refine hQ _ _ _ ?_
              rw [pAt_p3 hk hr]
              exact MR_bad hM2 v1 hr
            · exact absurd ((show J2 61 26 = 0 from c_85).symm.trans hb) (by decide)
  · refine r_aload_n rfl ?_
    refine r_virtual (vs := []) (as := []) (by decide) (zl rfl) rfl rfl (zl rfl) (Nat.le_refl _) (Or.inr (Or.inr ⟨zt rfl, rfl, zt rfl⟩)) ?_
    have hk : tkd (mb t I) z i = 45 := b01n.mp c_8
    refine s_opensS (by omega) hd5 h (by omega) (fun J1 L3 v1 hC1 => ?_)
    refine r_if_eq (fun c_15 => ?_) (fun c_15 => ?_)
    · have c_15 := (n_eq (a := 1) (b := 0) rfl rfl (by omega) (by omega)).mp c_15
      omega
    · have c_15 := (not_congr (n_eq (a := 1) (b := 0) rfl rfl (by omega) (by omega))).mp c_15
      refine r_aload_n rfl ?_
      refine r_virtual (vs := []) (as := []) (by decide) (zl rfl) rfl rfl (zl rfl) (Nat.le_refl _) (Or.inr (Or.inr ⟨zt rfl, rfl, zt rfl⟩)) ?_
      refine hda J1 L3 _ t _ z w hC1 (fun J2 L4 v hM2 => ?_)
      rw [v1.mbe] at hM2
      refine r_ineg ?_
      refine r_istore_n (ls' := [_, _]) (zt rfl) rfl ?_
      refine r_aload_n rfl ?_
      refine r_dup rfl ?_
      refine r_getI (by decide) rfl rfl (by decide) rfl ?_
      refine r_iconst ?_
      refine r_isub ?_
      refine r_putI rfl rfl (by decide) ?_
      refine r_goto ?_
      refine E_go 6 rfl ?_
      refine r_iload_n rfl ?_
      refine r_iret rfl trivial ?_
      refine hQ _ _ _ ?_
      rw [pAt_m hk]
      exact MR_op v1 hM2 (fun st => e_neg)

set_option maxRecDepth 10000 in
theorem s_term4 {xs : xSc} {m o : Nat} {F : PFn} (hm : 10 ≤ m) (hg : ∀ b z, gd z (F b z)) (hel : Mp xs xi_X7_atom4 m o F) : Mp xs xi_X7_term4 (m + 1) o (fun b z i => pLp (tkd b z) (tst b z) opT (F b z) 160 (F b z i)) := by
  intro I L Q t i z w h hQ
  dsimp only at hQ
  have key : ∀ d (r : PR) (J : Nat → Nat → Int32) (L2 : Nat → Nat → Int64) (v : Int32) , pLp (tkd (mb t I) z) (tst (mb t I) z) opT (F (mb t I) z) 160 (F (mb t I) z i) = pLp (tkd (mb t I) z) (tst (mb t I) z) opT (F (mb t I) z) d r → z ≤ r.2.1 + d → r.2.1 ≤ z → MR t z o w r I J L2 v → E xs m xi_X7_term4 82 Q 5 [.ref 61, .int v] [] (82, J, L2, xF0) := by
    intro d
    induction d using Nat.strongRecOn with
    | _ d ih =>
    intro r J L2 v  hr0 hd hz0 hM
    by_cases hr : r.1 = true
    · have hC := MR_c h hM hr hz0
      refine E_go 1 rfl ?_
      refine r_aload_n rfl ?_
      refine r_bipush ?_
      refine r_virtual (vs := []) (as := [_]) (by decide) (zl rfl) rfl rfl (zl rfl) (Nat.le_refl _) (Or.inr (Or.inr ⟨zt rfl, rfl, zt rfl⟩)) ?_
      refine s_isSign (t := t) (z := z) (i := r.2.1) (c := 42) (by omega) rfl (by omega) (by omega) hC.2.1.2.2.2 hC.2.2.2.1 ?_
      rw [hM.1.mbe]
      refine r_if_eq (fun c_11 => ?_) (fun c_11 => ?_)
      · refine E_go 2 rfl ?_
        refine r_iload_n rfl ?_
        refine r_iret rfl trivial ?_
        have e : pLp (tkd (mb t I) z) (tst (mb t I) z) opT (F (mb t I) z) 160 (F (mb t I) z i) = r := by rw [hr0]; exact pLp_n (by simp [opT, b01.mp c_11])
        have hQ2 := hQ J L2 v
        rw [e] at hQ2
        exact hQ2 hM
      · refine r_aload_n rfl ?_
        refine r_virtual (vs := []) (as := []) (by decide) (zl rfl) rfl rfl (zl rfl) (Nat.le_refl _) (Or.inr (Or.inr ⟨zt rfl, rfl, zt rfl⟩)) ?_
        have hk : tkd (mb t I) z r.2.1 = 42 := b01n.mp c_11
        have hop : opT (tkd (mb t I) z r.2.1) = some (-42) := by rw [hk]; rfl
        have hT := tst_lt (b := mb t I) hz0 (by omega : ¬ tkd (mb t I) z r.2.1 = 0)
        have hT2 := tst_z (b := mb t I) hz0
        have hq := hg (mb t I) z _ hT2
        refine s_nextM (by omega) hC (by rw [hM.1.mbe, hk]; decide) (fun J1 L3 n1 hC1 => ?_)
        rw [hM.1.mbe] at hC1
        refine r_iload_n rfl ?_
        refine r_aload_n rfl ?_
        refine r_virtual (vs := []) (as := []) (by decide) (zl rfl) rfl rfl (zl rfl) (Nat.le_refl _) (Or.inr (Or.inr ⟨zt rfl, rfl, zt rfl⟩)) ?_
        refine hel J1 L3 _ t _ z w hC1 (fun J2 L4 v2 hM2 => ?_)
        rw [n1.v.mbe, hM.1.mbe] at hM2
        refine r_imul ?_
        refine r_istore_n (ls' := [_, _]) (zt rfl) rfl ?_
        refine r_goto ?_
        refine ih (d - 1) (by omega) ((F (mb t I) z (tst (mb t I) z r.2.1)).1, (F (mb t I) z (tst (mb t I) z r.2.1)).2.1, r.2.2 ++ ((F (mb t I) z (tst (mb t I) z r.2.1)).2.2 ++ [-42])) J2 L4 _ ?_ ?_ ?_ (MR_app hM hr n1.v hM2 (fun st => e_mul))
        · rw [hr0]; exact pLp_s (by omega) hr hop
        · dsimp only; omega
        · exact hq.1.2
    · refine E_go 1 rfl ?_
      refine r_aload_n rfl ?_
      refine r_bipush ?_
      refine r_virtual (vs := []) (as := [_]) (by decide) (zl rfl) rfl rfl (zl rfl) (Nat.le_refl _) (Or.inr (Or.inr ⟨zt rfl, rfl, zt rfl⟩)) ?_
      refine s_isSignB (by omega) (hM.2.2 hr).1 ?_
      refine r_if_eq (fun c_11 => ?_) (fun c_11 => ?_)
      · have c_11 := (n_eq (a := 0) (b := 0) rfl rfl (by omega) (by omega)).mp c_11
        refine E_go 2 rfl ?_
        refine r_iload_n rfl ?_
        refine r_iret rfl trivial ?_
        have e : pLp (tkd (mb t I) z) (tst (mb t I) z) opT (F (mb t I) z) 160 (F (mb t I) z i) = r := by rw [hr0]; exact pLp_f hr
        have hQ2 := hQ J L2 v
        rw [e] at hQ2
        exact hQ2 hM
      · have c_11 := (not_congr (n_eq (a := 0) (b := 0) rfl rfl (by omega) (by omega))).mp c_11
        omega
  refine M_go (ls := [_, _]) (ml := 2) rfl rfl rfl (zl rfl) rfl ?_
  refine r_aload_n rfl ?_
  refine r_virtual (vs := []) (as := []) (by decide) (zl rfl) rfl rfl (zl rfl) (Nat.le_refl _) (Or.inr (Or.inr ⟨zt rfl, rfl, zt rfl⟩)) ?_
  refine hel I L _ t i z w h (fun J L2 v hM => ?_)
  refine r_istore_n (ls' := [_, _]) (zt rfl) rfl ?_
  refine r_nil ?_
  refine key 160 (F (mb t I) z i) J L2 v rfl ?_ ?_ hM
  · have := h.1.2.1; have := hg (mb t I) z i h.1.2.2; omega
  · exact (hg (mb t I) z i h.1.2.2).1.2

set_option maxRecDepth 10000 in
theorem s_added4 {xs : xSc} {m o : Nat} {F : PFn} (hm : 10 ≤ m) (hg : ∀ b z, gd z (F b z)) (hel : Mp xs xi_X7_term4 m o F) : Mp xs xi_X7_added4 (m + 1) o (fun b z i => pLp (tkd b z) (tst b z) opS (F b z) 160 (F b z i)) := by
  intro I L Q t i z w h hQ
  dsimp only at hQ
  have key : ∀ d (r : PR) (J : Nat → Nat → Int32) (L2 : Nat → Nat → Int64) (v : Int32) (x0 x1 : Value), pLp (tkd (mb t I) z) (tst (mb t I) z) opS (F (mb t I) z) 160 (F (mb t I) z i) = pLp (tkd (mb t I) z) (tst (mb t I) z) opS (F (mb t I) z) d r → z ≤ r.2.1 + d → r.2.1 ≤ z → MR t z o w r I J L2 v → E xs m xi_X7_added4 82 Q 5 [.ref 61, .int v, x0, x1] [] (82, J, L2, xF0) := by
    intro d
    induction d using Nat.strongRecOn with
    | _ d ih =>
    intro r J L2 v x0 x1 hr0 hd hz0 hM
    by_cases hr : r.1 = true
    · have hC := MR_c h hM hr hz0
      refine E_go 1 rfl ?_
      refine r_aload_n rfl ?_
      refine r_bipush ?_
      refine r_virtual (vs := []) (as := [_]) (by decide) (zl rfl) rfl rfl (zl rfl) (Nat.le_refl _) (Or.inr (Or.inr ⟨zt rfl, rfl, zt rfl⟩)) ?_
      refine s_isSign (t := t) (z := z) (i := r.2.1) (c := 43) (by omega) rfl (by omega) (by omega) hC.2.1.2.2.2 hC.2.2.2.1 ?_
      rw [hM.1.mbe]
      refine r_if_ne (fun c_11 => ?_) (fun c_11 => ?_)
      · refine E_go 2 rfl ?_
        refine r_aload_n rfl ?_
        refine r_getJ (by decide) rfl rfl (by decide) rfl ?_
        refine r_ldc2_w ?_
        refine r_lcmp ?_
        refine r_if_ne (fun c_31 => ?_) (fun c_31 => ?_)
        · exact absurd (lg_eq.mpr (mK_43 hC.2.2.2.1 (by rw [hM.1.mbe]; exact b01n.mp c_11))) c_31
        · refine r_iconst ?_
          refine r_goto ?_
          refine E_go 4 rfl ?_
          refine r_istore_n (ls' := [_, _, _, _]) (zt rfl) rfl ?_
          refine r_aload_n rfl ?_
          refine r_virtual (vs := []) (as := []) (by decide) (zl rfl) rfl rfl (zl rfl) (Nat.le_refl _) (Or.inr (Or.inr ⟨zt rfl, rfl, zt rfl⟩)) ?_
          have hk : tkd (mb t I) z r.2.1 = 43 := b01n.mp c_11
          have hop : opS (tkd (mb t I) z r.2.1) = some (-43) := by rw [hk]; rfl
          have hT := tst_lt (b := mb t I) hz0 (by omega : ¬ tkd (mb t I) z r.2.1 = 0)
          have hT2 := tst_z (b := mb t I) hz0
          have hq := hg (mb t I) z _ hT2
          refine s_nextM (by omega) hC (by rw [hM.1.mbe, hk]; decide) (fun J1 L3 n1 hC1 => ?_)
          rw [hM.1.mbe] at hC1
          refine r_aload_n rfl ?_
          refine r_virtual (vs := []) (as := []) (by decide) (zl rfl) rfl rfl (zl rfl) (Nat.le_refl _) (Or.inr (Or.inr ⟨zt rfl, rfl, zt rfl⟩)) ?_
          refine hel J1 L3 _ t _ z w hC1 (fun J2 L4 v2 hM2 => ?_)
          rw [n1.v.mbe, hM.1.mbe] at hM2
          refine r_istore_n (ls' := [_, _, _, _]) (zt rfl) rfl ?_
          refine r_iload_n rfl ?_
          refine r_if_eq (fun c_50 => ?_) (fun c_50 => ?_)
          · have c_50 := (n_eq (a := 1) (b := 0) rfl rfl (by omega) (by omega)).mp c_50
            omega
          · have c_50 := (not_congr (n_eq (a := 1) (b := 0) rfl rfl (by omega) (by omega))).mp c_50
            refine r_iload_n rfl ?_
            refine r_iload_n rfl ?_
            refine r_iadd ?_
            refine r_goto ?_
            refine E_go 6 rfl ?_
            refine r_istore_n (ls' := [_, _, _, _]) (zt rfl) rfl ?_
            refine r_goto ?_
            refine ih (d - 1) (by omega) ((F (mb t I) z (tst (mb t I) z r.2.1)).1, (F (mb t I) z (tst (mb t I) z r.2.1)).2.1, r.2.2 ++ ((F (mb t I) z (tst (mb t I) z r.2.1)).2.2 ++ [-43])) J2 L4 _ _ _ ?_ ?_ ?_ (MR_app hM hr n1.v hM2 (fun st => e_add))
            · rw [hr0]; exact pLp_s (by omega) hr hop
            · dsimp only; omega
            · exact hq.1.2
      · refine r_aload_n rfl ?_
        refine r_bipush ?_
        refine r_virtual (vs := []) (as := [_]) (by decide) (zl rfl) rfl rfl (zl rfl) (Nat.le_refl _) (Or.inr (Or.inr ⟨zt rfl, rfl, zt rfl⟩)) ?_
        refine s_isSign (t := t) (z := z) (i := r.2.1) (c := 45) (by omega) rfl (by omega) (by omega) hC.2.1.2.2.2 hC.2.2.2.1 ?_
        rw [hM.1.mbe]
        refine r_if_eq (fun c_20 => ?_) (fun c_20 => ?_)
        · refine E_go 7 rfl ?_
          refine r_iload_n rfl ?_
          refine r_iret rfl trivial ?_
          have e : pLp (tkd (mb t I) z) (tst (mb t I) z) opS (F (mb t I) z) 160 (F (mb t I) z i) = r := by rw [hr0]; exact pLp_n (by simp [opS, b01.mp c_11, b01.mp c_20])
          have hQ2 := hQ J L2 v
          rw [e] at hQ2
          exact hQ2 hM
        · refine r_nil ?_
          refine E_go 2 rfl ?_
          refine r_aload_n rfl ?_
          refine r_getJ (by decide) rfl rfl (by decide) rfl ?_
          refine r_ldc2_w ?_
          refine r_lcmp ?_
          refine r_if_ne (fun c_31 => ?_) (fun c_31 => ?_)
          · refine E_go 3 rfl ?_
            refine r_iconst ?_
            refine r_nil ?_
            refine E_go 4 rfl ?_
            refine r_istore_n (ls' := [_, _, _, _]) (zt rfl) rfl ?_
            refine r_aload_n rfl ?_
            refine r_virtual (vs := []) (as := []) (by decide) (zl rfl) rfl rfl (zl rfl) (Nat.le_refl _) (Or.inr (Or.inr ⟨zt rfl, rfl, zt rfl⟩)) ?_
            have hk : tkd (mb t I) z r.2.1 = 45 := b01n.mp c_20
            have hop : opS (tkd (mb t I) z r.2.1) = some (-45) := by rw [hk]; rfl
            have hT := tst_lt (b := mb t I) hz0 (by omega : ¬ tkd (mb t I) z r.2.1 = 0)
            have hT2 := tst_z (b := mb t I) hz0
            have hq := hg (mb t I) z _ hT2
            refine s_nextM (by omega) hC (by rw [hM.1.mbe, hk]; decide) (fun J1 L3 n1 hC1 => ?_)
            rw [hM.1.mbe] at hC1
            refine r_aload_n rfl ?_
            refine r_virtual (vs := []) (as := []) (by decide) (zl rfl) rfl rfl (zl rfl) (Nat.le_refl _) (Or.inr (Or.inr ⟨zt rfl, rfl, zt rfl⟩)) ?_
            refine hel J1 L3 _ t _ z w hC1 (fun J2 L4 v2 hM2 => ?_)
            rw [n1.v.mbe, hM.1.mbe] at hM2
            refine r_istore_n (ls' := [_, _, _, _]) (zt rfl) rfl ?_
            refine r_iload_n rfl ?_
            refine r_if_eq (fun c_50 => ?_) (fun c_50 => ?_)
            · have c_50 := (n_eq (a := 0) (b := 0) rfl rfl (by omega) (by omega)).mp c_50
              refine E_go 5 rfl ?_
              refine r_iload_n rfl ?_
              refine r_iload_n rfl ?_
              refine r_isub ?_
              refine r_nil ?_
              refine E_go 6 rfl ?_
              refine r_istore_n (ls' := [_, _, _, _]) (zt rfl) rfl ?_
              refine r_goto ?_
              refine ih (d - 1) (by omega) ((F (mb t I) z (tst (mb t I) z r.2.1)).1, (F (mb t I) z (tst (mb t I) z r.2.1)).2.1, r.2.2 ++ ((F (mb t I) z (tst (mb t I) z r.2.1)).2.2 ++ [-45])) J2 L4 _ _ _ ?_ ?_ ?_ (MR_app hM hr n1.v hM2 (fun st => e_sub))
              · rw [hr0]; exact pLp_s (by omega) hr hop
              · dsimp only; omega
              · exact hq.1.2
            · have c_50 := (not_congr (n_eq (a := 0) (b := 0) rfl rfl (by omega) (by omega))).mp c_50
              omega
          · exact absurd (lg_eq.mp c_31) (mK_45 hC.2.2.2.1 (by rw [hM.1.mbe]; exact b01n.mp c_20))
    · refine E_go 1 rfl ?_
      refine r_aload_n rfl ?_
      refine r_bipush ?_
      refine r_virtual (vs := []) (as := [_]) (by decide) (zl rfl) rfl rfl (zl rfl) (Nat.le_refl _) (Or.inr (Or.inr ⟨zt rfl, rfl, zt rfl⟩)) ?_
      refine s_isSignB (by omega) (hM.2.2 hr).1 ?_
      refine r_if_ne (fun c_11 => ?_) (fun c_11 => ?_)
      · have c_11 := (not_congr (n_eq (a := 0) (b := 0) rfl rfl (by omega) (by omega))).mp c_11
        omega
      · have c_11 := (n_eq (a := 0) (b := 0) rfl rfl (by omega) (by omega)).mp c_11
        refine r_aload_n rfl ?_
        refine r_bipush ?_
        refine r_virtual (vs := []) (as := [_]) (by decide) (zl rfl) rfl rfl (zl rfl) (Nat.le_refl _) (Or.inr (Or.inr ⟨zt rfl, rfl, zt rfl⟩)) ?_
        refine s_isSignB (by omega) (hM.2.2 hr).1 ?_
        refine r_if_eq (fun c_20 => ?_) (fun c_20 => ?_)
        · have c_20 := (n_eq (a := 0) (b := 0) rfl rfl (by omega) (by omega)).mp c_20
          refine E_go 7 rfl ?_
          refine r_iload_n rfl ?_
          refine r_iret rfl trivial ?_
          have e : pLp (tkd (mb t I) z) (tst (mb t I) z) opS (F (mb t I) z) 160 (F (mb t I) z i) = r := by rw [hr0]; exact pLp_f hr
          have hQ2 := hQ J L2 v
          rw [e] at hQ2
          exact hQ2 hM
        · have c_20 := (not_congr (n_eq (a := 0) (b := 0) rfl rfl (by omega) (by omega))).mp c_20
          omega
  refine M_go (ls := [_, _, _, _]) (ml := 4) rfl rfl rfl (zl rfl) rfl ?_
  refine r_aload_n rfl ?_
  refine r_virtual (vs := []) (as := []) (by decide) (zl rfl) rfl rfl (zl rfl) (Nat.le_refl _) (Or.inr (Or.inr ⟨zt rfl, rfl, zt rfl⟩)) ?_
  refine hel I L _ t i z w h (fun J L2 v hM => ?_)
  refine r_istore_n (ls' := [_, _, _, _]) (zt rfl) rfl ?_
  refine r_nil ?_
  refine key 160 (F (mb t I) z i) J L2 v _ _ rfl ?_ ?_ hM
  · have := h.1.2.1; have := hg (mb t I) z i h.1.2.2; omega
  · exact (hg (mb t I) z i h.1.2.2).1.2

set_option maxRecDepth 10000 in
theorem s_not4 {xs : xSc} {m o : Nat} {F G : PFn} (hm : 10 ≤ m) (hg : ∀ b z, gd z (F b z)) (hel : Mp xs xi_X7_added4 m o F) (hd5 : o < 5) (hdp : Mp xs xi_X7_not5 m (o + 1) G) : Mp xs xi_X7_not4 (m + 1) o (fun b z i => pNt (tkd b z) (tst b z) (some (G b z)) (pCm (tkd b z) (tst b z) (F b z)) i) := by
  intro I L Q t i z w h hQ
  dsimp only at hQ
  refine M_go (ls := [_, _, _, _]) (ml := 4) rfl rfl rfl (zl rfl) rfl ?_
  refine r_aload_n rfl ?_
  refine r_bipush ?_
  refine r_bipush ?_
  refine r_bipush ?_
  refine r_iconst ?_
  refine r_iconst ?_
  refine r_iconst ?_
  refine r_iconst ?_
  refine r_iconst ?_
  refine r_virtual (vs := []) (as := [_, _, _, _, _, _, _, _]) (by decide) (zl rfl) rfl rfl (zl rfl) (Nat.le_refl _) (Or.inr (Or.inr ⟨zt rfl, rfl, zt rfl⟩)) ?_
  refine s_isW_8 (t := t) (z := z) (i := i) (by omega) h.1.1 h.1.2.1 h.2.1.1 h.2.1.2.1 h.1.2.2 h.2.1.2.2.2 h.2.2.2.1 ?_
  refine r_if_eq (fun c_15 => ?_) (fun c_15 => ?_)
  · refine E_go 4 rfl ?_
    refine r_aload_n rfl ?_
    refine r_virtual (vs := []) (as := []) (by decide) (zl rfl) rfl rfl (zl rfl) (Nat.le_refl _) (Or.inr (Or.inr ⟨zt rfl, rfl, zt rfl⟩)) ?_
    refine hel I L _ t i z w h (fun J L2 v hM => ?_)
    have hg1 := hg (mb t I) z i h.1.2.2
    by_cases hr : (F (mb t I) z i).1 = true
    · have hC := MR_c h hM hr hg1.1.2
      refine r_istore_n (ls' := [_, _, _, _]) (zt rfl) rfl ?_
      refine r_aload_n rfl ?_
      refine r_bipush ?_
      refine r_virtual (vs := []) (as := [_]) (by decide) (zl rfl) rfl rfl (zl rfl) (Nat.le_refl _) (Or.inr (Or.inr ⟨zt rfl, rfl, zt rfl⟩)) ?_
      refine s_isSign (t := t) (z := z) (i := (F (mb t I) z i).2.1) (c := 60) (by omega) rfl (by omega) (by omega) hC.2.1.2.2.2 hC.2.2.2.1 ?_
      rw [hM.1.mbe]
      refine r_if_ne (fun c_63 => ?_) (fun c_63 => ?_)
      · refine E_go 5 rfl ?_
        refine r_aload_n rfl ?_
        refine r_getJ (by decide) rfl rfl (by decide) rfl ?_
        refine r_ldc2_w ?_
        refine r_lcmp ?_
        refine r_if_ne (fun c_85 => ?_) (fun c_85 => ?_)
        · exact absurd (lg_eq.mpr (mK_60 hC.2.2.2.1 (by rw [hM.1.mbe]; exact b01n.mp c_63))) c_85
        · refine r_iconst ?_
          refine r_goto ?_
          refine E_go 7 rfl ?_
          refine r_istore_n (ls' := [_, _, _, _]) (zt rfl) rfl ?_
          refine r_aload_n rfl ?_
          refine r_virtual (vs := []) (as := []) (by decide) (zl rfl) rfl rfl (zl rfl) (Nat.le_refl _) (Or.inr (Or.inr ⟨zt rfl, rfl, zt rfl⟩)) ?_
          have hk : tkd (mb t I) z (F (mb t I) z i).2.1 = 60 := b01n.mp c_63
          refine s_nextM (by omega) hC (by rw [hM.1.mbe, hk]; decide) (fun J1 L3 n1 hC1 => ?_)
          rw [hM.1.mbe] at hC1
          refine r_aload_n rfl ?_
          refine r_virtual (vs := []) (as := []) (by decide) (zl rfl) rfl rfl (zl rfl) (Nat.le_refl _) (Or.inr (Or.inr ⟨zt rfl, rfl, zt rfl⟩)) ?_
          refine hel J1 L3 _ t _ z w hC1 (fun J2 L4 v2 hM2 => ?_)
          rw [n1.v.mbe, hM.1.mbe] at hM2
          refine r_istore_n (ls' := [_, _, _, _]) (zt rfl) rfl ?_
          refine r_iload_n rfl ?_
          refine r_if_eq (fun c_104 => ?_) (fun c_104 => ?_)
          · have c_104 := (n_eq (a := 1) (b := 0) rfl rfl (by omega) (by omega)).mp c_104
            omega
          · have c_104 := (not_congr (n_eq (a := 1) (b := 0) rfl rfl (by omega) (by omega))).mp c_104
            refine r_iload_n rfl ?_
            refine r_iload_n rfl ?_
            refine r_icmp_ge (fun c_109 => ?_) (fun c_109 => ?_)
            · refine E_go 10 rfl ?_
              refine r_iconst ?_
              refine r_nil ?_
              refine E_go 11 rfl ?_
              refine r_iret rfl trivial ?_
              refine hQ _ _ _ ?_
              rw [pNt_n (b01.mp c_15), pCm_y hr (by omega), hk]
              exact MR_app (ww := -(io 60)) hM hr n1.v hM2 (fun st => by rw [show -(io 60) = (-60 : Int32) from rfl, e_lt, if_neg (Int32.not_lt.mpr c_109)])
            · refine r_goto ?_
              refine E_go 9 rfl ?_
              refine r_iconst ?_
              refine r_goto ?_
              refine E_go 11 rfl ?_
              refine r_iret rfl trivial ?_
              refine hQ _ _ _ ?_
              rw [pNt_n (b01.mp c_15), pCm_y hr (by omega), hk]
              exact MR_app (ww := -(io 60)) hM hr n1.v hM2 (fun st => by rw [show -(io 60) = (-60 : Int32) from rfl, e_lt, if_pos (Int32.not_le.mp c_109)])
      · refine r_aload_n rfl ?_
        refine r_bipush ?_
        refine r_virtual (vs := []) (as := [_]) (by decide) (zl rfl) rfl rfl (zl rfl) (Nat.le_refl _) (Or.inr (Or.inr ⟨zt rfl, rfl, zt rfl⟩)) ?_
        refine s_isSign (t := t) (z := z) (i := (F (mb t I) z i).2.1) (c := 61) (by omega) rfl (by omega) (by omega) hC.2.1.2.2.2 hC.2.2.2.1 ?_
        rw [hM.1.mbe]
        refine r_if_ne (fun c_72 => ?_) (fun c_72 => ?_)
        · refine E_go 5 rfl ?_
          refine r_aload_n rfl ?_
          refine r_getJ (by decide) rfl rfl (by decide) rfl ?_
          refine r_ldc2_w ?_
          refine r_lcmp ?_
          refine r_if_ne (fun c_85 => ?_) (fun c_85 => ?_)
          · refine E_go 6 rfl ?_
            refine r_iconst ?_
            refine r_nil ?_
            refine E_go 7 rfl ?_
            refine r_istore_n (ls' := [_, _, _, _]) (zt rfl) rfl ?_
            refine r_aload_n rfl ?_
            refine r_virtual (vs := []) (as := []) (by decide) (zl rfl) rfl rfl (zl rfl) (Nat.le_refl _) (Or.inr (Or.inr ⟨zt rfl, rfl, zt rfl⟩)) ?_
            have hk : tkd (mb t I) z (F (mb t I) z i).2.1 = 61 := b01n.mp c_72
            refine s_nextM (by omega) hC (by rw [hM.1.mbe, hk]; decide) (fun J1 L3 n1 hC1 => ?_)
            rw [hM.1.mbe] at hC1
            refine r_aload_n rfl ?_
            refine r_virtual (vs := []) (as := []) (by decide) (zl rfl) rfl rfl (zl rfl) (Nat.le_refl _) (Or.inr (Or.inr ⟨zt rfl, rfl, zt rfl⟩)) ?_
            refine hel J1 L3 _ t _ z w hC1 (fun J2 L4 v2 hM2 => ?_)
            rw [n1.v.mbe, hM.1.mbe] at hM2
            refine r_istore_n (ls' := [_, _, _, _]) (zt rfl) rfl ?_
            refine r_iload_n rfl ?_
            refine r_if_eq (fun c_104 => ?_) (fun c_104 => ?_)
            · have c_104 := (n_eq (a := 0) (b := 0) rfl rfl (by omega) (by omega)).mp c_104
              refine E_go 8 rfl ?_
              refine r_iload_n rfl ?_
              refine r_iload_n rfl ?_
              refine r_icmp_ne (fun c_117 => ?_) (fun c_117 => ?_)
              · refine E_go 10 rfl ?_
                refine r_iconst ?_
                refine r_nil ?_
                refine E_go 11 rfl ?_
                refine r_iret rfl trivial ?_
                refine hQ _ _ _ ?_
                rw [pNt_n (b01.mp c_15), pCm_y hr (by omega), hk]
                exact MR_app (ww := -(io 61)) hM hr n1.v hM2 (fun st => by rw [show -(io 61) = (-61 : Int32) from rfl, e_eq, if_neg c_117])
              · refine r_nil ?_
                refine E_go 9 rfl ?_
                refine r_iconst ?_
                refine r_goto ?_
                refine E_go 11 rfl ?_
                refine r_iret rfl trivial ?_
                refine hQ _ _ _ ?_
                rw [pNt_n (b01.mp c_15), pCm_y hr (by omega), hk]
                exact MR_app (ww := -(io 61)) hM hr n1.v hM2 (fun st => by rw [show -(io 61) = (-61 : Int32) from rfl, e_eq, if_pos c_117])
            · have c_104 := (not_congr (n_eq (a := 0) (b := 0) rfl rfl (by omega) (by omega))).mp c_104
              omega
          · exact absurd (lg_eq.mp c_85) (mK_61 hC.2.2.2.1 (by rw [hM.1.mbe]; exact b01n.mp c_72))
        · refine r_iload_n rfl ?_
          refine r_iret rfl trivial ?_
          refine hQ _ _ _ ?_
          rw [pNt_n (b01.mp c_15), pCm_n ?_]
          · exact hM
          · have q1 := b01.mp c_63
            have q2 := b01.mp c_72
            exact fun q => by omega
    · have hb := (hM.2.2 hr).1
      refine r_istore_n (ls' := [_, _, _, _]) (zt rfl) rfl ?_
      refine r_aload_n rfl ?_
      refine r_bipush ?_
      refine r_virtual (vs := []) (as := [_]) (by decide) (zl rfl) rfl rfl (zl rfl) (Nat.le_refl _) (Or.inr (Or.inr ⟨zt rfl, rfl, zt rfl⟩)) ?_
      refine s_isSignB (by omega) hb ?_
      refine r_if_ne (fun c_63 => ?_) (fun c_63 => ?_)
      · have c_63 := (not_congr (n_eq (a := 0) (b := 0) rfl rfl (by omega) (by omega))).mp c_63
        omega
      · have c_63 := (n_eq (a := 0) (b := 0) rfl rfl (by omega) (by omega)).mp c_63
        refine r_aload_n rfl ?_
        refine r_bipush ?_
        refine r_virtual (vs := []) (as := [_]) (by decide) (zl rfl) rfl rfl (zl rfl) (Nat.le_refl _) (Or.inr (Or.inr ⟨zt rfl, rfl, zt rfl⟩)) ?_
        refine s_isSignB (by omega) hb ?_
        refine r_if_ne (fun c_72 => ?_) (fun c_72 => ?_)
        · have c_72 := (not_congr (n_eq (a := 0) (b := 0) rfl rfl (by omega) (by omega))).mp c_72
          omega
        · have c_72 := (n_eq (a := 0) (b := 0) rfl rfl (by omega) (by omega)).mp c_72
          refine r_iload_n rfl ?_
          refine r_iret rfl trivial ?_
          refine hQ _ _ _ ?_
          rw [pNt_n (b01.mp c_15), pCm_n ?_]
          · exact hM
          · exact fun q => absurd q.1 hr
  · refine r_aload_n rfl ?_
    refine r_virtual (vs := []) (as := []) (by decide) (zl rfl) rfl rfl (zl rfl) (Nat.le_refl _) (Or.inr (Or.inr ⟨zt rfl, rfl, zt rfl⟩)) ?_
    have hk : tkd (mb t I) z i = 8 := b01n.mp c_15
    refine s_opensS (by omega) hd5 h (by omega) (fun J1 L3 v1 hC1 => ?_)
    refine r_if_ne (fun c_22 => ?_) (fun c_22 => ?_)
    · have c_22 := (not_congr (n_eq (a := 1) (b := 0) rfl rfl (by omega) (by omega))).mp c_22
      refine E_go 1 rfl ?_
      refine r_aload_n rfl ?_
      refine r_virtual (vs := []) (as := []) (by decide) (zl rfl) rfl rfl (zl rfl) (Nat.le_refl _) (Or.inr (Or.inr ⟨zt rfl, rfl, zt rfl⟩)) ?_
      refine hdp J1 L3 _ t _ z w hC1 (fun J2 L4 v hM2 => ?_)
      rw [v1.mbe] at hM2
      refine r_istore_n (ls' := [_, _, _, _]) (zt rfl) rfl ?_
      refine r_aload_n rfl ?_
      refine r_dup rfl ?_
      refine r_getI (by decide) rfl rfl (by decide) rfl ?_
      refine r_iconst ?_
      refine r_isub ?_
      refine r_putI rfl rfl (by decide) ?_
      refine r_iload_n rfl ?_
      refine r_if_ne (fun c_43 => ?_) (fun c_43 => ?_)
      · refine E_go 2 rfl ?_
        refine r_iconst ?_
        refine r_nil ?_
        refine E_go 3 rfl ?_
        refine r_iret rfl trivial ?_
        refine hQ _ _ _ ?_
        rw [pNt_8 hk]
        exact MR_op v1 hM2 (fun st => by rw [e_not, if_neg c_43])
      · refine r_iconst ?_
        refine r_goto ?_
        refine E_go 3 rfl ?_
        refine r_iret rfl trivial ?_
        refine hQ _ _ _ ?_
        rw [pNt_8 hk]
        exact MR_op v1 hM2 (fun st => by rw [e_not, if_pos c_43])
    · have c_22 := (n_eq (a := 1) (b := 0) rfl rfl (by omega) (by omega)).mp c_22
      omega

set_option maxRecDepth 10000 in
theorem s_both4 {xs : xSc} {m o : Nat} {F : PFn} (hm : 10 ≤ m) (hg : ∀ b z, gd z (F b z)) (hel : Mp xs xi_X7_not4 m o F) : Mp xs xi_X7_both4 (m + 1) o (fun b z i => pLp (tkd b z) (tst b z) opA (F b z) 160 (F b z i)) := by
  intro I L Q t i z w h hQ
  dsimp only at hQ
  have key : ∀ d (r : PR) (J : Nat → Nat → Int32) (L2 : Nat → Nat → Int64) (v : Int32) (x0 : Value), pLp (tkd (mb t I) z) (tst (mb t I) z) opA (F (mb t I) z) 160 (F (mb t I) z i) = pLp (tkd (mb t I) z) (tst (mb t I) z) opA (F (mb t I) z) d r → z ≤ r.2.1 + d → r.2.1 ≤ z → MR t z o w r I J L2 v → E xs m xi_X7_both4 82 Q 5 [.ref 61, .int v, x0] [] (82, J, L2, xF0) := by
    intro d
    induction d using Nat.strongRecOn with
    | _ d ih =>
    intro r J L2 v x0 hr0 hd hz0 hM
    by_cases hr : r.1 = true
    · have hC := MR_c h hM hr hz0
      refine E_go 1 rfl ?_
      refine r_aload_n rfl ?_
      refine r_bipush ?_
      refine r_bipush ?_
      refine r_bipush ?_
      refine r_iconst ?_
      refine r_iconst ?_
      refine r_iconst ?_
      refine r_iconst ?_
      refine r_iconst ?_
      refine r_virtual (vs := []) (as := [_, _, _, _, _, _, _, _]) (by decide) (zl rfl) rfl rfl (zl rfl) (Nat.le_refl _) (Or.inr (Or.inr ⟨zt rfl, rfl, zt rfl⟩)) ?_
      refine s_isW_7 (t := t) (z := z) (i := r.2.1) (by omega) hC.1.1 hC.1.2.1 hC.2.1.1 hC.2.1.2.1 hz0 hC.2.1.2.2.2 hC.2.2.2.1 ?_
      rw [hM.1.mbe]
      refine r_if_eq (fun c_20 => ?_) (fun c_20 => ?_)
      · refine E_go 4 rfl ?_
        refine r_iload_n rfl ?_
        refine r_iret rfl trivial ?_
        have e : pLp (tkd (mb t I) z) (tst (mb t I) z) opA (F (mb t I) z) 160 (F (mb t I) z i) = r := by rw [hr0]; exact pLp_n (by simp [opA, b01.mp c_20])
        have hQ2 := hQ J L2 v
        rw [e] at hQ2
        exact hQ2 hM
      · refine r_aload_n rfl ?_
        refine r_virtual (vs := []) (as := []) (by decide) (zl rfl) rfl rfl (zl rfl) (Nat.le_refl _) (Or.inr (Or.inr ⟨zt rfl, rfl, zt rfl⟩)) ?_
        have hk : tkd (mb t I) z r.2.1 = 7 := b01n.mp c_20
        have hop : opA (tkd (mb t I) z r.2.1) = some (-7) := by rw [hk]; rfl
        have hT := tst_lt (b := mb t I) hz0 (by omega : ¬ tkd (mb t I) z r.2.1 = 0)
        have hT2 := tst_z (b := mb t I) hz0
        have hq := hg (mb t I) z _ hT2
        refine s_nextM (by omega) hC (by rw [hM.1.mbe, hk]; decide) (fun J1 L3 n1 hC1 => ?_)
        rw [hM.1.mbe] at hC1
        refine r_aload_n rfl ?_
        refine r_virtual (vs := []) (as := []) (by decide) (zl rfl) rfl rfl (zl rfl) (Nat.le_refl _) (Or.inr (Or.inr ⟨zt rfl, rfl, zt rfl⟩)) ?_
        refine hel J1 L3 _ t _ z w hC1 (fun J2 L4 v2 hM2 => ?_)
        rw [n1.v.mbe, hM.1.mbe] at hM2
        refine r_istore_n (ls' := [_, _, _]) (zt rfl) rfl ?_
        refine r_iload_n rfl ?_
        refine r_if_eq (fun c_33 => ?_) (fun c_33 => ?_)
        · refine E_go 2 rfl ?_
          refine r_iconst ?_
          refine r_nil ?_
          refine E_go 3 rfl ?_
          refine r_istore_n (ls' := [_, _, _]) (zt rfl) rfl ?_
          refine r_goto ?_
          refine ih (d - 1) (by omega) ((F (mb t I) z (tst (mb t I) z r.2.1)).1, (F (mb t I) z (tst (mb t I) z r.2.1)).2.1, r.2.2 ++ ((F (mb t I) z (tst (mb t I) z r.2.1)).2.2 ++ [-7])) J2 L4 _ _ ?_ ?_ ?_ (MR_app hM hr n1.v hM2 (fun st => by first | rw [e_and, if_pos c_33] | rw [e_and, if_neg c_33, if_pos c_37]))
          · rw [hr0]; exact pLp_s (by omega) hr hop
          · dsimp only; omega
          · exact hq.1.2
        · refine r_iload_n rfl ?_
          refine r_if_eq (fun c_37 => ?_) (fun c_37 => ?_)
          · refine E_go 2 rfl ?_
            refine r_iconst ?_
            refine r_nil ?_
            refine E_go 3 rfl ?_
            refine r_istore_n (ls' := [_, _, _]) (zt rfl) rfl ?_
            refine r_goto ?_
            refine ih (d - 1) (by omega) ((F (mb t I) z (tst (mb t I) z r.2.1)).1, (F (mb t I) z (tst (mb t I) z r.2.1)).2.1, r.2.2 ++ ((F (mb t I) z (tst (mb t I) z r.2.1)).2.2 ++ [-7])) J2 L4 _ _ ?_ ?_ ?_ (MR_app hM hr n1.v hM2 (fun st => by first | rw [e_and, if_pos c_33] | rw [e_and, if_neg c_33, if_pos c_37]))
            · rw [hr0]; exact pLp_s (by omega) hr hop
            · dsimp only; omega
            · exact hq.1.2
          · refine r_iconst ?_
            refine r_goto ?_
            refine E_go 3 rfl ?_
            refine r_istore_n (ls' := [_, _, _]) (zt rfl) rfl ?_
            refine r_goto ?_
            refine ih (d - 1) (by omega) ((F (mb t I) z (tst (mb t I) z r.2.1)).1, (F (mb t I) z (tst (mb t I) z r.2.1)).2.1, r.2.2 ++ ((F (mb t I) z (tst (mb t I) z r.2.1)).2.2 ++ [-7])) J2 L4 _ _ ?_ ?_ ?_ (MR_app hM hr n1.v hM2 (fun st => by rw [e_and, if_neg c_33, if_neg c_37]))
            · rw [hr0]; exact pLp_s (by omega) hr hop
            · dsimp only; omega
            · exact hq.1.2
    · refine E_go 1 rfl ?_
      refine r_aload_n rfl ?_
      refine r_bipush ?_
      refine r_bipush ?_
      refine r_bipush ?_
      refine r_iconst ?_
      refine r_iconst ?_
      refine r_iconst ?_
      refine r_iconst ?_
      refine r_iconst ?_
      refine r_virtual (vs := []) (as := [_, _, _, _, _, _, _, _]) (by decide) (zl rfl) rfl rfl (zl rfl) (Nat.le_refl _) (Or.inr (Or.inr ⟨zt rfl, rfl, zt rfl⟩)) ?_
      refine s_isWordB (by omega) (hM.2.2 hr).1 ?_
      refine r_if_eq (fun c_20 => ?_) (fun c_20 => ?_)
      · have c_20 := (n_eq (a := 0) (b := 0) rfl rfl (by omega) (by omega)).mp c_20
        refine E_go 4 rfl ?_
        refine r_iload_n rfl ?_
        refine r_iret rfl trivial ?_
        have e : pLp (tkd (mb t I) z) (tst (mb t I) z) opA (F (mb t I) z) 160 (F (mb t I) z i) = r := by rw [hr0]; exact pLp_f hr
        have hQ2 := hQ J L2 v
        rw [e] at hQ2
        exact hQ2 hM
      · have c_20 := (not_congr (n_eq (a := 0) (b := 0) rfl rfl (by omega) (by omega))).mp c_20
        omega
  refine M_go (ls := [_, _, _]) (ml := 3) rfl rfl rfl (zl rfl) rfl ?_
  refine r_aload_n rfl ?_
  refine r_virtual (vs := []) (as := []) (by decide) (zl rfl) rfl rfl (zl rfl) (Nat.le_refl _) (Or.inr (Or.inr ⟨zt rfl, rfl, zt rfl⟩)) ?_
  refine hel I L _ t i z w h (fun J L2 v hM => ?_)
  refine r_istore_n (ls' := [_, _, _]) (zt rfl) rfl ?_
  refine r_nil ?_
  refine key 160 (F (mb t I) z i) J L2 v _ rfl ?_ ?_ hM
  · have := h.1.2.1; have := hg (mb t I) z i h.1.2.2; omega
  · exact (hg (mb t I) z i h.1.2.2).1.2

set_option maxRecDepth 10000 in
theorem s_either4 {xs : xSc} {m o : Nat} {F : PFn} (hm : 10 ≤ m) (hg : ∀ b z, gd z (F b z)) (hel : Mp xs xi_X7_both4 m o F) : Mp xs xi_X7_either4 (m + 1) o (fun b z i => pLp (tkd b z) (tst b z) opO (F b z) 160 (F b z i)) := by
  intro I L Q t i z w h hQ
  dsimp only at hQ
  have key : ∀ d (r : PR) (J : Nat → Nat → Int32) (L2 : Nat → Nat → Int64) (v : Int32) (x0 : Value), pLp (tkd (mb t I) z) (tst (mb t I) z) opO (F (mb t I) z) 160 (F (mb t I) z i) = pLp (tkd (mb t I) z) (tst (mb t I) z) opO (F (mb t I) z) d r → z ≤ r.2.1 + d → r.2.1 ≤ z → MR t z o w r I J L2 v → E xs m xi_X7_either4 82 Q 5 [.ref 61, .int v, x0] [] (82, J, L2, xF0) := by
    intro d
    induction d using Nat.strongRecOn with
    | _ d ih =>
    intro r J L2 v x0 hr0 hd hz0 hM
    by_cases hr : r.1 = true
    · have hC := MR_c h hM hr hz0
      refine E_go 1 rfl ?_
      refine r_aload_n rfl ?_
      refine r_bipush ?_
      refine r_bipush ?_
      refine r_iconst ?_
      refine r_iconst ?_
      refine r_iconst ?_
      refine r_iconst ?_
      refine r_iconst ?_
      refine r_iconst ?_
      refine r_virtual (vs := []) (as := [_, _, _, _, _, _, _, _]) (by decide) (zl rfl) rfl rfl (zl rfl) (Nat.le_refl _) (Or.inr (Or.inr ⟨zt rfl, rfl, zt rfl⟩)) ?_
      refine s_isW_6 (t := t) (z := z) (i := r.2.1) (by omega) hC.1.1 hC.1.2.1 hC.2.1.1 hC.2.1.2.1 hz0 hC.2.1.2.2.2 hC.2.2.2.1 ?_
      rw [hM.1.mbe]
      refine r_if_eq (fun c_19 => ?_) (fun c_19 => ?_)
      · refine E_go 5 rfl ?_
        refine r_iload_n rfl ?_
        refine r_iret rfl trivial ?_
        have e : pLp (tkd (mb t I) z) (tst (mb t I) z) opO (F (mb t I) z) 160 (F (mb t I) z i) = r := by rw [hr0]; exact pLp_n (by simp [opO, b01.mp c_19])
        have hQ2 := hQ J L2 v
        rw [e] at hQ2
        exact hQ2 hM
      · refine r_aload_n rfl ?_
        refine r_virtual (vs := []) (as := []) (by decide) (zl rfl) rfl rfl (zl rfl) (Nat.le_refl _) (Or.inr (Or.inr ⟨zt rfl, rfl, zt rfl⟩)) ?_
        have hk : tkd (mb t I) z r.2.1 = 6 := b01n.mp c_19
        have hop : opO (tkd (mb t I) z r.2.1) = some (-6) := by rw [hk]; rfl
        have hT := tst_lt (b := mb t I) hz0 (by omega : ¬ tkd (mb t I) z r.2.1 = 0)
        have hT2 := tst_z (b := mb t I) hz0
        have hq := hg (mb t I) z _ hT2
        refine s_nextM (by omega) hC (by rw [hM.1.mbe, hk]; decide) (fun J1 L3 n1 hC1 => ?_)
        rw [hM.1.mbe] at hC1
        refine r_aload_n rfl ?_
        refine r_virtual (vs := []) (as := []) (by decide) (zl rfl) rfl rfl (zl rfl) (Nat.le_refl _) (Or.inr (Or.inr ⟨zt rfl, rfl, zt rfl⟩)) ?_
        refine hel J1 L3 _ t _ z w hC1 (fun J2 L4 v2 hM2 => ?_)
        rw [n1.v.mbe, hM.1.mbe] at hM2
        refine r_istore_n (ls' := [_, _, _]) (zt rfl) rfl ?_
        refine r_iload_n rfl ?_
        refine r_if_ne (fun c_32 => ?_) (fun c_32 => ?_)
        · refine E_go 2 rfl ?_
          refine r_iconst ?_
          refine r_goto ?_
          refine E_go 4 rfl ?_
          refine r_istore_n (ls' := [_, _, _]) (zt rfl) rfl ?_
          refine r_goto ?_
          refine ih (d - 1) (by omega) ((F (mb t I) z (tst (mb t I) z r.2.1)).1, (F (mb t I) z (tst (mb t I) z r.2.1)).2.1, r.2.2 ++ ((F (mb t I) z (tst (mb t I) z r.2.1)).2.2 ++ [-6])) J2 L4 _ _ ?_ ?_ ?_ (MR_app hM hr n1.v hM2 (fun st => by first | rw [e_or, if_neg c_32] | rw [e_or, if_pos c_32, if_neg c_36]))
          · rw [hr0]; exact pLp_s (by omega) hr hop
          · dsimp only; omega
          · exact hq.1.2
        · refine r_iload_n rfl ?_
          refine r_if_eq (fun c_36 => ?_) (fun c_36 => ?_)
          · refine E_go 3 rfl ?_
            refine r_iconst ?_
            refine r_nil ?_
            refine E_go 4 rfl ?_
            refine r_istore_n (ls' := [_, _, _]) (zt rfl) rfl ?_
            refine r_goto ?_
            refine ih (d - 1) (by omega) ((F (mb t I) z (tst (mb t I) z r.2.1)).1, (F (mb t I) z (tst (mb t I) z r.2.1)).2.1, r.2.2 ++ ((F (mb t I) z (tst (mb t I) z r.2.1)).2.2 ++ [-6])) J2 L4 _ _ ?_ ?_ ?_ (MR_app hM hr n1.v hM2 (fun st => by rw [e_or, if_pos c_32, if_pos c_36]))
            · rw [hr0]; exact pLp_s (by omega) hr hop
            · dsimp only; omega
            · exact hq.1.2
          · refine r_nil ?_
            refine E_go 2 rfl ?_
            refine r_iconst ?_
            refine r_goto ?_
            refine E_go 4 rfl ?_
            refine r_istore_n (ls' := [_, _, _]) (zt rfl) rfl ?_
            refine r_goto ?_
            refine ih (d - 1) (by omega) ((F (mb t I) z (tst (mb t I) z r.2.1)).1, (F (mb t I) z (tst (mb t I) z r.2.1)).2.1, r.2.2 ++ ((F (mb t I) z (tst (mb t I) z r.2.1)).2.2 ++ [-6])) J2 L4 _ _ ?_ ?_ ?_ (MR_app hM hr n1.v hM2 (fun st => by first | rw [e_or, if_neg c_32] | rw [e_or, if_pos c_32, if_neg c_36]))
            · rw [hr0]; exact pLp_s (by omega) hr hop
            · dsimp only; omega
            · exact hq.1.2
    · refine E_go 1 rfl ?_
      refine r_aload_n rfl ?_
      refine r_bipush ?_
      refine r_bipush ?_
      refine r_iconst ?_
      refine r_iconst ?_
      refine r_iconst ?_
      refine r_iconst ?_
      refine r_iconst ?_
      refine r_iconst ?_
      refine r_virtual (vs := []) (as := [_, _, _, _, _, _, _, _]) (by decide) (zl rfl) rfl rfl (zl rfl) (Nat.le_refl _) (Or.inr (Or.inr ⟨zt rfl, rfl, zt rfl⟩)) ?_
      refine s_isWordB (by omega) (hM.2.2 hr).1 ?_
      refine r_if_eq (fun c_19 => ?_) (fun c_19 => ?_)
      · have c_19 := (n_eq (a := 0) (b := 0) rfl rfl (by omega) (by omega)).mp c_19
        refine E_go 5 rfl ?_
        refine r_iload_n rfl ?_
        refine r_iret rfl trivial ?_
        have e : pLp (tkd (mb t I) z) (tst (mb t I) z) opO (F (mb t I) z) 160 (F (mb t I) z i) = r := by rw [hr0]; exact pLp_f hr
        have hQ2 := hQ J L2 v
        rw [e] at hQ2
        exact hQ2 hM
      · have c_19 := (not_congr (n_eq (a := 0) (b := 0) rfl rfl (by omega) (by omega))).mp c_19
        omega
  refine M_go (ls := [_, _, _]) (ml := 3) rfl rfl rfl (zl rfl) rfl ?_
  refine r_aload_n rfl ?_
  refine r_virtual (vs := []) (as := []) (by decide) (zl rfl) rfl rfl (zl rfl) (Nat.le_refl _) (Or.inr (Or.inr ⟨zt rfl, rfl, zt rfl⟩)) ?_
  refine hel I L _ t i z w h (fun J L2 v hM => ?_)
  refine r_istore_n (ls' := [_, _, _]) (zt rfl) rfl ?_
  refine r_nil ?_
  refine key 160 (F (mb t I) z i) J L2 v _ rfl ?_ ?_ hM
  · have := h.1.2.1; have := hg (mb t I) z i h.1.2.2; omega
  · exact (hg (mb t I) z i h.1.2.2).1.2

set_option maxRecDepth 10000 in
theorem s_atom3 {xs : xSc} {m o : Nat} {G G2 : PFn} (hm : 10 ≤ m) (hd5 : o < 5) (hgo : ∀ b z, gd z (G2 b z)) (hda : Mp xs xi_X7_atom4 m (o + 1) G) (hdo : Mp xs xi_X7_either4 m (o + 1) G2) : Mp xs xi_X7_atom3 (m + 1) o (fun b z i => pAt (tkd b z) (tst b z) (twt b z) (some (G b z, G2 b z)) i) := by
  intro I L Q t i z w h hQ
  dsimp only at hQ
  have htc := tcl_lt (b := mb t I) (z := z) (s := tpl (mb t I) z i)
  refine M_go (ls := [_, _]) (ml := 2) rfl rfl rfl (zl rfl) rfl ?_
  refine r_iconst ?_
  refine r_istore_n (ls' := [_, _]) (zt rfl) rfl ?_
  refine r_aload_n rfl ?_
  refine r_bipush ?_
  refine r_virtual (vs := []) (as := [_]) (by decide) (zl rfl) rfl rfl (zl rfl) (Nat.le_refl _) (Or.inr (Or.inr ⟨zt rfl, rfl, zt rfl⟩)) ?_
  refine s_isSign (t := t) (z := z) (i := i) (c := 45) (by omega) rfl (by omega) (by omega) h.2.1.2.2.2 h.2.2.2.1 ?_
  refine r_if_eq (fun c_8 => ?_) (fun c_8 => ?_)
  · refine E_go 1 rfl ?_
    refine r_aload_n rfl ?_
    refine r_bipush ?_
    refine r_virtual (vs := []) (as := [_]) (by decide) (zl rfl) rfl rfl (zl rfl) (Nat.le_refl _) (Or.inr (Or.inr ⟨zt rfl, rfl, zt rfl⟩)) ?_
    refine s_isSign (t := t) (z := z) (i := i) (c := 40) (by omega) rfl (by omega) (by omega) h.2.1.2.2.2 h.2.2.2.1 ?_
    refine r_if_eq (fun c_43 => ?_) (fun c_43 => ?_)
    · refine E_go 3 rfl ?_
      refine r_aload_n rfl ?_
      refine r_getZ (by decide) rfl rfl (by decide) rfl ?_
      refine r_if_ne (fun c_99 => ?_) (fun c_99 => ?_)
      · exact absurd h.2.1.2.2.2 c_99
      · refine r_aload_n rfl ?_
        refine r_getI (by decide) rfl rfl (by decide) h.2.2.2.1.1 ?_
        refine r_iconst ?_
        refine r_icmp_ne (fun c_107 => ?_) (fun c_107 => ?_)
        · have c_107 := (not_congr (n_eq (a := (tcl (mb t I) z (tpl (mb t I) z i))) (b := 2) rfl rfl (by omega) (by omega))).mp c_107
          refine E_go 4 rfl ?_
          refine r_aload_n rfl ?_
          refine r_getZ (by decide) rfl rfl (by decide) rfl ?_
          refine r_if_ne (fun c_127 => ?_) (fun c_127 => ?_)
          · exact absurd h.2.1.2.2.2 c_127
          · refine r_aload_n rfl ?_
            refine r_getI (by decide) rfl rfl (by decide) h.2.2.2.1.1 ?_
            refine r_iconst ?_
            refine r_icmp_ne (fun c_135 => ?_) (fun c_135 => ?_)
            · have c_135 := (not_congr (n_eq (a := (tcl (mb t I) z (tpl (mb t I) z i))) (b := 1) rfl rfl (by omega) (by omega))).mp c_135
              refine E_go 5 rfl ?_
              refine r_aload_n rfl ?_
              refine r_virtual (vs := []) (as := []) (by decide) (zl rfl) rfl rfl (zl rfl) (Nat.le_refl _) (Or.inr (Or.inr ⟨zt rfl, rfl, zt rfl⟩)) ?_
              refine s_fail0 (by omega) h.2.1.2.2.2 ?_
              refine r_nil ?_
              refine E_go 6 rfl ?_
              refine r_iload_n rfl ?_
              refine r_iret rfl trivial ?_
              have q1 := b01.mp c_8
              have q2 := b01.mp c_43
              have q3 : ¬ tkd (mb t I) z i = 2 := fun q => c_107 (tk_2.mpr q)
              have q4 : ¬ (10 ≤ tkd (mb t I) z i ∧ tkd (mb t I) z i < 16) := fun q => c_135 (tk_w (Or.inr q))
              refine hQ _ _ _ ?_
              rw [pAt_f q3 q4 q1 q2]
              exact MR_fl h
            · have c_135 := (n_eq (a := (tcl (mb t I) z (tpl (mb t I) z i))) (b := 1) rfl rfl (by omega) (by omega)).mp c_135
              refine r_aload_n rfl ?_
              refine r_virtual (vs := []) (as := []) (by decide) (zl rfl) rfl rfl (zl rfl) (Nat.le_refl _) (Or.inr (Or.inr ⟨zt rfl, rfl, zt rfl⟩)) ?_
              refine s_name (by omega) h (fun hn1 hn2 => ?_) (fun hn => ?_)
              · skip
                refine r_istore_n (ls' := [_, _]) (zt rfl) rfl ?_
                refine r_aload_n rfl ?_
                refine r_getZ (by decide) rfl rfl (by decide) rfl ?_
                refine r_if_ne (fun c_147 => ?_) (fun c_147 => ?_)
                · exact absurd h.2.1.2.2.2 c_147
                · refine r_aload_n rfl ?_
                  refine r_virtual (vs := []) (as := []) (by decide) (zl rfl) rfl rfl (zl rfl) (Nat.le_refl _) (Or.inr (Or.inr ⟨zt rfl, rfl, zt rfl⟩)) ?_
                  refine s_nextM (by omega) h (by omega) (fun J1 L3 n1 hC1 => ?_)
                  refine r_goto ?_
                  refine E_go 6 rfl ?_
                  refine r_iload_n rfl ?_
                  refine r_iret rfl trivial ?_
                  refine hQ _ _ _ ?_
                  rw [pAt_n hn1 hn2]
                  refine ⟨n1.v, fun _ => ⟨hC1.2.1.2.2, ?_, fun st => ?_⟩, fun q => absurd rfl q⟩
                  · have := hC1.2.2.2.1; rw [n1.v.mbe] at this; exact this
                  · rw [ev_one]; exact e_name hn1 hn2
              · skip
                refine r_istore_n (ls' := [_, _]) (zt rfl) rfl ?_
                refine r_aload_n rfl ?_
                refine r_getZ (by decide) rfl rfl (by decide) rfl ?_
                refine r_if_ne (fun c_147 => ?_) (fun c_147 => ?_)
                · refine E_go 6 rfl ?_
                  refine r_iload_n rfl ?_
                  refine r_iret rfl trivial ?_
                  have q1 := b01.mp c_8
                  have q2 := b01.mp c_43
                  have q3 : ¬ tkd (mb t I) z i = 2 := fun q => c_107 (tk_2.mpr q)
                  have q4 := hn
                  refine hQ _ _ _ ?_
                  rw [pAt_f q3 q4 q1 q2]
                  exact MR_fl h
                · exact absurd (show fl I 61 26 = 0 from c_147) (by simp [fl, up2])
        · have c_107 := (n_eq (a := (tcl (mb t I) z (tpl (mb t I) z i))) (b := 2) rfl rfl (by omega) (by omega)).mp c_107
          refine r_aload_n rfl ?_
          refine r_getJ (by decide) rfl rfl (by decide) rfl ?_
          refine r_l2i ?_
          refine r_istore_n (ls' := [_, _]) (zt rfl) rfl ?_
          refine r_aload_n rfl ?_
          refine r_virtual (vs := []) (as := []) (by decide) (zl rfl) rfl rfl (zl rfl) (Nat.le_refl _) (Or.inr (Or.inr ⟨zt rfl, rfl, zt rfl⟩)) ?_
          have hk : tkd (mb t I) z i = 2 := tk_2.mp c_107
          refine s_nextM (by omega) h (by omega) (fun J1 L3 n1 hC1 => ?_)
          refine r_goto ?_
          refine E_go 6 rfl ?_
          refine r_iload_n rfl ?_
          refine r_iret rfl trivial ?_
          refine hQ _ _ _ ?_
          rw [pAt_2 hk]
          refine ⟨n1.v, fun _ => ⟨hC1.2.1.2.2, ?_, fun st => ?_⟩, fun q => absurd rfl q⟩
          · have := hC1.2.2.2.1; rw [n1.v.mbe] at this; exact this
          · rw [ev_one, h.2.2.2.1.2.2.2.1 c_107]; exact e_num (twt_b hk).1 (twt_b hk).2
    · refine r_aload_n rfl ?_
      refine r_virtual (vs := []) (as := []) (by decide) (zl rfl) rfl rfl (zl rfl) (Nat.le_refl _) (Or.inr (Or.inr ⟨zt rfl, rfl, zt rfl⟩)) ?_
      have hk : tkd (mb t I) z i = 40 := b01n.mp c_43
      refine s_opensS (by omega) hd5 h (by omega) (fun J1 L3 v1 hC1 => ?_)
      refine r_if_eq (fun c_50 => ?_) (fun c_50 => ?_)
      · have c_50 := (n_eq (a := 1) (b := 0) rfl rfl (by omega) (by omega)).mp c_50
        omega
      · have c_50 := (not_congr (n_eq (a := 1) (b := 0) rfl rfl (by omega) (by omega))).mp c_50
        refine r_aload_n rfl ?_
        refine r_virtual (vs := []) (as := []) (by decide) (zl rfl) rfl rfl (zl rfl) (Nat.le_refl _) (Or.inr (Or.inr ⟨zt rfl, rfl, zt rfl⟩)) ?_
        refine hdo J1 L3 _ t _ z w hC1 (fun J2 L4 v hM2 => ?_)
        rw [v1.mbe] at hM2
        have hT2 := tst_z (b := mb t I) h.1.2.2
        have hgq := hgo (mb t I) z _ hT2
        by_cases hr : (G2 (mb t I) z (tst (mb t I) z i)).1 = true
        · have hC2 := MR_c hC1 hM2 hr hgq.1.2
          refine r_istore_n (ls' := [_, _]) (zt rfl) rfl ?_
          refine r_aload_n rfl ?_
          refine r_bipush ?_
          refine r_virtual (vs := []) (as := [_]) (by decide) (zl rfl) rfl rfl (zl rfl) (Nat.le_refl _) (Or.inr (Or.inr ⟨zt rfl, rfl, zt rfl⟩)) ?_
          refine s_isSign (t := t) (z := z) (i := (G2 (mb t I) z (tst (mb t I) z i)).2.1) (c := 41) (by omega) rfl (by omega) (by omega) hC2.2.1.2.2.2 hC2.2.2.2.1 ?_
          rw [hM2.1.mbe, v1.mbe]
          refine r_if_ne (fun c_64 => ?_) (fun c_64 => ?_)
          · refine E_go 2 rfl ?_
            refine r_aload_n rfl ?_
            refine r_dup rfl ?_
            refine r_getI (by decide) rfl rfl (by decide) rfl ?_
            refine r_iconst ?_
            refine r_isub ?_
            refine r_putI rfl rfl (by decide) ?_
            refine r_aload_n rfl ?_
            refine r_getZ (by decide) rfl rfl (by decide) rfl ?_
            refine r_if_ne (fun c_85 => ?_) (fun c_85 => ?_)
            · exact absurd (show J2 61 26 = 0 from hC2.2.1.2.2.2) c_85
            · refine r_aload_n rfl ?_
              refine r_virtual (vs := []) (as := []) (by decide) (zl rfl) rfl rfl (zl rfl) (Nat.le_refl _) (Or.inr (Or.inr ⟨zt rfl, rfl, zt rfl⟩)) ?_
              have hk2 : tkd (mb t I) z (G2 (mb t I) z (tst (mb t I) z i)).2.1 = 41 := b01n.mp c_64
              have hC3 := mCx_op hC2
              refine s_nextM (by omega) hC3 (by rw [mb_op, hM2.1.mbe, v1.mbe, hk2]; decide) (fun J3 L5 n3 hC4 => ?_)
              rw [mb_op, hM2.1.mbe, v1.mbe] at hC4
              refine r_goto ?_
              refine E_go 6 rfl ?_
              refine r_iload_n rfl ?_
              refine r_iret rfl trivial ?_
              refine hQ _ _ _ ?_
              rw [pAt_p1 hk hr hk2]
              exact MR_cl v1 hM2 hr n3 hC4
          · refine r_aload_n rfl ?_
            refine r_virtual (vs := []) (as := []) (by decide) (zl rfl) rfl rfl (zl rfl) (Nat.le_refl _) (Or.inr (Or.inr ⟨zt rfl, rfl, zt rfl⟩)) ?_
            refine s_fail0 (by omega) hC2.2.1.2.2.2 ?_
            refine r_nil ?_
            refine E_go 2 rfl ?_
            refine r_aload_n rfl ?_
            refine r_dup rfl ?_
            refine r_getI (by decide) rfl rfl (by decide) rfl ?_
            refine r_iconst ?_
            refine r_isub ?_
            refine r_putI rfl rfl (by decide) ?_
            refine r_aload_n rfl ?_
            refine r_getZ (by decide) rfl rfl (by decide) rfl ?_
            refine r_if_ne (fun c_85 => ?_) (fun c_85 => ?_)
            · refine E_go 6 rfl ?_
              refine r_iload_n rfl ?_
              refine r_iret rfl trivial ?_
              refine hQ _ _ _ ?_
              rw [pAt_p2 hk hr (b01.mp c_64)]
              exact MR_un v1 hM2 hr hC2
            · exact absurd (show fl J2 61 26 = 0 from c_85) (by simp [fl, up2])
        · have hb := (hM2.2.2 hr).1
          refine r_istore_n (ls' := [_, _]) (zt rfl) rfl ?_
          refine r_aload_n rfl ?_
          refine r_bipush ?_
          refine r_virtual (vs := []) (as := [_]) (by decide) (zl rfl) rfl rfl (zl rfl) (Nat.le_refl _) (Or.inr (Or.inr ⟨zt rfl, rfl, zt rfl⟩)) ?_
          refine s_isSignB (by omega) hb ?_
          refine r_if_ne (fun c_64 => ?_) (fun c_64 => ?_)
          · have c_64 := (not_congr (n_eq (a := 0) (b := 0) rfl rfl (by omega) (by omega))).mp c_64
            omega
          · have c_64 := (n_eq (a := 0) (b := 0) rfl rfl (by omega) (by omega)).mp c_64
            refine r_aload_n rfl ?_
            refine r_virtual (vs := []) (as := []) (by decide) (zl rfl) rfl rfl (zl rfl) (Nat.le_refl _) (Or.inr (Or.inr ⟨zt rfl, rfl, zt rfl⟩)) ?_
            refine s_fail1 (by omega) hb ?_
            refine r_nil ?_
            refine E_go 2 rfl ?_
            refine r_aload_n rfl ?_
            refine r_dup rfl ?_
            refine r_getI (by decide) rfl rfl (by decide) rfl ?_
            refine r_iconst ?_
            refine r_isub ?_
            refine r_putI rfl rfl (by decide) ?_
            refine r_aload_n rfl ?_
            refine r_getZ (by decide) rfl rfl (by decide) rfl ?_
            refine r_if_ne (fun c_85 => ?_) (fun c_85 => ?_)
            · refine E_go 6 rfl ?_
              refine r_iload_n rfl ?_
              refine r_iret rfl trivial ?_
              refine hQ _ _ _ ?_
              rw [pAt_p3 hk hr]
              exact MR_bad hM2 v1 hr
            · exact absurd ((show J2 61 26 = 0 from c_85).symm.trans hb) (by decide)
  · refine r_aload_n rfl ?_
    refine r_virtual (vs := []) (as := []) (by decide) (zl rfl) rfl rfl (zl rfl) (Nat.le_refl _) (Or.inr (Or.inr ⟨zt rfl, rfl, zt rfl⟩)) ?_
    have hk : tkd (mb t I) z i = 45 := b01n.mp c_8
    refine s_opensS (by omega) hd5 h (by omega) (fun J1 L3 v1 hC1 => ?_)
    refine r_if_eq (fun c_15 => ?_) (fun c_15 => ?_)
    · have c_15 := (n_eq (a := 1) (b := 0) rfl rfl (by omega) (by omega)).mp c_15
      omega
    · have c_15 := (not_congr (n_eq (a := 1) (b := 0) rfl rfl (by omega) (by omega))).mp c_15
      refine r_aload_n rfl ?_
      refine r_virtual (vs := []) (as := []) (by decide) (zl rfl) rfl rfl (zl rfl) (Nat.le_refl _) (Or.inr (Or.inr ⟨zt rfl, rfl, zt rfl⟩)) ?_
      refine hda J1 L3 _ t _ z w hC1 (fun J2 L4 v hM2 => ?_)
      rw [v1.mbe] at hM2
      refine r_ineg ?_
      refine r_istore_n (ls' := [_, _]) (zt rfl) rfl ?_
      refine r_aload_n rfl ?_
      refine r_dup rfl ?_
      refine r_getI (by decide) rfl rfl (by decide) rfl ?_
      refine r_iconst ?_
      refine r_isub ?_
      refine r_putI rfl rfl (by decide) ?_
      refine r_goto ?_
      refine E_go 6 rfl ?_
      refine r_iload_n rfl ?_
      refine r_iret rfl trivial ?_
      refine hQ _ _ _ ?_
      rw [pAt_m hk]
      exact MR_op v1 hM2 (fun st => e_neg)

set_option maxRecDepth 10000 in
theorem s_term3 {xs : xSc} {m o : Nat} {F : PFn} (hm : 10 ≤ m) (hg : ∀ b z, gd z (F b z)) (hel : Mp xs xi_X7_atom3 m o F) : Mp xs xi_X7_term3 (m + 1) o (fun b z i => pLp (tkd b z) (tst b z) opT (F b z) 160 (F b z i)) := by
  intro I L Q t i z w h hQ
  dsimp only at hQ
  have key : ∀ d (r : PR) (J : Nat → Nat → Int32) (L2 : Nat → Nat → Int64) (v : Int32) , pLp (tkd (mb t I) z) (tst (mb t I) z) opT (F (mb t I) z) 160 (F (mb t I) z i) = pLp (tkd (mb t I) z) (tst (mb t I) z) opT (F (mb t I) z) d r → z ≤ r.2.1 + d → r.2.1 ≤ z → MR t z o w r I J L2 v → E xs m xi_X7_term3 82 Q 5 [.ref 61, .int v] [] (82, J, L2, xF0) := by
    intro d
    induction d using Nat.strongRecOn with
    | _ d ih =>
    intro r J L2 v  hr0 hd hz0 hM
    by_cases hr : r.1 = true
    · have hC := MR_c h hM hr hz0
      refine E_go 1 rfl ?_
      refine r_aload_n rfl ?_
      refine r_bipush ?_
      refine r_virtual (vs := []) (as := [_]) (by decide) (zl rfl) rfl rfl (zl rfl) (Nat.le_refl _) (Or.inr (Or.inr ⟨zt rfl, rfl, zt rfl⟩)) ?_
      refine s_isSign (t := t) (z := z) (i := r.2.1) (c := 42) (by omega) rfl (by omega) (by omega) hC.2.1.2.2.2 hC.2.2.2.1 ?_
      rw [hM.1.mbe]
      refine r_if_eq (fun c_11 => ?_) (fun c_11 => ?_)
      · refine E_go 2 rfl ?_
        refine r_iload_n rfl ?_
        refine r_iret rfl trivial ?_
        have e : pLp (tkd (mb t I) z) (tst (mb t I) z) opT (F (mb t I) z) 160 (F (mb t I) z i) = r := by rw [hr0]; exact pLp_n (by simp [opT, b01.mp c_11])
        have hQ2 := hQ J L2 v
        rw [e] at hQ2
        exact hQ2 hM
      · refine r_aload_n rfl ?_
        refine r_virtual (vs := []) (as := []) (by decide) (zl rfl) rfl rfl (zl rfl) (Nat.le_refl _) (Or.inr (Or.inr ⟨zt rfl, rfl, zt rfl⟩)) ?_
        have hk : tkd (mb t I) z r.2.1 = 42 := b01n.mp c_11
        have hop : opT (tkd (mb t I) z r.2.1) = some (-42) := by rw [hk]; rfl
        have hT := tst_lt (b := mb t I) hz0 (by omega : ¬ tkd (mb t I) z r.2.1 = 0)
        have hT2 := tst_z (b := mb t I) hz0
        have hq := hg (mb t I) z _ hT2
        refine s_nextM (by omega) hC (by rw [hM.1.mbe, hk]; decide) (fun J1 L3 n1 hC1 => ?_)
        rw [hM.1.mbe] at hC1
        refine r_iload_n rfl ?_
        refine r_aload_n rfl ?_
        refine r_virtual (vs := []) (as := []) (by decide) (zl rfl) rfl rfl (zl rfl) (Nat.le_refl _) (Or.inr (Or.inr ⟨zt rfl, rfl, zt rfl⟩)) ?_
        refine hel J1 L3 _ t _ z w hC1 (fun J2 L4 v2 hM2 => ?_)
        rw [n1.v.mbe, hM.1.mbe] at hM2
        refine r_imul ?_
        refine r_istore_n (ls' := [_, _]) (zt rfl) rfl ?_
        refine r_goto ?_
        refine ih (d - 1) (by omega) ((F (mb t I) z (tst (mb t I) z r.2.1)).1, (F (mb t I) z (tst (mb t I) z r.2.1)).2.1, r.2.2 ++ ((F (mb t I) z (tst (mb t I) z r.2.1)).2.2 ++ [-42])) J2 L4 _ ?_ ?_ ?_ (MR_app hM hr n1.v hM2 (fun st => e_mul))
        · rw [hr0]; exact pLp_s (by omega) hr hop
        · dsimp only; omega
        · exact hq.1.2
    · refine E_go 1 rfl ?_
      refine r_aload_n rfl ?_
      refine r_bipush ?_
      refine r_virtual (vs := []) (as := [_]) (by decide) (zl rfl) rfl rfl (zl rfl) (Nat.le_refl _) (Or.inr (Or.inr ⟨zt rfl, rfl, zt rfl⟩)) ?_
      refine s_isSignB (by omega) (hM.2.2 hr).1 ?_
      refine r_if_eq (fun c_11 => ?_) (fun c_11 => ?_)
      · have c_11 := (n_eq (a := 0) (b := 0) rfl rfl (by omega) (by omega)).mp c_11
        refine E_go 2 rfl ?_
        refine r_iload_n rfl ?_
        refine r_iret rfl trivial ?_
        have e : pLp (tkd (mb t I) z) (tst (mb t I) z) opT (F (mb t I) z) 160 (F (mb t I) z i) = r := by rw [hr0]; exact pLp_f hr
        have hQ2 := hQ J L2 v
        rw [e] at hQ2
        exact hQ2 hM
      · have c_11 := (not_congr (n_eq (a := 0) (b := 0) rfl rfl (by omega) (by omega))).mp c_11
        omega
  refine M_go (ls := [_, _]) (ml := 2) rfl rfl rfl (zl rfl) rfl ?_
  refine r_aload_n rfl ?_
  refine r_virtual (vs := []) (as := []) (by decide) (zl rfl) rfl rfl (zl rfl) (Nat.le_refl _) (Or.inr (Or.inr ⟨zt rfl, rfl, zt rfl⟩)) ?_
  refine hel I L _ t i z w h (fun J L2 v hM => ?_)
  refine r_istore_n (ls' := [_, _]) (zt rfl) rfl ?_
  refine r_nil ?_
  refine key 160 (F (mb t I) z i) J L2 v rfl ?_ ?_ hM
  · have := h.1.2.1; have := hg (mb t I) z i h.1.2.2; omega
  · exact (hg (mb t I) z i h.1.2.2).1.2

set_option maxRecDepth 10000 in
theorem s_added3 {xs : xSc} {m o : Nat} {F : PFn} (hm : 10 ≤ m) (hg : ∀ b z, gd z (F b z)) (hel : Mp xs xi_X7_term3 m o F) : Mp xs xi_X7_added3 (m + 1) o (fun b z i => pLp (tkd b z) (tst b z) opS (F b z) 160 (F b z i)) := by
  intro I L Q t i z w h hQ
  dsimp only at hQ
  have key : ∀ d (r : PR) (J : Nat → Nat → Int32) (L2 : Nat → Nat → Int64) (v : Int32) (x0 x1 : Value), pLp (tkd (mb t I) z) (tst (mb t I) z) opS (F (mb t I) z) 160 (F (mb t I) z i) = pLp (tkd (mb t I) z) (tst (mb t I) z) opS (F (mb t I) z) d r → z ≤ r.2.1 + d → r.2.1 ≤ z → MR t z o w r I J L2 v → E xs m xi_X7_added3 82 Q 5 [.ref 61, .int v, x0, x1] [] (82, J, L2, xF0) := by
    intro d
    induction d using Nat.strongRecOn with
    | _ d ih =>
    intro r J L2 v x0 x1 hr0 hd hz0 hM
    by_cases hr : r.1 = true
    · have hC := MR_c h hM hr hz0
      refine E_go 1 rfl ?_
      refine r_aload_n rfl ?_
      refine r_bipush ?_
      refine r_virtual (vs := []) (as := [_]) (by decide) (zl rfl) rfl rfl (zl rfl) (Nat.le_refl _) (Or.inr (Or.inr ⟨zt rfl, rfl, zt rfl⟩)) ?_
      refine s_isSign (t := t) (z := z) (i := r.2.1) (c := 43) (by omega) rfl (by omega) (by omega) hC.2.1.2.2.2 hC.2.2.2.1 ?_
      rw [hM.1.mbe]
      refine r_if_ne (fun c_11 => ?_) (fun c_11 => ?_)
      · refine E_go 2 rfl ?_
        refine r_aload_n rfl ?_
        refine r_getJ (by decide) rfl rfl (by decide) rfl ?_
        refine r_ldc2_w ?_
        refine r_lcmp ?_
        refine r_if_ne (fun c_31 => ?_) (fun c_31 => ?_)
        · exact absurd (lg_eq.mpr (mK_43 hC.2.2.2.1 (by rw [hM.1.mbe]; exact b01n.mp c_11))) c_31
        · refine r_iconst ?_
          refine r_goto ?_
          refine E_go 4 rfl ?_
          refine r_istore_n (ls' := [_, _, _, _]) (zt rfl) rfl ?_
          refine r_aload_n rfl ?_
          refine r_virtual (vs := []) (as := []) (by decide) (zl rfl) rfl rfl (zl rfl) (Nat.le_refl _) (Or.inr (Or.inr ⟨zt rfl, rfl, zt rfl⟩)) ?_
          have hk : tkd (mb t I) z r.2.1 = 43 := b01n.mp c_11
          have hop : opS (tkd (mb t I) z r.2.1) = some (-43) := by rw [hk]; rfl
          have hT := tst_lt (b := mb t I) hz0 (by omega : ¬ tkd (mb t I) z r.2.1 = 0)
          have hT2 := tst_z (b := mb t I) hz0
          have hq := hg (mb t I) z _ hT2
          refine s_nextM (by omega) hC (by rw [hM.1.mbe, hk]; decide) (fun J1 L3 n1 hC1 => ?_)
          rw [hM.1.mbe] at hC1
          refine r_aload_n rfl ?_
          refine r_virtual (vs := []) (as := []) (by decide) (zl rfl) rfl rfl (zl rfl) (Nat.le_refl _) (Or.inr (Or.inr ⟨zt rfl, rfl, zt rfl⟩)) ?_
          refine hel J1 L3 _ t _ z w hC1 (fun J2 L4 v2 hM2 => ?_)
          rw [n1.v.mbe, hM.1.mbe] at hM2
          refine r_istore_n (ls' := [_, _, _, _]) (zt rfl) rfl ?_
          refine r_iload_n rfl ?_
          refine r_if_eq (fun c_50 => ?_) (fun c_50 => ?_)
          · have c_50 := (n_eq (a := 1) (b := 0) rfl rfl (by omega) (by omega)).mp c_50
            omega
          · have c_50 := (not_congr (n_eq (a := 1) (b := 0) rfl rfl (by omega) (by omega))).mp c_50
            refine r_iload_n rfl ?_
            refine r_iload_n rfl ?_
            refine r_iadd ?_
            refine r_goto ?_
            refine E_go 6 rfl ?_
            refine r_istore_n (ls' := [_, _, _, _]) (zt rfl) rfl ?_
            refine r_goto ?_
            refine ih (d - 1) (by omega) ((F (mb t I) z (tst (mb t I) z r.2.1)).1, (F (mb t I) z (tst (mb t I) z r.2.1)).2.1, r.2.2 ++ ((F (mb t I) z (tst (mb t I) z r.2.1)).2.2 ++ [-43])) J2 L4 _ _ _ ?_ ?_ ?_ (MR_app hM hr n1.v hM2 (fun st => e_add))
            · rw [hr0]; exact pLp_s (by omega) hr hop
            · dsimp only; omega
            · exact hq.1.2
      · refine r_aload_n rfl ?_
        refine r_bipush ?_
        refine r_virtual (vs := []) (as := [_]) (by decide) (zl rfl) rfl rfl (zl rfl) (Nat.le_refl _) (Or.inr (Or.inr ⟨zt rfl, rfl, zt rfl⟩)) ?_
        refine s_isSign (t := t) (z := z) (i := r.2.1) (c := 45) (by omega) rfl (by omega) (by omega) hC.2.1.2.2.2 hC.2.2.2.1 ?_
        rw [hM.1.mbe]
        refine r_if_eq (fun c_20 => ?_) (fun c_20 => ?_)
        · refine E_go 7 rfl ?_
          refine r_iload_n rfl ?_
          refine r_iret rfl trivial ?_
          have e : pLp (tkd (mb t I) z) (tst (mb t I) z) opS (F (mb t I) z) 160 (F (mb t I) z i) = r := by rw [hr0]; exact pLp_n (by simp [opS, b01.mp c_11, b01.mp c_20])
          have hQ2 := hQ J L2 v
          rw [e] at hQ2
          exact hQ2 hM
        · refine r_nil ?_
          refine E_go 2 rfl ?_
          refine r_aload_n rfl ?_
          refine r_getJ (by decide) rfl rfl (by decide) rfl ?_
          refine r_ldc2_w ?_
          refine r_lcmp ?_
          refine r_if_ne (fun c_31 => ?_) (fun c_31 => ?_)
          · refine E_go 3 rfl ?_
            refine r_iconst ?_
            refine r_nil ?_
            refine E_go 4 rfl ?_
            refine r_istore_n (ls' := [_, _, _, _]) (zt rfl) rfl ?_
            refine r_aload_n rfl ?_
            refine r_virtual (vs := []) (as := []) (by decide) (zl rfl) rfl rfl (zl rfl) (Nat.le_refl _) (Or.inr (Or.inr ⟨zt rfl, rfl, zt rfl⟩)) ?_
            have hk : tkd (mb t I) z r.2.1 = 45 := b01n.mp c_20
            have hop : opS (tkd (mb t I) z r.2.1) = some (-45) := by rw [hk]; rfl
            have hT := tst_lt (b := mb t I) hz0 (by omega : ¬ tkd (mb t I) z r.2.1 = 0)
            have hT2 := tst_z (b := mb t I) hz0
            have hq := hg (mb t I) z _ hT2
            refine s_nextM (by omega) hC (by rw [hM.1.mbe, hk]; decide) (fun J1 L3 n1 hC1 => ?_)
            rw [hM.1.mbe] at hC1
            refine r_aload_n rfl ?_
            refine r_virtual (vs := []) (as := []) (by decide) (zl rfl) rfl rfl (zl rfl) (Nat.le_refl _) (Or.inr (Or.inr ⟨zt rfl, rfl, zt rfl⟩)) ?_
            refine hel J1 L3 _ t _ z w hC1 (fun J2 L4 v2 hM2 => ?_)
            rw [n1.v.mbe, hM.1.mbe] at hM2
            refine r_istore_n (ls' := [_, _, _, _]) (zt rfl) rfl ?_
            refine r_iload_n rfl ?_
            refine r_if_eq (fun c_50 => ?_) (fun c_50 => ?_)
            · have c_50 := (n_eq (a := 0) (b := 0) rfl rfl (by omega) (by omega)).mp c_50
              refine E_go 5 rfl ?_
              refine r_iload_n rfl ?_
              refine r_iload_n rfl ?_
              refine r_isub ?_
              refine r_nil ?_
              refine E_go 6 rfl ?_
              refine r_istore_n (ls' := [_, _, _, _]) (zt rfl) rfl ?_
              refine r_goto ?_
              refine ih (d - 1) (by omega) ((F (mb t I) z (tst (mb t I) z r.2.1)).1, (F (mb t I) z (tst (mb t I) z r.2.1)).2.1, r.2.2 ++ ((F (mb t I) z (tst (mb t I) z r.2.1)).2.2 ++ [-45])) J2 L4 _ _ _ ?_ ?_ ?_ (MR_app hM hr n1.v hM2 (fun st => e_sub))
              · rw [hr0]; exact pLp_s (by omega) hr hop
              · dsimp only; omega
              · exact hq.1.2
            · have c_50 := (not_congr (n_eq (a := 0) (b := 0) rfl rfl (by omega) (by omega))).mp c_50
              omega
          · exact absurd (lg_eq.mp c_31) (mK_45 hC.2.2.2.1 (by rw [hM.1.mbe]; exact b01n.mp c_20))
    · refine E_go 1 rfl ?_
      refine r_aload_n rfl ?_
      refine r_bipush ?_
      refine r_virtual (vs := []) (as := [_]) (by decide) (zl rfl) rfl rfl (zl rfl) (Nat.le_refl _) (Or.inr (Or.inr ⟨zt rfl, rfl, zt rfl⟩)) ?_
      refine s_isSignB (by omega) (hM.2.2 hr).1 ?_
      refine r_if_ne (fun c_11 => ?_) (fun c_11 => ?_)
      · have c_11 := (not_congr (n_eq (a := 0) (b := 0) rfl rfl (by omega) (by omega))).mp c_11
        omega
      · have c_11 := (n_eq (a := 0) (b := 0) rfl rfl (by omega) (by omega)).mp c_11
        refine r_aload_n rfl ?_
        refine r_bipush ?_
        refine r_virtual (vs := []) (as := [_]) (by decide) (zl rfl) rfl rfl (zl rfl) (Nat.le_refl _) (Or.inr (Or.inr ⟨zt rfl, rfl, zt rfl⟩)) ?_
        refine s_isSignB (by omega) (hM.2.2 hr).1 ?_
        refine r_if_eq (fun c_20 => ?_) (fun c_20 => ?_)
        · have c_20 := (n_eq (a := 0) (b := 0) rfl rfl (by omega) (by omega)).mp c_20
          refine E_go 7 rfl ?_
          refine r_iload_n rfl ?_
          refine r_iret rfl trivial ?_
          have e : pLp (tkd (mb t I) z) (tst (mb t I) z) opS (F (mb t I) z) 160 (F (mb t I) z i) = r := by rw [hr0]; exact pLp_f hr
          have hQ2 := hQ J L2 v
          rw [e] at hQ2
          exact hQ2 hM
        · have c_20 := (not_congr (n_eq (a := 0) (b := 0) rfl rfl (by omega) (by omega))).mp c_20
          omega
  refine M_go (ls := [_, _, _, _]) (ml := 4) rfl rfl rfl (zl rfl) rfl ?_
  refine r_aload_n rfl ?_
  refine r_virtual (vs := []) (as := []) (by decide) (zl rfl) rfl rfl (zl rfl) (Nat.le_refl _) (Or.inr (Or.inr ⟨zt rfl, rfl, zt rfl⟩)) ?_
  refine hel I L _ t i z w h (fun J L2 v hM => ?_)
  refine r_istore_n (ls' := [_, _, _, _]) (zt rfl) rfl ?_
  refine r_nil ?_
  refine key 160 (F (mb t I) z i) J L2 v _ _ rfl ?_ ?_ hM
  · have := h.1.2.1; have := hg (mb t I) z i h.1.2.2; omega
  · exact (hg (mb t I) z i h.1.2.2).1.2

set_option maxRecDepth 10000 in
theorem s_not3 {xs : xSc} {m o : Nat} {F G : PFn} (hm : 10 ≤ m) (hg : ∀ b z, gd z (F b z)) (hel : Mp xs xi_X7_added3 m o F) (hd5 : o < 5) (hdp : Mp xs xi_X7_not4 m (o + 1) G) : Mp xs xi_X7_not3 (m + 1) o (fun b z i => pNt (tkd b z) (tst b z) (some (G b z)) (pCm (tkd b z) (tst b z) (F b z)) i) := by
  intro I L Q t i z w h hQ
  dsimp only at hQ
  refine M_go (ls := [_, _, _, _]) (ml := 4) rfl rfl rfl (zl rfl) rfl ?_
  refine r_aload_n rfl ?_
  refine r_bipush ?_
  refine r_bipush ?_
  refine r_bipush ?_
  refine r_iconst ?_
  refine r_iconst ?_
  refine r_iconst ?_
  refine r_iconst ?_
  refine r_iconst ?_
  refine r_virtual (vs := []) (as := [_, _, _, _, _, _, _, _]) (by decide) (zl rfl) rfl rfl (zl rfl) (Nat.le_refl _) (Or.inr (Or.inr ⟨zt rfl, rfl, zt rfl⟩)) ?_
  refine s_isW_8 (t := t) (z := z) (i := i) (by omega) h.1.1 h.1.2.1 h.2.1.1 h.2.1.2.1 h.1.2.2 h.2.1.2.2.2 h.2.2.2.1 ?_
  refine r_if_eq (fun c_15 => ?_) (fun c_15 => ?_)
  · refine E_go 4 rfl ?_
    refine r_aload_n rfl ?_
    refine r_virtual (vs := []) (as := []) (by decide) (zl rfl) rfl rfl (zl rfl) (Nat.le_refl _) (Or.inr (Or.inr ⟨zt rfl, rfl, zt rfl⟩)) ?_
    refine hel I L _ t i z w h (fun J L2 v hM => ?_)
    have hg1 := hg (mb t I) z i h.1.2.2
    by_cases hr : (F (mb t I) z i).1 = true
    · have hC := MR_c h hM hr hg1.1.2
      refine r_istore_n (ls' := [_, _, _, _]) (zt rfl) rfl ?_
      refine r_aload_n rfl ?_
      refine r_bipush ?_
      refine r_virtual (vs := []) (as := [_]) (by decide) (zl rfl) rfl rfl (zl rfl) (Nat.le_refl _) (Or.inr (Or.inr ⟨zt rfl, rfl, zt rfl⟩)) ?_
      refine s_isSign (t := t) (z := z) (i := (F (mb t I) z i).2.1) (c := 60) (by omega) rfl (by omega) (by omega) hC.2.1.2.2.2 hC.2.2.2.1 ?_
      rw [hM.1.mbe]
      refine r_if_ne (fun c_63 => ?_) (fun c_63 => ?_)
      · refine E_go 5 rfl ?_
        refine r_aload_n rfl ?_
        refine r_getJ (by decide) rfl rfl (by decide) rfl ?_
        refine r_ldc2_w ?_
        refine r_lcmp ?_
        refine r_if_ne (fun c_85 => ?_) (fun c_85 => ?_)
        · exact absurd (lg_eq.mpr (mK_60 hC.2.2.2.1 (by rw [hM.1.mbe]; exact b01n.mp c_63))) c_85
        · refine r_iconst ?_
          refine r_goto ?_
          refine E_go 7 rfl ?_
          refine r_istore_n (ls' := [_, _, _, _]) (zt rfl) rfl ?_
          refine r_aload_n rfl ?_
          refine r_virtual (vs := []) (as := []) (by decide) (zl rfl) rfl rfl (zl rfl) (Nat.le_refl _) (Or.inr (Or.inr ⟨zt rfl, rfl, zt rfl⟩)) ?_
          have hk : tkd (mb t I) z (F (mb t I) z i).2.1 = 60 := b01n.mp c_63
          refine s_nextM (by omega) hC (by rw [hM.1.mbe, hk]; decide) (fun J1 L3 n1 hC1 => ?_)
          rw [hM.1.mbe] at hC1
          refine r_aload_n rfl ?_
          refine r_virtual (vs := []) (as := []) (by decide) (zl rfl) rfl rfl (zl rfl) (Nat.le_refl _) (Or.inr (Or.inr ⟨zt rfl, rfl, zt rfl⟩)) ?_
          refine hel J1 L3 _ t _ z w hC1 (fun J2 L4 v2 hM2 => ?_)
          rw [n1.v.mbe, hM.1.mbe] at hM2
          refine r_istore_n (ls' := [_, _, _, _]) (zt rfl) rfl ?_
          refine r_iload_n rfl ?_
          refine r_if_eq (fun c_104 => ?_) (fun c_104 => ?_)
          · have c_104 := (n_eq (a := 1) (b := 0) rfl rfl (by omega) (by omega)).mp c_104
            omega
          · have c_104 := (not_congr (n_eq (a := 1) (b := 0) rfl rfl (by omega) (by omega))).mp c_104
            refine r_iload_n rfl ?_
            refine r_iload_n rfl ?_
            refine r_icmp_ge (fun c_109 => ?_) (fun c_109 => ?_)
            · refine E_go 10 rfl ?_
              refine r_iconst ?_
              refine r_nil ?_
              refine E_go 11 rfl ?_
              refine r_iret rfl trivial ?_
              refine hQ _ _ _ ?_
              rw [pNt_n (b01.mp c_15), pCm_y hr (by omega), hk]
              exact MR_app (ww := -(io 60)) hM hr n1.v hM2 (fun st => by rw [show -(io 60) = (-60 : Int32) from rfl, e_lt, if_neg (Int32.not_lt.mpr c_109)])
            · refine r_goto ?_
              refine E_go 9 rfl ?_
              refine r_iconst ?_
              refine r_goto ?_
              refine E_go 11 rfl ?_
              refine r_iret rfl trivial ?_
              refine hQ _ _ _ ?_
              rw [pNt_n (b01.mp c_15), pCm_y hr (by omega), hk]
              exact MR_app (ww := -(io 60)) hM hr n1.v hM2 (fun st => by rw [show -(io 60) = (-60 : Int32) from rfl, e_lt, if_pos (Int32.not_le.mp c_109)])
      · refine r_aload_n rfl ?_
        refine r_bipush ?_
        refine r_virtual (vs := []) (as := [_]) (by decide) (zl rfl) rfl rfl (zl rfl) (Nat.le_refl _) (Or.inr (Or.inr ⟨zt rfl, rfl, zt rfl⟩)) ?_
        refine s_isSign (t := t) (z := z) (i := (F (mb t I) z i).2.1) (c := 61) (by omega) rfl (by omega) (by omega) hC.2.1.2.2.2 hC.2.2.2.1 ?_
        rw [hM.1.mbe]
        refine r_if_ne (fun c_72 => ?_) (fun c_72 => ?_)
        · refine E_go 5 rfl ?_
          refine r_aload_n rfl ?_
          refine r_getJ (by decide) rfl rfl (by decide) rfl ?_
          refine r_ldc2_w ?_
          refine r_lcmp ?_
          refine r_if_ne (fun c_85 => ?_) (fun c_85 => ?_)
          · refine E_go 6 rfl ?_
            refine r_iconst ?_
            refine r_nil ?_
            refine E_go 7 rfl ?_
            refine r_istore_n (ls' := [_, _, _, _]) (zt rfl) rfl ?_
            refine r_aload_n rfl ?_
            refine r_virtual (vs := []) (as := []) (by decide) (zl rfl) rfl rfl (zl rfl) (Nat.le_refl _) (Or.inr (Or.inr ⟨zt rfl, rfl, zt rfl⟩)) ?_
            have hk : tkd (mb t I) z (F (mb t I) z i).2.1 = 61 := b01n.mp c_72
            refine s_nextM (by omega) hC (by rw [hM.1.mbe, hk]; decide) (fun J1 L3 n1 hC1 => ?_)
            rw [hM.1.mbe] at hC1
            refine r_aload_n rfl ?_
            refine r_virtual (vs := []) (as := []) (by decide) (zl rfl) rfl rfl (zl rfl) (Nat.le_refl _) (Or.inr (Or.inr ⟨zt rfl, rfl, zt rfl⟩)) ?_
            refine hel J1 L3 _ t _ z w hC1 (fun J2 L4 v2 hM2 => ?_)
            rw [n1.v.mbe, hM.1.mbe] at hM2
            refine r_istore_n (ls' := [_, _, _, _]) (zt rfl) rfl ?_
            refine r_iload_n rfl ?_
            refine r_if_eq (fun c_104 => ?_) (fun c_104 => ?_)
            · have c_104 := (n_eq (a := 0) (b := 0) rfl rfl (by omega) (by omega)).mp c_104
              refine E_go 8 rfl ?_
              refine r_iload_n rfl ?_
              refine r_iload_n rfl ?_
              refine r_icmp_ne (fun c_117 => ?_) (fun c_117 => ?_)
              · refine E_go 10 rfl ?_
                refine r_iconst ?_
                refine r_nil ?_
                refine E_go 11 rfl ?_
                refine r_iret rfl trivial ?_
                refine hQ _ _ _ ?_
                rw [pNt_n (b01.mp c_15), pCm_y hr (by omega), hk]
                exact MR_app (ww := -(io 61)) hM hr n1.v hM2 (fun st => by rw [show -(io 61) = (-61 : Int32) from rfl, e_eq, if_neg c_117])
              · refine r_nil ?_
                refine E_go 9 rfl ?_
                refine r_iconst ?_
                refine r_goto ?_
                refine E_go 11 rfl ?_
                refine r_iret rfl trivial ?_
                refine hQ _ _ _ ?_
                rw [pNt_n (b01.mp c_15), pCm_y hr (by omega), hk]
                exact MR_app (ww := -(io 61)) hM hr n1.v hM2 (fun st => by rw [show -(io 61) = (-61 : Int32) from rfl, e_eq, if_pos c_117])
            · have c_104 := (not_congr (n_eq (a := 0) (b := 0) rfl rfl (by omega) (by omega))).mp c_104
              omega
          · exact absurd (lg_eq.mp c_85) (mK_61 hC.2.2.2.1 (by rw [hM.1.mbe]; exact b01n.mp c_72))
        · refine r_iload_n rfl ?_
          refine r_iret rfl trivial ?_
          refine hQ _ _ _ ?_
          rw [pNt_n (b01.mp c_15), pCm_n ?_]
          · exact hM
          · have q1 := b01.mp c_63
            have q2 := b01.mp c_72
            exact fun q => by omega
    · have hb := (hM.2.2 hr).1
      refine r_istore_n (ls' := [_, _, _, _]) (zt rfl) rfl ?_
      refine r_aload_n rfl ?_
      refine r_bipush ?_
      refine r_virtual (vs := []) (as := [_]) (by decide) (zl rfl) rfl rfl (zl rfl) (Nat.le_refl _) (Or.inr (Or.inr ⟨zt rfl, rfl, zt rfl⟩)) ?_
      refine s_isSignB (by omega) hb ?_
      refine r_if_ne (fun c_63 => ?_) (fun c_63 => ?_)
      · have c_63 := (not_congr (n_eq (a := 0) (b := 0) rfl rfl (by omega) (by omega))).mp c_63
        omega
      · have c_63 := (n_eq (a := 0) (b := 0) rfl rfl (by omega) (by omega)).mp c_63
        refine r_aload_n rfl ?_
        refine r_bipush ?_
        refine r_virtual (vs := []) (as := [_]) (by decide) (zl rfl) rfl rfl (zl rfl) (Nat.le_refl _) (Or.inr (Or.inr ⟨zt rfl, rfl, zt rfl⟩)) ?_
        refine s_isSignB (by omega) hb ?_
        refine r_if_ne (fun c_72 => ?_) (fun c_72 => ?_)
        · have c_72 := (not_congr (n_eq (a := 0) (b := 0) rfl rfl (by omega) (by omega))).mp c_72
          omega
        · have c_72 := (n_eq (a := 0) (b := 0) rfl rfl (by omega) (by omega)).mp c_72
          refine r_iload_n rfl ?_
          refine r_iret rfl trivial ?_
          refine hQ _ _ _ ?_
          rw [pNt_n (b01.mp c_15), pCm_n ?_]
          · exact hM
          · exact fun q => absurd q.1 hr
  · refine r_aload_n rfl ?_
    refine r_virtual (vs := []) (as := []) (by decide) (zl rfl) rfl rfl (zl rfl) (Nat.le_refl _) (Or.inr (Or.inr ⟨zt rfl, rfl, zt rfl⟩)) ?_
    have hk : tkd (mb t I) z i = 8 := b01n.mp c_15
    refine s_opensS (by omega) hd5 h (by omega) (fun J1 L3 v1 hC1 => ?_)
    refine r_if_ne (fun c_22 => ?_) (fun c_22 => ?_)
    · have c_22 := (not_congr (n_eq (a := 1) (b := 0) rfl rfl (by omega) (by omega))).mp c_22
      refine E_go 1 rfl ?_
      refine r_aload_n rfl ?_
      refine r_virtual (vs := []) (as := []) (by decide) (zl rfl) rfl rfl (zl rfl) (Nat.le_refl _) (Or.inr (Or.inr ⟨zt rfl, rfl, zt rfl⟩)) ?_
      refine hdp J1 L3 _ t _ z w hC1 (fun J2 L4 v hM2 => ?_)
      rw [v1.mbe] at hM2
      refine r_istore_n (ls' := [_, _, _, _]) (zt rfl) rfl ?_
      refine r_aload_n rfl ?_
      refine r_dup rfl ?_
      refine r_getI (by decide) rfl rfl (by decide) rfl ?_
      refine r_iconst ?_
      refine r_isub ?_
      refine r_putI rfl rfl (by decide) ?_
      refine r_iload_n rfl ?_
      refine r_if_ne (fun c_43 => ?_) (fun c_43 => ?_)
      · refine E_go 2 rfl ?_
        refine r_iconst ?_
        refine r_nil ?_
        refine E_go 3 rfl ?_
        refine r_iret rfl trivial ?_
        refine hQ _ _ _ ?_
        rw [pNt_8 hk]
        exact MR_op v1 hM2 (fun st => by rw [e_not, if_neg c_43])
      · refine r_iconst ?_
        refine r_goto ?_
        refine E_go 3 rfl ?_
        refine r_iret rfl trivial ?_
        refine hQ _ _ _ ?_
        rw [pNt_8 hk]
        exact MR_op v1 hM2 (fun st => by rw [e_not, if_pos c_43])
    · have c_22 := (n_eq (a := 1) (b := 0) rfl rfl (by omega) (by omega)).mp c_22
      omega

set_option maxRecDepth 10000 in
theorem s_both3 {xs : xSc} {m o : Nat} {F : PFn} (hm : 10 ≤ m) (hg : ∀ b z, gd z (F b z)) (hel : Mp xs xi_X7_not3 m o F) : Mp xs xi_X7_both3 (m + 1) o (fun b z i => pLp (tkd b z) (tst b z) opA (F b z) 160 (F b z i)) := by
  intro I L Q t i z w h hQ
  dsimp only at hQ
  have key : ∀ d (r : PR) (J : Nat → Nat → Int32) (L2 : Nat → Nat → Int64) (v : Int32) (x0 : Value), pLp (tkd (mb t I) z) (tst (mb t I) z) opA (F (mb t I) z) 160 (F (mb t I) z i) = pLp (tkd (mb t I) z) (tst (mb t I) z) opA (F (mb t I) z) d r → z ≤ r.2.1 + d → r.2.1 ≤ z → MR t z o w r I J L2 v → E xs m xi_X7_both3 82 Q 5 [.ref 61, .int v, x0] [] (82, J, L2, xF0) := by
    intro d
    induction d using Nat.strongRecOn with
    | _ d ih =>
    intro r J L2 v x0 hr0 hd hz0 hM
    by_cases hr : r.1 = true
    · have hC := MR_c h hM hr hz0
      refine E_go 1 rfl ?_
      refine r_aload_n rfl ?_
      refine r_bipush ?_
      refine r_bipush ?_
      refine r_bipush ?_
      refine r_iconst ?_
      refine r_iconst ?_
      refine r_iconst ?_
      refine r_iconst ?_
      refine r_iconst ?_
      refine r_virtual (vs := []) (as := [_, _, _, _, _, _, _, _]) (by decide) (zl rfl) rfl rfl (zl rfl) (Nat.le_refl _) (Or.inr (Or.inr ⟨zt rfl, rfl, zt rfl⟩)) ?_
      refine s_isW_7 (t := t) (z := z) (i := r.2.1) (by omega) hC.1.1 hC.1.2.1 hC.2.1.1 hC.2.1.2.1 hz0 hC.2.1.2.2.2 hC.2.2.2.1 ?_
      rw [hM.1.mbe]
      refine r_if_eq (fun c_20 => ?_) (fun c_20 => ?_)
      · refine E_go 4 rfl ?_
        refine r_iload_n rfl ?_
        refine r_iret rfl trivial ?_
        have e : pLp (tkd (mb t I) z) (tst (mb t I) z) opA (F (mb t I) z) 160 (F (mb t I) z i) = r := by rw [hr0]; exact pLp_n (by simp [opA, b01.mp c_20])
        have hQ2 := hQ J L2 v
        rw [e] at hQ2
        exact hQ2 hM
      · refine r_aload_n rfl ?_
        refine r_virtual (vs := []) (as := []) (by decide) (zl rfl) rfl rfl (zl rfl) (Nat.le_refl _) (Or.inr (Or.inr ⟨zt rfl, rfl, zt rfl⟩)) ?_
        have hk : tkd (mb t I) z r.2.1 = 7 := b01n.mp c_20
        have hop : opA (tkd (mb t I) z r.2.1) = some (-7) := by rw [hk]; rfl
        have hT := tst_lt (b := mb t I) hz0 (by omega : ¬ tkd (mb t I) z r.2.1 = 0)
        have hT2 := tst_z (b := mb t I) hz0
        have hq := hg (mb t I) z _ hT2
        refine s_nextM (by omega) hC (by rw [hM.1.mbe, hk]; decide) (fun J1 L3 n1 hC1 => ?_)
        rw [hM.1.mbe] at hC1
        refine r_aload_n rfl ?_
        refine r_virtual (vs := []) (as := []) (by decide) (zl rfl) rfl rfl (zl rfl) (Nat.le_refl _) (Or.inr (Or.inr ⟨zt rfl, rfl, zt rfl⟩)) ?_
        refine hel J1 L3 _ t _ z w hC1 (fun J2 L4 v2 hM2 => ?_)
        rw [n1.v.mbe, hM.1.mbe] at hM2
        refine r_istore_n (ls' := [_, _, _]) (zt rfl) rfl ?_
        refine r_iload_n rfl ?_
        refine r_if_eq (fun c_33 => ?_) (fun c_33 => ?_)
        · refine E_go 2 rfl ?_
          refine r_iconst ?_
          refine r_nil ?_
          refine E_go 3 rfl ?_
          refine r_istore_n (ls' := [_, _, _]) (zt rfl) rfl ?_
          refine r_goto ?_
          refine ih (d - 1) (by omega) ((F (mb t I) z (tst (mb t I) z r.2.1)).1, (F (mb t I) z (tst (mb t I) z r.2.1)).2.1, r.2.2 ++ ((F (mb t I) z (tst (mb t I) z r.2.1)).2.2 ++ [-7])) J2 L4 _ _ ?_ ?_ ?_ (MR_app hM hr n1.v hM2 (fun st => by first | rw [e_and, if_pos c_33] | rw [e_and, if_neg c_33, if_pos c_37]))
          · rw [hr0]; exact pLp_s (by omega) hr hop
          · dsimp only; omega
          · exact hq.1.2
        · refine r_iload_n rfl ?_
          refine r_if_eq (fun c_37 => ?_) (fun c_37 => ?_)
          · refine E_go 2 rfl ?_
            refine r_iconst ?_
            refine r_nil ?_
            refine E_go 3 rfl ?_
            refine r_istore_n (ls' := [_, _, _]) (zt rfl) rfl ?_
            refine r_goto ?_
            refine ih (d - 1) (by omega) ((F (mb t I) z (tst (mb t I) z r.2.1)).1, (F (mb t I) z (tst (mb t I) z r.2.1)).2.1, r.2.2 ++ ((F (mb t I) z (tst (mb t I) z r.2.1)).2.2 ++ [-7])) J2 L4 _ _ ?_ ?_ ?_ (MR_app hM hr n1.v hM2 (fun st => by first | rw [e_and, if_pos c_33] | rw [e_and, if_neg c_33, if_pos c_37]))
            · rw [hr0]; exact pLp_s (by omega) hr hop
            · dsimp only; omega
            · exact hq.1.2
          · refine r_iconst ?_
            refine r_goto ?_
            refine E_go 3 rfl ?_
            refine r_istore_n (ls' := [_, _, _]) (zt rfl) rfl ?_
            refine r_goto ?_
            refine ih (d - 1) (by omega) ((F (mb t I) z (tst (mb t I) z r.2.1)).1, (F (mb t I) z (tst (mb t I) z r.2.1)).2.1, r.2.2 ++ ((F (mb t I) z (tst (mb t I) z r.2.1)).2.2 ++ [-7])) J2 L4 _ _ ?_ ?_ ?_ (MR_app hM hr n1.v hM2 (fun st => by rw [e_and, if_neg c_33, if_neg c_37]))
            · rw [hr0]; exact pLp_s (by omega) hr hop
            · dsimp only; omega
            · exact hq.1.2
    · refine E_go 1 rfl ?_
      refine r_aload_n rfl ?_
      refine r_bipush ?_
      refine r_bipush ?_
      refine r_bipush ?_
      refine r_iconst ?_
      refine r_iconst ?_
      refine r_iconst ?_
      refine r_iconst ?_
      refine r_iconst ?_
      refine r_virtual (vs := []) (as := [_, _, _, _, _, _, _, _]) (by decide) (zl rfl) rfl rfl (zl rfl) (Nat.le_refl _) (Or.inr (Or.inr ⟨zt rfl, rfl, zt rfl⟩)) ?_
      refine s_isWordB (by omega) (hM.2.2 hr).1 ?_
      refine r_if_eq (fun c_20 => ?_) (fun c_20 => ?_)
      · have c_20 := (n_eq (a := 0) (b := 0) rfl rfl (by omega) (by omega)).mp c_20
        refine E_go 4 rfl ?_
        refine r_iload_n rfl ?_
        refine r_iret rfl trivial ?_
        have e : pLp (tkd (mb t I) z) (tst (mb t I) z) opA (F (mb t I) z) 160 (F (mb t I) z i) = r := by rw [hr0]; exact pLp_f hr
        have hQ2 := hQ J L2 v
        rw [e] at hQ2
        exact hQ2 hM
      · have c_20 := (not_congr (n_eq (a := 0) (b := 0) rfl rfl (by omega) (by omega))).mp c_20
        omega
  refine M_go (ls := [_, _, _]) (ml := 3) rfl rfl rfl (zl rfl) rfl ?_
  refine r_aload_n rfl ?_
  refine r_virtual (vs := []) (as := []) (by decide) (zl rfl) rfl rfl (zl rfl) (Nat.le_refl _) (Or.inr (Or.inr ⟨zt rfl, rfl, zt rfl⟩)) ?_
  refine hel I L _ t i z w h (fun J L2 v hM => ?_)
  refine r_istore_n (ls' := [_, _, _]) (zt rfl) rfl ?_
  refine r_nil ?_
  refine key 160 (F (mb t I) z i) J L2 v _ rfl ?_ ?_ hM
  · have := h.1.2.1; have := hg (mb t I) z i h.1.2.2; omega
  · exact (hg (mb t I) z i h.1.2.2).1.2

set_option maxRecDepth 10000 in
theorem s_either3 {xs : xSc} {m o : Nat} {F : PFn} (hm : 10 ≤ m) (hg : ∀ b z, gd z (F b z)) (hel : Mp xs xi_X7_both3 m o F) : Mp xs xi_X7_either3 (m + 1) o (fun b z i => pLp (tkd b z) (tst b z) opO (F b z) 160 (F b z i)) := by
  intro I L Q t i z w h hQ
  dsimp only at hQ
  have key : ∀ d (r : PR) (J : Nat → Nat → Int32) (L2 : Nat → Nat → Int64) (v : Int32) (x0 : Value), pLp (tkd (mb t I) z) (tst (mb t I) z) opO (F (mb t I) z) 160 (F (mb t I) z i) = pLp (tkd (mb t I) z) (tst (mb t I) z) opO (F (mb t I) z) d r → z ≤ r.2.1 + d → r.2.1 ≤ z → MR t z o w r I J L2 v → E xs m xi_X7_either3 82 Q 5 [.ref 61, .int v, x0] [] (82, J, L2, xF0) := by
    intro d
    induction d using Nat.strongRecOn with
    | _ d ih =>
    intro r J L2 v x0 hr0 hd hz0 hM
    by_cases hr : r.1 = true
    · have hC := MR_c h hM hr hz0
      refine E_go 1 rfl ?_
      refine r_aload_n rfl ?_
      refine r_bipush ?_
      refine r_bipush ?_
      refine r_iconst ?_
      refine r_iconst ?_
      refine r_iconst ?_
      refine r_iconst ?_
      refine r_iconst ?_
      refine r_iconst ?_
      refine r_virtual (vs := []) (as := [_, _, _, _, _, _, _, _]) (by decide) (zl rfl) rfl rfl (zl rfl) (Nat.le_refl _) (Or.inr (Or.inr ⟨zt rfl, rfl, zt rfl⟩)) ?_
      refine s_isW_6 (t := t) (z := z) (i := r.2.1) (by omega) hC.1.1 hC.1.2.1 hC.2.1.1 hC.2.1.2.1 hz0 hC.2.1.2.2.2 hC.2.2.2.1 ?_
      rw [hM.1.mbe]
      refine r_if_eq (fun c_19 => ?_) (fun c_19 => ?_)
      · refine E_go 5 rfl ?_
        refine r_iload_n rfl ?_
        refine r_iret rfl trivial ?_
        have e : pLp (tkd (mb t I) z) (tst (mb t I) z) opO (F (mb t I) z) 160 (F (mb t I) z i) = r := by rw [hr0]; exact pLp_n (by simp [opO, b01.mp c_19])
        have hQ2 := hQ J L2 v
        rw [e] at hQ2
        exact hQ2 hM
      · refine r_aload_n rfl ?_
        refine r_virtual (vs := []) (as := []) (by decide) (zl rfl) rfl rfl (zl rfl) (Nat.le_refl _) (Or.inr (Or.inr ⟨zt rfl, rfl, zt rfl⟩)) ?_
        have hk : tkd (mb t I) z r.2.1 = 6 := b01n.mp c_19
        have hop : opO (tkd (mb t I) z r.2.1) = some (-6) := by rw [hk]; rfl
        have hT := tst_lt (b := mb t I) hz0 (by omega : ¬ tkd (mb t I) z r.2.1 = 0)
        have hT2 := tst_z (b := mb t I) hz0
        have hq := hg (mb t I) z _ hT2
        refine s_nextM (by omega) hC (by rw [hM.1.mbe, hk]; decide) (fun J1 L3 n1 hC1 => ?_)
        rw [hM.1.mbe] at hC1
        refine r_aload_n rfl ?_
        refine r_virtual (vs := []) (as := []) (by decide) (zl rfl) rfl rfl (zl rfl) (Nat.le_refl _) (Or.inr (Or.inr ⟨zt rfl, rfl, zt rfl⟩)) ?_
        refine hel J1 L3 _ t _ z w hC1 (fun J2 L4 v2 hM2 => ?_)
        rw [n1.v.mbe, hM.1.mbe] at hM2
        refine r_istore_n (ls' := [_, _, _]) (zt rfl) rfl ?_
        refine r_iload_n rfl ?_
        refine r_if_ne (fun c_32 => ?_) (fun c_32 => ?_)
        · refine E_go 2 rfl ?_
          refine r_iconst ?_
          refine r_goto ?_
          refine E_go 4 rfl ?_
          refine r_istore_n (ls' := [_, _, _]) (zt rfl) rfl ?_
          refine r_goto ?_
          refine ih (d - 1) (by omega) ((F (mb t I) z (tst (mb t I) z r.2.1)).1, (F (mb t I) z (tst (mb t I) z r.2.1)).2.1, r.2.2 ++ ((F (mb t I) z (tst (mb t I) z r.2.1)).2.2 ++ [-6])) J2 L4 _ _ ?_ ?_ ?_ (MR_app hM hr n1.v hM2 (fun st => by first | rw [e_or, if_neg c_32] | rw [e_or, if_pos c_32, if_neg c_36]))
          · rw [hr0]; exact pLp_s (by omega) hr hop
          · dsimp only; omega
          · exact hq.1.2
        · refine r_iload_n rfl ?_
          refine r_if_eq (fun c_36 => ?_) (fun c_36 => ?_)
          · refine E_go 3 rfl ?_
            refine r_iconst ?_
            refine r_nil ?_
            refine E_go 4 rfl ?_
            refine r_istore_n (ls' := [_, _, _]) (zt rfl) rfl ?_
            refine r_goto ?_
            refine ih (d - 1) (by omega) ((F (mb t I) z (tst (mb t I) z r.2.1)).1, (F (mb t I) z (tst (mb t I) z r.2.1)).2.1, r.2.2 ++ ((F (mb t I) z (tst (mb t I) z r.2.1)).2.2 ++ [-6])) J2 L4 _ _ ?_ ?_ ?_ (MR_app hM hr n1.v hM2 (fun st => by rw [e_or, if_pos c_32, if_pos c_36]))
            · rw [hr0]; exact pLp_s (by omega) hr hop
            · dsimp only; omega
            · exact hq.1.2
          · refine r_nil ?_
            refine E_go 2 rfl ?_
            refine r_iconst ?_
            refine r_goto ?_
            refine E_go 4 rfl ?_
            refine r_istore_n (ls' := [_, _, _]) (zt rfl) rfl ?_
            refine r_goto ?_
            refine ih (d - 1) (by omega) ((F (mb t I) z (tst (mb t I) z r.2.1)).1, (F (mb t I) z (tst (mb t I) z r.2.1)).2.1, r.2.2 ++ ((F (mb t I) z (tst (mb t I) z r.2.1)).2.2 ++ [-6])) J2 L4 _ _ ?_ ?_ ?_ (MR_app hM hr n1.v hM2 (fun st => by first | rw [e_or, if_neg c_32] | rw [e_or, if_pos c_32, if_neg c_36]))
            · rw [hr0]; exact pLp_s (by omega) hr hop
            · dsimp only; omega
            · exact hq.1.2
    · refine E_go 1 rfl ?_
      refine r_aload_n rfl ?_
      refine r_bipush ?_
      refine r_bipush ?_
      refine r_iconst ?_
      refine r_iconst ?_
      refine r_iconst ?_
      refine r_iconst ?_
      refine r_iconst ?_
      refine r_iconst ?_
      refine r_virtual (vs := []) (as := [_, _, _, _, _, _, _, _]) (by decide) (zl rfl) rfl rfl (zl rfl) (Nat.le_refl _) (Or.inr (Or.inr ⟨zt rfl, rfl, zt rfl⟩)) ?_
      refine s_isWordB (by omega) (hM.2.2 hr).1 ?_
      refine r_if_eq (fun c_19 => ?_) (fun c_19 => ?_)
      · have c_19 := (n_eq (a := 0) (b := 0) rfl rfl (by omega) (by omega)).mp c_19
        refine E_go 5 rfl ?_
        refine r_iload_n rfl ?_
        refine r_iret rfl trivial ?_
        have e : pLp (tkd (mb t I) z) (tst (mb t I) z) opO (F (mb t I) z) 160 (F (mb t I) z i) = r := by rw [hr0]; exact pLp_f hr
        have hQ2 := hQ J L2 v
        rw [e] at hQ2
        exact hQ2 hM
      · have c_19 := (not_congr (n_eq (a := 0) (b := 0) rfl rfl (by omega) (by omega))).mp c_19
        omega
  refine M_go (ls := [_, _, _]) (ml := 3) rfl rfl rfl (zl rfl) rfl ?_
  refine r_aload_n rfl ?_
  refine r_virtual (vs := []) (as := []) (by decide) (zl rfl) rfl rfl (zl rfl) (Nat.le_refl _) (Or.inr (Or.inr ⟨zt rfl, rfl, zt rfl⟩)) ?_
  refine hel I L _ t i z w h (fun J L2 v hM => ?_)
  refine r_istore_n (ls' := [_, _, _]) (zt rfl) rfl ?_
  refine r_nil ?_
  refine key 160 (F (mb t I) z i) J L2 v _ rfl ?_ ?_ hM
  · have := h.1.2.1; have := hg (mb t I) z i h.1.2.2; omega
  · exact (hg (mb t I) z i h.1.2.2).1.2

set_option maxRecDepth 10000 in
theorem s_atom2 {xs : xSc} {m o : Nat} {G G2 : PFn} (hm : 10 ≤ m) (hd5 : o < 5) (hgo : ∀ b z, gd z (G2 b z)) (hda : Mp xs xi_X7_atom3 m (o + 1) G) (hdo : Mp xs xi_X7_either3 m (o + 1) G2) : Mp xs xi_X7_atom2 (m + 1) o (fun b z i => pAt (tkd b z) (tst b z) (twt b z) (some (G b z, G2 b z)) i) := by
  intro I L Q t i z w h hQ
  dsimp only at hQ
  have htc := tcl_lt (b := mb t I) (z := z) (s := tpl (mb t I) z i)
  refine M_go (ls := [_, _]) (ml := 2) rfl rfl rfl (zl rfl) rfl ?_
  refine r_iconst ?_
  refine r_istore_n (ls' := [_, _]) (zt rfl) rfl ?_
  refine r_aload_n rfl ?_
  refine r_bipush ?_
  refine r_virtual (vs := []) (as := [_]) (by decide) (zl rfl) rfl rfl (zl rfl) (Nat.le_refl _) (Or.inr (Or.inr ⟨zt rfl, rfl, zt rfl⟩)) ?_
  refine s_isSign (t := t) (z := z) (i := i) (c := 45) (by omega) rfl (by omega) (by omega) h.2.1.2.2.2 h.2.2.2.1 ?_
  refine r_if_eq (fun c_8 => ?_) (fun c_8 => ?_)
  · refine E_go 1 rfl ?_
    refine r_aload_n rfl ?_
    refine r_bipush ?_
    refine r_virtual (vs := []) (as := [_]) (by decide) (zl rfl) rfl rfl (zl rfl) (Nat.le_refl _) (Or.inr (Or.inr ⟨zt rfl, rfl, zt rfl⟩)) ?_
    refine s_isSign (t := t) (z := z) (i := i) (c := 40) (by omega) rfl (by omega) (by omega) h.2.1.2.2.2 h.2.2.2.1 ?_
    refine r_if_eq (fun c_43 => ?_) (fun c_43 => ?_)
    · refine E_go 3 rfl ?_
      refine r_aload_n rfl ?_
      refine r_getZ (by decide) rfl rfl (by decide) rfl ?_
      refine r_if_ne (fun c_99 => ?_) (fun c_99 => ?_)
      · exact absurd h.2.1.2.2.2 c_99
      · refine r_aload_n rfl ?_
        refine r_getI (by decide) rfl rfl (by decide) h.2.2.2.1.1 ?_
        refine r_iconst ?_
        refine r_icmp_ne (fun c_107 => ?_) (fun c_107 => ?_)
        · have c_107 := (not_congr (n_eq (a := (tcl (mb t I) z (tpl (mb t I) z i))) (b := 2) rfl rfl (by omega) (by omega))).mp c_107
          refine E_go 4 rfl ?_
          refine r_aload_n rfl ?_
          refine r_getZ (by decide) rfl rfl (by decide) rfl ?_
          refine r_if_ne (fun c_127 => ?_) (fun c_127 => ?_)
          · exact absurd h.2.1.2.2.2 c_127
          · refine r_aload_n rfl ?_
            refine r_getI (by decide) rfl rfl (by decide) h.2.2.2.1.1 ?_
            refine r_iconst ?_
            refine r_icmp_ne (fun c_135 => ?_) (fun c_135 => ?_)
            · have c_135 := (not_congr (n_eq (a := (tcl (mb t I) z (tpl (mb t I) z i))) (b := 1) rfl rfl (by omega) (by omega))).mp c_135
              refine E_go 5 rfl ?_
              refine r_aload_n rfl ?_
              refine r_virtual (vs := []) (as := []) (by decide) (zl rfl) rfl rfl (zl rfl) (Nat.le_refl _) (Or.inr (Or.inr ⟨zt rfl, rfl, zt rfl⟩)) ?_
              refine s_fail0 (by omega) h.2.1.2.2.2 ?_
              refine r_nil ?_
              refine E_go 6 rfl ?_
              refine r_iload_n rfl ?_
              refine r_iret rfl trivial ?_
              have q1 := b01.mp c_8
              have q2 := b01.mp c_43
              have q3 : ¬ tkd (mb t I) z i = 2 := fun q => c_107 (tk_2.mpr q)
              have q4 : ¬ (10 ≤ tkd (mb t I) z i ∧ tkd (mb t I) z i < 16) := fun q => c_135 (tk_w (Or.inr q))
              refine hQ _ _ _ ?_
              rw [pAt_f q3 q4 q1 q2]
              exact MR_fl h
            · have c_135 := (n_eq (a := (tcl (mb t I) z (tpl (mb t I) z i))) (b := 1) rfl rfl (by omega) (by omega)).mp c_135
              refine r_aload_n rfl ?_
              refine r_virtual (vs := []) (as := []) (by decide) (zl rfl) rfl rfl (zl rfl) (Nat.le_refl _) (Or.inr (Or.inr ⟨zt rfl, rfl, zt rfl⟩)) ?_
              refine s_name (by omega) h (fun hn1 hn2 => ?_) (fun hn => ?_)
              · skip
                refine r_istore_n (ls' := [_, _]) (zt rfl) rfl ?_
                refine r_aload_n rfl ?_
                refine r_getZ (by decide) rfl rfl (by decide) rfl ?_
                refine r_if_ne (fun c_147 => ?_) (fun c_147 => ?_)
                · exact absurd h.2.1.2.2.2 c_147
                · refine r_aload_n rfl ?_
                  refine r_virtual (vs := []) (as := []) (by decide) (zl rfl) rfl rfl (zl rfl) (Nat.le_refl _) (Or.inr (Or.inr ⟨zt rfl, rfl, zt rfl⟩)) ?_
                  refine s_nextM (by omega) h (by omega) (fun J1 L3 n1 hC1 => ?_)
                  refine r_goto ?_
                  refine E_go 6 rfl ?_
                  refine r_iload_n rfl ?_
                  refine r_iret rfl trivial ?_
                  refine hQ _ _ _ ?_
                  rw [pAt_n hn1 hn2]
                  refine ⟨n1.v, fun _ => ⟨hC1.2.1.2.2, ?_, fun st => ?_⟩, fun q => absurd rfl q⟩
                  · have := hC1.2.2.2.1; rw [n1.v.mbe] at this; exact this
                  · rw [ev_one]; exact e_name hn1 hn2
              · skip
                refine r_istore_n (ls' := [_, _]) (zt rfl) rfl ?_
                refine r_aload_n rfl ?_
                refine r_getZ (by decide) rfl rfl (by decide) rfl ?_
                refine r_if_ne (fun c_147 => ?_) (fun c_147 => ?_)
                · refine E_go 6 rfl ?_
                  refine r_iload_n rfl ?_
                  refine r_iret rfl trivial ?_
                  have q1 := b01.mp c_8
                  have q2 := b01.mp c_43
                  have q3 : ¬ tkd (mb t I) z i = 2 := fun q => c_107 (tk_2.mpr q)
                  have q4 := hn
                  refine hQ _ _ _ ?_
                  rw [pAt_f q3 q4 q1 q2]
                  exact MR_fl h
                · exact absurd (show fl I 61 26 = 0 from c_147) (by simp [fl, up2])
        · have c_107 := (n_eq (a := (tcl (mb t I) z (tpl (mb t I) z i))) (b := 2) rfl rfl (by omega) (by omega)).mp c_107
          refine r_aload_n rfl ?_
          refine r_getJ (by decide) rfl rfl (by decide) rfl ?_
          refine r_l2i ?_
          refine r_istore_n (ls' := [_, _]) (zt rfl) rfl ?_
          refine r_aload_n rfl ?_
          refine r_virtual (vs := []) (as := []) (by decide) (zl rfl) rfl rfl (zl rfl) (Nat.le_refl _) (Or.inr (Or.inr ⟨zt rfl, rfl, zt rfl⟩)) ?_
          have hk : tkd (mb t I) z i = 2 := tk_2.mp c_107
          refine s_nextM (by omega) h (by omega) (fun J1 L3 n1 hC1 => ?_)
          refine r_goto ?_
          refine E_go 6 rfl ?_
          refine r_iload_n rfl ?_
          refine r_iret rfl trivial ?_
          refine hQ _ _ _ ?_
          rw [pAt_2 hk]
          refine ⟨n1.v, fun _ => ⟨hC1.2.1.2.2, ?_, fun st => ?_⟩, fun q => absurd rfl q⟩
          · have := hC1.2.2.2.1; rw [n1.v.mbe] at this; exact this
          · rw [ev_one, h.2.2.2.1.2.2.2.1 c_107]; exact e_num (twt_b hk).1 (twt_b hk).2
    · refine r_aload_n rfl ?_
      refine r_virtual (vs := []) (as := []) (by decide) (zl rfl) rfl rfl (zl rfl) (Nat.le_refl _) (Or.inr (Or.inr ⟨zt rfl, rfl, zt rfl⟩)) ?_
      have hk : tkd (mb t I) z i = 40 := b01n.mp c_43
      refine s_opensS (by omega) hd5 h (by omega) (fun J1 L3 v1 hC1 => ?_)
      refine r_if_eq (fun c_50 => ?_) (fun c_50 => ?_)
      · have c_50 := (n_eq (a := 1) (b := 0) rfl rfl (by omega) (by omega)).mp c_50
        omega
      · have c_50 := (not_congr (n_eq (a := 1) (b := 0) rfl rfl (by omega) (by omega))).mp c_50
        refine r_aload_n rfl ?_
        refine r_virtual (vs := []) (as := []) (by decide) (zl rfl) rfl rfl (zl rfl) (Nat.le_refl _) (Or.inr (Or.inr ⟨zt rfl, rfl, zt rfl⟩)) ?_
        refine hdo J1 L3 _ t _ z w hC1 (fun J2 L4 v hM2 => ?_)
        rw [v1.mbe] at hM2
        have hT2 := tst_z (b := mb t I) h.1.2.2
        have hgq := hgo (mb t I) z _ hT2
        by_cases hr : (G2 (mb t I) z (tst (mb t I) z i)).1 = true
        · have hC2 := MR_c hC1 hM2 hr hgq.1.2
          refine r_istore_n (ls' := [_, _]) (zt rfl) rfl ?_
          refine r_aload_n rfl ?_
          refine r_bipush ?_
          refine r_virtual (vs := []) (as := [_]) (by decide) (zl rfl) rfl rfl (zl rfl) (Nat.le_refl _) (Or.inr (Or.inr ⟨zt rfl, rfl, zt rfl⟩)) ?_
          refine s_isSign (t := t) (z := z) (i := (G2 (mb t I) z (tst (mb t I) z i)).2.1) (c := 41) (by omega) rfl (by omega) (by omega) hC2.2.1.2.2.2 hC2.2.2.2.1 ?_
          rw [hM2.1.mbe, v1.mbe]
          refine r_if_ne (fun c_64 => ?_) (fun c_64 => ?_)
          · refine E_go 2 rfl ?_
            refine r_aload_n rfl ?_
            refine r_dup rfl ?_
            refine r_getI (by decide) rfl rfl (by decide) rfl ?_
            refine r_iconst ?_
            refine r_isub ?_
            refine r_putI rfl rfl (by decide) ?_
            refine r_aload_n rfl ?_
            refine r_getZ (by decide) rfl rfl (by decide) rfl ?_
            refine r_if_ne (fun c_85 => ?_) (fun c_85 => ?_)
            · exact absurd (show J2 61 26 = 0 from hC2.2.1.2.2.2) c_85
            · refine r_aload_n rfl ?_
              refine r_virtual (vs := []) (as := []) (by decide) (zl rfl) rfl rfl (zl rfl) (Nat.le_refl _) (Or.inr (Or.inr ⟨zt rfl, rfl, zt rfl⟩)) ?_
              have hk2 : tkd (mb t I) z (G2 (mb t I) z (tst (mb t I) z i)).2.1 = 41 := b01n.mp c_64
              have hC3 := mCx_op hC2
              refine s_nextM (by omega) hC3 (by rw [mb_op, hM2.1.mbe, v1.mbe, hk2]; decide) (fun J3 L5 n3 hC4 => ?_)
              rw [mb_op, hM2.1.mbe, v1.mbe] at hC4
              refine r_goto ?_
              refine E_go 6 rfl ?_
              refine r_iload_n rfl ?_
              refine r_iret rfl trivial ?_
              refine hQ _ _ _ ?_
              rw [pAt_p1 hk hr hk2]
              exact MR_cl v1 hM2 hr n3 hC4
          · refine r_aload_n rfl ?_
            refine r_virtual (vs := []) (as := []) (by decide) (zl rfl) rfl rfl (zl rfl) (Nat.le_refl _) (Or.inr (Or.inr ⟨zt rfl, rfl, zt rfl⟩)) ?_
            refine s_fail0 (by omega) hC2.2.1.2.2.2 ?_
            refine r_nil ?_
            refine E_go 2 rfl ?_
            refine r_aload_n rfl ?_
            refine r_dup rfl ?_
            refine r_getI (by decide) rfl rfl (by decide) rfl ?_
            refine r_iconst ?_
            refine r_isub ?_
            refine r_putI rfl rfl (by decide) ?_
            refine r_aload_n rfl ?_
            refine r_getZ (by decide) rfl rfl (by decide) rfl ?_
            refine r_if_ne (fun c_85 => ?_) (fun c_85 => ?_)
            · refine E_go 6 rfl ?_
              refine r_iload_n rfl ?_
              refine r_iret rfl trivial ?_
              refine hQ _ _ _ ?_
              rw [pAt_p2 hk hr (b01.mp c_64)]
              exact MR_un v1 hM2 hr hC2
            · exact absurd (show fl J2 61 26 = 0 from c_85) (by simp [fl, up2])
        · have hb := (hM2.2.2 hr).1
          refine r_istore_n (ls' := [_, _]) (zt rfl) rfl ?_
          refine r_aload_n rfl ?_
          refine r_bipush ?_
          refine r_virtual (vs := []) (as := [_]) (by decide) (zl rfl) rfl rfl (zl rfl) (Nat.le_refl _) (Or.inr (Or.inr ⟨zt rfl, rfl, zt rfl⟩)) ?_
          refine s_isSignB (by omega) hb ?_
          refine r_if_ne (fun c_64 => ?_) (fun c_64 => ?_)
          · have c_64 := (not_congr (n_eq (a := 0) (b := 0) rfl rfl (by omega) (by omega))).mp c_64
            omega
          · have c_64 := (n_eq (a := 0) (b := 0) rfl rfl (by omega) (by omega)).mp c_64
            refine r_aload_n rfl ?_
            refine r_virtual (vs := []) (as := []) (by decide) (zl rfl) rfl rfl (zl rfl) (Nat.le_refl _) (Or.inr (Or.inr ⟨zt rfl, rfl, zt rfl⟩)) ?_
            refine s_fail1 (by omega) hb ?_
            refine r_nil ?_
            refine E_go 2 rfl ?_
            refine r_aload_n rfl ?_
            refine r_dup rfl ?_
            refine r_getI (by decide) rfl rfl (by decide) rfl ?_
            refine r_iconst ?_
            refine r_isub ?_
            refine r_putI rfl rfl (by decide) ?_
            refine r_aload_n rfl ?_
            refine r_getZ (by decide) rfl rfl (by decide) rfl ?_
            refine r_if_ne (fun c_85 => ?_) (fun c_85 => ?_)
            · refine E_go 6 rfl ?_
              refine r_iload_n rfl ?_
              refine r_iret rfl trivial ?_
              refine hQ _ _ _ ?_
              rw [pAt_p3 hk hr]
              exact MR_bad hM2 v1 hr
            · exact absurd ((show J2 61 26 = 0 from c_85).symm.trans hb) (by decide)
  · refine r_aload_n rfl ?_
    refine r_virtual (vs := []) (as := []) (by decide) (zl rfl) rfl rfl (zl rfl) (Nat.le_refl _) (Or.inr (Or.inr ⟨zt rfl, rfl, zt rfl⟩)) ?_
    have hk : tkd (mb t I) z i = 45 := b01n.mp c_8
    refine s_opensS (by omega) hd5 h (by omega) (fun J1 L3 v1 hC1 => ?_)
    refine r_if_eq (fun c_15 => ?_) (fun c_15 => ?_)
    · have c_15 := (n_eq (a := 1) (b := 0) rfl rfl (by omega) (by omega)).mp c_15
      omega
    · have c_15 := (not_congr (n_eq (a := 1) (b := 0) rfl rfl (by omega) (by omega))).mp c_15
      refine r_aload_n rfl ?_
      refine r_virtual (vs := []) (as := []) (by decide) (zl rfl) rfl rfl (zl rfl) (Nat.le_refl _) (Or.inr (Or.inr ⟨zt rfl, rfl, zt rfl⟩)) ?_
      refine hda J1 L3 _ t _ z w hC1 (fun J2 L4 v hM2 => ?_)
      rw [v1.mbe] at hM2
      refine r_ineg ?_
      refine r_istore_n (ls' := [_, _]) (zt rfl) rfl ?_
      refine r_aload_n rfl ?_
      refine r_dup rfl ?_
      refine r_getI (by decide) rfl rfl (by decide) rfl ?_
      refine r_iconst ?_
      refine r_isub ?_
      refine r_putI rfl rfl (by decide) ?_
      refine r_goto ?_
      refine E_go 6 rfl ?_
      refine r_iload_n rfl ?_
      refine r_iret rfl trivial ?_
      refine hQ _ _ _ ?_
      rw [pAt_m hk]
      exact MR_op v1 hM2 (fun st => e_neg)

set_option maxRecDepth 10000 in
theorem s_term2 {xs : xSc} {m o : Nat} {F : PFn} (hm : 10 ≤ m) (hg : ∀ b z, gd z (F b z)) (hel : Mp xs xi_X7_atom2 m o F) : Mp xs xi_X7_term2 (m + 1) o (fun b z i => pLp (tkd b z) (tst b z) opT (F b z) 160 (F b z i)) := by
  intro I L Q t i z w h hQ
  dsimp only at hQ
  have key : ∀ d (r : PR) (J : Nat → Nat → Int32) (L2 : Nat → Nat → Int64) (v : Int32) , pLp (tkd (mb t I) z) (tst (mb t I) z) opT (F (mb t I) z) 160 (F (mb t I) z i) = pLp (tkd (mb t I) z) (tst (mb t I) z) opT (F (mb t I) z) d r → z ≤ r.2.1 + d → r.2.1 ≤ z → MR t z o w r I J L2 v → E xs m xi_X7_term2 82 Q 5 [.ref 61, .int v] [] (82, J, L2, xF0) := by
    intro d
    induction d using Nat.strongRecOn with
    | _ d ih =>
    intro r J L2 v  hr0 hd hz0 hM
    by_cases hr : r.1 = true
    · have hC := MR_c h hM hr hz0
      refine E_go 1 rfl ?_
      refine r_aload_n rfl ?_
      refine r_bipush ?_
      refine r_virtual (vs := []) (as := [_]) (by decide) (zl rfl) rfl rfl (zl rfl) (Nat.le_refl _) (Or.inr (Or.inr ⟨zt rfl, rfl, zt rfl⟩)) ?_
      refine s_isSign (t := t) (z := z) (i := r.2.1) (c := 42) (by omega) rfl (by omega) (by omega) hC.2.1.2.2.2 hC.2.2.2.1 ?_
      rw [hM.1.mbe]
      refine r_if_eq (fun c_11 => ?_) (fun c_11 => ?_)
      · refine E_go 2 rfl ?_
        refine r_iload_n rfl ?_
        refine r_iret rfl trivial ?_
        have e : pLp (tkd (mb t I) z) (tst (mb t I) z) opT (F (mb t I) z) 160 (F (mb t I) z i) = r := by rw [hr0]; exact pLp_n (by simp [opT, b01.mp c_11])
        have hQ2 := hQ J L2 v
        rw [e] at hQ2
        exact hQ2 hM
      · refine r_aload_n rfl ?_
        refine r_virtual (vs := []) (as := []) (by decide) (zl rfl) rfl rfl (zl rfl) (Nat.le_refl _) (Or.inr (Or.inr ⟨zt rfl, rfl, zt rfl⟩)) ?_
        have hk : tkd (mb t I) z r.2.1 = 42 := b01n.mp c_11
        have hop : opT (tkd (mb t I) z r.2.1) = some (-42) := by rw [hk]; rfl
        have hT := tst_lt (b := mb t I) hz0 (by omega : ¬ tkd (mb t I) z r.2.1 = 0)
        have hT2 := tst_z (b := mb t I) hz0
        have hq := hg (mb t I) z _ hT2
        refine s_nextM (by omega) hC (by rw [hM.1.mbe, hk]; decide) (fun J1 L3 n1 hC1 => ?_)
        rw [hM.1.mbe] at hC1
        refine r_iload_n rfl ?_
        refine r_aload_n rfl ?_
        refine r_virtual (vs := []) (as := []) (by decide) (zl rfl) rfl rfl (zl rfl) (Nat.le_refl _) (Or.inr (Or.inr ⟨zt rfl, rfl, zt rfl⟩)) ?_
        refine hel J1 L3 _ t _ z w hC1 (fun J2 L4 v2 hM2 => ?_)
        rw [n1.v.mbe, hM.1.mbe] at hM2
        refine r_imul ?_
        refine r_istore_n (ls' := [_, _]) (zt rfl) rfl ?_
        refine r_goto ?_
        refine ih (d - 1) (by omega) ((F (mb t I) z (tst (mb t I) z r.2.1)).1, (F (mb t I) z (tst (mb t I) z r.2.1)).2.1, r.2.2 ++ ((F (mb t I) z (tst (mb t I) z r.2.1)).2.2 ++ [-42])) J2 L4 _ ?_ ?_ ?_ (MR_app hM hr n1.v hM2 (fun st => e_mul))
        · rw [hr0]; exact pLp_s (by omega) hr hop
        · dsimp only; omega
        · exact hq.1.2
    · refine E_go 1 rfl ?_
      refine r_aload_n rfl ?_
      refine r_bipush ?_
      refine r_virtual (vs := []) (as := [_]) (by decide) (zl rfl) rfl rfl (zl rfl) (Nat.le_refl _) (Or.inr (Or.inr ⟨zt rfl, rfl, zt rfl⟩)) ?_
      refine s_isSignB (by omega) (hM.2.2 hr).1 ?_
      refine r_if_eq (fun c_11 => ?_) (fun c_11 => ?_)
      · have c_11 := (n_eq (a := 0) (b := 0) rfl rfl (by omega) (by omega)).mp c_11
        refine E_go 2 rfl ?_
        refine r_iload_n rfl ?_
        refine r_iret rfl trivial ?_
        have e : pLp (tkd (mb t I) z) (tst (mb t I) z) opT (F (mb t I) z) 160 (F (mb t I) z i) = r := by rw [hr0]; exact pLp_f hr
        have hQ2 := hQ J L2 v
        rw [e] at hQ2
        exact hQ2 hM
      · have c_11 := (not_congr (n_eq (a := 0) (b := 0) rfl rfl (by omega) (by omega))).mp c_11
        omega
  refine M_go (ls := [_, _]) (ml := 2) rfl rfl rfl (zl rfl) rfl ?_
  refine r_aload_n rfl ?_
  refine r_virtual (vs := []) (as := []) (by decide) (zl rfl) rfl rfl (zl rfl) (Nat.le_refl _) (Or.inr (Or.inr ⟨zt rfl, rfl, zt rfl⟩)) ?_
  refine hel I L _ t i z w h (fun J L2 v hM => ?_)
  refine r_istore_n (ls' := [_, _]) (zt rfl) rfl ?_
  refine r_nil ?_
  refine key 160 (F (mb t I) z i) J L2 v rfl ?_ ?_ hM
  · have := h.1.2.1; have := hg (mb t I) z i h.1.2.2; omega
  · exact (hg (mb t I) z i h.1.2.2).1.2

set_option maxRecDepth 10000 in
theorem s_added2 {xs : xSc} {m o : Nat} {F : PFn} (hm : 10 ≤ m) (hg : ∀ b z, gd z (F b z)) (hel : Mp xs xi_X7_term2 m o F) : Mp xs xi_X7_added2 (m + 1) o (fun b z i => pLp (tkd b z) (tst b z) opS (F b z) 160 (F b z i)) := by
  intro I L Q t i z w h hQ
  dsimp only at hQ
  have key : ∀ d (r : PR) (J : Nat → Nat → Int32) (L2 : Nat → Nat → Int64) (v : Int32) (x0 x1 : Value), pLp (tkd (mb t I) z) (tst (mb t I) z) opS (F (mb t I) z) 160 (F (mb t I) z i) = pLp (tkd (mb t I) z) (tst (mb t I) z) opS (F (mb t I) z) d r → z ≤ r.2.1 + d → r.2.1 ≤ z → MR t z o w r I J L2 v → E xs m xi_X7_added2 82 Q 5 [.ref 61, .int v, x0, x1] [] (82, J, L2, xF0) := by
    intro d
    induction d using Nat.strongRecOn with
    | _ d ih =>
    intro r J L2 v x0 x1 hr0 hd hz0 hM
    by_cases hr : r.1 = true
    · have hC := MR_c h hM hr hz0
      refine E_go 1 rfl ?_
      refine r_aload_n rfl ?_
      refine r_bipush ?_
      refine r_virtual (vs := []) (as := [_]) (by decide) (zl rfl) rfl rfl (zl rfl) (Nat.le_refl _) (Or.inr (Or.inr ⟨zt rfl, rfl, zt rfl⟩)) ?_
      refine s_isSign (t := t) (z := z) (i := r.2.1) (c := 43) (by omega) rfl (by omega) (by omega) hC.2.1.2.2.2 hC.2.2.2.1 ?_
      rw [hM.1.mbe]
      refine r_if_ne (fun c_11 => ?_) (fun c_11 => ?_)
      · refine E_go 2 rfl ?_
        refine r_aload_n rfl ?_
        refine r_getJ (by decide) rfl rfl (by decide) rfl ?_
        refine r_ldc2_w ?_
        refine r_lcmp ?_
        refine r_if_ne (fun c_31 => ?_) (fun c_31 => ?_)
        · exact absurd (lg_eq.mpr (mK_43 hC.2.2.2.1 (by rw [hM.1.mbe]; exact b01n.mp c_11))) c_31
        · refine r_iconst ?_
          refine r_goto ?_
          refine E_go 4 rfl ?_
          refine r_istore_n (ls' := [_, _, _, _]) (zt rfl) rfl ?_
          refine r_aload_n rfl ?_
          refine r_virtual (vs := []) (as := []) (by decide) (zl rfl) rfl rfl (zl rfl) (Nat.le_refl _) (Or.inr (Or.inr ⟨zt rfl, rfl, zt rfl⟩)) ?_
          have hk : tkd (mb t I) z r.2.1 = 43 := b01n.mp c_11
          have hop : opS (tkd (mb t I) z r.2.1) = some (-43) := by rw [hk]; rfl
          have hT := tst_lt (b := mb t I) hz0 (by omega : ¬ tkd (mb t I) z r.2.1 = 0)
          have hT2 := tst_z (b := mb t I) hz0
          have hq := hg (mb t I) z _ hT2
          refine s_nextM (by omega) hC (by rw [hM.1.mbe, hk]; decide) (fun J1 L3 n1 hC1 => ?_)
          rw [hM.1.mbe] at hC1
          refine r_aload_n rfl ?_
          refine r_virtual (vs := []) (as := []) (by decide) (zl rfl) rfl rfl (zl rfl) (Nat.le_refl _) (Or.inr (Or.inr ⟨zt rfl, rfl, zt rfl⟩)) ?_
          refine hel J1 L3 _ t _ z w hC1 (fun J2 L4 v2 hM2 => ?_)
          rw [n1.v.mbe, hM.1.mbe] at hM2
          refine r_istore_n (ls' := [_, _, _, _]) (zt rfl) rfl ?_
          refine r_iload_n rfl ?_
          refine r_if_eq (fun c_50 => ?_) (fun c_50 => ?_)
          · have c_50 := (n_eq (a := 1) (b := 0) rfl rfl (by omega) (by omega)).mp c_50
            omega
          · have c_50 := (not_congr (n_eq (a := 1) (b := 0) rfl rfl (by omega) (by omega))).mp c_50
            refine r_iload_n rfl ?_
            refine r_iload_n rfl ?_
            refine r_iadd ?_
            refine r_goto ?_
            refine E_go 6 rfl ?_
            refine r_istore_n (ls' := [_, _, _, _]) (zt rfl) rfl ?_
            refine r_goto ?_
            refine ih (d - 1) (by omega) ((F (mb t I) z (tst (mb t I) z r.2.1)).1, (F (mb t I) z (tst (mb t I) z r.2.1)).2.1, r.2.2 ++ ((F (mb t I) z (tst (mb t I) z r.2.1)).2.2 ++ [-43])) J2 L4 _ _ _ ?_ ?_ ?_ (MR_app hM hr n1.v hM2 (fun st => e_add))
            · rw [hr0]; exact pLp_s (by omega) hr hop
            · dsimp only; omega
            · exact hq.1.2
      · refine r_aload_n rfl ?_
        refine r_bipush ?_
        refine r_virtual (vs := []) (as := [_]) (by decide) (zl rfl) rfl rfl (zl rfl) (Nat.le_refl _) (Or.inr (Or.inr ⟨zt rfl, rfl, zt rfl⟩)) ?_
        refine s_isSign (t := t) (z := z) (i := r.2.1) (c := 45) (by omega) rfl (by omega) (by omega) hC.2.1.2.2.2 hC.2.2.2.1 ?_
        rw [hM.1.mbe]
        refine r_if_eq (fun c_20 => ?_) (fun c_20 => ?_)
        · refine E_go 7 rfl ?_
          refine r_iload_n rfl ?_
          refine r_iret rfl trivial ?_
          have e : pLp (tkd (mb t I) z) (tst (mb t I) z) opS (F (mb t I) z) 160 (F (mb t I) z i) = r := by rw [hr0]; exact pLp_n (by simp [opS, b01.mp c_11, b01.mp c_20])
          have hQ2 := hQ J L2 v
          rw [e] at hQ2
          exact hQ2 hM
        · refine r_nil ?_
          refine E_go 2 rfl ?_
          refine r_aload_n rfl ?_
          refine r_getJ (by decide) rfl rfl (by decide) rfl ?_
          refine r_ldc2_w ?_
          refine r_lcmp ?_
          refine r_if_ne (fun c_31 => ?_) (fun c_31 => ?_)
          · refine E_go 3 rfl ?_
            refine r_iconst ?_
            refine r_nil ?_
            refine E_go 4 rfl ?_
            refine r_istore_n (ls' := [_, _, _, _]) (zt rfl) rfl ?_
            refine r_aload_n rfl ?_
            refine r_virtual (vs := []) (as := []) (by decide) (zl rfl) rfl rfl (zl rfl) (Nat.le_refl _) (Or.inr (Or.inr ⟨zt rfl, rfl, zt rfl⟩)) ?_
            have hk : tkd (mb t I) z r.2.1 = 45 := b01n.mp c_20
            have hop : opS (tkd (mb t I) z r.2.1) = some (-45) := by rw [hk]; rfl
            have hT := tst_lt (b := mb t I) hz0 (by omega : ¬ tkd (mb t I) z r.2.1 = 0)
            have hT2 := tst_z (b := mb t I) hz0
            have hq := hg (mb t I) z _ hT2
            refine s_nextM (by omega) hC (by rw [hM.1.mbe, hk]; decide) (fun J1 L3 n1 hC1 => ?_)
            rw [hM.1.mbe] at hC1
            refine r_aload_n rfl ?_
            refine r_virtual (vs := []) (as := []) (by decide) (zl rfl) rfl rfl (zl rfl) (Nat.le_refl _) (Or.inr (Or.inr ⟨zt rfl, rfl, zt rfl⟩)) ?_
            refine hel J1 L3 _ t _ z w hC1 (fun J2 L4 v2 hM2 => ?_)
            rw [n1.v.mbe, hM.1.mbe] at hM2
            refine r_istore_n (ls' := [_, _, _, _]) (zt rfl) rfl ?_
            refine r_iload_n rfl ?_
            refine r_if_eq (fun c_50 => ?_) (fun c_50 => ?_)
            · have c_50 := (n_eq (a := 0) (b := 0) rfl rfl (by omega) (by omega)).mp c_50
              refine E_go 5 rfl ?_
              refine r_iload_n rfl ?_
              refine r_iload_n rfl ?_
              refine r_isub ?_
              refine r_nil ?_
              refine E_go 6 rfl ?_
              refine r_istore_n (ls' := [_, _, _, _]) (zt rfl) rfl ?_
              refine r_goto ?_
              refine ih (d - 1) (by omega) ((F (mb t I) z (tst (mb t I) z r.2.1)).1, (F (mb t I) z (tst (mb t I) z r.2.1)).2.1, r.2.2 ++ ((F (mb t I) z (tst (mb t I) z r.2.1)).2.2 ++ [-45])) J2 L4 _ _ _ ?_ ?_ ?_ (MR_app hM hr n1.v hM2 (fun st => e_sub))
              · rw [hr0]; exact pLp_s (by omega) hr hop
              · dsimp only; omega
              · exact hq.1.2
            · have c_50 := (not_congr (n_eq (a := 0) (b := 0) rfl rfl (by omega) (by omega))).mp c_50
              omega
          · exact absurd (lg_eq.mp c_31) (mK_45 hC.2.2.2.1 (by rw [hM.1.mbe]; exact b01n.mp c_20))
    · refine E_go 1 rfl ?_
      refine r_aload_n rfl ?_
      refine r_bipush ?_
      refine r_virtual (vs := []) (as := [_]) (by decide) (zl rfl) rfl rfl (zl rfl) (Nat.le_refl _) (Or.inr (Or.inr ⟨zt rfl, rfl, zt rfl⟩)) ?_
      refine s_isSignB (by omega) (hM.2.2 hr).1 ?_
      refine r_if_ne (fun c_11 => ?_) (fun c_11 => ?_)
      · have c_11 := (not_congr (n_eq (a := 0) (b := 0) rfl rfl (by omega) (by omega))).mp c_11
        omega
      · have c_11 := (n_eq (a := 0) (b := 0) rfl rfl (by omega) (by omega)).mp c_11
        refine r_aload_n rfl ?_
        refine r_bipush ?_
        refine r_virtual (vs := []) (as := [_]) (by decide) (zl rfl) rfl rfl (zl rfl) (Nat.le_refl _) (Or.inr (Or.inr ⟨zt rfl, rfl, zt rfl⟩)) ?_
        refine s_isSignB (by omega) (hM.2.2 hr).1 ?_
        refine r_if_eq (fun c_20 => ?_) (fun c_20 => ?_)
        · have c_20 := (n_eq (a := 0) (b := 0) rfl rfl (by omega) (by omega)).mp c_20
          refine E_go 7 rfl ?_
          refine r_iload_n rfl ?_
          refine r_iret rfl trivial ?_
          have e : pLp (tkd (mb t I) z) (tst (mb t I) z) opS (F (mb t I) z) 160 (F (mb t I) z i) = r := by rw [hr0]; exact pLp_f hr
          have hQ2 := hQ J L2 v
          rw [e] at hQ2
          exact hQ2 hM
        · have c_20 := (not_congr (n_eq (a := 0) (b := 0) rfl rfl (by omega) (by omega))).mp c_20
          omega
  refine M_go (ls := [_, _, _, _]) (ml := 4) rfl rfl rfl (zl rfl) rfl ?_
  refine r_aload_n rfl ?_
  refine r_virtual (vs := []) (as := []) (by decide) (zl rfl) rfl rfl (zl rfl) (Nat.le_refl _) (Or.inr (Or.inr ⟨zt rfl, rfl, zt rfl⟩)) ?_
  refine hel I L _ t i z w h (fun J L2 v hM => ?_)
  refine r_istore_n (ls' := [_, _, _, _]) (zt rfl) rfl ?_
  refine r_nil ?_
  refine key 160 (F (mb t I) z i) J L2 v _ _ rfl ?_ ?_ hM
  · have := h.1.2.1; have := hg (mb t I) z i h.1.2.2; omega
  · exact (hg (mb t I) z i h.1.2.2).1.2

set_option maxRecDepth 10000 in
theorem s_not2 {xs : xSc} {m o : Nat} {F G : PFn} (hm : 10 ≤ m) (hg : ∀ b z, gd z (F b z)) (hel : Mp xs xi_X7_added2 m o F) (hd5 : o < 5) (hdp : Mp xs xi_X7_not3 m (o + 1) G) : Mp xs xi_X7_not2 (m + 1) o (fun b z i => pNt (tkd b z) (tst b z) (some (G b z)) (pCm (tkd b z) (tst b z) (F b z)) i) := by
  intro I L Q t i z w h hQ
  dsimp only at hQ
  refine M_go (ls := [_, _, _, _]) (ml := 4) rfl rfl rfl (zl rfl) rfl ?_
  refine r_aload_n rfl ?_
  refine r_bipush ?_
  refine r_bipush ?_
  refine r_bipush ?_
  refine r_iconst ?_
  refine r_iconst ?_
  refine r_iconst ?_
  refine r_iconst ?_
  refine r_iconst ?_
  refine r_virtual (vs := []) (as := [_, _, _, _, _, _, _, _]) (by decide) (zl rfl) rfl rfl (zl rfl) (Nat.le_refl _) (Or.inr (Or.inr ⟨zt rfl, rfl, zt rfl⟩)) ?_
  refine s_isW_8 (t := t) (z := z) (i := i) (by omega) h.1.1 h.1.2.1 h.2.1.1 h.2.1.2.1 h.1.2.2 h.2.1.2.2.2 h.2.2.2.1 ?_
  refine r_if_eq (fun c_15 => ?_) (fun c_15 => ?_)
  · refine E_go 4 rfl ?_
    refine r_aload_n rfl ?_
    refine r_virtual (vs := []) (as := []) (by decide) (zl rfl) rfl rfl (zl rfl) (Nat.le_refl _) (Or.inr (Or.inr ⟨zt rfl, rfl, zt rfl⟩)) ?_
    refine hel I L _ t i z w h (fun J L2 v hM => ?_)
    have hg1 := hg (mb t I) z i h.1.2.2
    by_cases hr : (F (mb t I) z i).1 = true
    · have hC := MR_c h hM hr hg1.1.2
      refine r_istore_n (ls' := [_, _, _, _]) (zt rfl) rfl ?_
      refine r_aload_n rfl ?_
      refine r_bipush ?_
      refine r_virtual (vs := []) (as := [_]) (by decide) (zl rfl) rfl rfl (zl rfl) (Nat.le_refl _) (Or.inr (Or.inr ⟨zt rfl, rfl, zt rfl⟩)) ?_
      refine s_isSign (t := t) (z := z) (i := (F (mb t I) z i).2.1) (c := 60) (by omega) rfl (by omega) (by omega) hC.2.1.2.2.2 hC.2.2.2.1 ?_
      rw [hM.1.mbe]
      refine r_if_ne (fun c_63 => ?_) (fun c_63 => ?_)
      · refine E_go 5 rfl ?_
        refine r_aload_n rfl ?_
        refine r_getJ (by decide) rfl rfl (by decide) rfl ?_
        refine r_ldc2_w ?_
        refine r_lcmp ?_
        refine r_if_ne (fun c_85 => ?_) (fun c_85 => ?_)
        · exact absurd (lg_eq.mpr (mK_60 hC.2.2.2.1 (by rw [hM.1.mbe]; exact b01n.mp c_63))) c_85
        · refine r_iconst ?_
          refine r_goto ?_
          refine E_go 7 rfl ?_
          refine r_istore_n (ls' := [_, _, _, _]) (zt rfl) rfl ?_
          refine r_aload_n rfl ?_
          refine r_virtual (vs := []) (as := []) (by decide) (zl rfl) rfl rfl (zl rfl) (Nat.le_refl _) (Or.inr (Or.inr ⟨zt rfl, rfl, zt rfl⟩)) ?_
          have hk : tkd (mb t I) z (F (mb t I) z i).2.1 = 60 := b01n.mp c_63
          refine s_nextM (by omega) hC (by rw [hM.1.mbe, hk]; decide) (fun J1 L3 n1 hC1 => ?_)
          rw [hM.1.mbe] at hC1
          refine r_aload_n rfl ?_
          refine r_virtual (vs := []) (as := []) (by decide) (zl rfl) rfl rfl (zl rfl) (Nat.le_refl _) (Or.inr (Or.inr ⟨zt rfl, rfl, zt rfl⟩)) ?_
          refine hel J1 L3 _ t _ z w hC1 (fun J2 L4 v2 hM2 => ?_)
          rw [n1.v.mbe, hM.1.mbe] at hM2
          refine r_istore_n (ls' := [_, _, _, _]) (zt rfl) rfl ?_
          refine r_iload_n rfl ?_
          refine r_if_eq (fun c_104 => ?_) (fun c_104 => ?_)
          · have c_104 := (n_eq (a := 1) (b := 0) rfl rfl (by omega) (by omega)).mp c_104
            omega
          · have c_104 := (not_congr (n_eq (a := 1) (b := 0) rfl rfl (by omega) (by omega))).mp c_104
            refine r_iload_n rfl ?_
            refine r_iload_n rfl ?_
            refine r_icmp_ge (fun c_109 => ?_) (fun c_109 => ?_)
            · refine E_go 10 rfl ?_
              refine r_iconst ?_
              refine r_nil ?_
              refine E_go 11 rfl ?_
              refine r_iret rfl trivial ?_
              refine hQ _ _ _ ?_
              rw [pNt_n (b01.mp c_15), pCm_y hr (by omega), hk]
              exact MR_app (ww := -(io 60)) hM hr n1.v hM2 (fun st => by rw [show -(io 60) = (-60 : Int32) from rfl, e_lt, if_neg (Int32.not_lt.mpr c_109)])
            · refine r_goto ?_
              refine E_go 9 rfl ?_
              refine r_iconst ?_
              refine r_goto ?_
              refine E_go 11 rfl ?_
              refine r_iret rfl trivial ?_
              refine hQ _ _ _ ?_
              rw [pNt_n (b01.mp c_15), pCm_y hr (by omega), hk]
              exact MR_app (ww := -(io 60)) hM hr n1.v hM2 (fun st => by rw [show -(io 60) = (-60 : Int32) from rfl, e_lt, if_pos (Int32.not_le.mp c_109)])
      · refine r_aload_n rfl ?_
        refine r_bipush ?_
        refine r_virtual (vs := []) (as := [_]) (by decide) (zl rfl) rfl rfl (zl rfl) (Nat.le_refl _) (Or.inr (Or.inr ⟨zt rfl, rfl, zt rfl⟩)) ?_
        refine s_isSign (t := t) (z := z) (i := (F (mb t I) z i).2.1) (c := 61) (by omega) rfl (by omega) (by omega) hC.2.1.2.2.2 hC.2.2.2.1 ?_
        rw [hM.1.mbe]
        refine r_if_ne (fun c_72 => ?_) (fun c_72 => ?_)
        · refine E_go 5 rfl ?_
          refine r_aload_n rfl ?_
          refine r_getJ (by decide) rfl rfl (by decide) rfl ?_
          refine r_ldc2_w ?_
          refine r_lcmp ?_
          refine r_if_ne (fun c_85 => ?_) (fun c_85 => ?_)
          · refine E_go 6 rfl ?_
            refine r_iconst ?_
            refine r_nil ?_
            refine E_go 7 rfl ?_
            refine r_istore_n (ls' := [_, _, _, _]) (zt rfl) rfl ?_
            refine r_aload_n rfl ?_
            refine r_virtual (vs := []) (as := []) (by decide) (zl rfl) rfl rfl (zl rfl) (Nat.le_refl _) (Or.inr (Or.inr ⟨zt rfl, rfl, zt rfl⟩)) ?_
            have hk : tkd (mb t I) z (F (mb t I) z i).2.1 = 61 := b01n.mp c_72
            refine s_nextM (by omega) hC (by rw [hM.1.mbe, hk]; decide) (fun J1 L3 n1 hC1 => ?_)
            rw [hM.1.mbe] at hC1
            refine r_aload_n rfl ?_
            refine r_virtual (vs := []) (as := []) (by decide) (zl rfl) rfl rfl (zl rfl) (Nat.le_refl _) (Or.inr (Or.inr ⟨zt rfl, rfl, zt rfl⟩)) ?_
            refine hel J1 L3 _ t _ z w hC1 (fun J2 L4 v2 hM2 => ?_)
            rw [n1.v.mbe, hM.1.mbe] at hM2
            refine r_istore_n (ls' := [_, _, _, _]) (zt rfl) rfl ?_
            refine r_iload_n rfl ?_
            refine r_if_eq (fun c_104 => ?_) (fun c_104 => ?_)
            · have c_104 := (n_eq (a := 0) (b := 0) rfl rfl (by omega) (by omega)).mp c_104
              refine E_go 8 rfl ?_
              refine r_iload_n rfl ?_
              refine r_iload_n rfl ?_
              refine r_icmp_ne (fun c_117 => ?_) (fun c_117 => ?_)
              · refine E_go 10 rfl ?_
                refine r_iconst ?_
                refine r_nil ?_
                refine E_go 11 rfl ?_
                refine r_iret rfl trivial ?_
                refine hQ _ _ _ ?_
                rw [pNt_n (b01.mp c_15), pCm_y hr (by omega), hk]
                exact MR_app (ww := -(io 61)) hM hr n1.v hM2 (fun st => by rw [show -(io 61) = (-61 : Int32) from rfl, e_eq, if_neg c_117])
              · refine r_nil ?_
                refine E_go 9 rfl ?_
                refine r_iconst ?_
                refine r_goto ?_
                refine E_go 11 rfl ?_
                refine r_iret rfl trivial ?_
                refine hQ _ _ _ ?_
                rw [pNt_n (b01.mp c_15), pCm_y hr (by omega), hk]
                exact MR_app (ww := -(io 61)) hM hr n1.v hM2 (fun st => by rw [show -(io 61) = (-61 : Int32) from rfl, e_eq, if_pos c_117])
            · have c_104 := (not_congr (n_eq (a := 0) (b := 0) rfl rfl (by omega) (by omega))).mp c_104
              omega
          · exact absurd (lg_eq.mp c_85) (mK_61 hC.2.2.2.1 (by rw [hM.1.mbe]; exact b01n.mp c_72))
        · refine r_iload_n rfl ?_
          refine r_iret rfl trivial ?_
          refine hQ _ _ _ ?_
          rw [pNt_n (b01.mp c_15), pCm_n ?_]
          · exact hM
          · have q1 := b01.mp c_63
            have q2 := b01.mp c_72
            exact fun q => by omega
    · have hb := (hM.2.2 hr).1
      refine r_istore_n (ls' := [_, _, _, _]) (zt rfl) rfl ?_
      refine r_aload_n rfl ?_
      refine r_bipush ?_
      refine r_virtual (vs := []) (as := [_]) (by decide) (zl rfl) rfl rfl (zl rfl) (Nat.le_refl _) (Or.inr (Or.inr ⟨zt rfl, rfl, zt rfl⟩)) ?_
      refine s_isSignB (by omega) hb ?_
      refine r_if_ne (fun c_63 => ?_) (fun c_63 => ?_)
      · have c_63 := (not_congr (n_eq (a := 0) (b := 0) rfl rfl (by omega) (by omega))).mp c_63
        omega
      · have c_63 := (n_eq (a := 0) (b := 0) rfl rfl (by omega) (by omega)).mp c_63
        refine r_aload_n rfl ?_
        refine r_bipush ?_
        refine r_virtual (vs := []) (as := [_]) (by decide) (zl rfl) rfl rfl (zl rfl) (Nat.le_refl _) (Or.inr (Or.inr ⟨zt rfl, rfl, zt rfl⟩)) ?_
        refine s_isSignB (by omega) hb ?_
        refine r_if_ne (fun c_72 => ?_) (fun c_72 => ?_)
        · have c_72 := (not_congr (n_eq (a := 0) (b := 0) rfl rfl (by omega) (by omega))).mp c_72
          omega
        · have c_72 := (n_eq (a := 0) (b := 0) rfl rfl (by omega) (by omega)).mp c_72
          refine r_iload_n rfl ?_
          refine r_iret rfl trivial ?_
          refine hQ _ _ _ ?_
          rw [pNt_n (b01.mp c_15), pCm_n ?_]
          · exact hM
          · exact fun q => absurd q.1 hr
  · refine r_aload_n rfl ?_
    refine r_virtual (vs := []) (as := []) (by decide) (zl rfl) rfl rfl (zl rfl) (Nat.le_refl _) (Or.inr (Or.inr ⟨zt rfl, rfl, zt rfl⟩)) ?_
    have hk : tkd (mb t I) z i = 8 := b01n.mp c_15
    refine s_opensS (by omega) hd5 h (by omega) (fun J1 L3 v1 hC1 => ?_)
    refine r_if_ne (fun c_22 => ?_) (fun c_22 => ?_)
    · have c_22 := (not_congr (n_eq (a := 1) (b := 0) rfl rfl (by omega) (by omega))).mp c_22
      refine E_go 1 rfl ?_
      refine r_aload_n rfl ?_
      refine r_virtual (vs := []) (as := []) (by decide) (zl rfl) rfl rfl (zl rfl) (Nat.le_refl _) (Or.inr (Or.inr ⟨zt rfl, rfl, zt rfl⟩)) ?_
      refine hdp J1 L3 _ t _ z w hC1 (fun J2 L4 v hM2 => ?_)
      rw [v1.mbe] at hM2
      refine r_istore_n (ls' := [_, _, _, _]) (zt rfl) rfl ?_
      refine r_aload_n rfl ?_
      refine r_dup rfl ?_
      refine r_getI (by decide) rfl rfl (by decide) rfl ?_
      refine r_iconst ?_
      refine r_isub ?_
      refine r_putI rfl rfl (by decide) ?_
      refine r_iload_n rfl ?_
      refine r_if_ne (fun c_43 => ?_) (fun c_43 => ?_)
      · refine E_go 2 rfl ?_
        refine r_iconst ?_
        refine r_nil ?_
        refine E_go 3 rfl ?_
        refine r_iret rfl trivial ?_
        refine hQ _ _ _ ?_
        rw [pNt_8 hk]
        exact MR_op v1 hM2 (fun st => by rw [e_not, if_neg c_43])
      · refine r_iconst ?_
        refine r_goto ?_
        refine E_go 3 rfl ?_
        refine r_iret rfl trivial ?_
        refine hQ _ _ _ ?_
        rw [pNt_8 hk]
        exact MR_op v1 hM2 (fun st => by rw [e_not, if_pos c_43])
    · have c_22 := (n_eq (a := 1) (b := 0) rfl rfl (by omega) (by omega)).mp c_22
      omega

set_option maxRecDepth 10000 in
theorem s_both2 {xs : xSc} {m o : Nat} {F : PFn} (hm : 10 ≤ m) (hg : ∀ b z, gd z (F b z)) (hel : Mp xs xi_X7_not2 m o F) : Mp xs xi_X7_both2 (m + 1) o (fun b z i => pLp (tkd b z) (tst b z) opA (F b z) 160 (F b z i)) := by
  intro I L Q t i z w h hQ
  dsimp only at hQ
  have key : ∀ d (r : PR) (J : Nat → Nat → Int32) (L2 : Nat → Nat → Int64) (v : Int32) (x0 : Value), pLp (tkd (mb t I) z) (tst (mb t I) z) opA (F (mb t I) z) 160 (F (mb t I) z i) = pLp (tkd (mb t I) z) (tst (mb t I) z) opA (F (mb t I) z) d r → z ≤ r.2.1 + d → r.2.1 ≤ z → MR t z o w r I J L2 v → E xs m xi_X7_both2 82 Q 5 [.ref 61, .int v, x0] [] (82, J, L2, xF0) := by
    intro d
    induction d using Nat.strongRecOn with
    | _ d ih =>
    intro r J L2 v x0 hr0 hd hz0 hM
    by_cases hr : r.1 = true
    · have hC := MR_c h hM hr hz0
      refine E_go 1 rfl ?_
      refine r_aload_n rfl ?_
      refine r_bipush ?_
      refine r_bipush ?_
      refine r_bipush ?_
      refine r_iconst ?_
      refine r_iconst ?_
      refine r_iconst ?_
      refine r_iconst ?_
      refine r_iconst ?_
      refine r_virtual (vs := []) (as := [_, _, _, _, _, _, _, _]) (by decide) (zl rfl) rfl rfl (zl rfl) (Nat.le_refl _) (Or.inr (Or.inr ⟨zt rfl, rfl, zt rfl⟩)) ?_
      refine s_isW_7 (t := t) (z := z) (i := r.2.1) (by omega) hC.1.1 hC.1.2.1 hC.2.1.1 hC.2.1.2.1 hz0 hC.2.1.2.2.2 hC.2.2.2.1 ?_
      rw [hM.1.mbe]
      refine r_if_eq (fun c_20 => ?_) (fun c_20 => ?_)
      · refine E_go 4 rfl ?_
        refine r_iload_n rfl ?_
        refine r_iret rfl trivial ?_
        have e : pLp (tkd (mb t I) z) (tst (mb t I) z) opA (F (mb t I) z) 160 (F (mb t I) z i) = r := by rw [hr0]; exact pLp_n (by simp [opA, b01.mp c_20])
        have hQ2 := hQ J L2 v
        rw [e] at hQ2
        exact hQ2 hM
      · refine r_aload_n rfl ?_
        refine r_virtual (vs := []) (as := []) (by decide) (zl rfl) rfl rfl (zl rfl) (Nat.le_refl _) (Or.inr (Or.inr ⟨zt rfl, rfl, zt rfl⟩)) ?_
        have hk : tkd (mb t I) z r.2.1 = 7 := b01n.mp c_20
        have hop : opA (tkd (mb t I) z r.2.1) = some (-7) := by rw [hk]; rfl
        have hT := tst_lt (b := mb t I) hz0 (by omega : ¬ tkd (mb t I) z r.2.1 = 0)
        have hT2 := tst_z (b := mb t I) hz0
        have hq := hg (mb t I) z _ hT2
        refine s_nextM (by omega) hC (by rw [hM.1.mbe, hk]; decide) (fun J1 L3 n1 hC1 => ?_)
        rw [hM.1.mbe] at hC1
        refine r_aload_n rfl ?_
        refine r_virtual (vs := []) (as := []) (by decide) (zl rfl) rfl rfl (zl rfl) (Nat.le_refl _) (Or.inr (Or.inr ⟨zt rfl, rfl, zt rfl⟩)) ?_
        refine hel J1 L3 _ t _ z w hC1 (fun J2 L4 v2 hM2 => ?_)
        rw [n1.v.mbe, hM.1.mbe] at hM2
        refine r_istore_n (ls' := [_, _, _]) (zt rfl) rfl ?_
        refine r_iload_n rfl ?_
        refine r_if_eq (fun c_33 => ?_) (fun c_33 => ?_)
        · refine E_go 2 rfl ?_
          refine r_iconst ?_
          refine r_nil ?_
          refine E_go 3 rfl ?_
          refine r_istore_n (ls' := [_, _, _]) (zt rfl) rfl ?_
          refine r_goto ?_
          refine ih (d - 1) (by omega) ((F (mb t I) z (tst (mb t I) z r.2.1)).1, (F (mb t I) z (tst (mb t I) z r.2.1)).2.1, r.2.2 ++ ((F (mb t I) z (tst (mb t I) z r.2.1)).2.2 ++ [-7])) J2 L4 _ _ ?_ ?_ ?_ (MR_app hM hr n1.v hM2 (fun st => by first | rw [e_and, if_pos c_33] | rw [e_and, if_neg c_33, if_pos c_37]))
          · rw [hr0]; exact pLp_s (by omega) hr hop
          · dsimp only; omega
          · exact hq.1.2
        · refine r_iload_n rfl ?_
          refine r_if_eq (fun c_37 => ?_) (fun c_37 => ?_)
          · refine E_go 2 rfl ?_
            refine r_iconst ?_
            refine r_nil ?_
            refine E_go 3 rfl ?_
            refine r_istore_n (ls' := [_, _, _]) (zt rfl) rfl ?_
            refine r_goto ?_
            refine ih (d - 1) (by omega) ((F (mb t I) z (tst (mb t I) z r.2.1)).1, (F (mb t I) z (tst (mb t I) z r.2.1)).2.1, r.2.2 ++ ((F (mb t I) z (tst (mb t I) z r.2.1)).2.2 ++ [-7])) J2 L4 _ _ ?_ ?_ ?_ (MR_app hM hr n1.v hM2 (fun st => by first | rw [e_and, if_pos c_33] | rw [e_and, if_neg c_33, if_pos c_37]))
            · rw [hr0]; exact pLp_s (by omega) hr hop
            · dsimp only; omega
            · exact hq.1.2
          · refine r_iconst ?_
            refine r_goto ?_
            refine E_go 3 rfl ?_
            refine r_istore_n (ls' := [_, _, _]) (zt rfl) rfl ?_
            refine r_goto ?_
            refine ih (d - 1) (by omega) ((F (mb t I) z (tst (mb t I) z r.2.1)).1, (F (mb t I) z (tst (mb t I) z r.2.1)).2.1, r.2.2 ++ ((F (mb t I) z (tst (mb t I) z r.2.1)).2.2 ++ [-7])) J2 L4 _ _ ?_ ?_ ?_ (MR_app hM hr n1.v hM2 (fun st => by rw [e_and, if_neg c_33, if_neg c_37]))
            · rw [hr0]; exact pLp_s (by omega) hr hop
            · dsimp only; omega
            · exact hq.1.2
    · refine E_go 1 rfl ?_
      refine r_aload_n rfl ?_
      refine r_bipush ?_
      refine r_bipush ?_
      refine r_bipush ?_
      refine r_iconst ?_
      refine r_iconst ?_
      refine r_iconst ?_
      refine r_iconst ?_
      refine r_iconst ?_
      refine r_virtual (vs := []) (as := [_, _, _, _, _, _, _, _]) (by decide) (zl rfl) rfl rfl (zl rfl) (Nat.le_refl _) (Or.inr (Or.inr ⟨zt rfl, rfl, zt rfl⟩)) ?_
      refine s_isWordB (by omega) (hM.2.2 hr).1 ?_
      refine r_if_eq (fun c_20 => ?_) (fun c_20 => ?_)
      · have c_20 := (n_eq (a := 0) (b := 0) rfl rfl (by omega) (by omega)).mp c_20
        refine E_go 4 rfl ?_
        refine r_iload_n rfl ?_
        refine r_iret rfl trivial ?_
        have e : pLp (tkd (mb t I) z) (tst (mb t I) z) opA (F (mb t I) z) 160 (F (mb t I) z i) = r := by rw [hr0]; exact pLp_f hr
        have hQ2 := hQ J L2 v
        rw [e] at hQ2
        exact hQ2 hM
      · have c_20 := (not_congr (n_eq (a := 0) (b := 0) rfl rfl (by omega) (by omega))).mp c_20
        omega
  refine M_go (ls := [_, _, _]) (ml := 3) rfl rfl rfl (zl rfl) rfl ?_
  refine r_aload_n rfl ?_
  refine r_virtual (vs := []) (as := []) (by decide) (zl rfl) rfl rfl (zl rfl) (Nat.le_refl _) (Or.inr (Or.inr ⟨zt rfl, rfl, zt rfl⟩)) ?_
  refine hel I L _ t i z w h (fun J L2 v hM => ?_)
  refine r_istore_n (ls' := [_, _, _]) (zt rfl) rfl ?_
  refine r_nil ?_
  refine key 160 (F (mb t I) z i) J L2 v _ rfl ?_ ?_ hM
  · have := h.1.2.1; have := hg (mb t I) z i h.1.2.2; omega
  · exact (hg (mb t I) z i h.1.2.2).1.2

set_option maxRecDepth 10000 in
theorem s_either2 {xs : xSc} {m o : Nat} {F : PFn} (hm : 10 ≤ m) (hg : ∀ b z, gd z (F b z)) (hel : Mp xs xi_X7_both2 m o F) : Mp xs xi_X7_either2 (m + 1) o (fun b z i => pLp (tkd b z) (tst b z) opO (F b z) 160 (F b z i)) := by
  intro I L Q t i z w h hQ
  dsimp only at hQ
  have key : ∀ d (r : PR) (J : Nat → Nat → Int32) (L2 : Nat → Nat → Int64) (v : Int32) (x0 : Value), pLp (tkd (mb t I) z) (tst (mb t I) z) opO (F (mb t I) z) 160 (F (mb t I) z i) = pLp (tkd (mb t I) z) (tst (mb t I) z) opO (F (mb t I) z) d r → z ≤ r.2.1 + d → r.2.1 ≤ z → MR t z o w r I J L2 v → E xs m xi_X7_either2 82 Q 5 [.ref 61, .int v, x0] [] (82, J, L2, xF0) := by
    intro d
    induction d using Nat.strongRecOn with
    | _ d ih =>
    intro r J L2 v x0 hr0 hd hz0 hM
    by_cases hr : r.1 = true
    · have hC := MR_c h hM hr hz0
      refine E_go 1 rfl ?_
      refine r_aload_n rfl ?_
      refine r_bipush ?_
      refine r_bipush ?_
      refine r_iconst ?_
      refine r_iconst ?_
      refine r_iconst ?_
      refine r_iconst ?_
      refine r_iconst ?_
      refine r_iconst ?_
      refine r_virtual (vs := []) (as := [_, _, _, _, _, _, _, _]) (by decide) (zl rfl) rfl rfl (zl rfl) (Nat.le_refl _) (Or.inr (Or.inr ⟨zt rfl, rfl, zt rfl⟩)) ?_
      refine s_isW_6 (t := t) (z := z) (i := r.2.1) (by omega) hC.1.1 hC.1.2.1 hC.2.1.1 hC.2.1.2.1 hz0 hC.2.1.2.2.2 hC.2.2.2.1 ?_
      rw [hM.1.mbe]
      refine r_if_eq (fun c_19 => ?_) (fun c_19 => ?_)
      · refine E_go 5 rfl ?_
        refine r_iload_n rfl ?_
        refine r_iret rfl trivial ?_
        have e : pLp (tkd (mb t I) z) (tst (mb t I) z) opO (F (mb t I) z) 160 (F (mb t I) z i) = r := by rw [hr0]; exact pLp_n (by simp [opO, b01.mp c_19])
        have hQ2 := hQ J L2 v
        rw [e] at hQ2
        exact hQ2 hM
      · refine r_aload_n rfl ?_
        refine r_virtual (vs := []) (as := []) (by decide) (zl rfl) rfl rfl (zl rfl) (Nat.le_refl _) (Or.inr (Or.inr ⟨zt rfl, rfl, zt rfl⟩)) ?_
        have hk : tkd (mb t I) z r.2.1 = 6 := b01n.mp c_19
        have hop : opO (tkd (mb t I) z r.2.1) = some (-6) := by rw [hk]; rfl
        have hT := tst_lt (b := mb t I) hz0 (by omega : ¬ tkd (mb t I) z r.2.1 = 0)
        have hT2 := tst_z (b := mb t I) hz0
        have hq := hg (mb t I) z _ hT2
        refine s_nextM (by omega) hC (by rw [hM.1.mbe, hk]; decide) (fun J1 L3 n1 hC1 => ?_)
        rw [hM.1.mbe] at hC1
        refine r_aload_n rfl ?_
        refine r_virtual (vs := []) (as := []) (by decide) (zl rfl) rfl rfl (zl rfl) (Nat.le_refl _) (Or.inr (Or.inr ⟨zt rfl, rfl, zt rfl⟩)) ?_
        refine hel J1 L3 _ t _ z w hC1 (fun J2 L4 v2 hM2 => ?_)
        rw [n1.v.mbe, hM.1.mbe] at hM2
        refine r_istore_n (ls' := [_, _, _]) (zt rfl) rfl ?_
        refine r_iload_n rfl ?_
        refine r_if_ne (fun c_32 => ?_) (fun c_32 => ?_)
        · refine E_go 2 rfl ?_
          refine r_iconst ?_
          refine r_goto ?_
          refine E_go 4 rfl ?_
          refine r_istore_n (ls' := [_, _, _]) (zt rfl) rfl ?_
          refine r_goto ?_
          refine ih (d - 1) (by omega) ((F (mb t I) z (tst (mb t I) z r.2.1)).1, (F (mb t I) z (tst (mb t I) z r.2.1)).2.1, r.2.2 ++ ((F (mb t I) z (tst (mb t I) z r.2.1)).2.2 ++ [-6])) J2 L4 _ _ ?_ ?_ ?_ (MR_app hM hr n1.v hM2 (fun st => by first | rw [e_or, if_neg c_32] | rw [e_or, if_pos c_32, if_neg c_36]))
          · rw [hr0]; exact pLp_s (by omega) hr hop
          · dsimp only; omega
          · exact hq.1.2
        · refine r_iload_n rfl ?_
          refine r_if_eq (fun c_36 => ?_) (fun c_36 => ?_)
          · refine E_go 3 rfl ?_
            refine r_iconst ?_
            refine r_nil ?_
            refine E_go 4 rfl ?_
            refine r_istore_n (ls' := [_, _, _]) (zt rfl) rfl ?_
            refine r_goto ?_
            refine ih (d - 1) (by omega) ((F (mb t I) z (tst (mb t I) z r.2.1)).1, (F (mb t I) z (tst (mb t I) z r.2.1)).2.1, r.2.2 ++ ((F (mb t I) z (tst (mb t I) z r.2.1)).2.2 ++ [-6])) J2 L4 _ _ ?_ ?_ ?_ (MR_app hM hr n1.v hM2 (fun st => by rw [e_or, if_pos c_32, if_pos c_36]))
            · rw [hr0]; exact pLp_s (by omega) hr hop
            · dsimp only; omega
            · exact hq.1.2
          · refine r_nil ?_
            refine E_go 2 rfl ?_
            refine r_iconst ?_
            refine r_goto ?_
            refine E_go 4 rfl ?_
            refine r_istore_n (ls' := [_, _, _]) (zt rfl) rfl ?_
            refine r_goto ?_
            refine ih (d - 1) (by omega) ((F (mb t I) z (tst (mb t I) z r.2.1)).1, (F (mb t I) z (tst (mb t I) z r.2.1)).2.1, r.2.2 ++ ((F (mb t I) z (tst (mb t I) z r.2.1)).2.2 ++ [-6])) J2 L4 _ _ ?_ ?_ ?_ (MR_app hM hr n1.v hM2 (fun st => by first | rw [e_or, if_neg c_32] | rw [e_or, if_pos c_32, if_neg c_36]))
            · rw [hr0]; exact pLp_s (by omega) hr hop
            · dsimp only; omega
            · exact hq.1.2
    · refine E_go 1 rfl ?_
      refine r_aload_n rfl ?_
      refine r_bipush ?_
      refine r_bipush ?_
      refine r_iconst ?_
      refine r_iconst ?_
      refine r_iconst ?_
      refine r_iconst ?_
      refine r_iconst ?_
      refine r_iconst ?_
      refine r_virtual (vs := []) (as := [_, _, _, _, _, _, _, _]) (by decide) (zl rfl) rfl rfl (zl rfl) (Nat.le_refl _) (Or.inr (Or.inr ⟨zt rfl, rfl, zt rfl⟩)) ?_
      refine s_isWordB (by omega) (hM.2.2 hr).1 ?_
      refine r_if_eq (fun c_19 => ?_) (fun c_19 => ?_)
      · have c_19 := (n_eq (a := 0) (b := 0) rfl rfl (by omega) (by omega)).mp c_19
        refine E_go 5 rfl ?_
        refine r_iload_n rfl ?_
        refine r_iret rfl trivial ?_
        have e : pLp (tkd (mb t I) z) (tst (mb t I) z) opO (F (mb t I) z) 160 (F (mb t I) z i) = r := by rw [hr0]; exact pLp_f hr
        have hQ2 := hQ J L2 v
        rw [e] at hQ2
        exact hQ2 hM
      · have c_19 := (not_congr (n_eq (a := 0) (b := 0) rfl rfl (by omega) (by omega))).mp c_19
        omega
  refine M_go (ls := [_, _, _]) (ml := 3) rfl rfl rfl (zl rfl) rfl ?_
  refine r_aload_n rfl ?_
  refine r_virtual (vs := []) (as := []) (by decide) (zl rfl) rfl rfl (zl rfl) (Nat.le_refl _) (Or.inr (Or.inr ⟨zt rfl, rfl, zt rfl⟩)) ?_
  refine hel I L _ t i z w h (fun J L2 v hM => ?_)
  refine r_istore_n (ls' := [_, _, _]) (zt rfl) rfl ?_
  refine r_nil ?_
  refine key 160 (F (mb t I) z i) J L2 v _ rfl ?_ ?_ hM
  · have := h.1.2.1; have := hg (mb t I) z i h.1.2.2; omega
  · exact (hg (mb t I) z i h.1.2.2).1.2

set_option maxRecDepth 10000 in
theorem s_atom1 {xs : xSc} {m o : Nat} {G G2 : PFn} (hm : 10 ≤ m) (hd5 : o < 5) (hgo : ∀ b z, gd z (G2 b z)) (hda : Mp xs xi_X7_atom2 m (o + 1) G) (hdo : Mp xs xi_X7_either2 m (o + 1) G2) : Mp xs xi_X7_atom1 (m + 1) o (fun b z i => pAt (tkd b z) (tst b z) (twt b z) (some (G b z, G2 b z)) i) := by
  intro I L Q t i z w h hQ
  dsimp only at hQ
  have htc := tcl_lt (b := mb t I) (z := z) (s := tpl (mb t I) z i)
  refine M_go (ls := [_, _]) (ml := 2) rfl rfl rfl (zl rfl) rfl ?_
  refine r_iconst ?_
  refine r_istore_n (ls' := [_, _]) (zt rfl) rfl ?_
  refine r_aload_n rfl ?_
  refine r_bipush ?_
  refine r_virtual (vs := []) (as := [_]) (by decide) (zl rfl) rfl rfl (zl rfl) (Nat.le_refl _) (Or.inr (Or.inr ⟨zt rfl, rfl, zt rfl⟩)) ?_
  refine s_isSign (t := t) (z := z) (i := i) (c := 45) (by omega) rfl (by omega) (by omega) h.2.1.2.2.2 h.2.2.2.1 ?_
  refine r_if_eq (fun c_8 => ?_) (fun c_8 => ?_)
  · refine E_go 1 rfl ?_
    refine r_aload_n rfl ?_
    refine r_bipush ?_
    refine r_virtual (vs := []) (as := [_]) (by decide) (zl rfl) rfl rfl (zl rfl) (Nat.le_refl _) (Or.inr (Or.inr ⟨zt rfl, rfl, zt rfl⟩)) ?_
    refine s_isSign (t := t) (z := z) (i := i) (c := 40) (by omega) rfl (by omega) (by omega) h.2.1.2.2.2 h.2.2.2.1 ?_
    refine r_if_eq (fun c_43 => ?_) (fun c_43 => ?_)
    · refine E_go 3 rfl ?_
      refine r_aload_n rfl ?_
      refine r_getZ (by decide) rfl rfl (by decide) rfl ?_
      refine r_if_ne (fun c_99 => ?_) (fun c_99 => ?_)
      · exact absurd h.2.1.2.2.2 c_99
      · refine r_aload_n rfl ?_
        refine r_getI (by decide) rfl rfl (by decide) h.2.2.2.1.1 ?_
        refine r_iconst ?_
        refine r_icmp_ne (fun c_107 => ?_) (fun c_107 => ?_)
        · have c_107 := (not_congr (n_eq (a := (tcl (mb t I) z (tpl (mb t I) z i))) (b := 2) rfl rfl (by omega) (by omega))).mp c_107
          refine E_go 4 rfl ?_
          refine r_aload_n rfl ?_
          refine r_getZ (by decide) rfl rfl (by decide) rfl ?_
          refine r_if_ne (fun c_127 => ?_) (fun c_127 => ?_)
          · exact absurd h.2.1.2.2.2 c_127
          · refine r_aload_n rfl ?_
            refine r_getI (by decide) rfl rfl (by decide) h.2.2.2.1.1 ?_
            refine r_iconst ?_
            refine r_icmp_ne (fun c_135 => ?_) (fun c_135 => ?_)
            · have c_135 := (not_congr (n_eq (a := (tcl (mb t I) z (tpl (mb t I) z i))) (b := 1) rfl rfl (by omega) (by omega))).mp c_135
              refine E_go 5 rfl ?_
              refine r_aload_n rfl ?_
              refine r_virtual (vs := []) (as := []) (by decide) (zl rfl) rfl rfl (zl rfl) (Nat.le_refl _) (Or.inr (Or.inr ⟨zt rfl, rfl, zt rfl⟩)) ?_
              refine s_fail0 (by omega) h.2.1.2.2.2 ?_
              refine r_nil ?_
              refine E_go 6 rfl ?_
              refine r_iload_n rfl ?_
              refine r_iret rfl trivial ?_
              have q1 := b01.mp c_8
              have q2 := b01.mp c_43
              have q3 : ¬ tkd (mb t I) z i = 2 := fun q => c_107 (tk_2.mpr q)
              have q4 : ¬ (10 ≤ tkd (mb t I) z i ∧ tkd (mb t I) z i < 16) := fun q => c_135 (tk_w (Or.inr q))
              refine hQ _ _ _ ?_
              rw [pAt_f q3 q4 q1 q2]
              exact MR_fl h
            · have c_135 := (n_eq (a := (tcl (mb t I) z (tpl (mb t I) z i))) (b := 1) rfl rfl (by omega) (by omega)).mp c_135
              refine r_aload_n rfl ?_
              refine r_virtual (vs := []) (as := []) (by decide) (zl rfl) rfl rfl (zl rfl) (Nat.le_refl _) (Or.inr (Or.inr ⟨zt rfl, rfl, zt rfl⟩)) ?_
              refine s_name (by omega) h (fun hn1 hn2 => ?_) (fun hn => ?_)
              · skip
                refine r_istore_n (ls' := [_, _]) (zt rfl) rfl ?_
                refine r_aload_n rfl ?_
                refine r_getZ (by decide) rfl rfl (by decide) rfl ?_
                refine r_if_ne (fun c_147 => ?_) (fun c_147 => ?_)
                · exact absurd h.2.1.2.2.2 c_147
                · refine r_aload_n rfl ?_
                  refine r_virtual (vs := []) (as := []) (by decide) (zl rfl) rfl rfl (zl rfl) (Nat.le_refl _) (Or.inr (Or.inr ⟨zt rfl, rfl, zt rfl⟩)) ?_
                  refine s_nextM (by omega) h (by omega) (fun J1 L3 n1 hC1 => ?_)
                  refine r_goto ?_
                  refine E_go 6 rfl ?_
                  refine r_iload_n rfl ?_
                  refine r_iret rfl trivial ?_
                  refine hQ _ _ _ ?_
                  rw [pAt_n hn1 hn2]
                  refine ⟨n1.v, fun _ => ⟨hC1.2.1.2.2, ?_, fun st => ?_⟩, fun q => absurd rfl q⟩
                  · have := hC1.2.2.2.1; rw [n1.v.mbe] at this; exact this
                  · rw [ev_one]; exact e_name hn1 hn2
              · skip
                refine r_istore_n (ls' := [_, _]) (zt rfl) rfl ?_
                refine r_aload_n rfl ?_
                refine r_getZ (by decide) rfl rfl (by decide) rfl ?_
                refine r_if_ne (fun c_147 => ?_) (fun c_147 => ?_)
                · refine E_go 6 rfl ?_
                  refine r_iload_n rfl ?_
                  refine r_iret rfl trivial ?_
                  have q1 := b01.mp c_8
                  have q2 := b01.mp c_43
                  have q3 : ¬ tkd (mb t I) z i = 2 := fun q => c_107 (tk_2.mpr q)
                  have q4 := hn
                  refine hQ _ _ _ ?_
                  rw [pAt_f q3 q4 q1 q2]
                  exact MR_fl h
                · exact absurd (show fl I 61 26 = 0 from c_147) (by simp [fl, up2])
        · have c_107 := (n_eq (a := (tcl (mb t I) z (tpl (mb t I) z i))) (b := 2) rfl rfl (by omega) (by omega)).mp c_107
          refine r_aload_n rfl ?_
          refine r_getJ (by decide) rfl rfl (by decide) rfl ?_
          refine r_l2i ?_
          refine r_istore_n (ls' := [_, _]) (zt rfl) rfl ?_
          refine r_aload_n rfl ?_
          refine r_virtual (vs := []) (as := []) (by decide) (zl rfl) rfl rfl (zl rfl) (Nat.le_refl _) (Or.inr (Or.inr ⟨zt rfl, rfl, zt rfl⟩)) ?_
          have hk : tkd (mb t I) z i = 2 := tk_2.mp c_107
          refine s_nextM (by omega) h (by omega) (fun J1 L3 n1 hC1 => ?_)
          refine r_goto ?_
          refine E_go 6 rfl ?_
          refine r_iload_n rfl ?_
          refine r_iret rfl trivial ?_
          refine hQ _ _ _ ?_
          rw [pAt_2 hk]
          refine ⟨n1.v, fun _ => ⟨hC1.2.1.2.2, ?_, fun st => ?_⟩, fun q => absurd rfl q⟩
          · have := hC1.2.2.2.1; rw [n1.v.mbe] at this; exact this
          · rw [ev_one, h.2.2.2.1.2.2.2.1 c_107]; exact e_num (twt_b hk).1 (twt_b hk).2
    · refine r_aload_n rfl ?_
      refine r_virtual (vs := []) (as := []) (by decide) (zl rfl) rfl rfl (zl rfl) (Nat.le_refl _) (Or.inr (Or.inr ⟨zt rfl, rfl, zt rfl⟩)) ?_
      have hk : tkd (mb t I) z i = 40 := b01n.mp c_43
      refine s_opensS (by omega) hd5 h (by omega) (fun J1 L3 v1 hC1 => ?_)
      refine r_if_eq (fun c_50 => ?_) (fun c_50 => ?_)
      · have c_50 := (n_eq (a := 1) (b := 0) rfl rfl (by omega) (by omega)).mp c_50
        omega
      · have c_50 := (not_congr (n_eq (a := 1) (b := 0) rfl rfl (by omega) (by omega))).mp c_50
        refine r_aload_n rfl ?_
        refine r_virtual (vs := []) (as := []) (by decide) (zl rfl) rfl rfl (zl rfl) (Nat.le_refl _) (Or.inr (Or.inr ⟨zt rfl, rfl, zt rfl⟩)) ?_
        refine hdo J1 L3 _ t _ z w hC1 (fun J2 L4 v hM2 => ?_)
        rw [v1.mbe] at hM2
        have hT2 := tst_z (b := mb t I) h.1.2.2
        have hgq := hgo (mb t I) z _ hT2
        by_cases hr : (G2 (mb t I) z (tst (mb t I) z i)).1 = true
        · have hC2 := MR_c hC1 hM2 hr hgq.1.2
          refine r_istore_n (ls' := [_, _]) (zt rfl) rfl ?_
          refine r_aload_n rfl ?_
          refine r_bipush ?_
          refine r_virtual (vs := []) (as := [_]) (by decide) (zl rfl) rfl rfl (zl rfl) (Nat.le_refl _) (Or.inr (Or.inr ⟨zt rfl, rfl, zt rfl⟩)) ?_
          refine s_isSign (t := t) (z := z) (i := (G2 (mb t I) z (tst (mb t I) z i)).2.1) (c := 41) (by omega) rfl (by omega) (by omega) hC2.2.1.2.2.2 hC2.2.2.2.1 ?_
          rw [hM2.1.mbe, v1.mbe]
          refine r_if_ne (fun c_64 => ?_) (fun c_64 => ?_)
          · refine E_go 2 rfl ?_
            refine r_aload_n rfl ?_
            refine r_dup rfl ?_
            refine r_getI (by decide) rfl rfl (by decide) rfl ?_
            refine r_iconst ?_
            refine r_isub ?_
            refine r_putI rfl rfl (by decide) ?_
            refine r_aload_n rfl ?_
            refine r_getZ (by decide) rfl rfl (by decide) rfl ?_
            refine r_if_ne (fun c_85 => ?_) (fun c_85 => ?_)
            · exact absurd (show J2 61 26 = 0 from hC2.2.1.2.2.2) c_85
            · refine r_aload_n rfl ?_
              refine r_virtual (vs := []) (as := []) (by decide) (zl rfl) rfl rfl (zl rfl) (Nat.le_refl _) (Or.inr (Or.inr ⟨zt rfl, rfl, zt rfl⟩)) ?_
              have hk2 : tkd (mb t I) z (G2 (mb t I) z (tst (mb t I) z i)).2.1 = 41 := b01n.mp c_64
              have hC3 := mCx_op hC2
              refine s_nextM (by omega) hC3 (by rw [mb_op, hM2.1.mbe, v1.mbe, hk2]; decide) (fun J3 L5 n3 hC4 => ?_)
              rw [mb_op, hM2.1.mbe, v1.mbe] at hC4
              refine r_goto ?_
              refine E_go 6 rfl ?_
              refine r_iload_n rfl ?_
              refine r_iret rfl trivial ?_
              refine hQ _ _ _ ?_
              rw [pAt_p1 hk hr hk2]
              exact MR_cl v1 hM2 hr n3 hC4
          · refine r_aload_n rfl ?_
            refine r_virtual (vs := []) (as := []) (by decide) (zl rfl) rfl rfl (zl rfl) (Nat.le_refl _) (Or.inr (Or.inr ⟨zt rfl, rfl, zt rfl⟩)) ?_
            refine s_fail0 (by omega) hC2.2.1.2.2.2 ?_
            refine r_nil ?_
            refine E_go 2 rfl ?_
            refine r_aload_n rfl ?_
            refine r_dup rfl ?_
            refine r_getI (by decide) rfl rfl (by decide) rfl ?_
            refine r_iconst ?_
            refine r_isub ?_
            refine r_putI rfl rfl (by decide) ?_
            refine r_aload_n rfl ?_
            refine r_getZ (by decide) rfl rfl (by decide) rfl ?_
            refine r_if_ne (fun c_85 => ?_) (fun c_85 => ?_)
            · refine E_go 6 rfl ?_
              refine r_iload_n rfl ?_
              refine r_iret rfl trivial ?_
              refine hQ _ _ _ ?_
              rw [pAt_p2 hk hr (b01.mp c_64)]
              exact MR_un v1 hM2 hr hC2
            · exact absurd (show fl J2 61 26 = 0 from c_85) (by simp [fl, up2])
        · have hb := (hM2.2.2 hr).1
          refine r_istore_n (ls' := [_, _]) (zt rfl) rfl ?_
          refine r_aload_n rfl ?_
          refine r_bipush ?_
          refine r_virtual (vs := []) (as := [_]) (by decide) (zl rfl) rfl rfl (zl rfl) (Nat.le_refl _) (Or.inr (Or.inr ⟨zt rfl, rfl, zt rfl⟩)) ?_
          refine s_isSignB (by omega) hb ?_
          refine r_if_ne (fun c_64 => ?_) (fun c_64 => ?_)
          · have c_64 := (not_congr (n_eq (a := 0) (b := 0) rfl rfl (by omega) (by omega))).mp c_64
            omega
          · have c_64 := (n_eq (a := 0) (b := 0) rfl rfl (by omega) (by omega)).mp c_64
            refine r_aload_n rfl ?_
            refine r_virtual (vs := []) (as := []) (by decide) (zl rfl) rfl rfl (zl rfl) (Nat.le_refl _) (Or.inr (Or.inr ⟨zt rfl, rfl, zt rfl⟩)) ?_
            refine s_fail1 (by omega) hb ?_
            refine r_nil ?_
            refine E_go 2 rfl ?_
            refine r_aload_n rfl ?_
            refine r_dup rfl ?_
            refine r_getI (by decide) rfl rfl (by decide) rfl ?_
            refine r_iconst ?_
            refine r_isub ?_
            refine r_putI rfl rfl (by decide) ?_
            refine r_aload_n rfl ?_
            refine r_getZ (by decide) rfl rfl (by decide) rfl ?_
            refine r_if_ne (fun c_85 => ?_) (fun c_85 => ?_)
            · refine E_go 6 rfl ?_
              refine r_iload_n rfl ?_
              refine r_iret rfl trivial ?_
              refine hQ _ _ _ ?_
              rw [pAt_p3 hk hr]
              exact MR_bad hM2 v1 hr
            · exact absurd ((show J2 61 26 = 0 from c_85).symm.trans hb) (by decide)
  · refine r_aload_n rfl ?_
    refine r_virtual (vs := []) (as := []) (by decide) (zl rfl) rfl rfl (zl rfl) (Nat.le_refl _) (Or.inr (Or.inr ⟨zt rfl, rfl, zt rfl⟩)) ?_
    have hk : tkd (mb t I) z i = 45 := b01n.mp c_8
    refine s_opensS (by omega) hd5 h (by omega) (fun J1 L3 v1 hC1 => ?_)
    refine r_if_eq (fun c_15 => ?_) (fun c_15 => ?_)
    · have c_15 := (n_eq (a := 1) (b := 0) rfl rfl (by omega) (by omega)).mp c_15
      omega
    · have c_15 := (not_congr (n_eq (a := 1) (b := 0) rfl rfl (by omega) (by omega))).mp c_15
      refine r_aload_n rfl ?_
      refine r_virtual (vs := []) (as := []) (by decide) (zl rfl) rfl rfl (zl rfl) (Nat.le_refl _) (Or.inr (Or.inr ⟨zt rfl, rfl, zt rfl⟩)) ?_
      refine hda J1 L3 _ t _ z w hC1 (fun J2 L4 v hM2 => ?_)
      rw [v1.mbe] at hM2
      refine r_ineg ?_
      refine r_istore_n (ls' := [_, _]) (zt rfl) rfl ?_
      refine r_aload_n rfl ?_
      refine r_dup rfl ?_
      refine r_getI (by decide) rfl rfl (by decide) rfl ?_
      refine r_iconst ?_
      refine r_isub ?_
      refine r_putI rfl rfl (by decide) ?_
      refine r_goto ?_
      refine E_go 6 rfl ?_
      refine r_iload_n rfl ?_
      refine r_iret rfl trivial ?_
      refine hQ _ _ _ ?_
      rw [pAt_m hk]
      exact MR_op v1 hM2 (fun st => e_neg)

set_option maxRecDepth 10000 in
theorem s_term1 {xs : xSc} {m o : Nat} {F : PFn} (hm : 10 ≤ m) (hg : ∀ b z, gd z (F b z)) (hel : Mp xs xi_X7_atom1 m o F) : Mp xs xi_X7_term1 (m + 1) o (fun b z i => pLp (tkd b z) (tst b z) opT (F b z) 160 (F b z i)) := by
  intro I L Q t i z w h hQ
  dsimp only at hQ
  have key : ∀ d (r : PR) (J : Nat → Nat → Int32) (L2 : Nat → Nat → Int64) (v : Int32) , pLp (tkd (mb t I) z) (tst (mb t I) z) opT (F (mb t I) z) 160 (F (mb t I) z i) = pLp (tkd (mb t I) z) (tst (mb t I) z) opT (F (mb t I) z) d r → z ≤ r.2.1 + d → r.2.1 ≤ z → MR t z o w r I J L2 v → E xs m xi_X7_term1 82 Q 5 [.ref 61, .int v] [] (82, J, L2, xF0) := by
    intro d
    induction d using Nat.strongRecOn with
    | _ d ih =>
    intro r J L2 v  hr0 hd hz0 hM
    by_cases hr : r.1 = true
    · have hC := MR_c h hM hr hz0
      refine E_go 1 rfl ?_
      refine r_aload_n rfl ?_
      refine r_bipush ?_
      refine r_virtual (vs := []) (as := [_]) (by decide) (zl rfl) rfl rfl (zl rfl) (Nat.le_refl _) (Or.inr (Or.inr ⟨zt rfl, rfl, zt rfl⟩)) ?_
      refine s_isSign (t := t) (z := z) (i := r.2.1) (c := 42) (by omega) rfl (by omega) (by omega) hC.2.1.2.2.2 hC.2.2.2.1 ?_
      rw [hM.1.mbe]
      refine r_if_eq (fun c_11 => ?_) (fun c_11 => ?_)
      · refine E_go 2 rfl ?_
        refine r_iload_n rfl ?_
        refine r_iret rfl trivial ?_
        have e : pLp (tkd (mb t I) z) (tst (mb t I) z) opT (F (mb t I) z) 160 (F (mb t I) z i) = r := by rw [hr0]; exact pLp_n (by simp [opT, b01.mp c_11])
        have hQ2 := hQ J L2 v
        rw [e] at hQ2
        exact hQ2 hM
      · refine r_aload_n rfl ?_
        refine r_virtual (vs := []) (as := []) (by decide) (zl rfl) rfl rfl (zl rfl) (Nat.le_refl _) (Or.inr (Or.inr ⟨zt rfl, rfl, zt rfl⟩)) ?_
        have hk : tkd (mb t I) z r.2.1 = 42 := b01n.mp c_11
        have hop : opT (tkd (mb t I) z r.2.1) = some (-42) := by rw [hk]; rfl
        have hT := tst_lt (b := mb t I) hz0 (by omega : ¬ tkd (mb t I) z r.2.1 = 0)
        have hT2 := tst_z (b := mb t I) hz0
        have hq := hg (mb t I) z _ hT2
        refine s_nextM (by omega) hC (by rw [hM.1.mbe, hk]; decide) (fun J1 L3 n1 hC1 => ?_)
        rw [hM.1.mbe] at hC1
        refine r_iload_n rfl ?_
        refine r_aload_n rfl ?_
        refine r_virtual (vs := []) (as := []) (by decide) (zl rfl) rfl rfl (zl rfl) (Nat.le_refl _) (Or.inr (Or.inr ⟨zt rfl, rfl, zt rfl⟩)) ?_
        refine hel J1 L3 _ t _ z w hC1 (fun J2 L4 v2 hM2 => ?_)
        rw [n1.v.mbe, hM.1.mbe] at hM2
        refine r_imul ?_
        refine r_istore_n (ls' := [_, _]) (zt rfl) rfl ?_
        refine r_goto ?_
        refine ih (d - 1) (by omega) ((F (mb t I) z (tst (mb t I) z r.2.1)).1, (F (mb t I) z (tst (mb t I) z r.2.1)).2.1, r.2.2 ++ ((F (mb t I) z (tst (mb t I) z r.2.1)).2.2 ++ [-42])) J2 L4 _ ?_ ?_ ?_ (MR_app hM hr n1.v hM2 (fun st => e_mul))
        · rw [hr0]; exact pLp_s (by omega) hr hop
        · dsimp only; omega
        · exact hq.1.2
    · refine E_go 1 rfl ?_
      refine r_aload_n rfl ?_
      refine r_bipush ?_
      refine r_virtual (vs := []) (as := [_]) (by decide) (zl rfl) rfl rfl (zl rfl) (Nat.le_refl _) (Or.inr (Or.inr ⟨zt rfl, rfl, zt rfl⟩)) ?_
      refine s_isSignB (by omega) (hM.2.2 hr).1 ?_
      refine r_if_eq (fun c_11 => ?_) (fun c_11 => ?_)
      · have c_11 := (n_eq (a := 0) (b := 0) rfl rfl (by omega) (by omega)).mp c_11
        refine E_go 2 rfl ?_
        refine r_iload_n rfl ?_
        refine r_iret rfl trivial ?_
        have e : pLp (tkd (mb t I) z) (tst (mb t I) z) opT (F (mb t I) z) 160 (F (mb t I) z i) = r := by rw [hr0]; exact pLp_f hr
        have hQ2 := hQ J L2 v
        rw [e] at hQ2
        exact hQ2 hM
      · have c_11 := (not_congr (n_eq (a := 0) (b := 0) rfl rfl (by omega) (by omega))).mp c_11
        omega
  refine M_go (ls := [_, _]) (ml := 2) rfl rfl rfl (zl rfl) rfl ?_
  refine r_aload_n rfl ?_
  refine r_virtual (vs := []) (as := []) (by decide) (zl rfl) rfl rfl (zl rfl) (Nat.le_refl _) (Or.inr (Or.inr ⟨zt rfl, rfl, zt rfl⟩)) ?_
  refine hel I L _ t i z w h (fun J L2 v hM => ?_)
  refine r_istore_n (ls' := [_, _]) (zt rfl) rfl ?_
  refine r_nil ?_
  refine key 160 (F (mb t I) z i) J L2 v rfl ?_ ?_ hM
  · have := h.1.2.1; have := hg (mb t I) z i h.1.2.2; omega
  · exact (hg (mb t I) z i h.1.2.2).1.2

set_option maxRecDepth 10000 in
theorem s_added1 {xs : xSc} {m o : Nat} {F : PFn} (hm : 10 ≤ m) (hg : ∀ b z, gd z (F b z)) (hel : Mp xs xi_X7_term1 m o F) : Mp xs xi_X7_added1 (m + 1) o (fun b z i => pLp (tkd b z) (tst b z) opS (F b z) 160 (F b z i)) := by
  intro I L Q t i z w h hQ
  dsimp only at hQ
  have key : ∀ d (r : PR) (J : Nat → Nat → Int32) (L2 : Nat → Nat → Int64) (v : Int32) (x0 x1 : Value), pLp (tkd (mb t I) z) (tst (mb t I) z) opS (F (mb t I) z) 160 (F (mb t I) z i) = pLp (tkd (mb t I) z) (tst (mb t I) z) opS (F (mb t I) z) d r → z ≤ r.2.1 + d → r.2.1 ≤ z → MR t z o w r I J L2 v → E xs m xi_X7_added1 82 Q 5 [.ref 61, .int v, x0, x1] [] (82, J, L2, xF0) := by
    intro d
    induction d using Nat.strongRecOn with
    | _ d ih =>
    intro r J L2 v x0 x1 hr0 hd hz0 hM
    by_cases hr : r.1 = true
    · have hC := MR_c h hM hr hz0
      refine E_go 1 rfl ?_
      refine r_aload_n rfl ?_
      refine r_bipush ?_
      refine r_virtual (vs := []) (as := [_]) (by decide) (zl rfl) rfl rfl (zl rfl) (Nat.le_refl _) (Or.inr (Or.inr ⟨zt rfl, rfl, zt rfl⟩)) ?_
      refine s_isSign (t := t) (z := z) (i := r.2.1) (c := 43) (by omega) rfl (by omega) (by omega) hC.2.1.2.2.2 hC.2.2.2.1 ?_
      rw [hM.1.mbe]
      refine r_if_ne (fun c_11 => ?_) (fun c_11 => ?_)
      · refine E_go 2 rfl ?_
        refine r_aload_n rfl ?_
        refine r_getJ (by decide) rfl rfl (by decide) rfl ?_
        refine r_ldc2_w ?_
        refine r_lcmp ?_
        refine r_if_ne (fun c_31 => ?_) (fun c_31 => ?_)
        · exact absurd (lg_eq.mpr (mK_43 hC.2.2.2.1 (by rw [hM.1.mbe]; exact b01n.mp c_11))) c_31
        · refine r_iconst ?_
          refine r_goto ?_
          refine E_go 4 rfl ?_
          refine r_istore_n (ls' := [_, _, _, _]) (zt rfl) rfl ?_
          refine r_aload_n rfl ?_
          refine r_virtual (vs := []) (as := []) (by decide) (zl rfl) rfl rfl (zl rfl) (Nat.le_refl _) (Or.inr (Or.inr ⟨zt rfl, rfl, zt rfl⟩)) ?_
          have hk : tkd (mb t I) z r.2.1 = 43 := b01n.mp c_11
          have hop : opS (tkd (mb t I) z r.2.1) = some (-43) := by rw [hk]; rfl
          have hT := tst_lt (b := mb t I) hz0 (by omega : ¬ tkd (mb t I) z r.2.1 = 0)
          have hT2 := tst_z (b := mb t I) hz0
          have hq := hg (mb t I) z _ hT2
          refine s_nextM (by omega) hC (by rw [hM.1.mbe, hk]; decide) (fun J1 L3 n1 hC1 => ?_)
          rw [hM.1.mbe] at hC1
          refine r_aload_n rfl ?_
          refine r_virtual (vs := []) (as := []) (by decide) (zl rfl) rfl rfl (zl rfl) (Nat.le_refl _) (Or.inr (Or.inr ⟨zt rfl, rfl, zt rfl⟩)) ?_
          refine hel J1 L3 _ t _ z w hC1 (fun J2 L4 v2 hM2 => ?_)
          rw [n1.v.mbe, hM.1.mbe] at hM2
          refine r_istore_n (ls' := [_, _, _, _]) (zt rfl) rfl ?_
          refine r_iload_n rfl ?_
          refine r_if_eq (fun c_50 => ?_) (fun c_50 => ?_)
          · have c_50 := (n_eq (a := 1) (b := 0) rfl rfl (by omega) (by omega)).mp c_50
            omega
          · have c_50 := (not_congr (n_eq (a := 1) (b := 0) rfl rfl (by omega) (by omega))).mp c_50
            refine r_iload_n rfl ?_
            refine r_iload_n rfl ?_
            refine r_iadd ?_
            refine r_goto ?_
            refine E_go 6 rfl ?_
            refine r_istore_n (ls' := [_, _, _, _]) (zt rfl) rfl ?_
            refine r_goto ?_
            refine ih (d - 1) (by omega) ((F (mb t I) z (tst (mb t I) z r.2.1)).1, (F (mb t I) z (tst (mb t I) z r.2.1)).2.1, r.2.2 ++ ((F (mb t I) z (tst (mb t I) z r.2.1)).2.2 ++ [-43])) J2 L4 _ _ _ ?_ ?_ ?_ (MR_app hM hr n1.v hM2 (fun st => e_add))
            · rw [hr0]; exact pLp_s (by omega) hr hop
            · dsimp only; omega
            · exact hq.1.2
      · refine r_aload_n rfl ?_
        refine r_bipush ?_
        refine r_virtual (vs := []) (as := [_]) (by decide) (zl rfl) rfl rfl (zl rfl) (Nat.le_refl _) (Or.inr (Or.inr ⟨zt rfl, rfl, zt rfl⟩)) ?_
        refine s_isSign (t := t) (z := z) (i := r.2.1) (c := 45) (by omega) rfl (by omega) (by omega) hC.2.1.2.2.2 hC.2.2.2.1 ?_
        rw [hM.1.mbe]
        refine r_if_eq (fun c_20 => ?_) (fun c_20 => ?_)
        · refine E_go 7 rfl ?_
          refine r_iload_n rfl ?_
          refine r_iret rfl trivial ?_
          have e : pLp (tkd (mb t I) z) (tst (mb t I) z) opS (F (mb t I) z) 160 (F (mb t I) z i) = r := by rw [hr0]; exact pLp_n (by simp [opS, b01.mp c_11, b01.mp c_20])
          have hQ2 := hQ J L2 v
          rw [e] at hQ2
          exact hQ2 hM
        · refine r_nil ?_
          refine E_go 2 rfl ?_
          refine r_aload_n rfl ?_
          refine r_getJ (by decide) rfl rfl (by decide) rfl ?_
          refine r_ldc2_w ?_
          refine r_lcmp ?_
          refine r_if_ne (fun c_31 => ?_) (fun c_31 => ?_)
          · refine E_go 3 rfl ?_
            refine r_iconst ?_
            refine r_nil ?_
            refine E_go 4 rfl ?_
            refine r_istore_n (ls' := [_, _, _, _]) (zt rfl) rfl ?_
            refine r_aload_n rfl ?_
            refine r_virtual (vs := []) (as := []) (by decide) (zl rfl) rfl rfl (zl rfl) (Nat.le_refl _) (Or.inr (Or.inr ⟨zt rfl, rfl, zt rfl⟩)) ?_
            have hk : tkd (mb t I) z r.2.1 = 45 := b01n.mp c_20
            have hop : opS (tkd (mb t I) z r.2.1) = some (-45) := by rw [hk]; rfl
            have hT := tst_lt (b := mb t I) hz0 (by omega : ¬ tkd (mb t I) z r.2.1 = 0)
            have hT2 := tst_z (b := mb t I) hz0
            have hq := hg (mb t I) z _ hT2
            refine s_nextM (by omega) hC (by rw [hM.1.mbe, hk]; decide) (fun J1 L3 n1 hC1 => ?_)
            rw [hM.1.mbe] at hC1
            refine r_aload_n rfl ?_
            refine r_virtual (vs := []) (as := []) (by decide) (zl rfl) rfl rfl (zl rfl) (Nat.le_refl _) (Or.inr (Or.inr ⟨zt rfl, rfl, zt rfl⟩)) ?_
            refine hel J1 L3 _ t _ z w hC1 (fun J2 L4 v2 hM2 => ?_)
            rw [n1.v.mbe, hM.1.mbe] at hM2
            refine r_istore_n (ls' := [_, _, _, _]) (zt rfl) rfl ?_
            refine r_iload_n rfl ?_
            refine r_if_eq (fun c_50 => ?_) (fun c_50 => ?_)
            · have c_50 := (n_eq (a := 0) (b := 0) rfl rfl (by omega) (by omega)).mp c_50
              refine E_go 5 rfl ?_
              refine r_iload_n rfl ?_
              refine r_iload_n rfl ?_
              refine r_isub ?_
              refine r_nil ?_
              refine E_go 6 rfl ?_
              refine r_istore_n (ls' := [_, _, _, _]) (zt rfl) rfl ?_
              refine r_goto ?_
              refine ih (d - 1) (by omega) ((F (mb t I) z (tst (mb t I) z r.2.1)).1, (F (mb t I) z (tst (mb t I) z r.2.1)).2.1, r.2.2 ++ ((F (mb t I) z (tst (mb t I) z r.2.1)).2.2 ++ [-45])) J2 L4 _ _ _ ?_ ?_ ?_ (MR_app hM hr n1.v hM2 (fun st => e_sub))
              · rw [hr0]; exact pLp_s (by omega) hr hop
              · dsimp only; omega
              · exact hq.1.2
            · have c_50 := (not_congr (n_eq (a := 0) (b := 0) rfl rfl (by omega) (by omega))).mp c_50
              omega
          · exact absurd (lg_eq.mp c_31) (mK_45 hC.2.2.2.1 (by rw [hM.1.mbe]; exact b01n.mp c_20))
    · refine E_go 1 rfl ?_
      refine r_aload_n rfl ?_
      refine r_bipush ?_
      refine r_virtual (vs := []) (as := [_]) (by decide) (zl rfl) rfl rfl (zl rfl) (Nat.le_refl _) (Or.inr (Or.inr ⟨zt rfl, rfl, zt rfl⟩)) ?_
      refine s_isSignB (by omega) (hM.2.2 hr).1 ?_
      refine r_if_ne (fun c_11 => ?_) (fun c_11 => ?_)
      · have c_11 := (not_congr (n_eq (a := 0) (b := 0) rfl rfl (by omega) (by omega))).mp c_11
        omega
      · have c_11 := (n_eq (a := 0) (b := 0) rfl rfl (by omega) (by omega)).mp c_11
        refine r_aload_n rfl ?_
        refine r_bipush ?_
        refine r_virtual (vs := []) (as := [_]) (by decide) (zl rfl) rfl rfl (zl rfl) (Nat.le_refl _) (Or.inr (Or.inr ⟨zt rfl, rfl, zt rfl⟩)) ?_
        refine s_isSignB (by omega) (hM.2.2 hr).1 ?_
        refine r_if_eq (fun c_20 => ?_) (fun c_20 => ?_)
        · have c_20 := (n_eq (a := 0) (b := 0) rfl rfl (by omega) (by omega)).mp c_20
          refine E_go 7 rfl ?_
          refine r_iload_n rfl ?_
          refine r_iret rfl trivial ?_
          have e : pLp (tkd (mb t I) z) (tst (mb t I) z) opS (F (mb t I) z) 160 (F (mb t I) z i) = r := by rw [hr0]; exact pLp_f hr
          have hQ2 := hQ J L2 v
          rw [e] at hQ2
          exact hQ2 hM
        · have c_20 := (not_congr (n_eq (a := 0) (b := 0) rfl rfl (by omega) (by omega))).mp c_20
          omega
  refine M_go (ls := [_, _, _, _]) (ml := 4) rfl rfl rfl (zl rfl) rfl ?_
  refine r_aload_n rfl ?_
  refine r_virtual (vs := []) (as := []) (by decide) (zl rfl) rfl rfl (zl rfl) (Nat.le_refl _) (Or.inr (Or.inr ⟨zt rfl, rfl, zt rfl⟩)) ?_
  refine hel I L _ t i z w h (fun J L2 v hM => ?_)
  refine r_istore_n (ls' := [_, _, _, _]) (zt rfl) rfl ?_
  refine r_nil ?_
  refine key 160 (F (mb t I) z i) J L2 v _ _ rfl ?_ ?_ hM
  · have := h.1.2.1; have := hg (mb t I) z i h.1.2.2; omega
  · exact (hg (mb t I) z i h.1.2.2).1.2

set_option maxRecDepth 10000 in
theorem s_not1 {xs : xSc} {m o : Nat} {F G : PFn} (hm : 10 ≤ m) (hg : ∀ b z, gd z (F b z)) (hel : Mp xs xi_X7_added1 m o F) (hd5 : o < 5) (hdp : Mp xs xi_X7_not2 m (o + 1) G) : Mp xs xi_X7_not1 (m + 1) o (fun b z i => pNt (tkd b z) (tst b z) (some (G b z)) (pCm (tkd b z) (tst b z) (F b z)) i) := by
  intro I L Q t i z w h hQ
  dsimp only at hQ
  refine M_go (ls := [_, _, _, _]) (ml := 4) rfl rfl rfl (zl rfl) rfl ?_
  refine r_aload_n rfl ?_
  refine r_bipush ?_
  refine r_bipush ?_
  refine r_bipush ?_
  refine r_iconst ?_
  refine r_iconst ?_
  refine r_iconst ?_
  refine r_iconst ?_
  refine r_iconst ?_
  refine r_virtual (vs := []) (as := [_, _, _, _, _, _, _, _]) (by decide) (zl rfl) rfl rfl (zl rfl) (Nat.le_refl _) (Or.inr (Or.inr ⟨zt rfl, rfl, zt rfl⟩)) ?_
  refine s_isW_8 (t := t) (z := z) (i := i) (by omega) h.1.1 h.1.2.1 h.2.1.1 h.2.1.2.1 h.1.2.2 h.2.1.2.2.2 h.2.2.2.1 ?_
  refine r_if_eq (fun c_15 => ?_) (fun c_15 => ?_)
  · refine E_go 4 rfl ?_
    refine r_aload_n rfl ?_
    refine r_virtual (vs := []) (as := []) (by decide) (zl rfl) rfl rfl (zl rfl) (Nat.le_refl _) (Or.inr (Or.inr ⟨zt rfl, rfl, zt rfl⟩)) ?_
    refine hel I L _ t i z w h (fun J L2 v hM => ?_)
    have hg1 := hg (mb t I) z i h.1.2.2
    by_cases hr : (F (mb t I) z i).1 = true
    · have hC := MR_c h hM hr hg1.1.2
      refine r_istore_n (ls' := [_, _, _, _]) (zt rfl) rfl ?_
      refine r_aload_n rfl ?_
      refine r_bipush ?_
      refine r_virtual (vs := []) (as := [_]) (by decide) (zl rfl) rfl rfl (zl rfl) (Nat.le_refl _) (Or.inr (Or.inr ⟨zt rfl, rfl, zt rfl⟩)) ?_
      refine s_isSign (t := t) (z := z) (i := (F (mb t I) z i).2.1) (c := 60) (by omega) rfl (by omega) (by omega) hC.2.1.2.2.2 hC.2.2.2.1 ?_
      rw [hM.1.mbe]
      refine r_if_ne (fun c_63 => ?_) (fun c_63 => ?_)
      · refine E_go 5 rfl ?_
        refine r_aload_n rfl ?_
        refine r_getJ (by decide) rfl rfl (by decide) rfl ?_
        refine r_ldc2_w ?_
        refine r_lcmp ?_
        refine r_if_ne (fun c_85 => ?_) (fun c_85 => ?_)
        · exact absurd (lg_eq.mpr (mK_60 hC.2.2.2.1 (by rw [hM.1.mbe]; exact b01n.mp c_63))) c_85
        · refine r_iconst ?_
          refine r_goto ?_
          refine E_go 7 rfl ?_
          refine r_istore_n (ls' := [_, _, _, _]) (zt rfl) rfl ?_
          refine r_aload_n rfl ?_
          refine r_virtual (vs := []) (as := []) (by decide) (zl rfl) rfl rfl (zl rfl) (Nat.le_refl _) (Or.inr (Or.inr ⟨zt rfl, rfl, zt rfl⟩)) ?_
          have hk : tkd (mb t I) z (F (mb t I) z i).2.1 = 60 := b01n.mp c_63
          refine s_nextM (by omega) hC (by rw [hM.1.mbe, hk]; decide) (fun J1 L3 n1 hC1 => ?_)
          rw [hM.1.mbe] at hC1
          refine r_aload_n rfl ?_
          refine r_virtual (vs := []) (as := []) (by decide) (zl rfl) rfl rfl (zl rfl) (Nat.le_refl _) (Or.inr (Or.inr ⟨zt rfl, rfl, zt rfl⟩)) ?_
          refine hel J1 L3 _ t _ z w hC1 (fun J2 L4 v2 hM2 => ?_)
          rw [n1.v.mbe, hM.1.mbe] at hM2
          refine r_istore_n (ls' := [_, _, _, _]) (zt rfl) rfl ?_
          refine r_iload_n rfl ?_
          refine r_if_eq (fun c_104 => ?_) (fun c_104 => ?_)
          · have c_104 := (n_eq (a := 1) (b := 0) rfl rfl (by omega) (by omega)).mp c_104
            omega
          · have c_104 := (not_congr (n_eq (a := 1) (b := 0) rfl rfl (by omega) (by omega))).mp c_104
            refine r_iload_n rfl ?_
            refine r_iload_n rfl ?_
            refine r_icmp_ge (fun c_109 => ?_) (fun c_109 => ?_)
            · refine E_go 10 rfl ?_
              refine r_iconst ?_
              refine r_nil ?_
              refine E_go 11 rfl ?_
              refine r_iret rfl trivial ?_
              refine hQ _ _ _ ?_
              rw [pNt_n (b01.mp c_15), pCm_y hr (by omega), hk]
              exact MR_app (ww := -(io 60)) hM hr n1.v hM2 (fun st => by rw [show -(io 60) = (-60 : Int32) from rfl, e_lt, if_neg (Int32.not_lt.mpr c_109)])
            · refine r_goto ?_
              refine E_go 9 rfl ?_
              refine r_iconst ?_
              refine r_goto ?_
              refine E_go 11 rfl ?_
              refine r_iret rfl trivial ?_
              refine hQ _ _ _ ?_
              rw [pNt_n (b01.mp c_15), pCm_y hr (by omega), hk]
              exact MR_app (ww := -(io 60)) hM hr n1.v hM2 (fun st => by rw [show -(io 60) = (-60 : Int32) from rfl, e_lt, if_pos (Int32.not_le.mp c_109)])
      · refine r_aload_n rfl ?_
        refine r_bipush ?_
        refine r_virtual (vs := []) (as := [_]) (by decide) (zl rfl) rfl rfl (zl rfl) (Nat.le_refl _) (Or.inr (Or.inr ⟨zt rfl, rfl, zt rfl⟩)) ?_
        refine s_isSign (t := t) (z := z) (i := (F (mb t I) z i).2.1) (c := 61) (by omega) rfl (by omega) (by omega) hC.2.1.2.2.2 hC.2.2.2.1 ?_
        rw [hM.1.mbe]
        refine r_if_ne (fun c_72 => ?_) (fun c_72 => ?_)
        · refine E_go 5 rfl ?_
          refine r_aload_n rfl ?_
          refine r_getJ (by decide) rfl rfl (by decide) rfl ?_
          refine r_ldc2_w ?_
          refine r_lcmp ?_
          refine r_if_ne (fun c_85 => ?_) (fun c_85 => ?_)
          · refine E_go 6 rfl ?_
            refine r_iconst ?_
            refine r_nil ?_
            refine E_go 7 rfl ?_
            refine r_istore_n (ls' := [_, _, _, _]) (zt rfl) rfl ?_
            refine r_aload_n rfl ?_
            refine r_virtual (vs := []) (as := []) (by decide) (zl rfl) rfl rfl (zl rfl) (Nat.le_refl _) (Or.inr (Or.inr ⟨zt rfl, rfl, zt rfl⟩)) ?_
            have hk : tkd (mb t I) z (F (mb t I) z i).2.1 = 61 := b01n.mp c_72
            refine s_nextM (by omega) hC (by rw [hM.1.mbe, hk]; decide) (fun J1 L3 n1 hC1 => ?_)
            rw [hM.1.mbe] at hC1
            refine r_aload_n rfl ?_
            refine r_virtual (vs := []) (as := []) (by decide) (zl rfl) rfl rfl (zl rfl) (Nat.le_refl _) (Or.inr (Or.inr ⟨zt rfl, rfl, zt rfl⟩)) ?_
            refine hel J1 L3 _ t _ z w hC1 (fun J2 L4 v2 hM2 => ?_)
            rw [n1.v.mbe, hM.1.mbe] at hM2
            refine r_istore_n (ls' := [_, _, _, _]) (zt rfl) rfl ?_
            refine r_iload_n rfl ?_
            refine r_if_eq (fun c_104 => ?_) (fun c_104 => ?_)
            · have c_104 := (n_eq (a := 0) (b := 0) rfl rfl (by omega) (by omega)).mp c_104
              refine E_go 8 rfl ?_
              refine r_iload_n rfl ?_
              refine r_iload_n rfl ?_
              refine r_icmp_ne (fun c_117 => ?_) (fun c_117 => ?_)
              · refine E_go 10 rfl ?_
                refine r_iconst ?_
                refine r_nil ?_
                refine E_go 11 rfl ?_
                refine r_iret rfl trivial ?_
                refine hQ _ _ _ ?_
                rw [pNt_n (b01.mp c_15), pCm_y hr (by omega), hk]
                exact MR_app (ww := -(io 61)) hM hr n1.v hM2 (fun st => by rw [show -(io 61) = (-61 : Int32) from rfl, e_eq, if_neg c_117])
              · refine r_nil ?_
                refine E_go 9 rfl ?_
                refine r_iconst ?_
                refine r_goto ?_
                refine E_go 11 rfl ?_
                refine r_iret rfl trivial ?_
                refine hQ _ _ _ ?_
                rw [pNt_n (b01.mp c_15), pCm_y hr (by omega), hk]
                exact MR_app (ww := -(io 61)) hM hr n1.v hM2 (fun st => by rw [show -(io 61) = (-61 : Int32) from rfl, e_eq, if_pos c_117])
            · have c_104 := (not_congr (n_eq (a := 0) (b := 0) rfl rfl (by omega) (by omega))).mp c_104
              omega
          · exact absurd (lg_eq.mp c_85) (mK_61 hC.2.2.2.1 (by rw [hM.1.mbe]; exact b01n.mp c_72))
        · refine r_iload_n rfl ?_
          refine r_iret rfl trivial ?_
          refine hQ _ _ _ ?_
          rw [pNt_n (b01.mp c_15), pCm_n ?_]
          · exact hM
          · have q1 := b01.mp c_63
            have q2 := b01.mp c_72
            exact fun q => by omega
    · have hb := (hM.2.2 hr).1
      refine r_istore_n (ls' := [_, _, _, _]) (zt rfl) rfl ?_
      refine r_aload_n rfl ?_
      refine r_bipush ?_
      refine r_virtual (vs := []) (as := [_]) (by decide) (zl rfl) rfl rfl (zl rfl) (Nat.le_refl _) (Or.inr (Or.inr ⟨zt rfl, rfl, zt rfl⟩)) ?_
      refine s_isSignB (by omega) hb ?_
      refine r_if_ne (fun c_63 => ?_) (fun c_63 => ?_)
      · have c_63 := (not_congr (n_eq (a := 0) (b := 0) rfl rfl (by omega) (by omega))).mp c_63
        omega
      · have c_63 := (n_eq (a := 0) (b := 0) rfl rfl (by omega) (by omega)).mp c_63
        refine r_aload_n rfl ?_
        refine r_bipush ?_
        refine r_virtual (vs := []) (as := [_]) (by decide) (zl rfl) rfl rfl (zl rfl) (Nat.le_refl _) (Or.inr (Or.inr ⟨zt rfl, rfl, zt rfl⟩)) ?_
        refine s_isSignB (by omega) hb ?_
        refine r_if_ne (fun c_72 => ?_) (fun c_72 => ?_)
        · have c_72 := (not_congr (n_eq (a := 0) (b := 0) rfl rfl (by omega) (by omega))).mp c_72
          omega
        · have c_72 := (n_eq (a := 0) (b := 0) rfl rfl (by omega) (by omega)).mp c_72
          refine r_iload_n rfl ?_
          refine r_iret rfl trivial ?_
          refine hQ _ _ _ ?_
          rw [pNt_n (b01.mp c_15), pCm_n ?_]
          · exact hM
          · exact fun q => absurd q.1 hr
  · refine r_aload_n rfl ?_
    refine r_virtual (vs := []) (as := []) (by decide) (zl rfl) rfl rfl (zl rfl) (Nat.le_refl _) (Or.inr (Or.inr ⟨zt rfl, rfl, zt rfl⟩)) ?_
    have hk : tkd (mb t I) z i = 8 := b01n.mp c_15
    refine s_opensS (by omega) hd5 h (by omega) (fun J1 L3 v1 hC1 => ?_)
    refine r_if_ne (fun c_22 => ?_) (fun c_22 => ?_)
    · have c_22 := (not_congr (n_eq (a := 1) (b := 0) rfl rfl (by omega) (by omega))).mp c_22
      refine E_go 1 rfl ?_
      refine r_aload_n rfl ?_
      refine r_virtual (vs := []) (as := []) (by decide) (zl rfl) rfl rfl (zl rfl) (Nat.le_refl _) (Or.inr (Or.inr ⟨zt rfl, rfl, zt rfl⟩)) ?_
      refine hdp J1 L3 _ t _ z w hC1 (fun J2 L4 v hM2 => ?_)
      rw [v1.mbe] at hM2
      refine r_istore_n (ls' := [_, _, _, _]) (zt rfl) rfl ?_
      refine r_aload_n rfl ?_
      refine r_dup rfl ?_
      refine r_getI (by decide) rfl rfl (by decide) rfl ?_
      refine r_iconst ?_
      refine r_isub ?_
      refine r_putI rfl rfl (by decide) ?_
      refine r_iload_n rfl ?_
      refine r_if_ne (fun c_43 => ?_) (fun c_43 => ?_)
      · refine E_go 2 rfl ?_
        refine r_iconst ?_
        refine r_nil ?_
        refine E_go 3 rfl ?_
        refine r_iret rfl trivial ?_
        refine hQ _ _ _ ?_
        rw [pNt_8 hk]
        exact MR_op v1 hM2 (fun st => by rw [e_not, if_neg c_43])
      · refine r_iconst ?_
        refine r_goto ?_
        refine E_go 3 rfl ?_
        refine r_iret rfl trivial ?_
        refine hQ _ _ _ ?_
        rw [pNt_8 hk]
        exact MR_op v1 hM2 (fun st => by rw [e_not, if_pos c_43])
    · have c_22 := (n_eq (a := 1) (b := 0) rfl rfl (by omega) (by omega)).mp c_22
      omega

set_option maxRecDepth 10000 in
theorem s_both1 {xs : xSc} {m o : Nat} {F : PFn} (hm : 10 ≤ m) (hg : ∀ b z, gd z (F b z)) (hel : Mp xs xi_X7_not1 m o F) : Mp xs xi_X7_both1 (m + 1) o (fun b z i => pLp (tkd b z) (tst b z) opA (F b z) 160 (F b z i)) := by
  intro I L Q t i z w h hQ
  dsimp only at hQ
  have key : ∀ d (r : PR) (J : Nat → Nat → Int32) (L2 : Nat → Nat → Int64) (v : Int32) (x0 : Value), pLp (tkd (mb t I) z) (tst (mb t I) z) opA (F (mb t I) z) 160 (F (mb t I) z i) = pLp (tkd (mb t I) z) (tst (mb t I) z) opA (F (mb t I) z) d r → z ≤ r.2.1 + d → r.2.1 ≤ z → MR t z o w r I J L2 v → E xs m xi_X7_both1 82 Q 5 [.ref 61, .int v, x0] [] (82, J, L2, xF0) := by
    intro d
    induction d using Nat.strongRecOn with
    | _ d ih =>
    intro r J L2 v x0 hr0 hd hz0 hM
    by_cases hr : r.1 = true
    · have hC := MR_c h hM hr hz0
      refine E_go 1 rfl ?_
      refine r_aload_n rfl ?_
      refine r_bipush ?_
      refine r_bipush ?_
      refine r_bipush ?_
      refine r_iconst ?_
      refine r_iconst ?_
      refine r_iconst ?_
      refine r_iconst ?_
      refine r_iconst ?_
      refine r_virtual (vs := []) (as := [_, _, _, _, _, _, _, _]) (by decide) (zl rfl) rfl rfl (zl rfl) (Nat.le_refl _) (Or.inr (Or.inr ⟨zt rfl, rfl, zt rfl⟩)) ?_
      refine s_isW_7 (t := t) (z := z) (i := r.2.1) (by omega) hC.1.1 hC.1.2.1 hC.2.1.1 hC.2.1.2.1 hz0 hC.2.1.2.2.2 hC.2.2.2.1 ?_
      rw [hM.1.mbe]
      refine r_if_eq (fun c_20 => ?_) (fun c_20 => ?_)
      · refine E_go 4 rfl ?_
        refine r_iload_n rfl ?_
        refine r_iret rfl trivial ?_
        have e : pLp (tkd (mb t I) z) (tst (mb t I) z) opA (F (mb t I) z) 160 (F (mb t I) z i) = r := by rw [hr0]; exact pLp_n (by simp [opA, b01.mp c_20])
        have hQ2 := hQ J L2 v
        rw [e] at hQ2
        exact hQ2 hM
      · refine r_aload_n rfl ?_
        refine r_virtual (vs := []) (as := []) (by decide) (zl rfl) rfl rfl (zl rfl) (Nat.le_refl _) (Or.inr (Or.inr ⟨zt rfl, rfl, zt rfl⟩)) ?_
        have hk : tkd (mb t I) z r.2.1 = 7 := b01n.mp c_20
        have hop : opA (tkd (mb t I) z r.2.1) = some (-7) := by rw [hk]; rfl
        have hT := tst_lt (b := mb t I) hz0 (by omega : ¬ tkd (mb t I) z r.2.1 = 0)
        have hT2 := tst_z (b := mb t I) hz0
        have hq := hg (mb t I) z _ hT2
        refine s_nextM (by omega) hC (by rw [hM.1.mbe, hk]; decide) (fun J1 L3 n1 hC1 => ?_)
        rw [hM.1.mbe] at hC1
        refine r_aload_n rfl ?_
        refine r_virtual (vs := []) (as := []) (by decide) (zl rfl) rfl rfl (zl rfl) (Nat.le_refl _) (Or.inr (Or.inr ⟨zt rfl, rfl, zt rfl⟩)) ?_
        refine hel J1 L3 _ t _ z w hC1 (fun J2 L4 v2 hM2 => ?_)
        rw [n1.v.mbe, hM.1.mbe] at hM2
        refine r_istore_n (ls' := [_, _, _]) (zt rfl) rfl ?_
        refine r_iload_n rfl ?_
        refine r_if_eq (fun c_33 => ?_) (fun c_33 => ?_)
        · refine E_go 2 rfl ?_
          refine r_iconst ?_
          refine r_nil ?_
          refine E_go 3 rfl ?_
          refine r_istore_n (ls' := [_, _, _]) (zt rfl) rfl ?_
          refine r_goto ?_
          refine ih (d - 1) (by omega) ((F (mb t I) z (tst (mb t I) z r.2.1)).1, (F (mb t I) z (tst (mb t I) z r.2.1)).2.1, r.2.2 ++ ((F (mb t I) z (tst (mb t I) z r.2.1)).2.2 ++ [-7])) J2 L4 _ _ ?_ ?_ ?_ (MR_app hM hr n1.v hM2 (fun st => by first | rw [e_and, if_pos c_33] | rw [e_and, if_neg c_33, if_pos c_37]))
          · rw [hr0]; exact pLp_s (by omega) hr hop
          · dsimp only; omega
          · exact hq.1.2
        · refine r_iload_n rfl ?_
          refine r_if_eq (fun c_37 => ?_) (fun c_37 => ?_)
          · refine E_go 2 rfl ?_
            refine r_iconst ?_
            refine r_nil ?_
            refine E_go 3 rfl ?_
            refine r_istore_n (ls' := [_, _, _]) (zt rfl) rfl ?_
            refine r_goto ?_
            refine ih (d - 1) (by omega) ((F (mb t I) z (tst (mb t I) z r.2.1)).1, (F (mb t I) z (tst (mb t I) z r.2.1)).2.1, r.2.2 ++ ((F (mb t I) z (tst (mb t I) z r.2.1)).2.2 ++ [-7])) J2 L4 _ _ ?_ ?_ ?_ (MR_app hM hr n1.v hM2 (fun st => by first | rw [e_and, if_pos c_33] | rw [e_and, if_neg c_33, if_pos c_37]))
            · rw [hr0]; exact pLp_s (by omega) hr hop
            · dsimp only; omega
            · exact hq.1.2
          · refine r_iconst ?_
            refine r_goto ?_
            refine E_go 3 rfl ?_
            refine r_istore_n (ls' := [_, _, _]) (zt rfl) rfl ?_
            refine r_goto ?_
            refine ih (d - 1) (by omega) ((F (mb t I) z (tst (mb t I) z r.2.1)).1, (F (mb t I) z (tst (mb t I) z r.2.1)).2.1, r.2.2 ++ ((F (mb t I) z (tst (mb t I) z r.2.1)).2.2 ++ [-7])) J2 L4 _ _ ?_ ?_ ?_ (MR_app hM hr n1.v hM2 (fun st => by rw [e_and, if_neg c_33, if_neg c_37]))
            · rw [hr0]; exact pLp_s (by omega) hr hop
            · dsimp only; omega
            · exact hq.1.2
    · refine E_go 1 rfl ?_
      refine r_aload_n rfl ?_
      refine r_bipush ?_
      refine r_bipush ?_
      refine r_bipush ?_
      refine r_iconst ?_
      refine r_iconst ?_
      refine r_iconst ?_
      refine r_iconst ?_
      refine r_iconst ?_
      refine r_virtual (vs := []) (as := [_, _, _, _, _, _, _, _]) (by decide) (zl rfl) rfl rfl (zl rfl) (Nat.le_refl _) (Or.inr (Or.inr ⟨zt rfl, rfl, zt rfl⟩)) ?_
      refine s_isWordB (by omega) (hM.2.2 hr).1 ?_
      refine r_if_eq (fun c_20 => ?_) (fun c_20 => ?_)
      · have c_20 := (n_eq (a := 0) (b := 0) rfl rfl (by omega) (by omega)).mp c_20
        refine E_go 4 rfl ?_
        refine r_iload_n rfl ?_
        refine r_iret rfl trivial ?_
        have e : pLp (tkd (mb t I) z) (tst (mb t I) z) opA (F (mb t I) z) 160 (F (mb t I) z i) = r := by rw [hr0]; exact pLp_f hr
        have hQ2 := hQ J L2 v
        rw [e] at hQ2
        exact hQ2 hM
      · have c_20 := (not_congr (n_eq (a := 0) (b := 0) rfl rfl (by omega) (by omega))).mp c_20
        omega
  refine M_go (ls := [_, _, _]) (ml := 3) rfl rfl rfl (zl rfl) rfl ?_
  refine r_aload_n rfl ?_
  refine r_virtual (vs := []) (as := []) (by decide) (zl rfl) rfl rfl (zl rfl) (Nat.le_refl _) (Or.inr (Or.inr ⟨zt rfl, rfl, zt rfl⟩)) ?_
  refine hel I L _ t i z w h (fun J L2 v hM => ?_)
  refine r_istore_n (ls' := [_, _, _]) (zt rfl) rfl ?_
  refine r_nil ?_
  refine key 160 (F (mb t I) z i) J L2 v _ rfl ?_ ?_ hM
  · have := h.1.2.1; have := hg (mb t I) z i h.1.2.2; omega
  · exact (hg (mb t I) z i h.1.2.2).1.2

set_option maxRecDepth 10000 in
theorem s_either1 {xs : xSc} {m o : Nat} {F : PFn} (hm : 10 ≤ m) (hg : ∀ b z, gd z (F b z)) (hel : Mp xs xi_X7_both1 m o F) : Mp xs xi_X7_either1 (m + 1) o (fun b z i => pLp (tkd b z) (tst b z) opO (F b z) 160 (F b z i)) := by
  intro I L Q t i z w h hQ
  dsimp only at hQ
  have key : ∀ d (r : PR) (J : Nat → Nat → Int32) (L2 : Nat → Nat → Int64) (v : Int32) (x0 : Value), pLp (tkd (mb t I) z) (tst (mb t I) z) opO (F (mb t I) z) 160 (F (mb t I) z i) = pLp (tkd (mb t I) z) (tst (mb t I) z) opO (F (mb t I) z) d r → z ≤ r.2.1 + d → r.2.1 ≤ z → MR t z o w r I J L2 v → E xs m xi_X7_either1 82 Q 5 [.ref 61, .int v, x0] [] (82, J, L2, xF0) := by
    intro d
    induction d using Nat.strongRecOn with
    | _ d ih =>
    intro r J L2 v x0 hr0 hd hz0 hM
    by_cases hr : r.1 = true
    · have hC := MR_c h hM hr hz0
      refine E_go 1 rfl ?_
      refine r_aload_n rfl ?_
      refine r_bipush ?_
      refine r_bipush ?_
      refine r_iconst ?_
      refine r_iconst ?_
      refine r_iconst ?_
      refine r_iconst ?_
      refine r_iconst ?_
      refine r_iconst ?_
      refine r_virtual (vs := []) (as := [_, _, _, _, _, _, _, _]) (by decide) (zl rfl) rfl rfl (zl rfl) (Nat.le_refl _) (Or.inr (Or.inr ⟨zt rfl, rfl, zt rfl⟩)) ?_
      refine s_isW_6 (t := t) (z := z) (i := r.2.1) (by omega) hC.1.1 hC.1.2.1 hC.2.1.1 hC.2.1.2.1 hz0 hC.2.1.2.2.2 hC.2.2.2.1 ?_
      rw [hM.1.mbe]
      refine r_if_eq (fun c_19 => ?_) (fun c_19 => ?_)
      · refine E_go 5 rfl ?_
        refine r_iload_n rfl ?_
        refine r_iret rfl trivial ?_
        have e : pLp (tkd (mb t I) z) (tst (mb t I) z) opO (F (mb t I) z) 160 (F (mb t I) z i) = r := by rw [hr0]; exact pLp_n (by simp [opO, b01.mp c_19])
        have hQ2 := hQ J L2 v
        rw [e] at hQ2
        exact hQ2 hM
      · refine r_aload_n rfl ?_
        refine r_virtual (vs := []) (as := []) (by decide) (zl rfl) rfl rfl (zl rfl) (Nat.le_refl _) (Or.inr (Or.inr ⟨zt rfl, rfl, zt rfl⟩)) ?_
        have hk : tkd (mb t I) z r.2.1 = 6 := b01n.mp c_19
        have hop : opO (tkd (mb t I) z r.2.1) = some (-6) := by rw [hk]; rfl
        have hT := tst_lt (b := mb t I) hz0 (by omega : ¬ tkd (mb t I) z r.2.1 = 0)
        have hT2 := tst_z (b := mb t I) hz0
        have hq := hg (mb t I) z _ hT2
        refine s_nextM (by omega) hC (by rw [hM.1.mbe, hk]; decide) (fun J1 L3 n1 hC1 => ?_)
        rw [hM.1.mbe] at hC1
        refine r_aload_n rfl ?_
        refine r_virtual (vs := []) (as := []) (by decide) (zl rfl) rfl rfl (zl rfl) (Nat.le_refl _) (Or.inr (Or.inr ⟨zt rfl, rfl, zt rfl⟩)) ?_
        refine hel J1 L3 _ t _ z w hC1 (fun J2 L4 v2 hM2 => ?_)
        rw [n1.v.mbe, hM.1.mbe] at hM2
        refine r_istore_n (ls' := [_, _, _]) (zt rfl) rfl ?_
        refine r_iload_n rfl ?_
        refine r_if_ne (fun c_32 => ?_) (fun c_32 => ?_)
        · refine E_go 2 rfl ?_
          refine r_iconst ?_
          refine r_goto ?_
          refine E_go 4 rfl ?_
          refine r_istore_n (ls' := [_, _, _]) (zt rfl) rfl ?_
          refine r_goto ?_
          refine ih (d - 1) (by omega) ((F (mb t I) z (tst (mb t I) z r.2.1)).1, (F (mb t I) z (tst (mb t I) z r.2.1)).2.1, r.2.2 ++ ((F (mb t I) z (tst (mb t I) z r.2.1)).2.2 ++ [-6])) J2 L4 _ _ ?_ ?_ ?_ (MR_app hM hr n1.v hM2 (fun st => by first | rw [e_or, if_neg c_32] | rw [e_or, if_pos c_32, if_neg c_36]))
          · rw [hr0]; exact pLp_s (by omega) hr hop
          · dsimp only; omega
          · exact hq.1.2
        · refine r_iload_n rfl ?_
          refine r_if_eq (fun c_36 => ?_) (fun c_36 => ?_)
          · refine E_go 3 rfl ?_
            refine r_iconst ?_
            refine r_nil ?_
            refine E_go 4 rfl ?_
            refine r_istore_n (ls' := [_, _, _]) (zt rfl) rfl ?_
            refine r_goto ?_
            refine ih (d - 1) (by omega) ((F (mb t I) z (tst (mb t I) z r.2.1)).1, (F (mb t I) z (tst (mb t I) z r.2.1)).2.1, r.2.2 ++ ((F (mb t I) z (tst (mb t I) z r.2.1)).2.2 ++ [-6])) J2 L4 _ _ ?_ ?_ ?_ (MR_app hM hr n1.v hM2 (fun st => by rw [e_or, if_pos c_32, if_pos c_36]))
            · rw [hr0]; exact pLp_s (by omega) hr hop
            · dsimp only; omega
            · exact hq.1.2
          · refine r_nil ?_
            refine E_go 2 rfl ?_
            refine r_iconst ?_
            refine r_goto ?_
            refine E_go 4 rfl ?_
            refine r_istore_n (ls' := [_, _, _]) (zt rfl) rfl ?_
            refine r_goto ?_
            refine ih (d - 1) (by omega) ((F (mb t I) z (tst (mb t I) z r.2.1)).1, (F (mb t I) z (tst (mb t I) z r.2.1)).2.1, r.2.2 ++ ((F (mb t I) z (tst (mb t I) z r.2.1)).2.2 ++ [-6])) J2 L4 _ _ ?_ ?_ ?_ (MR_app hM hr n1.v hM2 (fun st => by first | rw [e_or, if_neg c_32] | rw [e_or, if_pos c_32, if_neg c_36]))
            · rw [hr0]; exact pLp_s (by omega) hr hop
            · dsimp only; omega
            · exact hq.1.2
    · refine E_go 1 rfl ?_
      refine r_aload_n rfl ?_
      refine r_bipush ?_
      refine r_bipush ?_
      refine r_iconst ?_
      refine r_iconst ?_
      refine r_iconst ?_
      refine r_iconst ?_
      refine r_iconst ?_
      refine r_iconst ?_
      refine r_virtual (vs := []) (as := [_, _, _, _, _, _, _, _]) (by decide) (zl rfl) rfl rfl (zl rfl) (Nat.le_refl _) (Or.inr (Or.inr ⟨zt rfl, rfl, zt rfl⟩)) ?_
      refine s_isWordB (by omega) (hM.2.2 hr).1 ?_
      refine r_if_eq (fun c_19 => ?_) (fun c_19 => ?_)
      · have c_19 := (n_eq (a := 0) (b := 0) rfl rfl (by omega) (by omega)).mp c_19
        refine E_go 5 rfl ?_
        refine r_iload_n rfl ?_
        refine r_iret rfl trivial ?_
        have e : pLp (tkd (mb t I) z) (tst (mb t I) z) opO (F (mb t I) z) 160 (F (mb t I) z i) = r := by rw [hr0]; exact pLp_f hr
        have hQ2 := hQ J L2 v
        rw [e] at hQ2
        exact hQ2 hM
      · have c_19 := (not_congr (n_eq (a := 0) (b := 0) rfl rfl (by omega) (by omega))).mp c_19
        omega
  refine M_go (ls := [_, _, _]) (ml := 3) rfl rfl rfl (zl rfl) rfl ?_
  refine r_aload_n rfl ?_
  refine r_virtual (vs := []) (as := []) (by decide) (zl rfl) rfl rfl (zl rfl) (Nat.le_refl _) (Or.inr (Or.inr ⟨zt rfl, rfl, zt rfl⟩)) ?_
  refine hel I L _ t i z w h (fun J L2 v hM => ?_)
  refine r_istore_n (ls' := [_, _, _]) (zt rfl) rfl ?_
  refine r_nil ?_
  refine key 160 (F (mb t I) z i) J L2 v _ rfl ?_ ?_ hM
  · have := h.1.2.1; have := hg (mb t I) z i h.1.2.2; omega
  · exact (hg (mb t I) z i h.1.2.2).1.2

set_option maxRecDepth 10000 in
theorem s_atom0 {xs : xSc} {m o : Nat} {G G2 : PFn} (hm : 10 ≤ m) (hd5 : o < 5) (hgo : ∀ b z, gd z (G2 b z)) (hda : Mp xs xi_X7_atom1 m (o + 1) G) (hdo : Mp xs xi_X7_either1 m (o + 1) G2) : Mp xs xi_X7_atom0 (m + 1) o (fun b z i => pAt (tkd b z) (tst b z) (twt b z) (some (G b z, G2 b z)) i) := by
  intro I L Q t i z w h hQ
  dsimp only at hQ
  have htc := tcl_lt (b := mb t I) (z := z) (s := tpl (mb t I) z i)
  refine M_go (ls := [_, _]) (ml := 2) rfl rfl rfl (zl rfl) rfl ?_
  refine r_iconst ?_
  refine r_istore_n (ls' := [_, _]) (zt rfl) rfl ?_
  refine r_aload_n rfl ?_
  refine r_bipush ?_
  refine r_virtual (vs := []) (as := [_]) (by decide) (zl rfl) rfl rfl (zl rfl) (Nat.le_refl _) (Or.inr (Or.inr ⟨zt rfl, rfl, zt rfl⟩)) ?_
  refine s_isSign (t := t) (z := z) (i := i) (c := 45) (by omega) rfl (by omega) (by omega) h.2.1.2.2.2 h.2.2.2.1 ?_
  refine r_if_eq (fun c_8 => ?_) (fun c_8 => ?_)
  · refine E_go 1 rfl ?_
    refine r_aload_n rfl ?_
    refine r_bipush ?_
    refine r_virtual (vs := []) (as := [_]) (by decide) (zl rfl) rfl rfl (zl rfl) (Nat.le_refl _) (Or.inr (Or.inr ⟨zt rfl, rfl, zt rfl⟩)) ?_
    refine s_isSign (t := t) (z := z) (i := i) (c := 40) (by omega) rfl (by omega) (by omega) h.2.1.2.2.2 h.2.2.2.1 ?_
    refine r_if_eq (fun c_43 => ?_) (fun c_43 => ?_)
    · refine E_go 3 rfl ?_
      refine r_aload_n rfl ?_
      refine r_getZ (by decide) rfl rfl (by decide) rfl ?_
      refine r_if_ne (fun c_99 => ?_) (fun c_99 => ?_)
      · exact absurd h.2.1.2.2.2 c_99
      · refine r_aload_n rfl ?_
        refine r_getI (by decide) rfl rfl (by decide) h.2.2.2.1.1 ?_
        refine r_iconst ?_
        refine r_icmp_ne (fun c_107 => ?_) (fun c_107 => ?_)
        · have c_107 := (not_congr (n_eq (a := (tcl (mb t I) z (tpl (mb t I) z i))) (b := 2) rfl rfl (by omega) (by omega))).mp c_107
          refine E_go 4 rfl ?_
          refine r_aload_n rfl ?_
          refine r_getZ (by decide) rfl rfl (by decide) rfl ?_
          refine r_if_ne (fun c_127 => ?_) (fun c_127 => ?_)
          · exact absurd h.2.1.2.2.2 c_127
          · refine r_aload_n rfl ?_
            refine r_getI (by decide) rfl rfl (by decide) h.2.2.2.1.1 ?_
            refine r_iconst ?_
            refine r_icmp_ne (fun c_135 => ?_) (fun c_135 => ?_)
            · have c_135 := (not_congr (n_eq (a := (tcl (mb t I) z (tpl (mb t I) z i))) (b := 1) rfl rfl (by omega) (by omega))).mp c_135
              refine E_go 5 rfl ?_
              refine r_aload_n rfl ?_
              refine r_virtual (vs := []) (as := []) (by decide) (zl rfl) rfl rfl (zl rfl) (Nat.le_refl _) (Or.inr (Or.inr ⟨zt rfl, rfl, zt rfl⟩)) ?_
              refine s_fail0 (by omega) h.2.1.2.2.2 ?_
              refine r_nil ?_
              refine E_go 6 rfl ?_
              refine r_iload_n rfl ?_
              refine r_iret rfl trivial ?_
              have q1 := b01.mp c_8
              have q2 := b01.mp c_43
              have q3 : ¬ tkd (mb t I) z i = 2 := fun q => c_107 (tk_2.mpr q)
              have q4 : ¬ (10 ≤ tkd (mb t I) z i ∧ tkd (mb t I) z i < 16) := fun q => c_135 (tk_w (Or.inr q))
              refine hQ _ _ _ ?_
              rw [pAt_f q3 q4 q1 q2]
              exact MR_fl h
            · have c_135 := (n_eq (a := (tcl (mb t I) z (tpl (mb t I) z i))) (b := 1) rfl rfl (by omega) (by omega)).mp c_135
              refine r_aload_n rfl ?_
              refine r_virtual (vs := []) (as := []) (by decide) (zl rfl) rfl rfl (zl rfl) (Nat.le_refl _) (Or.inr (Or.inr ⟨zt rfl, rfl, zt rfl⟩)) ?_
              refine s_name (by omega) h (fun hn1 hn2 => ?_) (fun hn => ?_)
              · skip
                refine r_istore_n (ls' := [_, _]) (zt rfl) rfl ?_
                refine r_aload_n rfl ?_
                refine r_getZ (by decide) rfl rfl (by decide) rfl ?_
                refine r_if_ne (fun c_147 => ?_) (fun c_147 => ?_)
                · exact absurd h.2.1.2.2.2 c_147
                · refine r_aload_n rfl ?_
                  refine r_virtual (vs := []) (as := []) (by decide) (zl rfl) rfl rfl (zl rfl) (Nat.le_refl _) (Or.inr (Or.inr ⟨zt rfl, rfl, zt rfl⟩)) ?_
                  refine s_nextM (by omega) h (by omega) (fun J1 L3 n1 hC1 => ?_)
                  refine r_goto ?_
                  refine E_go 6 rfl ?_
                  refine r_iload_n rfl ?_
                  refine r_iret rfl trivial ?_
                  refine hQ _ _ _ ?_
                  rw [pAt_n hn1 hn2]
                  refine ⟨n1.v, fun _ => ⟨hC1.2.1.2.2, ?_, fun st => ?_⟩, fun q => absurd rfl q⟩
                  · have := hC1.2.2.2.1; rw [n1.v.mbe] at this; exact this
                  · rw [ev_one]; exact e_name hn1 hn2
              · skip
                refine r_istore_n (ls' := [_, _]) (zt rfl) rfl ?_
                refine r_aload_n rfl ?_
                refine r_getZ (by decide) rfl rfl (by decide) rfl ?_
                refine r_if_ne (fun c_147 => ?_) (fun c_147 => ?_)
                · refine E_go 6 rfl ?_
                  refine r_iload_n rfl ?_
                  refine r_iret rfl trivial ?_
                  have q1 := b01.mp c_8
                  have q2 := b01.mp c_43
                  have q3 : ¬ tkd (mb t I) z i = 2 := fun q => c_107 (tk_2.mpr q)
                  have q4 := hn
                  refine hQ _ _ _ ?_
                  rw [pAt_f q3 q4 q1 q2]
                  exact MR_fl h
                · exact absurd (show fl I 61 26 = 0 from c_147) (by simp [fl, up2])
        · have c_107 := (n_eq (a := (tcl (mb t I) z (tpl (mb t I) z i))) (b := 2) rfl rfl (by omega) (by omega)).mp c_107
          refine r_aload_n rfl ?_
          refine r_getJ (by decide) rfl rfl (by decide) rfl ?_
          refine r_l2i ?_
          refine r_istore_n (ls' := [_, _]) (zt rfl) rfl ?_
          refine r_aload_n rfl ?_
          refine r_virtual (vs := []) (as := []) (by decide) (zl rfl) rfl rfl (zl rfl) (Nat.le_refl _) (Or.inr (Or.inr ⟨zt rfl, rfl, zt rfl⟩)) ?_
          have hk : tkd (mb t I) z i = 2 := tk_2.mp c_107
          refine s_nextM (by omega) h (by omega) (fun J1 L3 n1 hC1 => ?_)
          refine r_goto ?_
          refine E_go 6 rfl ?_
          refine r_iload_n rfl ?_
          refine r_iret rfl trivial ?_
          refine hQ _ _ _ ?_
          rw [pAt_2 hk]
          refine ⟨n1.v, fun _ => ⟨hC1.2.1.2.2, ?_, fun st => ?_⟩, fun q => absurd rfl q⟩
          · have := hC1.2.2.2.1; rw [n1.v.mbe] at this; exact this
          · rw [ev_one, h.2.2.2.1.2.2.2.1 c_107]; exact e_num (twt_b hk).1 (twt_b hk).2
    · refine r_aload_n rfl ?_
      refine r_virtual (vs := []) (as := []) (by decide) (zl rfl) rfl rfl (zl rfl) (Nat.le_refl _) (Or.inr (Or.inr ⟨zt rfl, rfl, zt rfl⟩)) ?_
      have hk : tkd (mb t I) z i = 40 := b01n.mp c_43
      refine s_opensS (by omega) hd5 h (by omega) (fun J1 L3 v1 hC1 => ?_)
      refine r_if_eq (fun c_50 => ?_) (fun c_50 => ?_)
      · have c_50 := (n_eq (a := 1) (b := 0) rfl rfl (by omega) (by omega)).mp c_50
        omega
      · have c_50 := (not_congr (n_eq (a := 1) (b := 0) rfl rfl (by omega) (by omega))).mp c_50
        refine r_aload_n rfl ?_
        refine r_virtual (vs := []) (as := []) (by decide) (zl rfl) rfl rfl (zl rfl) (Nat.le_refl _) (Or.inr (Or.inr ⟨zt rfl, rfl, zt rfl⟩)) ?_
        refine hdo J1 L3 _ t _ z w hC1 (fun J2 L4 v hM2 => ?_)
        rw [v1.mbe] at hM2
        have hT2 := tst_z (b := mb t I) h.1.2.2
        have hgq := hgo (mb t I) z _ hT2
        by_cases hr : (G2 (mb t I) z (tst (mb t I) z i)).1 = true
        · have hC2 := MR_c hC1 hM2 hr hgq.1.2
          refine r_istore_n (ls' := [_, _]) (zt rfl) rfl ?_
          refine r_aload_n rfl ?_
          refine r_bipush ?_
          refine r_virtual (vs := []) (as := [_]) (by decide) (zl rfl) rfl rfl (zl rfl) (Nat.le_refl _) (Or.inr (Or.inr ⟨zt rfl, rfl, zt rfl⟩)) ?_
          refine s_isSign (t := t) (z := z) (i := (G2 (mb t I) z (tst (mb t I) z i)).2.1) (c := 41) (by omega) rfl (by omega) (by omega) hC2.2.1.2.2.2 hC2.2.2.2.1 ?_
          rw [hM2.1.mbe, v1.mbe]
          refine r_if_ne (fun c_64 => ?_) (fun c_64 => ?_)
          · refine E_go 2 rfl ?_
            refine r_aload_n rfl ?_
            refine r_dup rfl ?_
            refine r_getI (by decide) rfl rfl (by decide) rfl ?_
            refine r_iconst ?_
            refine r_isub ?_
            refine r_putI rfl rfl (by decide) ?_
            refine r_aload_n rfl ?_
            refine r_getZ (by decide) rfl rfl (by decide) rfl ?_
            refine r_if_ne (fun c_85 => ?_) (fun c_85 => ?_)
            · exact absurd (show J2 61 26 = 0 from hC2.2.1.2.2.2) c_85
            · refine r_aload_n rfl ?_
              refine r_virtual (vs := []) (as := []) (by decide) (zl rfl) rfl rfl (zl rfl) (Nat.le_refl _) (Or.inr (Or.inr ⟨zt rfl, rfl, zt rfl⟩)) ?_
              have hk2 : tkd (mb t I) z (G2 (mb t I) z (tst (mb t I) z i)).2.1 = 41 := b01n.mp c_64
              have hC3 := mCx_op hC2
              refine s_nextM (by omega) hC3 (by rw [mb_op, hM2.1.mbe, v1.mbe, hk2]; decide) (fun J3 L5 n3 hC4 => ?_)
              rw [mb_op, hM2.1.mbe, v1.mbe] at hC4
              refine r_goto ?_
              refine E_go 6 rfl ?_
              refine r_iload_n rfl ?_
              refine r_iret rfl trivial ?_
              refine hQ _ _ _ ?_
              rw [pAt_p1 hk hr hk2]
              exact MR_cl v1 hM2 hr n3 hC4
          · refine r_aload_n rfl ?_
            refine r_virtual (vs := []) (as := []) (by decide) (zl rfl) rfl rfl (zl rfl) (Nat.le_refl _) (Or.inr (Or.inr ⟨zt rfl, rfl, zt rfl⟩)) ?_
            refine s_fail0 (by omega) hC2.2.1.2.2.2 ?_
            refine r_nil ?_
            refine E_go 2 rfl ?_
            refine r_aload_n rfl ?_
            refine r_dup rfl ?_
            refine r_getI (by decide) rfl rfl (by decide) rfl ?_
            refine r_iconst ?_
            refine r_isub ?_
            refine r_putI rfl rfl (by decide) ?_
            refine r_aload_n rfl ?_
            refine r_getZ (by decide) rfl rfl (by decide) rfl ?_
            refine r_if_ne (fun c_85 => ?_) (fun c_85 => ?_)
            · refine E_go 6 rfl ?_
              refine r_iload_n rfl ?_
              refine r_iret rfl trivial ?_
              refine hQ _ _ _ ?_
              rw [pAt_p2 hk hr (b01.mp c_64)]
              exact MR_un v1 hM2 hr hC2
            · exact absurd (show fl J2 61 26 = 0 from c_85) (by simp [fl, up2])
        · have hb := (hM2.2.2 hr).1
          refine r_istore_n (ls' := [_, _]) (zt rfl) rfl ?_
          refine r_aload_n rfl ?_
          refine r_bipush ?_
          refine r_virtual (vs := []) (as := [_]) (by decide) (zl rfl) rfl rfl (zl rfl) (Nat.le_refl _) (Or.inr (Or.inr ⟨zt rfl, rfl, zt rfl⟩)) ?_
          refine s_isSignB (by omega) hb ?_
          refine r_if_ne (fun c_64 => ?_) (fun c_64 => ?_)
          · have c_64 := (not_congr (n_eq (a := 0) (b := 0) rfl rfl (by omega) (by omega))).mp c_64
            omega
          · have c_64 := (n_eq (a := 0) (b := 0) rfl rfl (by omega) (by omega)).mp c_64
            refine r_aload_n rfl ?_
            refine r_virtual (vs := []) (as := []) (by decide) (zl rfl) rfl rfl (zl rfl) (Nat.le_refl _) (Or.inr (Or.inr ⟨zt rfl, rfl, zt rfl⟩)) ?_
            refine s_fail1 (by omega) hb ?_
            refine r_nil ?_
            refine E_go 2 rfl ?_
            refine r_aload_n rfl ?_
            refine r_dup rfl ?_
            refine r_getI (by decide) rfl rfl (by decide) rfl ?_
            refine r_iconst ?_
            refine r_isub ?_
            refine r_putI rfl rfl (by decide) ?_
            refine r_aload_n rfl ?_
            refine r_getZ (by decide) rfl rfl (by decide) rfl ?_
            refine r_if_ne (fun c_85 => ?_) (fun c_85 => ?_)
            · refine E_go 6 rfl ?_
              refine r_iload_n rfl ?_
              refine r_iret rfl trivial ?_
              refine hQ _ _ _ ?_
              rw [pAt_p3 hk hr]
              exact MR_bad hM2 v1 hr
            · exact absurd ((show J2 61 26 = 0 from c_85).symm.trans hb) (by decide)
  · refine r_aload_n rfl ?_
    refine r_virtual (vs := []) (as := []) (by decide) (zl rfl) rfl rfl (zl rfl) (Nat.le_refl _) (Or.inr (Or.inr ⟨zt rfl, rfl, zt rfl⟩)) ?_
    have hk : tkd (mb t I) z i = 45 := b01n.mp c_8
    refine s_opensS (by omega) hd5 h (by omega) (fun J1 L3 v1 hC1 => ?_)
    refine r_if_eq (fun c_15 => ?_) (fun c_15 => ?_)
    · have c_15 := (n_eq (a := 1) (b := 0) rfl rfl (by omega) (by omega)).mp c_15
      omega
    · have c_15 := (not_congr (n_eq (a := 1) (b := 0) rfl rfl (by omega) (by omega))).mp c_15
      refine r_aload_n rfl ?_
      refine r_virtual (vs := []) (as := []) (by decide) (zl rfl) rfl rfl (zl rfl) (Nat.le_refl _) (Or.inr (Or.inr ⟨zt rfl, rfl, zt rfl⟩)) ?_
      refine hda J1 L3 _ t _ z w hC1 (fun J2 L4 v hM2 => ?_)
      rw [v1.mbe] at hM2
      refine r_ineg ?_
      refine r_istore_n (ls' := [_, _]) (zt rfl) rfl ?_
      refine r_aload_n rfl ?_
      refine r_dup rfl ?_
      refine r_getI (by decide) rfl rfl (by decide) rfl ?_
      refine r_iconst ?_
      refine r_isub ?_
      refine r_putI rfl rfl (by decide) ?_
      refine r_goto ?_
      refine E_go 6 rfl ?_
      refine r_iload_n rfl ?_
      refine r_iret rfl trivial ?_
      refine hQ _ _ _ ?_
      rw [pAt_m hk]
      exact MR_op v1 hM2 (fun st => e_neg)

set_option maxRecDepth 10000 in
theorem s_term0 {xs : xSc} {m o : Nat} {F : PFn} (hm : 10 ≤ m) (hg : ∀ b z, gd z (F b z)) (hel : Mp xs xi_X7_atom0 m o F) : Mp xs xi_X7_term0 (m + 1) o (fun b z i => pLp (tkd b z) (tst b z) opT (F b z) 160 (F b z i)) := by
  intro I L Q t i z w h hQ
  dsimp only at hQ
  have key : ∀ d (r : PR) (J : Nat → Nat → Int32) (L2 : Nat → Nat → Int64) (v : Int32) , pLp (tkd (mb t I) z) (tst (mb t I) z) opT (F (mb t I) z) 160 (F (mb t I) z i) = pLp (tkd (mb t I) z) (tst (mb t I) z) opT (F (mb t I) z) d r → z ≤ r.2.1 + d → r.2.1 ≤ z → MR t z o w r I J L2 v → E xs m xi_X7_term0 82 Q 5 [.ref 61, .int v] [] (82, J, L2, xF0) := by
    intro d
    induction d using Nat.strongRecOn with
    | _ d ih =>
    intro r J L2 v  hr0 hd hz0 hM
    by_cases hr : r.1 = true
    · have hC := MR_c h hM hr hz0
      refine E_go 1 rfl ?_
      refine r_aload_n rfl ?_
      refine r_bipush ?_
      refine r_virtual (vs := []) (as := [_]) (by decide) (zl rfl) rfl rfl (zl rfl) (Nat.le_refl _) (Or.inr (Or.inr ⟨zt rfl, rfl, zt rfl⟩)) ?_
      refine s_isSign (t := t) (z := z) (i := r.2.1) (c := 42) (by omega) rfl (by omega) (by omega) hC.2.1.2.2.2 hC.2.2.2.1 ?_
      rw [hM.1.mbe]
      refine r_if_eq (fun c_11 => ?_) (fun c_11 => ?_)
      · refine E_go 2 rfl ?_
        refine r_iload_n rfl ?_
        refine r_iret rfl trivial ?_
        have e : pLp (tkd (mb t I) z) (tst (mb t I) z) opT (F (mb t I) z) 160 (F (mb t I) z i) = r := by rw [hr0]; exact pLp_n (by simp [opT, b01.mp c_11])
        have hQ2 := hQ J L2 v
        rw [e] at hQ2
        exact hQ2 hM
      · refine r_aload_n rfl ?_
        refine r_virtual (vs := []) (as := []) (by decide) (zl rfl) rfl rfl (zl rfl) (Nat.le_refl _) (Or.inr (Or.inr ⟨zt rfl, rfl, zt rfl⟩)) ?_
        have hk : tkd (mb t I) z r.2.1 = 42 := b01n.mp c_11
        have hop : opT (tkd (mb t I) z r.2.1) = some (-42) := by rw [hk]; rfl
        have hT := tst_lt (b := mb t I) hz0 (by omega : ¬ tkd (mb t I) z r.2.1 = 0)
        have hT2 := tst_z (b := mb t I) hz0
        have hq := hg (mb t I) z _ hT2
        refine s_nextM (by omega) hC (by rw [hM.1.mbe, hk]; decide) (fun J1 L3 n1 hC1 => ?_)
        rw [hM.1.mbe] at hC1
        refine r_iload_n rfl ?_
        refine r_aload_n rfl ?_
        refine r_virtual (vs := []) (as := []) (by decide) (zl rfl) rfl rfl (zl rfl) (Nat.le_refl _) (Or.inr (Or.inr ⟨zt rfl, rfl, zt rfl⟩)) ?_
        refine hel J1 L3 _ t _ z w hC1 (fun J2 L4 v2 hM2 => ?_)
        rw [n1.v.mbe, hM.1.mbe] at hM2
        refine r_imul ?_
        refine r_istore_n (ls' := [_, _]) (zt rfl) rfl ?_
        refine r_goto ?_
        refine ih (d - 1) (by omega) ((F (mb t I) z (tst (mb t I) z r.2.1)).1, (F (mb t I) z (tst (mb t I) z r.2.1)).2.1, r.2.2 ++ ((F (mb t I) z (tst (mb t I) z r.2.1)).2.2 ++ [-42])) J2 L4 _ ?_ ?_ ?_ (MR_app hM hr n1.v hM2 (fun st => e_mul))
        · rw [hr0]; exact pLp_s (by omega) hr hop
        · dsimp only; omega
        · exact hq.1.2
    · refine E_go 1 rfl ?_
      refine r_aload_n rfl ?_
      refine r_bipush ?_
      refine r_virtual (vs := []) (as := [_]) (by decide) (zl rfl) rfl rfl (zl rfl) (Nat.le_refl _) (Or.inr (Or.inr ⟨zt rfl, rfl, zt rfl⟩)) ?_
      refine s_isSignB (by omega) (hM.2.2 hr).1 ?_
      refine r_if_eq (fun c_11 => ?_) (fun c_11 => ?_)
      · have c_11 := (n_eq (a := 0) (b := 0) rfl rfl (by omega) (by omega)).mp c_11
        refine E_go 2 rfl ?_
        refine r_iload_n rfl ?_
        refine r_iret rfl trivial ?_
        have e : pLp (tkd (mb t I) z) (tst (mb t I) z) opT (F (mb t I) z) 160 (F (mb t I) z i) = r := by rw [hr0]; exact pLp_f hr
        have hQ2 := hQ J L2 v
        rw [e] at hQ2
        exact hQ2 hM
      · have c_11 := (not_congr (n_eq (a := 0) (b := 0) rfl rfl (by omega) (by omega))).mp c_11
        omega
  refine M_go (ls := [_, _]) (ml := 2) rfl rfl rfl (zl rfl) rfl ?_
  refine r_aload_n rfl ?_
  refine r_virtual (vs := []) (as := []) (by decide) (zl rfl) rfl rfl (zl rfl) (Nat.le_refl _) (Or.inr (Or.inr ⟨zt rfl, rfl, zt rfl⟩)) ?_
  refine hel I L _ t i z w h (fun J L2 v hM => ?_)
  refine r_istore_n (ls' := [_, _]) (zt rfl) rfl ?_
  refine r_nil ?_
  refine key 160 (F (mb t I) z i) J L2 v rfl ?_ ?_ hM
  · have := h.1.2.1; have := hg (mb t I) z i h.1.2.2; omega
  · exact (hg (mb t I) z i h.1.2.2).1.2

set_option maxRecDepth 10000 in
theorem s_added0 {xs : xSc} {m o : Nat} {F : PFn} (hm : 10 ≤ m) (hg : ∀ b z, gd z (F b z)) (hel : Mp xs xi_X7_term0 m o F) : Mp xs xi_X7_added0 (m + 1) o (fun b z i => pLp (tkd b z) (tst b z) opS (F b z) 160 (F b z i)) := by
  intro I L Q t i z w h hQ
  dsimp only at hQ
  have key : ∀ d (r : PR) (J : Nat → Nat → Int32) (L2 : Nat → Nat → Int64) (v : Int32) (x0 x1 : Value), pLp (tkd (mb t I) z) (tst (mb t I) z) opS (F (mb t I) z) 160 (F (mb t I) z i) = pLp (tkd (mb t I) z) (tst (mb t I) z) opS (F (mb t I) z) d r → z ≤ r.2.1 + d → r.2.1 ≤ z → MR t z o w r I J L2 v → E xs m xi_X7_added0 82 Q 5 [.ref 61, .int v, x0, x1] [] (82, J, L2, xF0) := by
    intro d
    induction d using Nat.strongRecOn with
    | _ d ih =>
    intro r J L2 v x0 x1 hr0 hd hz0 hM
    by_cases hr : r.1 = true
    · have hC := MR_c h hM hr hz0
      refine E_go 1 rfl ?_
      refine r_aload_n rfl ?_
      refine r_bipush ?_
      refine r_virtual (vs := []) (as := [_]) (by decide) (zl rfl) rfl rfl (zl rfl) (Nat.le_refl _) (Or.inr (Or.inr ⟨zt rfl, rfl, zt rfl⟩)) ?_
      refine s_isSign (t := t) (z := z) (i := r.2.1) (c := 43) (by omega) rfl (by omega) (by omega) hC.2.1.2.2.2 hC.2.2.2.1 ?_
      rw [hM.1.mbe]
      refine r_if_ne (fun c_11 => ?_) (fun c_11 => ?_)
      · refine E_go 2 rfl ?_
        refine r_aload_n rfl ?_
        refine r_getJ (by decide) rfl rfl (by decide) rfl ?_
        refine r_ldc2_w ?_
        refine r_lcmp ?_
        refine r_if_ne (fun c_31 => ?_) (fun c_31 => ?_)
        · exact absurd (lg_eq.mpr (mK_43 hC.2.2.2.1 (by rw [hM.1.mbe]; exact b01n.mp c_11))) c_31
        · refine r_iconst ?_
          refine r_goto ?_
          refine E_go 4 rfl ?_
          refine r_istore_n (ls' := [_, _, _, _]) (zt rfl) rfl ?_
          refine r_aload_n rfl ?_
          refine r_virtual (vs := []) (as := []) (by decide) (zl rfl) rfl rfl (zl rfl) (Nat.le_refl _) (Or.inr (Or.inr ⟨zt rfl, rfl, zt rfl⟩)) ?_
          have hk : tkd (mb t I) z r.2.1 = 43 := b01n.mp c_11
          have hop : opS (tkd (mb t I) z r.2.1) = some (-43) := by rw [hk]; rfl
          have hT := tst_lt (b := mb t I) hz0 (by omega : ¬ tkd (mb t I) z r.2.1 = 0)
          have hT2 := tst_z (b := mb t I) hz0
          have hq := hg (mb t I) z _ hT2
          refine s_nextM (by omega) hC (by rw [hM.1.mbe, hk]; decide) (fun J1 L3 n1 hC1 => ?_)
          rw [hM.1.mbe] at hC1
          refine r_aload_n rfl ?_
          refine r_virtual (vs := []) (as := []) (by decide) (zl rfl) rfl rfl (zl rfl) (Nat.le_refl _) (Or.inr (Or.inr ⟨zt rfl, rfl, zt rfl⟩)) ?_
          refine hel J1 L3 _ t _ z w hC1 (fun J2 L4 v2 hM2 => ?_)
          rw [n1.v.mbe, hM.1.mbe] at hM2
          refine r_istore_n (ls' := [_, _, _, _]) (zt rfl) rfl ?_
          refine r_iload_n rfl ?_
          refine r_if_eq (fun c_50 => ?_) (fun c_50 => ?_)
          · have c_50 := (n_eq (a := 1) (b := 0) rfl rfl (by omega) (by omega)).mp c_50
            omega
          · have c_50 := (not_congr (n_eq (a := 1) (b := 0) rfl rfl (by omega) (by omega))).mp c_50
            refine r_iload_n rfl ?_
            refine r_iload_n rfl ?_
            refine r_iadd ?_
            refine r_goto ?_
            refine E_go 6 rfl ?_
            refine r_istore_n (ls' := [_, _, _, _]) (zt rfl) rfl ?_
            refine r_goto ?_
            refine ih (d - 1) (by omega) ((F (mb t I) z (tst (mb t I) z r.2.1)).1, (F (mb t I) z (tst (mb t I) z r.2.1)).2.1, r.2.2 ++ ((F (mb t I) z (tst (mb t I) z r.2.1)).2.2 ++ [-43])) J2 L4 _ _ _ ?_ ?_ ?_ (MR_app hM hr n1.v hM2 (fun st => e_add))
            · rw [hr0]; exact pLp_s (by omega) hr hop
            · dsimp only; omega
            · exact hq.1.2
      · refine r_aload_n rfl ?_
        refine r_bipush ?_
        refine r_virtual (vs := []) (as := [_]) (by decide) (zl rfl) rfl rfl (zl rfl) (Nat.le_refl _) (Or.inr (Or.inr ⟨zt rfl, rfl, zt rfl⟩)) ?_
        refine s_isSign (t := t) (z := z) (i := r.2.1) (c := 45) (by omega) rfl (by omega) (by omega) hC.2.1.2.2.2 hC.2.2.2.1 ?_
        rw [hM.1.mbe]
        refine r_if_eq (fun c_20 => ?_) (fun c_20 => ?_)
        · refine E_go 7 rfl ?_
          refine r_iload_n rfl ?_
          refine r_iret rfl trivial ?_
          have e : pLp (tkd (mb t I) z) (tst (mb t I) z) opS (F (mb t I) z) 160 (F (mb t I) z i) = r := by rw [hr0]; exact pLp_n (by simp [opS, b01.mp c_11, b01.mp c_20])
          have hQ2 := hQ J L2 v
          rw [e] at hQ2
          exact hQ2 hM
        · refine r_nil ?_
          refine E_go 2 rfl ?_
          refine r_aload_n rfl ?_
          refine r_getJ (by decide) rfl rfl (by decide) rfl ?_
          refine r_ldc2_w ?_
          refine r_lcmp ?_
          refine r_if_ne (fun c_31 => ?_) (fun c_31 => ?_)
          · refine E_go 3 rfl ?_
            refine r_iconst ?_
            refine r_nil ?_
            refine E_go 4 rfl ?_
            refine r_istore_n (ls' := [_, _, _, _]) (zt rfl) rfl ?_
            refine r_aload_n rfl ?_
            refine r_virtual (vs := []) (as := []) (by decide) (zl rfl) rfl rfl (zl rfl) (Nat.le_refl _) (Or.inr (Or.inr ⟨zt rfl, rfl, zt rfl⟩)) ?_
            have hk : tkd (mb t I) z r.2.1 = 45 := b01n.mp c_20
            have hop : opS (tkd (mb t I) z r.2.1) = some (-45) := by rw [hk]; rfl
            have hT := tst_lt (b := mb t I) hz0 (by omega : ¬ tkd (mb t I) z r.2.1 = 0)
            have hT2 := tst_z (b := mb t I) hz0
            have hq := hg (mb t I) z _ hT2
            refine s_nextM (by omega) hC (by rw [hM.1.mbe, hk]; decide) (fun J1 L3 n1 hC1 => ?_)
            rw [hM.1.mbe] at hC1
            refine r_aload_n rfl ?_
            refine r_virtual (vs := []) (as := []) (by decide) (zl rfl) rfl rfl (zl rfl) (Nat.le_refl _) (Or.inr (Or.inr ⟨zt rfl, rfl, zt rfl⟩)) ?_
            refine hel J1 L3 _ t _ z w hC1 (fun J2 L4 v2 hM2 => ?_)
            rw [n1.v.mbe, hM.1.mbe] at hM2
            refine r_istore_n (ls' := [_, _, _, _]) (zt rfl) rfl ?_
            refine r_iload_n rfl ?_
            refine r_if_eq (fun c_50 => ?_) (fun c_50 => ?_)
            · have c_50 := (n_eq (a := 0) (b := 0) rfl rfl (by omega) (by omega)).mp c_50
              refine E_go 5 rfl ?_
              refine r_iload_n rfl ?_
              refine r_iload_n rfl ?_
              refine r_isub ?_
              refine r_nil ?_
              refine E_go 6 rfl ?_
              refine r_istore_n (ls' := [_, _, _, _]) (zt rfl) rfl ?_
              refine r_goto ?_
              refine ih (d - 1) (by omega) ((F (mb t I) z (tst (mb t I) z r.2.1)).1, (F (mb t I) z (tst (mb t I) z r.2.1)).2.1, r.2.2 ++ ((F (mb t I) z (tst (mb t I) z r.2.1)).2.2 ++ [-45])) J2 L4 _ _ _ ?_ ?_ ?_ (MR_app hM hr n1.v hM2 (fun st => e_sub))
              · rw [hr0]; exact pLp_s (by omega) hr hop
              · dsimp only; omega
              · exact hq.1.2
            · have c_50 := (not_congr (n_eq (a := 0) (b := 0) rfl rfl (by omega) (by omega))).mp c_50
              omega
          · exact absurd (lg_eq.mp c_31) (mK_45 hC.2.2.2.1 (by rw [hM.1.mbe]; exact b01n.mp c_20))
    · refine E_go 1 rfl ?_
      refine r_aload_n rfl ?_
      refine r_bipush ?_
      refine r_virtual (vs := []) (as := [_]) (by decide) (zl rfl) rfl rfl (zl rfl) (Nat.le_refl _) (Or.inr (Or.inr ⟨zt rfl, rfl, zt rfl⟩)) ?_
      refine s_isSignB (by omega) (hM.2.2 hr).1 ?_
      refine r_if_ne (fun c_11 => ?_) (fun c_11 => ?_)
      · have c_11 := (not_congr (n_eq (a := 0) (b := 0) rfl rfl (by omega) (by omega))).mp c_11
        omega
      · have c_11 := (n_eq (a := 0) (b := 0) rfl rfl (by omega) (by omega)).mp c_11
        refine r_aload_n rfl ?_
        refine r_bipush ?_
        refine r_virtual (vs := []) (as := [_]) (by decide) (zl rfl) rfl rfl (zl rfl) (Nat.le_refl _) (Or.inr (Or.inr ⟨zt rfl, rfl, zt rfl⟩)) ?_
        refine s_isSignB (by omega) (hM.2.2 hr).1 ?_
        refine r_if_eq (fun c_20 => ?_) (fun c_20 => ?_)
        · have c_20 := (n_eq (a := 0) (b := 0) rfl rfl (by omega) (by omega)).mp c_20
          refine E_go 7 rfl ?_
          refine r_iload_n rfl ?_
          refine r_iret rfl trivial ?_
          have e : pLp (tkd (mb t I) z) (tst (mb t I) z) opS (F (mb t I) z) 160 (F (mb t I) z i) = r := by rw [hr0]; exact pLp_f hr
          have hQ2 := hQ J L2 v
          rw [e] at hQ2
          exact hQ2 hM
        · have c_20 := (not_congr (n_eq (a := 0) (b := 0) rfl rfl (by omega) (by omega))).mp c_20
          omega
  refine M_go (ls := [_, _, _, _]) (ml := 4) rfl rfl rfl (zl rfl) rfl ?_
  refine r_aload_n rfl ?_
  refine r_virtual (vs := []) (as := []) (by decide) (zl rfl) rfl rfl (zl rfl) (Nat.le_refl _) (Or.inr (Or.inr ⟨zt rfl, rfl, zt rfl⟩)) ?_
  refine hel I L _ t i z w h (fun J L2 v hM => ?_)
  refine r_istore_n (ls' := [_, _, _, _]) (zt rfl) rfl ?_
  refine r_nil ?_
  refine key 160 (F (mb t I) z i) J L2 v _ _ rfl ?_ ?_ hM
  · have := h.1.2.1; have := hg (mb t I) z i h.1.2.2; omega
  · exact (hg (mb t I) z i h.1.2.2).1.2

set_option maxRecDepth 10000 in
theorem s_not0 {xs : xSc} {m o : Nat} {F G : PFn} (hm : 10 ≤ m) (hg : ∀ b z, gd z (F b z)) (hel : Mp xs xi_X7_added0 m o F) (hd5 : o < 5) (hdp : Mp xs xi_X7_not1 m (o + 1) G) : Mp xs xi_X7_not0 (m + 1) o (fun b z i => pNt (tkd b z) (tst b z) (some (G b z)) (pCm (tkd b z) (tst b z) (F b z)) i) := by
  intro I L Q t i z w h hQ
  dsimp only at hQ
  refine M_go (ls := [_, _, _, _]) (ml := 4) rfl rfl rfl (zl rfl) rfl ?_
  refine r_aload_n rfl ?_
  refine r_bipush ?_
  refine r_bipush ?_
  refine r_bipush ?_
  refine r_iconst ?_
  refine r_iconst ?_
  refine r_iconst ?_
  refine r_iconst ?_
  refine r_iconst ?_
  refine r_virtual (vs := []) (as := [_, _, _, _, _, _, _, _]) (by decide) (zl rfl) rfl rfl (zl rfl) (Nat.le_refl _) (Or.inr (Or.inr ⟨zt rfl, rfl, zt rfl⟩)) ?_
  refine s_isW_8 (t := t) (z := z) (i := i) (by omega) h.1.1 h.1.2.1 h.2.1.1 h.2.1.2.1 h.1.2.2 h.2.1.2.2.2 h.2.2.2.1 ?_
  refine r_if_eq (fun c_15 => ?_) (fun c_15 => ?_)
  · refine E_go 4 rfl ?_
    refine r_aload_n rfl ?_
    refine r_virtual (vs := []) (as := []) (by decide) (zl rfl) rfl rfl (zl rfl) (Nat.le_refl _) (Or.inr (Or.inr ⟨zt rfl, rfl, zt rfl⟩)) ?_
    refine hel I L _ t i z w h (fun J L2 v hM => ?_)
    have hg1 := hg (mb t I) z i h.1.2.2
    by_cases hr : (F (mb t I) z i).1 = true
    · have hC := MR_c h hM hr hg1.1.2
      refine r_istore_n (ls' := [_, _, _, _]) (zt rfl) rfl ?_
      refine r_aload_n rfl ?_
      refine r_bipush ?_
      refine r_virtual (vs := []) (as := [_]) (by decide) (zl rfl) rfl rfl (zl rfl) (Nat.le_refl _) (Or.inr (Or.inr ⟨zt rfl, rfl, zt rfl⟩)) ?_
      refine s_isSign (t := t) (z := z) (i := (F (mb t I) z i).2.1) (c := 60) (by omega) rfl (by omega) (by omega) hC.2.1.2.2.2 hC.2.2.2.1 ?_
      rw [hM.1.mbe]
      refine r_if_ne (fun c_63 => ?_) (fun c_63 => ?_)
      · refine E_go 5 rfl ?_
        refine r_aload_n rfl ?_
        refine r_getJ (by decide) rfl rfl (by decide) rfl ?_
        refine r_ldc2_w ?_
        refine r_lcmp ?_
        refine r_if_ne (fun c_85 => ?_) (fun c_85 => ?_)
        · exact absurd (lg_eq.mpr (mK_60 hC.2.2.2.1 (by rw [hM.1.mbe]; exact b01n.mp c_63))) c_85
        · refine r_iconst ?_
          refine r_goto ?_
          refine E_go 7 rfl ?_
          refine r_istore_n (ls' := [_, _, _, _]) (zt rfl) rfl ?_
          refine r_aload_n rfl ?_
          refine r_virtual (vs := []) (as := []) (by decide) (zl rfl) rfl rfl (zl rfl) (Nat.le_refl _) (Or.inr (Or.inr ⟨zt rfl, rfl, zt rfl⟩)) ?_
          have hk : tkd (mb t I) z (F (mb t I) z i).2.1 = 60 := b01n.mp c_63
          refine s_nextM (by omega) hC (by rw [hM.1.mbe, hk]; decide) (fun J1 L3 n1 hC1 => ?_)
          rw [hM.1.mbe] at hC1
          refine r_aload_n rfl ?_
          refine r_virtual (vs := []) (as := []) (by decide) (zl rfl) rfl rfl (zl rfl) (Nat.le_refl _) (Or.inr (Or.inr ⟨zt rfl, rfl, zt rfl⟩)) ?_
          refine hel J1 L3 _ t _ z w hC1 (fun J2 L4 v2 hM2 => ?_)
          rw [n1.v.mbe, hM.1.mbe] at hM2
          refine r_istore_n (ls' := [_, _, _, _]) (zt rfl) rfl ?_
          refine r_iload_n rfl ?_
          refine r_if_eq (fun c_104 => ?_) (fun c_104 => ?_)
          · have c_104 := (n_eq (a := 1) (b := 0) rfl rfl (by omega) (by omega)).mp c_104
            omega
          · have c_104 := (not_congr (n_eq (a := 1) (b := 0) rfl rfl (by omega) (by omega))).mp c_104
            refine r_iload_n rfl ?_
            refine r_iload_n rfl ?_
            refine r_icmp_ge (fun c_109 => ?_) (fun c_109 => ?_)
            · refine E_go 10 rfl ?_
              refine r_iconst ?_
              refine r_nil ?_
              refine E_go 11 rfl ?_
              refine r_iret rfl trivial ?_
              refine hQ _ _ _ ?_
              rw [pNt_n (b01.mp c_15), pCm_y hr (by omega), hk]
              exact MR_app (ww := -(io 60)) hM hr n1.v hM2 (fun st => by rw [show -(io 60) = (-60 : Int32) from rfl, e_lt, if_neg (Int32.not_lt.mpr c_109)])
            · refine r_goto ?_
              refine E_go 9 rfl ?_
              refine r_iconst ?_
              refine r_goto ?_
              refine E_go 11 rfl ?_
              refine r_iret rfl trivial ?_
              refine hQ _ _ _ ?_
              rw [pNt_n (b01.mp c_15), pCm_y hr (by omega), hk]
              exact MR_app (ww := -(io 60)) hM hr n1.v hM2 (fun st => by rw [show -(io 60) = (-60 : Int32) from rfl, e_lt, if_pos (Int32.not_le.mp c_109)])
      · refine r_aload_n rfl ?_
        refine r_bipush ?_
        refine r_virtual (vs := []) (as := [_]) (by decide) (zl rfl) rfl rfl (zl rfl) (Nat.le_refl _) (Or.inr (Or.inr ⟨zt rfl, rfl, zt rfl⟩)) ?_
        refine s_isSign (t := t) (z := z) (i := (F (mb t I) z i).2.1) (c := 61) (by omega) rfl (by omega) (by omega) hC.2.1.2.2.2 hC.2.2.2.1 ?_
        rw [hM.1.mbe]
        refine r_if_ne (fun c_72 => ?_) (fun c_72 => ?_)
        · refine E_go 5 rfl ?_
          refine r_aload_n rfl ?_
          refine r_getJ (by decide) rfl rfl (by decide) rfl ?_
          refine r_ldc2_w ?_
          refine r_lcmp ?_
          refine r_if_ne (fun c_85 => ?_) (fun c_85 => ?_)
          · refine E_go 6 rfl ?_
            refine r_iconst ?_
            refine r_nil ?_
            refine E_go 7 rfl ?_
            refine r_istore_n (ls' := [_, _, _, _]) (zt rfl) rfl ?_
            refine r_aload_n rfl ?_
            refine r_virtual (vs := []) (as := []) (by decide) (zl rfl) rfl rfl (zl rfl) (Nat.le_refl _) (Or.inr (Or.inr ⟨zt rfl, rfl, zt rfl⟩)) ?_
            have hk : tkd (mb t I) z (F (mb t I) z i).2.1 = 61 := b01n.mp c_72
            refine s_nextM (by omega) hC (by rw [hM.1.mbe, hk]; decide) (fun J1 L3 n1 hC1 => ?_)
            rw [hM.1.mbe] at hC1
            refine r_aload_n rfl ?_
            refine r_virtual (vs := []) (as := []) (by decide) (zl rfl) rfl rfl (zl rfl) (Nat.le_refl _) (Or.inr (Or.inr ⟨zt rfl, rfl, zt rfl⟩)) ?_
            refine hel J1 L3 _ t _ z w hC1 (fun J2 L4 v2 hM2 => ?_)
            rw [n1.v.mbe, hM.1.mbe] at hM2
            refine r_istore_n (ls' := [_, _, _, _]) (zt rfl) rfl ?_
            refine r_iload_n rfl ?_
            refine r_if_eq (fun c_104 => ?_) (fun c_104 => ?_)
            · have c_104 := (n_eq (a := 0) (b := 0) rfl rfl (by omega) (by omega)).mp c_104
              refine E_go 8 rfl ?_
              refine r_iload_n rfl ?_
              refine r_iload_n rfl ?_
              refine r_icmp_ne (fun c_117 => ?_) (fun c_117 => ?_)
              · refine E_go 10 rfl ?_
                refine r_iconst ?_
                refine r_nil ?_
                refine E_go 11 rfl ?_
                refine r_iret rfl trivial ?_
                refine hQ _ _ _ ?_
                rw [pNt_n (b01.mp c_15), pCm_y hr (by omega), hk]
                exact MR_app (ww := -(io 61)) hM hr n1.v hM2 (fun st => by rw [show -(io 61) = (-61 : Int32) from rfl, e_eq, if_neg c_117])
              · refine r_nil ?_
                refine E_go 9 rfl ?_
                refine r_iconst ?_
                refine r_goto ?_
                refine E_go 11 rfl ?_
                refine r_iret rfl trivial ?_
                refine hQ _ _ _ ?_
                rw [pNt_n (b01.mp c_15), pCm_y hr (by omega), hk]
                exact MR_app (ww := -(io 61)) hM hr n1.v hM2 (fun st => by rw [show -(io 61) = (-61 : Int32) from rfl, e_eq, if_pos c_117])
            · have c_104 := (not_congr (n_eq (a := 0) (b := 0) rfl rfl (by omega) (by omega))).mp c_104
              omega
          · exact absurd (lg_eq.mp c_85) (mK_61 hC.2.2.2.1 (by rw [hM.1.mbe]; exact b01n.mp c_72))
        · refine r_iload_n rfl ?_
          refine r_iret rfl trivial ?_
          refine hQ _ _ _ ?_
          rw [pNt_n (b01.mp c_15), pCm_n ?_]
          · exact hM
          · have q1 := b01.mp c_63
            have q2 := b01.mp c_72
            exact fun q => by omega
    · have hb := (hM.2.2 hr).1
      refine r_istore_n (ls' := [_, _, _, _]) (zt rfl) rfl ?_
      refine r_aload_n rfl ?_
      refine r_bipush ?_
      refine r_virtual (vs := []) (as := [_]) (by decide) (zl rfl) rfl rfl (zl rfl) (Nat.le_refl _) (Or.inr (Or.inr ⟨zt rfl, rfl, zt rfl⟩)) ?_
      refine s_isSignB (by omega) hb ?_
      refine r_if_ne (fun c_63 => ?_) (fun c_63 => ?_)
      · have c_63 := (not_congr (n_eq (a := 0) (b := 0) rfl rfl (by omega) (by omega))).mp c_63
        omega
      · have c_63 := (n_eq (a := 0) (b := 0) rfl rfl (by omega) (by omega)).mp c_63
        refine r_aload_n rfl ?_
        refine r_bipush ?_
        refine r_virtual (vs := []) (as := [_]) (by decide) (zl rfl) rfl rfl (zl rfl) (Nat.le_refl _) (Or.inr (Or.inr ⟨zt rfl, rfl, zt rfl⟩)) ?_
        refine s_isSignB (by omega) hb ?_
        refine r_if_ne (fun c_72 => ?_) (fun c_72 => ?_)
        · have c_72 := (not_congr (n_eq (a := 0) (b := 0) rfl rfl (by omega) (by omega))).mp c_72
          omega
        · have c_72 := (n_eq (a := 0) (b := 0) rfl rfl (by omega) (by omega)).mp c_72
          refine r_iload_n rfl ?_
          refine r_iret rfl trivial ?_
          refine hQ _ _ _ ?_
          rw [pNt_n (b01.mp c_15), pCm_n ?_]
          · exact hM
          · exact fun q => absurd q.1 hr
  · refine r_aload_n rfl ?_
    refine r_virtual (vs := []) (as := []) (by decide) (zl rfl) rfl rfl (zl rfl) (Nat.le_refl _) (Or.inr (Or.inr ⟨zt rfl, rfl, zt rfl⟩)) ?_
    have hk : tkd (mb t I) z i = 8 := b01n.mp c_15
    refine s_opensS (by omega) hd5 h (by omega) (fun J1 L3 v1 hC1 => ?_)
    refine r_if_ne (fun c_22 => ?_) (fun c_22 => ?_)
    · have c_22 := (not_congr (n_eq (a := 1) (b := 0) rfl rfl (by omega) (by omega))).mp c_22
      refine E_go 1 rfl ?_
      refine r_aload_n rfl ?_
      refine r_virtual (vs := []) (as := []) (by decide) (zl rfl) rfl rfl (zl rfl) (Nat.le_refl _) (Or.inr (Or.inr ⟨zt rfl, rfl, zt rfl⟩)) ?_
      refine hdp J1 L3 _ t _ z w hC1 (fun J2 L4 v hM2 => ?_)
      rw [v1.mbe] at hM2
      refine r_istore_n (ls' := [_, _, _, _]) (zt rfl) rfl ?_
      refine r_aload_n rfl ?_
      refine r_dup rfl ?_
      refine r_getI (by decide) rfl rfl (by decide) rfl ?_
      refine r_iconst ?_
      refine r_isub ?_
      refine r_putI rfl rfl (by decide) ?_
      refine r_iload_n rfl ?_
      refine r_if_ne (fun c_43 => ?_) (fun c_43 => ?_)
      · refine E_go 2 rfl ?_
        refine r_iconst ?_
        refine r_nil ?_
        refine E_go 3 rfl ?_
        refine r_iret rfl trivial ?_
        refine hQ _ _ _ ?_
        rw [pNt_8 hk]
        exact MR_op v1 hM2 (fun st => by rw [e_not, if_neg c_43])
      · refine r_iconst ?_
        refine r_goto ?_
        refine E_go 3 rfl ?_
        refine r_iret rfl trivial ?_
        refine hQ _ _ _ ?_
        rw [pNt_8 hk]
        exact MR_op v1 hM2 (fun st => by rw [e_not, if_pos c_43])
    · have c_22 := (n_eq (a := 1) (b := 0) rfl rfl (by omega) (by omega)).mp c_22
      omega

set_option maxRecDepth 10000 in
theorem s_both0 {xs : xSc} {m o : Nat} {F : PFn} (hm : 10 ≤ m) (hg : ∀ b z, gd z (F b z)) (hel : Mp xs xi_X7_not0 m o F) : Mp xs xi_X7_both0 (m + 1) o (fun b z i => pLp (tkd b z) (tst b z) opA (F b z) 160 (F b z i)) := by
  intro I L Q t i z w h hQ
  dsimp only at hQ
  have key : ∀ d (r : PR) (J : Nat → Nat → Int32) (L2 : Nat → Nat → Int64) (v : Int32) (x0 : Value), pLp (tkd (mb t I) z) (tst (mb t I) z) opA (F (mb t I) z) 160 (F (mb t I) z i) = pLp (tkd (mb t I) z) (tst (mb t I) z) opA (F (mb t I) z) d r → z ≤ r.2.1 + d → r.2.1 ≤ z → MR t z o w r I J L2 v → E xs m xi_X7_both0 82 Q 5 [.ref 61, .int v, x0] [] (82, J, L2, xF0) := by
    intro d
    induction d using Nat.strongRecOn with
    | _ d ih =>
    intro r J L2 v x0 hr0 hd hz0 hM
    by_cases hr : r.1 = true
    · have hC := MR_c h hM hr hz0
      refine E_go 1 rfl ?_
      refine r_aload_n rfl ?_
      refine r_bipush ?_
      refine r_bipush ?_
      refine r_bipush ?_
      refine r_iconst ?_
      refine r_iconst ?_
      refine r_iconst ?_
      refine r_iconst ?_
      refine r_iconst ?_
      refine r_virtual (vs := []) (as := [_, _, _, _, _, _, _, _]) (by decide) (zl rfl) rfl rfl (zl rfl) (Nat.le_refl _) (Or.inr (Or.inr ⟨zt rfl, rfl, zt rfl⟩)) ?_
      refine s_isW_7 (t := t) (z := z) (i := r.2.1) (by omega) hC.1.1 hC.1.2.1 hC.2.1.1 hC.2.1.2.1 hz0 hC.2.1.2.2.2 hC.2.2.2.1 ?_
      rw [hM.1.mbe]
      refine r_if_eq (fun c_20 => ?_) (fun c_20 => ?_)
      · refine E_go 4 rfl ?_
        refine r_iload_n rfl ?_
        refine r_iret rfl trivial ?_
        have e : pLp (tkd (mb t I) z) (tst (mb t I) z) opA (F (mb t I) z) 160 (F (mb t I) z i) = r := by rw [hr0]; exact pLp_n (by simp [opA, b01.mp c_20])
        have hQ2 := hQ J L2 v
        rw [e] at hQ2
        exact hQ2 hM
      · refine r_aload_n rfl ?_
        refine r_virtual (vs := []) (as := []) (by decide) (zl rfl) rfl rfl (zl rfl) (Nat.le_refl _) (Or.inr (Or.inr ⟨zt rfl, rfl, zt rfl⟩)) ?_
        have hk : tkd (mb t I) z r.2.1 = 7 := b01n.mp c_20
        have hop : opA (tkd (mb t I) z r.2.1) = some (-7) := by rw [hk]; rfl
        have hT := tst_lt (b := mb t I) hz0 (by omega : ¬ tkd (mb t I) z r.2.1 = 0)
        have hT2 := tst_z (b := mb t I) hz0
        have hq := hg (mb t I) z _ hT2
        refine s_nextM (by omega) hC (by rw [hM.1.mbe, hk]; decide) (fun J1 L3 n1 hC1 => ?_)
        rw [hM.1.mbe] at hC1
        refine r_aload_n rfl ?_
        refine r_virtual (vs := []) (as := []) (by decide) (zl rfl) rfl rfl (zl rfl) (Nat.le_refl _) (Or.inr (Or.inr ⟨zt rfl, rfl, zt rfl⟩)) ?_
        refine hel J1 L3 _ t _ z w hC1 (fun J2 L4 v2 hM2 => ?_)
        rw [n1.v.mbe, hM.1.mbe] at hM2
        refine r_istore_n (ls' := [_, _, _]) (zt rfl) rfl ?_
        refine r_iload_n rfl ?_
        refine r_if_eq (fun c_33 => ?_) (fun c_33 => ?_)
        · refine E_go 2 rfl ?_
          refine r_iconst ?_
          refine r_nil ?_
          refine E_go 3 rfl ?_
          refine r_istore_n (ls' := [_, _, _]) (zt rfl) rfl ?_
          refine r_goto ?_
          refine ih (d - 1) (by omega) ((F (mb t I) z (tst (mb t I) z r.2.1)).1, (F (mb t I) z (tst (mb t I) z r.2.1)).2.1, r.2.2 ++ ((F (mb t I) z (tst (mb t I) z r.2.1)).2.2 ++ [-7])) J2 L4 _ _ ?_ ?_ ?_ (MR_app hM hr n1.v hM2 (fun st => by first | rw [e_and, if_pos c_33] | rw [e_and, if_neg c_33, if_pos c_37]))
          · rw [hr0]; exact pLp_s (by omega) hr hop
          · dsimp only; omega
          · exact hq.1.2
        · refine r_iload_n rfl ?_
          refine r_if_eq (fun c_37 => ?_) (fun c_37 => ?_)
          · refine E_go 2 rfl ?_
            refine r_iconst ?_
            refine r_nil ?_
            refine E_go 3 rfl ?_
            refine r_istore_n (ls' := [_, _, _]) (zt rfl) rfl ?_
            refine r_goto ?_
            refine ih (d - 1) (by omega) ((F (mb t I) z (tst (mb t I) z r.2.1)).1, (F (mb t I) z (tst (mb t I) z r.2.1)).2.1, r.2.2 ++ ((F (mb t I) z (tst (mb t I) z r.2.1)).2.2 ++ [-7])) J2 L4 _ _ ?_ ?_ ?_ (MR_app hM hr n1.v hM2 (fun st => by first | rw [e_and, if_pos c_33] | rw [e_and, if_neg c_33, if_pos c_37]))
            · rw [hr0]; exact pLp_s (by omega) hr hop
            · dsimp only; omega
            · exact hq.1.2
          · refine r_iconst ?_
            refine r_goto ?_
            refine E_go 3 rfl ?_
            refine r_istore_n (ls' := [_, _, _]) (zt rfl) rfl ?_
            refine r_goto ?_
            refine ih (d - 1) (by omega) ((F (mb t I) z (tst (mb t I) z r.2.1)).1, (F (mb t I) z (tst (mb t I) z r.2.1)).2.1, r.2.2 ++ ((F (mb t I) z (tst (mb t I) z r.2.1)).2.2 ++ [-7])) J2 L4 _ _ ?_ ?_ ?_ (MR_app hM hr n1.v hM2 (fun st => by rw [e_and, if_neg c_33, if_neg c_37]))
            · rw [hr0]; exact pLp_s (by omega) hr hop
            · dsimp only; omega
            · exact hq.1.2
    · refine E_go 1 rfl ?_
      refine r_aload_n rfl ?_
      refine r_bipush ?_
      refine r_bipush ?_
      refine r_bipush ?_
      refine r_iconst ?_
      refine r_iconst ?_
      refine r_iconst ?_
      refine r_iconst ?_
      refine r_iconst ?_
      refine r_virtual (vs := []) (as := [_, _, _, _, _, _, _, _]) (by decide) (zl rfl) rfl rfl (zl rfl) (Nat.le_refl _) (Or.inr (Or.inr ⟨zt rfl, rfl, zt rfl⟩)) ?_
      refine s_isWordB (by omega) (hM.2.2 hr).1 ?_
      refine r_if_eq (fun c_20 => ?_) (fun c_20 => ?_)
      · have c_20 := (n_eq (a := 0) (b := 0) rfl rfl (by omega) (by omega)).mp c_20
        refine E_go 4 rfl ?_
        refine r_iload_n rfl ?_
        refine r_iret rfl trivial ?_
        have e : pLp (tkd (mb t I) z) (tst (mb t I) z) opA (F (mb t I) z) 160 (F (mb t I) z i) = r := by rw [hr0]; exact pLp_f hr
        have hQ2 := hQ J L2 v
        rw [e] at hQ2
        exact hQ2 hM
      · have c_20 := (not_congr (n_eq (a := 0) (b := 0) rfl rfl (by omega) (by omega))).mp c_20
        omega
  refine M_go (ls := [_, _, _]) (ml := 3) rfl rfl rfl (zl rfl) rfl ?_
  refine r_aload_n rfl ?_
  refine r_virtual (vs := []) (as := []) (by decide) (zl rfl) rfl rfl (zl rfl) (Nat.le_refl _) (Or.inr (Or.inr ⟨zt rfl, rfl, zt rfl⟩)) ?_
  refine hel I L _ t i z w h (fun J L2 v hM => ?_)
  refine r_istore_n (ls' := [_, _, _]) (zt rfl) rfl ?_
  refine r_nil ?_
  refine key 160 (F (mb t I) z i) J L2 v _ rfl ?_ ?_ hM
  · have := h.1.2.1; have := hg (mb t I) z i h.1.2.2; omega
  · exact (hg (mb t I) z i h.1.2.2).1.2

set_option maxRecDepth 10000 in
theorem s_either0 {xs : xSc} {m o : Nat} {F : PFn} (hm : 10 ≤ m) (hg : ∀ b z, gd z (F b z)) (hel : Mp xs xi_X7_both0 m o F) : Mp xs xi_X7_either0 (m + 1) o (fun b z i => pLp (tkd b z) (tst b z) opO (F b z) 160 (F b z i)) := by
  intro I L Q t i z w h hQ
  dsimp only at hQ
  have key : ∀ d (r : PR) (J : Nat → Nat → Int32) (L2 : Nat → Nat → Int64) (v : Int32) (x0 : Value), pLp (tkd (mb t I) z) (tst (mb t I) z) opO (F (mb t I) z) 160 (F (mb t I) z i) = pLp (tkd (mb t I) z) (tst (mb t I) z) opO (F (mb t I) z) d r → z ≤ r.2.1 + d → r.2.1 ≤ z → MR t z o w r I J L2 v → E xs m xi_X7_either0 82 Q 5 [.ref 61, .int v, x0] [] (82, J, L2, xF0) := by
    intro d
    induction d using Nat.strongRecOn with
    | _ d ih =>
    intro r J L2 v x0 hr0 hd hz0 hM
    by_cases hr : r.1 = true
    · have hC := MR_c h hM hr hz0
      refine E_go 1 rfl ?_
      refine r_aload_n rfl ?_
      refine r_bipush ?_
      refine r_bipush ?_
      refine r_iconst ?_
      refine r_iconst ?_
      refine r_iconst ?_
      refine r_iconst ?_
      refine r_iconst ?_
      refine r_iconst ?_
      refine r_virtual (vs := []) (as := [_, _, _, _, _, _, _, _]) (by decide) (zl rfl) rfl rfl (zl rfl) (Nat.le_refl _) (Or.inr (Or.inr ⟨zt rfl, rfl, zt rfl⟩)) ?_
      refine s_isW_6 (t := t) (z := z) (i := r.2.1) (by omega) hC.1.1 hC.1.2.1 hC.2.1.1 hC.2.1.2.1 hz0 hC.2.1.2.2.2 hC.2.2.2.1 ?_
      rw [hM.1.mbe]
      refine r_if_eq (fun c_19 => ?_) (fun c_19 => ?_)
      · refine E_go 5 rfl ?_
        refine r_iload_n rfl ?_
        refine r_iret rfl trivial ?_
        have e : pLp (tkd (mb t I) z) (tst (mb t I) z) opO (F (mb t I) z) 160 (F (mb t I) z i) = r := by rw [hr0]; exact pLp_n (by simp [opO, b01.mp c_19])
        have hQ2 := hQ J L2 v
        rw [e] at hQ2
        exact hQ2 hM
      · refine r_aload_n rfl ?_
        refine r_virtual (vs := []) (as := []) (by decide) (zl rfl) rfl rfl (zl rfl) (Nat.le_refl _) (Or.inr (Or.inr ⟨zt rfl, rfl, zt rfl⟩)) ?_
        have hk : tkd (mb t I) z r.2.1 = 6 := b01n.mp c_19
        have hop : opO (tkd (mb t I) z r.2.1) = some (-6) := by rw [hk]; rfl
        have hT := tst_lt (b := mb t I) hz0 (by omega : ¬ tkd (mb t I) z r.2.1 = 0)
        have hT2 := tst_z (b := mb t I) hz0
        have hq := hg (mb t I) z _ hT2
        refine s_nextM (by omega) hC (by rw [hM.1.mbe, hk]; decide) (fun J1 L3 n1 hC1 => ?_)
        rw [hM.1.mbe] at hC1
        refine r_aload_n rfl ?_
        refine r_virtual (vs := []) (as := []) (by decide) (zl rfl) rfl rfl (zl rfl) (Nat.le_refl _) (Or.inr (Or.inr ⟨zt rfl, rfl, zt rfl⟩)) ?_
        refine hel J1 L3 _ t _ z w hC1 (fun J2 L4 v2 hM2 => ?_)
        rw [n1.v.mbe, hM.1.mbe] at hM2
        refine r_istore_n (ls' := [_, _, _]) (zt rfl) rfl ?_
        refine r_iload_n rfl ?_
        refine r_if_ne (fun c_32 => ?_) (fun c_32 => ?_)
        · refine E_go 2 rfl ?_
          refine r_iconst ?_
          refine r_goto ?_
          refine E_go 4 rfl ?_
          refine r_istore_n (ls' := [_, _, _]) (zt rfl) rfl ?_
          refine r_goto ?_
          refine ih (d - 1) (by omega) ((F (mb t I) z (tst (mb t I) z r.2.1)).1, (F (mb t I) z (tst (mb t I) z r.2.1)).2.1, r.2.2 ++ ((F (mb t I) z (tst (mb t I) z r.2.1)).2.2 ++ [-6])) J2 L4 _ _ ?_ ?_ ?_ (MR_app hM hr n1.v hM2 (fun st => by first | rw [e_or, if_neg c_32] | rw [e_or, if_pos c_32, if_neg c_36]))
          · rw [hr0]; exact pLp_s (by omega) hr hop
          · dsimp only; omega
          · exact hq.1.2
        · refine r_iload_n rfl ?_
          refine r_if_eq (fun c_36 => ?_) (fun c_36 => ?_)
          · refine E_go 3 rfl ?_
            refine r_iconst ?_
            refine r_nil ?_
            refine E_go 4 rfl ?_
            refine r_istore_n (ls' := [_, _, _]) (zt rfl) rfl ?_
            refine r_goto ?_
            refine ih (d - 1) (by omega) ((F (mb t I) z (tst (mb t I) z r.2.1)).1, (F (mb t I) z (tst (mb t I) z r.2.1)).2.1, r.2.2 ++ ((F (mb t I) z (tst (mb t I) z r.2.1)).2.2 ++ [-6])) J2 L4 _ _ ?_ ?_ ?_ (MR_app hM hr n1.v hM2 (fun st => by rw [e_or, if_pos c_32, if_pos c_36]))
            · rw [hr0]; exact pLp_s (by omega) hr hop
            · dsimp only; omega
            · exact hq.1.2
          · refine r_nil ?_
            refine E_go 2 rfl ?_
            refine r_iconst ?_
            refine r_goto ?_
            refine E_go 4 rfl ?_
            refine r_istore_n (ls' := [_, _, _]) (zt rfl) rfl ?_
            refine r_goto ?_
            refine ih (d - 1) (by omega) ((F (mb t I) z (tst (mb t I) z r.2.1)).1, (F (mb t I) z (tst (mb t I) z r.2.1)).2.1, r.2.2 ++ ((F (mb t I) z (tst (mb t I) z r.2.1)).2.2 ++ [-6])) J2 L4 _ _ ?_ ?_ ?_ (MR_app hM hr n1.v hM2 (fun st => by first | rw [e_or, if_neg c_32] | rw [e_or, if_pos c_32, if_neg c_36]))
            · rw [hr0]; exact pLp_s (by omega) hr hop
            · dsimp only; omega
            · exact hq.1.2
    · refine E_go 1 rfl ?_
      refine r_aload_n rfl ?_
      refine r_bipush ?_
      refine r_bipush ?_
      refine r_iconst ?_
      refine r_iconst ?_
      refine r_iconst ?_
      refine r_iconst ?_
      refine r_iconst ?_
      refine r_iconst ?_
      refine r_virtual (vs := []) (as := [_, _, _, _, _, _, _, _]) (by decide) (zl rfl) rfl rfl (zl rfl) (Nat.le_refl _) (Or.inr (Or.inr ⟨zt rfl, rfl, zt rfl⟩)) ?_
      refine s_isWordB (by omega) (hM.2.2 hr).1 ?_
      refine r_if_eq (fun c_19 => ?_) (fun c_19 => ?_)
      · have c_19 := (n_eq (a := 0) (b := 0) rfl rfl (by omega) (by omega)).mp c_19
        refine E_go 5 rfl ?_
        refine r_iload_n rfl ?_
        refine r_iret rfl trivial ?_
        have e : pLp (tkd (mb t I) z) (tst (mb t I) z) opO (F (mb t I) z) 160 (F (mb t I) z i) = r := by rw [hr0]; exact pLp_f hr
        have hQ2 := hQ J L2 v
        rw [e] at hQ2
        exact hQ2 hM
      · have c_19 := (not_congr (n_eq (a := 0) (b := 0) rfl rfl (by omega) (by omega))).mp c_19
        omega
  refine M_go (ls := [_, _, _]) (ml := 3) rfl rfl rfl (zl rfl) rfl ?_
  refine r_aload_n rfl ?_
  refine r_virtual (vs := []) (as := []) (by decide) (zl rfl) rfl rfl (zl rfl) (Nat.le_refl _) (Or.inr (Or.inr ⟨zt rfl, rfl, zt rfl⟩)) ?_
  refine hel I L _ t i z w h (fun J L2 v hM => ?_)
  refine r_istore_n (ls' := [_, _, _]) (zt rfl) rfl ?_
  refine r_nil ?_
  refine key 160 (F (mb t I) z i) J L2 v _ rfl ?_ ?_ hM
  · have := h.1.2.1; have := hg (mb t I) z i h.1.2.2; omega
  · exact (hg (mb t I) z i h.1.2.2).1.2

theorem mp_5 {xs : xSc} : (∀ m, 11 ≤ m → Mp xs xi_X7_atom5 m 5 (gA 0)) ∧ (∀ m, 14 ≤ m → Mp xs xi_X7_not5 m 5 (gN 0)) ∧ (∀ m, 16 ≤ m → Mp xs xi_X7_either5 m 5 (gO 0)) := by
  have a : ∀ m, 11 ≤ m → Mp xs xi_X7_atom5 m 5 (gA 0) := fun m hm => by
    obtain ⟨m, rfl⟩ : ∃ j, m = j + 1 := ⟨m - 1, by omega⟩
    exact s_atom5 (by omega)
  have g1 : ∀ b z, gd z (pTm (tkd b z) (tst b z) (gA 0 b z)) := fun b z => pLp_gd1 tkG_t rfl (gA_gd 0 b z)
  have g2 : ∀ b z, gd z (pSm (tkd b z) (tst b z) (pTm (tkd b z) (tst b z) (gA 0 b z))) := fun b z => pLp_gd1 tkG_t rfl (g1 b z)
  have n : ∀ m, 14 ≤ m → Mp xs xi_X7_not5 m 5 (gN 0) := fun m hm => by
    obtain ⟨m, rfl⟩ : ∃ j, m = j + 1 + 1 + 1 := ⟨m - 3, by omega⟩
    have st : Mp xs xi_X7_added5 (m + 1 + 1) 5 (fun b z => pSm (tkd b z) (tst b z) (pTm (tkd b z) (tst b z) (gA 0 b z))) := s_added5 (by omega) g1 (s_term5 (by omega) (gA_gd 0) (a m (by omega)))
    exact s_not5 (by omega) g2 st
  refine ⟨a, n, fun m hm => ?_⟩
  obtain ⟨m, rfl⟩ : ∃ j, m = j + 1 + 1 := ⟨m - 2, by omega⟩
  exact s_either5 (by omega) (fun b z => pLp_gd1 tkG_t rfl (gN_gd 0 b z)) (s_both5 (by omega) (gN_gd 0) (n m (by omega)))

theorem mp_4 {xs : xSc} : (∀ m, 17 ≤ m → Mp xs xi_X7_atom4 m 4 (gA 1)) ∧ (∀ m, 20 ≤ m → Mp xs xi_X7_not4 m 4 (gN 1)) ∧ (∀ m, 22 ≤ m → Mp xs xi_X7_either4 m 4 (gO 1)) := by
  have a : ∀ m, 17 ≤ m → Mp xs xi_X7_atom4 m 4 (gA 1) := fun m hm => by
    obtain ⟨m, rfl⟩ : ∃ j, m = j + 1 := ⟨m - 1, by omega⟩
    exact s_atom4 (by omega) (by omega) (gO_gd 0) (mp_5.1 m (by omega)) (mp_5.2.2 m (by omega))
  have g1 : ∀ b z, gd z (pTm (tkd b z) (tst b z) (gA 1 b z)) := fun b z => pLp_gd1 tkG_t rfl (gA_gd 1 b z)
  have g2 : ∀ b z, gd z (pSm (tkd b z) (tst b z) (pTm (tkd b z) (tst b z) (gA 1 b z))) := fun b z => pLp_gd1 tkG_t rfl (g1 b z)
  have n : ∀ m, 20 ≤ m → Mp xs xi_X7_not4 m 4 (gN 1) := fun m hm => by
    obtain ⟨m, rfl⟩ : ∃ j, m = j + 1 + 1 + 1 := ⟨m - 3, by omega⟩
    have st : Mp xs xi_X7_added4 (m + 1 + 1) 4 (fun b z => pSm (tkd b z) (tst b z) (pTm (tkd b z) (tst b z) (gA 1 b z))) := s_added4 (by omega) g1 (s_term4 (by omega) (gA_gd 1) (a m (by omega)))
    exact s_not4 (by omega) g2 st (by omega) (mp_5.2.1 (m + 1 + 1) (by omega))
  refine ⟨a, n, fun m hm => ?_⟩
  obtain ⟨m, rfl⟩ : ∃ j, m = j + 1 + 1 := ⟨m - 2, by omega⟩
  exact s_either4 (by omega) (fun b z => pLp_gd1 tkG_t rfl (gN_gd 1 b z)) (s_both4 (by omega) (gN_gd 1) (n m (by omega)))

theorem mp_3 {xs : xSc} : (∀ m, 23 ≤ m → Mp xs xi_X7_atom3 m 3 (gA 2)) ∧ (∀ m, 26 ≤ m → Mp xs xi_X7_not3 m 3 (gN 2)) ∧ (∀ m, 28 ≤ m → Mp xs xi_X7_either3 m 3 (gO 2)) := by
  have a : ∀ m, 23 ≤ m → Mp xs xi_X7_atom3 m 3 (gA 2) := fun m hm => by
    obtain ⟨m, rfl⟩ : ∃ j, m = j + 1 := ⟨m - 1, by omega⟩
    exact s_atom3 (by omega) (by omega) (gO_gd 1) (mp_4.1 m (by omega)) (mp_4.2.2 m (by omega))
  have g1 : ∀ b z, gd z (pTm (tkd b z) (tst b z) (gA 2 b z)) := fun b z => pLp_gd1 tkG_t rfl (gA_gd 2 b z)
  have g2 : ∀ b z, gd z (pSm (tkd b z) (tst b z) (pTm (tkd b z) (tst b z) (gA 2 b z))) := fun b z => pLp_gd1 tkG_t rfl (g1 b z)
  have n : ∀ m, 26 ≤ m → Mp xs xi_X7_not3 m 3 (gN 2) := fun m hm => by
    obtain ⟨m, rfl⟩ : ∃ j, m = j + 1 + 1 + 1 := ⟨m - 3, by omega⟩
    have st : Mp xs xi_X7_added3 (m + 1 + 1) 3 (fun b z => pSm (tkd b z) (tst b z) (pTm (tkd b z) (tst b z) (gA 2 b z))) := s_added3 (by omega) g1 (s_term3 (by omega) (gA_gd 2) (a m (by omega)))
    exact s_not3 (by omega) g2 st (by omega) (mp_4.2.1 (m + 1 + 1) (by omega))
  refine ⟨a, n, fun m hm => ?_⟩
  obtain ⟨m, rfl⟩ : ∃ j, m = j + 1 + 1 := ⟨m - 2, by omega⟩
  exact s_either3 (by omega) (fun b z => pLp_gd1 tkG_t rfl (gN_gd 2 b z)) (s_both3 (by omega) (gN_gd 2) (n m (by omega)))

theorem mp_2 {xs : xSc} : (∀ m, 29 ≤ m → Mp xs xi_X7_atom2 m 2 (gA 3)) ∧ (∀ m, 32 ≤ m → Mp xs xi_X7_not2 m 2 (gN 3)) ∧ (∀ m, 34 ≤ m → Mp xs xi_X7_either2 m 2 (gO 3)) := by
  have a : ∀ m, 29 ≤ m → Mp xs xi_X7_atom2 m 2 (gA 3) := fun m hm => by
    obtain ⟨m, rfl⟩ : ∃ j, m = j + 1 := ⟨m - 1, by omega⟩
    exact s_atom2 (by omega) (by omega) (gO_gd 2) (mp_3.1 m (by omega)) (mp_3.2.2 m (by omega))
  have g1 : ∀ b z, gd z (pTm (tkd b z) (tst b z) (gA 3 b z)) := fun b z => pLp_gd1 tkG_t rfl (gA_gd 3 b z)
  have g2 : ∀ b z, gd z (pSm (tkd b z) (tst b z) (pTm (tkd b z) (tst b z) (gA 3 b z))) := fun b z => pLp_gd1 tkG_t rfl (g1 b z)
  have n : ∀ m, 32 ≤ m → Mp xs xi_X7_not2 m 2 (gN 3) := fun m hm => by
    obtain ⟨m, rfl⟩ : ∃ j, m = j + 1 + 1 + 1 := ⟨m - 3, by omega⟩
    have st : Mp xs xi_X7_added2 (m + 1 + 1) 2 (fun b z => pSm (tkd b z) (tst b z) (pTm (tkd b z) (tst b z) (gA 3 b z))) := s_added2 (by omega) g1 (s_term2 (by omega) (gA_gd 3) (a m (by omega)))
    exact s_not2 (by omega) g2 st (by omega) (mp_3.2.1 (m + 1 + 1) (by omega))
  refine ⟨a, n, fun m hm => ?_⟩
  obtain ⟨m, rfl⟩ : ∃ j, m = j + 1 + 1 := ⟨m - 2, by omega⟩
  exact s_either2 (by omega) (fun b z => pLp_gd1 tkG_t rfl (gN_gd 3 b z)) (s_both2 (by omega) (gN_gd 3) (n m (by omega)))

theorem mp_1 {xs : xSc} : (∀ m, 35 ≤ m → Mp xs xi_X7_atom1 m 1 (gA 4)) ∧ (∀ m, 38 ≤ m → Mp xs xi_X7_not1 m 1 (gN 4)) ∧ (∀ m, 40 ≤ m → Mp xs xi_X7_either1 m 1 (gO 4)) := by
  have a : ∀ m, 35 ≤ m → Mp xs xi_X7_atom1 m 1 (gA 4) := fun m hm => by
    obtain ⟨m, rfl⟩ : ∃ j, m = j + 1 := ⟨m - 1, by omega⟩
    exact s_atom1 (by omega) (by omega) (gO_gd 3) (mp_2.1 m (by omega)) (mp_2.2.2 m (by omega))
  have g1 : ∀ b z, gd z (pTm (tkd b z) (tst b z) (gA 4 b z)) := fun b z => pLp_gd1 tkG_t rfl (gA_gd 4 b z)
  have g2 : ∀ b z, gd z (pSm (tkd b z) (tst b z) (pTm (tkd b z) (tst b z) (gA 4 b z))) := fun b z => pLp_gd1 tkG_t rfl (g1 b z)
  have n : ∀ m, 38 ≤ m → Mp xs xi_X7_not1 m 1 (gN 4) := fun m hm => by
    obtain ⟨m, rfl⟩ : ∃ j, m = j + 1 + 1 + 1 := ⟨m - 3, by omega⟩
    have st : Mp xs xi_X7_added1 (m + 1 + 1) 1 (fun b z => pSm (tkd b z) (tst b z) (pTm (tkd b z) (tst b z) (gA 4 b z))) := s_added1 (by omega) g1 (s_term1 (by omega) (gA_gd 4) (a m (by omega)))
    exact s_not1 (by omega) g2 st (by omega) (mp_2.2.1 (m + 1 + 1) (by omega))
  refine ⟨a, n, fun m hm => ?_⟩
  obtain ⟨m, rfl⟩ : ∃ j, m = j + 1 + 1 := ⟨m - 2, by omega⟩
  exact s_either1 (by omega) (fun b z => pLp_gd1 tkG_t rfl (gN_gd 4 b z)) (s_both1 (by omega) (gN_gd 4) (n m (by omega)))

theorem mp_0 {xs : xSc} : (∀ m, 41 ≤ m → Mp xs xi_X7_atom0 m 0 (gA 5)) ∧ (∀ m, 44 ≤ m → Mp xs xi_X7_not0 m 0 (gN 5)) ∧ (∀ m, 46 ≤ m → Mp xs xi_X7_either0 m 0 (gO 5)) := by
  have a : ∀ m, 41 ≤ m → Mp xs xi_X7_atom0 m 0 (gA 5) := fun m hm => by
    obtain ⟨m, rfl⟩ : ∃ j, m = j + 1 := ⟨m - 1, by omega⟩
    exact s_atom0 (by omega) (by omega) (gO_gd 4) (mp_1.1 m (by omega)) (mp_1.2.2 m (by omega))
  have g1 : ∀ b z, gd z (pTm (tkd b z) (tst b z) (gA 5 b z)) := fun b z => pLp_gd1 tkG_t rfl (gA_gd 5 b z)
  have g2 : ∀ b z, gd z (pSm (tkd b z) (tst b z) (pTm (tkd b z) (tst b z) (gA 5 b z))) := fun b z => pLp_gd1 tkG_t rfl (g1 b z)
  have n : ∀ m, 44 ≤ m → Mp xs xi_X7_not0 m 0 (gN 5) := fun m hm => by
    obtain ⟨m, rfl⟩ : ∃ j, m = j + 1 + 1 + 1 := ⟨m - 3, by omega⟩
    have st : Mp xs xi_X7_added0 (m + 1 + 1) 0 (fun b z => pSm (tkd b z) (tst b z) (pTm (tkd b z) (tst b z) (gA 5 b z))) := s_added0 (by omega) g1 (s_term0 (by omega) (gA_gd 5) (a m (by omega)))
    exact s_not0 (by omega) g2 st (by omega) (mp_1.2.1 (m + 1 + 1) (by omega))
  refine ⟨a, n, fun m hm => ?_⟩
  obtain ⟨m, rfl⟩ : ∃ j, m = j + 1 + 1 := ⟨m - 2, by omega⟩
  exact s_either0 (by omega) (fun b z => pLp_gd1 tkG_t rfl (gN_gd 5 b z)) (s_both0 (by omega) (gN_gd 5) (n m (by omega)))
