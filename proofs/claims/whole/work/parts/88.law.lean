/-! the law: its loop, from its entry -/

set_option maxRecDepth 10000 in
theorem law_loop {xs : xSc} {m : Nat} (hm : 90 ≤ m) (hL : xs.1 ≤ 3072) : ∀ d k, k + d = xs.1 → ∀ (I : Nat → Nat → Int32) (L : Nat → Nat → Int64), Rel I → E xs m xi_L_law 82 lQ 18 [.ref 5000, .ref 0, .ref 61, .int (io k)] [] (Hp I L) := by
  intro d
  induction d using Nat.strongRecOn with
  | _ d ih =>
  intro k hd I L hR
  refine E_go 1 rfl ?_
  refine r_iload_n rfl ?_
  refine r_aload_n rfl ?_
  refine r_alenX rfl ?_
  refine r_bipush ?_
  refine r_isub ?_
  refine r_icmp_gt (fun c => ?_) (fun c => ?_)
  · refine E_go 32 rfl ?_
    refine r_iconst ?_
    refine r_iret rfl (Or.inr rfl) ?_
    exact rfl
  · have hk : k + 6 ≤ xs.1 := by
      have := (not_congr (law_gt hL (by omega))).mp c
      omega
    have nx : ∀ J L2, Rel J → E xs m xi_L_law 82 lQ 18 [.ref 5000, .ref 0, .ref 61, .int (io (k + 6))] [] (Hp J L2) := fun J L2 hJ => ih (d - 6) (by omega) (k + 6) (by omega) J L2 hJ
    refine r_aload_n rfl ?_
    refine r_iload_n rfl ?_
    refine r_ialoadX rfl (ixX rfl (show k < xs.1 by omega) hL) ?_
    refine r_bipush ?_
    refine r_iand ?_
    refine r_table ?_
    refine r_sw1 (fun _ => lc_set hm hR hk hL nx) (fun _ => ?_)
    refine r_sw1 (fun _ => lc_aunt hm hR hk hL nx) (fun _ => ?_)
    refine r_sw1 (fun _ => lc_told hm hR hk hL nx) (fun _ => ?_)
    refine r_sw1 (fun _ => lc_feed hm hR hk hL nx) (fun _ => ?_)
    refine r_sw1 (fun _ => lc_text hm hR hk hL nx) (fun _ => ?_)
    refine r_sw1 (fun _ => lc_force hm hR hk hL nx) (fun _ => ?_)
    refine r_sw1 (fun _ => lc_minute hm hR hk hL nx) (fun _ => ?_)
    refine r_sw1 (fun _ => lc_share hm hR hk hL nx) (fun _ => ?_)
    refine r_sw1 (fun _ => lc_cups hm hR hk hL nx) (fun _ => ?_)
    refine r_sw1 (fun _ => lc_hour hm hR hk hL nx) (fun _ => ?_)
    refine r_sw1 (fun _ => lc_best hm hR hk hL nx) (fun _ => ?_)
    refine r_sw1 (fun _ => lc_rest hm hR hk hL nx) (fun _ => ?_)
    refine r_sw1 (fun _ => lc_settle hm hR hk hL nx) (fun _ => ?_)
    refine r_sw1 (fun _ => lc_greediest hm hR hk hL nx) (fun _ => ?_)
    refine r_sw1 (fun _ => lc_together hm hR hk hL nx) (fun _ => ?_)
    refine r_sw1 (fun _ => lc_hotter hm hR hk hL nx) (fun _ => ?_)
    refine r_sw1 (fun _ => lc_breaks hm hR hk hL nx) (fun _ => ?_)
    refine r_sw1 (fun _ => lc_tells hm hR hk hL nx) (fun _ => ?_)
    refine r_sw1 (fun _ => lc_film hm hR hk hL nx) (fun _ => ?_)
    refine r_sw1 (fun _ => lc_drawn hm hR hk hL nx) (fun _ => ?_)
    refine r_sw1 (fun _ => lc_chance hm hR hk hL nx) (fun _ => ?_)
    refine r_sw1 (fun _ => lc_image hm hR hk hL nx) (fun _ => ?_)
    refine r_sw1 (fun _ => lc_back hm hR hk hL nx) (fun _ => ?_)
    refine r_sw1 (fun _ => lc_count hm hR hk hL nx) (fun _ => ?_)
    refine r_sw1 (fun _ => lc_sheet hm hR hk hL nx) (fun _ => ?_)
    refine r_sw1 (fun _ => lc_cell hm hR hk hL nx) (fun _ => ?_)
    refine r_sw1 (fun _ => lc_copy hm hR hk hL nx) (fun _ => ?_)
    refine r_sw1 (fun _ => lc_aunts hm hR hk hL nx) (fun _ => ?_)
    refine r_sw1 (fun _ => lc_taken hm hR hk hL nx) (fun _ => ?_)
    refine r_sw0 ?_
    refine E_go 31 rfl ?_
    refine r_iincN (y := io (k + 6)) (ls' := [_, _, _, _]) rfl (zt rfl) (n_add (a := k) (b := 6) rfl rfl) rfl ?_
    refine r_goto ?_
    exact nx I L hR

set_option maxRecDepth 10000 in
theorem law_E {xs : xSc} {m : Nat} (hm : 90 ≤ m) (hL : xs.1 ≤ 3072) : E xs m xi_L_law 82 lQ 0 [.ref 5000, xU, xU, xU] [] (0, fun _ _ => 0, fun _ _ => 0, fun _ _ => none) := by
  refine E_go 0 rfl ?_
  refine r_newC (n2 := 1) rfl rfl (zl rfl) ?_
  refine r_dup rfl ?_
  refine r_init (vs := []) (as := []) (by decide) (zl rfl) rfl rfl (zl rfl) (zl rfl) (Or.inl rfl) ?_
  refine s_X6_init (by omega) (fun J L hJ hT => ?_)
  refine r_astore_n (ls' := [_, _, _, _]) (zt rfl) rfl ?_
  refine r_newC (n2 := 62) rfl rfl (zl rfl) ?_
  refine r_dup rfl ?_
  refine r_init (vs := []) (as := []) (by decide) (zl rfl) rfl rfl (zl rfl) (zl rfl) (Or.inl rfl) ?_
  refine s_X7_init (by omega) (fun I L2 hI => ?_)
  refine r_astore_n (ls' := [_, _, _, _]) (zt rfl) rfl ?_
  refine r_iconst ?_
  refine r_istore_n (ls' := [_, _, _, _]) (zt rfl) rfl ?_
  refine r_nil ?_
  exact law_loop hm hL xs.1 0 (Nat.zero_add _) I L2 (rel_0 hJ hT hI)
