/-! told heats: the model -/

set_option maxRecDepth 10000 in
theorem s_mfo {xs : xSc} {m : Nat} {I : Nat → Nat → Int32} {L : Nat → Nat → Int64} {Q : Value → xHp → Prop} (hm : 65 ≤ m) {n r s z : Nat} {ru : Ru} {X : Pot} (h : MC n r ru I) (hX : pEq (mP n (I 61 7) I) X) (ho : okX X) (hs : s < 4) (hz6 : z ≤ 6) (hz : I 80 s = io z) (hQ : ∀ J L2, gF I J → Q (.int (fo (ht ru X) (fun j => I 81 (40 * s + j)) z 0)) (Hp J L2)) : M xs m xi_X7_firstOther [.ref 61, .int (io s)] (Hp I L) Q := by
  obtain ⟨m, rfl⟩ : ∃ k, m = k + 1 := ⟨m - 1, by omega⟩
  refine M_go (ls := [_, _, _]) (ml := 3) rfl rfl rfl (zl rfl) rfl ?_
  refine r_aload_n rfl ?_
  refine r_aload_n rfl ?_
  refine r_getI (by decide) rfl rfl (by decide) rfl ?_
  refine r_virtual (vs := []) (as := [_]) (by decide) (zl rfl) rfl rfl (zl rfl) (Nat.le_refl _) (Or.inr (Or.inr ⟨zt rfl, rfl, zt rfl⟩)) ?_
  refine w_lives (X := X) (by omega) h hX ho (fun K L2 g1 g2 => ?_)
  have hQ := hQ K L2 g1
  refine r_iconst ?_
  refine r_istore_n (ls' := [_, _, _]) (zt rfl) rfl ?_
  refine r_nil ?_
  have key : ∀ d a, a + d = z → fo (ht ru X) (fun j => I 81 (40 * s + j)) z 0 = fo (ht ru X) (fun j => I 81 (40 * s + j)) d a → E xs m xi_X7_firstOther 82 Q 10 [.ref 61, .int (io s), .int (io a)] [] (82, K, L2, xF0) := by
    intro d
    induction d using Nat.strongRecOn with
    | _ d ih =>
    intro a hd hr0
    refine E_go 1 rfl ?_
    refine r_iload_n rfl ?_
    refine r_aload_n rfl ?_
    refine r_getA (q := 80) (by decide) rfl rfl (by decide) ?_
    refine r_iload_n rfl ?_
    refine r_iaload (by decide) rfl (by decide) (ixE rfl (show s < 4 by omega) (by decide)) ((congrFun (g1.1 80 (by omega)) s).trans hz) ?_
    refine r_icmp_ge (fun c_17 => ?_) (fun c_17 => ?_)
    · have c_17 := (n_le (a := z) (b := a) rfl rfl (by omega) (by omega)).mp c_17
      refine E_go 3 rfl ?_
      refine r_iconst ?_
      refine r_iret rfl trivial ?_
      rw [hr0, show d = 0 by omega] at hQ
      exact hQ
    · have c_17 := (not_congr (n_le (a := z) (b := a) rfl rfl (by omega) (by omega))).mp c_17
      refine r_aload_n rfl ?_
      refine r_getA (q := 71) (by decide) rfl rfl (by decide) ?_
      refine r_iload_n rfl ?_
      refine r_iaload (by decide) rfl (by decide) (ixE rfl (show a < 6 by omega) (by decide)) (g2.2 a (by omega)).1 ?_
      refine r_aload_n rfl ?_
      refine r_getA (q := 81) (by decide) rfl rfl (by decide) ?_
      refine r_bipush ?_
      refine r_iload_n rfl ?_
      refine r_imul ?_
      refine r_iload_n rfl ?_
      refine r_iadd ?_
      refine r_iaload (by decide) rfl (by decide) (ixE (n_add (a := (40 * s)) (b := a) (n_mul (a := 40) (b := s) rfl rfl) rfl) (show ((40 * s) + a) < 160 by omega) (by decide)) (congrFun (g1.1 81 (by omega)) _) ?_
      refine r_icmp_eq (fun c_37 => ?_) (fun c_37 => ?_)
      · refine E_go 2 rfl ?_
        refine r_iincN (y := io (a + 1)) (ls' := [_, _, _]) rfl (zt rfl) (n_add (a := a) (b := 1) rfl rfl) rfl ?_
        refine r_goto ?_
        exact ih (d - 1) (by omega) (a + 1) (by omega) (hr0.trans (fo_y (by omega) c_37))
      · refine r_iload_n rfl ?_
        refine r_iret rfl trivial ?_
        rw [hr0, fo_n (by omega) c_37] at hQ
        exact hQ
  exact key z 0 (by omega) rfl

def mLy (xs : xSc) (m : Nat) (w a v : Int32) (P P2 : Mem → Prop) : Prop := ∀ (J : Mem) (L : Nat → Nat → Int64) (Q : Value → xHp → Prop), P J → (∀ K, P2 K → Q .null (Hp K L)) → M xs m xi_X7_lays [.ref 61, .int w, .int a, .int v] (Hp J L) Q
def mFo (xs : xSc) (m s : Nat) (x : Int32) (P2 P : Mem → Prop) : Prop := ∀ (J : Mem) (L : Nat → Nat → Int64) (Q : Value → xHp → Prop), P2 J → (∀ K L2, P K → Q (.int x) (Hp K L2)) → M xs m xi_X7_firstOther [.ref 61, .int (io s)] (Hp J L) Q
def tRes (f : Nat → Int32) (N k : Nat) : Int32 := if k < 30 then bo f N 0 else if k < 40 ∨ (50 ≤ k ∧ k < 60) then io (co f N 0) else le1 f N 0

set_option maxRecDepth 10000 in
theorem s_tloop {xs : xSc} {m : Nat} {Q : Value → xHp → Prop} (hm : 66 ≤ m) {s N k : Nat} {a w old : Int32} {x3 x7 : Int32} {f : Nat → Int32} {P PF : Mem → Prop} {P2 : Nat → Mem → Prop} (hN : N ≤ 100) (hk : k < 70) (hL : ∀ v, v < N → mLy xs m w a (io v) P (P2 v)) (hF2 : ∀ v, v < N → mFo xs m s (f v) (P2 v) P) (hR : mLy xs m w a old P PF) (hQ : ∀ J L2, PF J → Q (.int (tRes f N k)) (Hp J L2)) : ∀ v, v ≤ N → ∀ (J : Mem) L, P J → ∀ b8 c9 l10, (k < 30 → b8 = bo f (N - v) v) → c9 = co f (N - v) v → l10 = le1 f (N - v) v → E xs m xi_X7_tells 82 Q 210 [.ref 61, .int (io s), .int (io k), .int x3, .int a, .int w, .int old, .int x7, .int b8, .int (io c9), .int l10, .int (io v - 1)] [] (82, J, L, xF0) := by
  intro v
  induction v with
  | zero =>
    intro hv J L hP b8 c9 l10 h8 h9 h10
    have hc9 : c9 ≤ 100 := by rw [h9]; have := co_le (f := f) (N - 0) 0; omega
    rw [show io 0 - 1 = (-1 : Int32) from rfl]
    refine E_go 18 rfl ?_
    refine r_iload rfl ?_
    refine r_if_lt (fun c_212 => ?_) (fun c_212 => ?_)
    · refine E_go 22 rfl ?_
      refine r_aload_n rfl ?_
      refine r_iload rfl ?_
      refine r_iload rfl ?_
      refine r_iload rfl ?_
      refine r_virtual (vs := []) (as := [_, _, _]) (by decide) (zl rfl) rfl rfl (zl rfl) (Nat.le_refl _) (Or.inr (Or.inr ⟨zt rfl, rfl, zt rfl⟩)) ?_
      refine hR J L _ hP (fun K hF => ?_)
      refine r_iload_n rfl ?_
      refine r_bipush ?_
      refine r_icmp_ge (fun c_279 => ?_) (fun c_279 => ?_)
      · have c_279 := (n_le (a := 30) (b := k) rfl rfl (by omega) (by omega)).mp c_279
        refine E_go 23 rfl ?_
        refine r_iload_n rfl ?_
        refine r_bipush ?_
        refine r_icmp_lt (fun c_290 => ?_) (fun c_290 => ?_)
        · have c_290 := (n_lt (a := k) (b := 40) rfl rfl (by omega) (by omega)).mp c_290
          refine E_go 24 rfl ?_
          refine r_iload rfl ?_
          refine r_goto ?_
          refine E_go 26 rfl ?_
          refine r_iret rfl trivial ?_
          rw [Nat.sub_zero] at h8 h9 h10
          refine qi (hQ K L hF) ?_
          unfold tRes
          first | (rw [if_pos (by omega)]; exact (h8 (by omega)).symm) | (rw [if_neg (by omega), if_pos (by first | omega | exact Or.inr (by have q := b01n.mp c_304; omega))]; rw [h9]) | (rw [if_neg (by omega), if_neg (by have q := b01.mp c_304; omega)]; exact h10.symm)
        · have c_290 := (not_congr (n_lt (a := k) (b := 40) rfl rfl (by omega) (by omega))).mp c_290
          refine r_iload_n rfl ?_
          refine r_i2l ?_
          refine r_ldc2_w ?_
          refine r_ldc2_w ?_
          refine r_static (vs := [_, _, _]) (by decide) (zl rfl) rfl rfl (zl rfl) (Nat.le_refl _) rfl ?_
          refine s_inr (by omega) (x := io k) (lo := 50) (hi := 59) (Int32.toInt_toInt64 _) (by decide) (by decide) ?_
          rw [io_int (by omega)]
          refine r_if_eq (fun c_304 => ?_) (fun c_304 => ?_)
          · refine E_go 25 rfl ?_
            refine r_iload rfl ?_
            refine r_nil ?_
            refine E_go 26 rfl ?_
            refine r_iret rfl trivial ?_
            rw [Nat.sub_zero] at h8 h9 h10
            refine qi (hQ K L hF) ?_
            unfold tRes
            first | (rw [if_pos (by omega)]; exact (h8 (by omega)).symm) | (rw [if_neg (by omega), if_pos (by first | omega | exact Or.inr (by have q := b01n.mp c_304; omega))]; rw [h9]) | (rw [if_neg (by omega), if_neg (by have q := b01.mp c_304; omega)]; exact h10.symm)
          · refine r_nil ?_
            refine E_go 24 rfl ?_
            refine r_iload rfl ?_
            refine r_goto ?_
            refine E_go 26 rfl ?_
            refine r_iret rfl trivial ?_
            rw [Nat.sub_zero] at h8 h9 h10
            refine qi (hQ K L hF) ?_
            unfold tRes
            first | (rw [if_pos (by omega)]; exact (h8 (by omega)).symm) | (rw [if_neg (by omega), if_pos (by first | omega | exact Or.inr (by have q := b01n.mp c_304; omega))]; rw [h9]) | (rw [if_neg (by omega), if_neg (by have q := b01.mp c_304; omega)]; exact h10.symm)
      · have c_279 := (not_congr (n_le (a := 30) (b := k) rfl rfl (by omega) (by omega))).mp c_279
        refine r_iload rfl ?_
        refine r_goto ?_
        refine E_go 26 rfl ?_
        refine r_iret rfl trivial ?_
        rw [Nat.sub_zero] at h8 h9 h10
        refine qi (hQ K L hF) ?_
        unfold tRes
        first | (rw [if_pos (by omega)]; exact (h8 (by omega)).symm) | (rw [if_neg (by omega), if_pos (by first | omega | exact Or.inr (by have q := b01n.mp c_304; omega))]; rw [h9]) | (rw [if_neg (by omega), if_neg (by have q := b01.mp c_304; omega)]; exact h10.symm)
    · exact absurd (by decide) c_212
  | succ u ih =>
    intro hv J L hP b8 c9 l10 h8 h9 h10
    have hc9 : c9 ≤ 100 := by rw [h9]; have := co_le (f := f) (N - (u + 1)) (u + 1); omega
    rw [show io (u + 1) - 1 = io u from n_sub (a := u + 1) (b := 1) rfl rfl (by omega)]
    refine E_go 18 rfl ?_
    refine r_iload rfl ?_
    refine r_if_lt (fun c_212 => ?_) (fun c_212 => ?_)
    · have c_212 := (n_lt (a := u) (b := 0) rfl rfl (by omega) (by omega)).mp c_212
      omega
    · have c_212 := (not_congr (n_lt (a := u) (b := 0) rfl rfl (by omega) (by omega))).mp c_212
      refine r_aload_n rfl ?_
      refine r_iload rfl ?_
      refine r_iload rfl ?_
      refine r_iload rfl ?_
      refine r_virtual (vs := []) (as := [_, _, _]) (by decide) (zl rfl) rfl rfl (zl rfl) (Nat.le_refl _) (Or.inr (Or.inr ⟨zt rfl, rfl, zt rfl⟩)) ?_
      refine hL u (by omega) J L _ hP (fun K hF => ?_)
      refine r_aload_n rfl ?_
      refine r_iload_n rfl ?_
      refine r_virtual (vs := []) (as := [_]) (by decide) (zl rfl) rfl rfl (zl rfl) (Nat.le_refl _) (Or.inr (Or.inr ⟨zt rfl, rfl, zt rfl⟩)) ?_
      refine hF2 u (by omega) K L _ hF (fun K2 L2 hP2 => ?_)
      refine r_iconst ?_
      refine r_icmp_ne (fun c_231 => ?_) (fun c_231 => ?_)
      · refine E_go 21 rfl ?_
        refine r_iinc (ls' := [_, _, _, _, _, _, _, _, _, _, _, _]) rfl (zt rfl) rfl ?_
        refine r_goto ?_
        have e : ¬ f u = -1 := c_231
        rw [show io u + -1 = io u - 1 from (Int32.sub_eq_add_neg (io u) 1).symm]
        have eN : N - u = (N - (u + 1)) + 1 := by omega
        exact ih (by omega) K2 _ hP2 _ c9 _ (fun h => by rw [eN, bo_n e, ← h8 h]) (by rw [eN, co_n e, ← h9]) (by rw [eN, le1_n e, ← h10])
      · refine r_iload rfl ?_
        refine r_iload_n rfl ?_
        refine r_bipush ?_
        refine r_icmp_ge (fun c_239 => ?_) (fun c_239 => ?_)
        · have c_239 := (n_le (a := 30) (b := k) rfl rfl (by omega) (by omega)).mp c_239
          refine E_go 19 rfl ?_
          refine r_iconst ?_
          refine r_nil ?_
          refine E_go 20 rfl ?_
          refine r_ior ?_
          refine r_istore (ls' := [_, _, _, _, _, _, _, _, _, _, _, _]) (zt rfl) rfl ?_
          refine r_iincN (y := io (c9 + 1)) (ls' := [_, _, _, _, _, _, _, _, _, _, _, _]) rfl (zt rfl) (n_add (a := c9) (b := 1) rfl rfl) rfl ?_
          refine r_iload rfl ?_
          refine r_istore (ls' := [_, _, _, _, _, _, _, _, _, _, _, _]) (zt rfl) rfl ?_
          refine r_nil ?_
          refine E_go 21 rfl ?_
          refine r_iinc (ls' := [_, _, _, _, _, _, _, _, _, _, _, _]) rfl (zt rfl) rfl ?_
          refine r_goto ?_
          have e : f u = -1 := c_231
          rw [show io u + -1 = io u - 1 from (Int32.sub_eq_add_neg (io u) 1).symm]
          have eN : N - u = (N - (u + 1)) + 1 := by omega
          exact ih (by omega) K2 _ hP2 _ (c9 + 1) _ (fun h => by first | omega | rw [eN, bo_y e, ← h8 h]) (by rw [eN, co_y e, ← h9]) (by rw [eN, le1_y e])
        · have c_239 := (not_congr (n_le (a := 30) (b := k) rfl rfl (by omega) (by omega))).mp c_239
          refine r_iconst ?_
          refine r_iload rfl ?_
          refine r_ishl ?_
          refine r_goto ?_
          refine E_go 20 rfl ?_
          refine r_ior ?_
          refine r_istore (ls' := [_, _, _, _, _, _, _, _, _, _, _, _]) (zt rfl) rfl ?_
          refine r_iincN (y := io (c9 + 1)) (ls' := [_, _, _, _, _, _, _, _, _, _, _, _]) rfl (zt rfl) (n_add (a := c9) (b := 1) rfl rfl) rfl ?_
          refine r_iload rfl ?_
          refine r_istore (ls' := [_, _, _, _, _, _, _, _, _, _, _, _]) (zt rfl) rfl ?_
          refine r_nil ?_
          refine E_go 21 rfl ?_
          refine r_iinc (ls' := [_, _, _, _, _, _, _, _, _, _, _, _]) rfl (zt rfl) rfl ?_
          refine r_goto ?_
          have e : f u = -1 := c_231
          rw [show io u + -1 = io u - 1 from (Int32.sub_eq_add_neg (io u) 1).symm]
          have eN : N - u = (N - (u + 1)) + 1 := by omega
          exact ih (by omega) K2 _ hP2 _ (c9 + 1) _ (fun h => by first | omega | rw [eN, bo_y e, ← h8 h]) (by rw [eN, co_y e, ← h9]) (by rw [eN, le1_y e])
