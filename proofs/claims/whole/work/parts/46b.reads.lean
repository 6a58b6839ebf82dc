/-! the class reads a text -/

def bi (b : Bool) : Int32 := if b = true then 1 else 0
theorem bi_0 {b : Bool} : bi b = 0 ↔ ¬ b = true := b01
theorem bi_n {b : Bool} : ¬ bi b = 0 ↔ b = true := b01n
theorem bi_01 (b : Bool) : bi b = 0 ∨ bi b = 1 := by cases b <;> decide
theorem tkd_lt {b : Nat → Int32} {z i : Nat} : tkd b z i < 2147483648 := by
  have q : ∀ {p : Prop} {inst : Decidable p} {a b : Nat}, a < 2147483648 → b < 2147483648 → (if p then a else b) < 2147483648 := by
    intro p inst a b ha hb
    by_cases c : p
    · rw [if_pos c]; exact ha
    · rw [if_neg c]; exact hb
  unfold tkd tkk wd
  exact q (by decide) (q (q (by decide) (q (by decide) (q (by decide) (q (by decide) (q (by decide) (q (by decide) (q (by decide) (q (by decide) (q (by decide) (q (by decide) (q (by decide) (q (by decide) (by decide))))))))))))) (q (q (by decide) (by decide)) (q (Int32.toNatClampNeg_lt _) (by decide))))
/-- so much of a text is read: words from u on -/
def RS (z u : Nat) (r : PR) (I J : Nat → Nat → Int32) : Prop := (∀ p, ¬ (p = 29 ∨ p = 30) → J p = I p) ∧ J 29 0 = I 29 0 ∧ cK (I 32) z r.2.1 J ∧ ∃ v, v ≤ 160 ∧ J 29 4 = io v ∧ (r.1 = true → v = u + r.2.2.length ∧ (∀ j, j < u → J 30 j = I 30 j) ∧ ∀ j, j < r.2.2.length → J 30 (u + j) = r.2.2.getD j 0)
abbrev PFn : Type := (Nat → Int32) → Nat → Nat → PR
def Sp (xs : xSc) (mi m o : Nat) (F : PFn) : Prop := ∀ (I : Nat → Nat → Int32) (L : Nat → Nat → Int64) (Q : Value → xHp → Prop) (i u z : Nat), I 29 0 = io z → z ≤ 160 → i ≤ z → cK (I 32) z i I → I 29 4 = io u → u ≤ i → (∀ J, RS z u (F (I 32) z i) I J → Q (.int (bi (F (I 32) z i).1)) (Hp J L)) → M xs m mi [.ref 29, .int (io o)] (Hp I L) Q
theorem cK_up {b : Nat → Int32} {z i p k : Nat} {v : Int32} {J : Nat → Nat → Int32} (h : cK b z i J) (hp : ¬ p = 29 ∨ k < 5) : cK b z i (up2 J p k v) := by
  unfold cK at h ⊢
  have e : ∀ q, 5 ≤ q → up2 J p k v 29 q = J 29 q := fun q hq => by
    by_cases c : p = 29
    · subst c; rw [up2_k (by omega)]
    · rw [up2_q (by omega)]
  rw [e 5 (by omega), e 6 (by omega), e 7 (by omega), e 8 (by omega)]
  exact h
theorem qib {Q : Value → xHp → Prop} {L : Nat → Nat → Int64} {z u : Nat} {I J : Nat → Nat → Int32} {r r2 : PR} (hQ : RS z u r I J → Q (.int (bi r.1)) (Hp J L)) (e : r = r2) (hp : RS z u r2 I J) : Q (.int (bi r2.1)) (Hp J L) := by
  subst e
  exact hQ hp
theorem RS_fl {z u : Nat} {I J : Nat → Nat → Int32} {r : PR} (h : RS z u r I J) : RS z u (false, r.2.1, []) I J := by
  obtain ⟨h1, h2, h3, v, h4, h5, h6⟩ := h
  exact ⟨h1, h2, h3, v, h4, h5, fun q => Bool.noConfusion q⟩
theorem RS_0 {z u i : Nat} {I : Nat → Nat → Int32} {b : Bool} (hk : cK (I 32) z i I) (hu : I 29 4 = io u) (h160 : u ≤ 160) : RS z u (b, i, []) I I :=
  ⟨fun _ _ => rfl, rfl, hk, u, h160, hu, fun _ => ⟨rfl, fun _ _ => rfl, fun j hj => absurd hj (by simp)⟩⟩
/-- a token more -/
theorem RS_t {z u i : Nat} {r : PR} {I J K : Nat → Nat → Int32} (h : RS z u r I J) (hs : sF J K) (hk : cK (I 32) z i K) : RS z u (r.1, i, r.2.2) I K := by
  obtain ⟨h1, h2, h3, v, h4, h5, h6⟩ := h
  refine ⟨fun p hp => by rw [hs.1 p (by omega), h1 p hp], by rw [hs.2 0 (by omega), h2], hk, v, h4, by rw [hs.2 4 (by omega)]; exact h5, ?_⟩
  rw [hs.1 30 (by omega)]
  exact h6
/-- and more -/
theorem RS_app {z u : Nat} {r q : PR} {I J K : Nat → Nat → Int32} (h : RS z u r I J) (hr : r.1 = true) (hh : RS z (u + r.2.2.length) q J K) : RS z u (q.1, q.2.1, r.2.2 ++ q.2.2) I K := by
  obtain ⟨h1, h2, h3, v, h4, h5, h6⟩ := h
  obtain ⟨k1, k2, k3, w, k4, k5, k6⟩ := hh
  refine ⟨fun p hp => by rw [k1 p hp, h1 p hp], by rw [k2, h2], by rw [← h1 32 (by omega)]; exact k3, w, k4, k5, fun hq => ?_⟩
  obtain ⟨e1, e2, e3⟩ := h6 hr
  obtain ⟨f1, f2, f3⟩ := k6 hq
  refine ⟨by rw [List.length_append]; omega, fun j hj => by rw [f2 j (by omega), e2 j hj], fun j hj => ?_⟩
  rw [List.length_append] at hj
  by_cases c : j < r.2.2.length
  · rw [f2 (u + j) (by omega), e3 j c, gD_l c]
  · rw [gD_r (by omega), ← f3 (j - r.2.2.length) (by omega), show u + r.2.2.length + (j - r.2.2.length) = u + j by omega]
theorem RS_v {z u : Nat} {r : PR} {I J : Nat → Nat → Int32} (h : RS z u r I J) : ∃ v, v ≤ 160 ∧ J 29 4 = io v ∧ (r.1 = true → v = u + r.2.2.length) := by
  obtain ⟨h1, h2, h3, v, h4, h5, h6⟩ := h
  exact ⟨v, h4, h5, fun q => (h6 q).1⟩
/-- a word more -/
theorem RS_w {z u v : Nat} {b : Bool} {i : Nat} {c : List Int32} {w : Int32} {I J : Nat → Nat → Int32} (h : RS z u (b, i, c) I J) (hv : J 29 4 = io v) (h160 : v < 160) : RS z u (b, i, c ++ [w]) I (up2 (up2 J 30 v w) 29 4 (io v + 1)) := by
  obtain ⟨h1, h2, h3, v2, h4, h5, h6⟩ := h
  have e : v2 = v := (io_inj (by omega) (by omega)).mp (h5.symm.trans hv)
  subst e
  refine ⟨fun p hp => by rw [up2_q (by omega), up2_q (by omega), h1 p hp], ?_, cK_up (cK_up h3 (by omega)) (by omega), v2 + 1, h160, ?_, fun hb => ?_⟩
  · rw [up2_k (by omega), up2_q (by omega), h2]
  · rw [up2_at]; exact n_add (a := v2) (b := 1) rfl rfl
  · obtain ⟨e1, e2, e3⟩ := h6 hb
    dsimp only at e1 e2 e3 ⊢
    refine ⟨by rw [List.length_append, List.length_cons, List.length_nil]; omega, fun j hj => ?_, fun j hj => ?_⟩
    · rw [up2_q (by omega), up2_k (by omega), e2 j hj]
    · rw [List.length_append, List.length_cons, List.length_nil] at hj
      rw [up2_q (by omega)]
      by_cases d : j < c.length
      · rw [up2_k (by omega), e3 j d, gD_l d]
      · have e4 : j = c.length := by omega
        subst e4
        rw [e1, up2_at, gD_r (Nat.le_refl _), Nat.sub_self]
        rfl
theorem RS_n {z u v : Nat} {b : Bool} {i : Nat} {c : List Int32} {w : Int32} {I J : Nat → Nat → Int32} (h : RS z u (b, i, c) I J) (hv : J 29 4 = io v) (h16 : v ≤ 160) (h160 : ¬ v < 160) (hc : b = true → u + c.length < 160) : RS z u (b, i, c ++ [w]) I J := by
  obtain ⟨h1, h2, h3, v2, h4, h5, h6⟩ := h
  have e : v2 = v := (io_inj (by omega) (by omega)).mp (h5.symm.trans hv)
  subst e
  exact ⟨h1, h2, h3, v2, h4, h5, fun hb => absurd (h6 hb).1 (by have := hc hb; dsimp only; omega)⟩
/-- the end of a call that lays a word: both ways -/
theorem w_word {xs : xSc} {m : Nat} {J : Nat → Nat → Int32} {L : Nat → Nat → Int64} {Q : Value → xHp → Prop} (hm : 1 ≤ m) {z u i : Nat} {b : Bool} {c : List Int32} {w : Int32} {I : Nat → Nat → Int32} (h : RS z u (b, i, c) I J) (hc : b = true → u + c.length < 160) (hQ : ∀ K, RS z u (b, i, c ++ [w]) I K → Q .null (Hp K L)) : M xs m xi_X2_writes [.ref 29, .int w] (Hp J L) Q := by
  obtain ⟨v, h4, h5, _⟩ := RS_v h
  exact s_writes hm h4 h5 (fun q => hQ _ (RS_w h h5 q)) (fun q => hQ _ (RS_n h h5 h4 q hc))
theorem ioN {k : Nat} {x : Int32} (h : k = x.toNatClampNeg) (h0 : 0 ≤ x) : io k = x := by rw [h]; exact io_of h0

theorem pLp_f {kd st : Nat → Nat} {op : Nat → Option Int32} {el : Nat → PR} {r : PR} (h : ¬ r.1 = true) : ∀ {d}, pLp kd st op el d r = r
  | 0 => rfl
  | d + 1 => by rw [pLp, if_neg h]
theorem pLp_n {kd st : Nat → Nat} {op : Nat → Option Int32} {el : Nat → PR} {r : PR} (h : op (kd r.2.1) = none) : ∀ {d}, pLp kd st op el d r = r
  | 0 => rfl
  | d + 1 => by
    rw [pLp, h]
    split <;> rfl
theorem pLp_s {kd st : Nat → Nat} {op : Nat → Option Int32} {el : Nat → PR} {r : PR} {d : Nat} {w : Int32} (hd : 0 < d) (hr : r.1 = true) (h : op (kd r.2.1) = some w) : pLp kd st op el d r = pLp kd st op el (d - 1) ((el (st r.2.1)).1, (el (st r.2.1)).2.1, r.2.2 ++ ((el (st r.2.1)).2.2 ++ [w])) := by
  obtain ⟨e, rfl⟩ : ∃ e, d = e + 1 := ⟨d - 1, by omega⟩
  rw [pLp, if_pos hr, h]
  rfl

set_option maxRecDepth 10000 in
theorem s_readsOr {xs : xSc} {m o : Nat} {F : PFn} (hm : 7 ≤ m) (hg : ∀ b z, gd z (F b z)) (hel : Sp xs xi_X2_readsAnd m o F) : Sp xs xi_X2_readsOr (m + 1) o (fun b z i => pLp (tkd b z) (tst b z) opO (F b z) 160 (F b z i)) := by
  intro I L Q i u z hz h160 hi hk hu hui hQ
  dsimp only at hQ
  have key : ∀ d k, k + d = 160 → ∀ (r : PR) (J : Nat → Nat → Int32) (x4 : Value), pLp (tkd (I 32) z) (tst (I 32) z) opO (F (I 32) z) 160 (F (I 32) z i) = pLp (tkd (I 32) z) (tst (I 32) z) opO (F (I 32) z) d r → RS z u r I J → (i ≤ r.2.1 ∧ r.2.1 ≤ z) ∧ r.2.2.length + i ≤ r.2.1 → E xs m xi_X2_readsOr 82 Q 8 [.ref 29, .int (io o), .int (bi r.1), .int (io k)] [] (82, J, L, xF0) := by
    intro d
    induction d using Nat.strongRecOn with
    | _ d ih =>
    intro k hd r J x4 hr0 hJ hb
    have htk := tkd_lt (b := I 32) (z := z) (i := r.2.1)
    refine E_go 1 rfl ?_
    refine r_iload_n rfl ?_
    refine r_sipush ?_
    refine r_icmp_ge (fun c_12 => ?_) (fun c_12 => ?_)
    · have c_12 := (n_le (a := 160) (b := k) rfl rfl (by omega) (by omega)).mp c_12
      refine E_go 2 rfl ?_
      refine r_iload_n rfl ?_
      refine r_iret rfl (bi_01 _) ?_
      have e : pLp (tkd (I 32) z) (tst (I 32) z) opO (F (I 32) z) 160 (F (I 32) z i) = r := by
        rw [hr0]
        first
          | (rw [show d = 0 by omega]; rfl)
          | exact pLp_f (fun q => absurd (bi_0.mp c_16) (not_not_intro q))
          | exact pLp_n (by simp [opO, *])
      have hQ2 := hQ J
      rw [e] at hQ2
      exact hQ2 hJ
    · have c_12 := (not_congr (n_le (a := 160) (b := k) rfl rfl (by omega) (by omega))).mp c_12
      refine r_iload_n rfl ?_
      refine r_if_eq (fun c_16 => ?_) (fun c_16 => ?_)
      · refine E_go 2 rfl ?_
        refine r_iload_n rfl ?_
        refine r_iret rfl (bi_01 _) ?_
        have e : pLp (tkd (I 32) z) (tst (I 32) z) opO (F (I 32) z) 160 (F (I 32) z i) = r := by
          rw [hr0]
          first
            | (rw [show d = 0 by omega]; rfl)
            | exact pLp_f (fun q => absurd (bi_0.mp c_16) (not_not_intro q))
            | exact pLp_n (by simp [opO, *])
        have hQ2 := hQ J
        rw [e] at hQ2
        exact hQ2 hJ
      · refine r_aload_n rfl ?_
        refine r_getI (by decide) rfl rfl (by decide) hJ.2.2.1.2.2.1 ?_
        refine r_bipush ?_
        refine r_icmp_ne (fun c_25 => ?_) (fun c_25 => ?_)
        · have c_25 := (not_congr (n_eq (a := (tkd (I 32) z r.2.1)) (b := 6) rfl rfl (by omega) (by omega))).mp c_25
          refine E_go 2 rfl ?_
          refine r_iload_n rfl ?_
          refine r_iret rfl (bi_01 _) ?_
          have e : pLp (tkd (I 32) z) (tst (I 32) z) opO (F (I 32) z) 160 (F (I 32) z i) = r := by
            rw [hr0]
            first
              | (rw [show d = 0 by omega]; rfl)
              | exact pLp_f (fun q => absurd (bi_0.mp c_16) (not_not_intro q))
              | exact pLp_n (by simp [opO, *])
          have hQ2 := hQ J
          rw [e] at hQ2
          exact hQ2 hJ
        · have c_25 := (n_eq (a := (tkd (I 32) z r.2.1)) (b := 6) rfl rfl (by omega) (by omega)).mp c_25
          refine r_aload_n rfl ?_
          refine r_virtual (vs := []) (as := []) (by decide) (zl rfl) rfl rfl (zl rfl) (Nat.le_refl _) (Or.inr (Or.inr ⟨zt rfl, rfl, zt rfl⟩)) ?_
          obtain ⟨w, hop, hw⟩ : ∃ w, opO (tkd (I 32) z r.2.1) = some w ∧ (-6 : Int32) = w := ⟨-6, by rw [c_25]; rfl, rfl⟩
          have hr1 := bi_n.mp c_16
          have hT := tst_lt (b := I 32) hb.1.2 (by omega : ¬ tkd (I 32) z r.2.1 = 0)
          have hT2 := tst_z (b := I 32) hb.1.2
          refine s_steps (by omega) (i := tst (I 32) z r.2.1) (z := z) (by rw [hJ.2.1]; exact hz) h160 hT2 hJ.2.2.1.1 (fun J1 h1 h2 => ?_)
          rw [hJ.1 32 (by omega)] at h2
          have hJ1 := RS_t hJ h1 h2
          obtain ⟨v1, e1, e2, e3⟩ := RS_v hJ1
          have e3 := e3 hr1
          dsimp only at e3
          have hq := hg (I 32) z _ hT2
          refine r_aload_n rfl ?_
          refine r_iload_n rfl ?_
          refine r_virtual (vs := []) (as := [_]) (by decide) (zl rfl) rfl rfl (zl rfl) (Nat.le_refl _) (Or.inr (Or.inr ⟨zt rfl, rfl, zt rfl⟩)) ?_
          refine hel J1 L _ (tst (I 32) z r.2.1) v1 z (by rw [hJ1.2.1]; exact hz) h160 hT2 (by rw [hJ1.1 32 (by omega)]; exact h2) e2 (by omega) (fun J2 h3 => ?_)
          rw [hJ1.1 32 (by omega)] at h3
          rw [hJ1.1 32 (by omega)]
          rw [e3] at h3
          have hJ2 := RS_app (q := F (I 32) z (tst (I 32) z r.2.1)) hJ1 hr1 h3
          refine r_istore_n (ls' := [_, _, _, _]) (zt rfl) rfl ?_
          refine r_aload_n rfl ?_
          refine r_bipush ?_
          refine r_virtual (vs := []) (as := [_]) (by decide) (zl rfl) rfl rfl (zl rfl) (Nat.le_refl _) (Or.inr (Or.inr ⟨zt rfl, rfl, zt rfl⟩)) ?_
          subst hw
          refine w_word (w := -6) (by omega) hJ2 (fun hb1 => ?_) (fun K hK => ?_)
          · rw [List.length_append]; dsimp only; omega
          rw [List.append_assoc] at hK
          refine r_iincN (y := io (k + 1)) (ls' := [_, _, _, _]) rfl (zt rfl) (n_add (a := k) (b := 1) rfl rfl) rfl ?_
          refine r_goto ?_
          refine ih (d - 1) (by omega) (k + 1) (by omega) ((F (I 32) z (tst (I 32) z r.2.1)).1, (F (I 32) z (tst (I 32) z r.2.1)).2.1, r.2.2 ++ ((F (I 32) z (tst (I 32) z r.2.1)).2.2 ++ [(-6)])) K xU ?_ hK ?_
          · rw [hr0]; exact pLp_s (by omega) hr1 hop
          · simp only [List.length_append, List.length_cons, List.length_nil]
            omega
  refine M_go (ls := [_, _, _, _]) (ml := 4) rfl rfl rfl (zl rfl) rfl ?_
  refine r_aload_n rfl ?_
  refine r_iload_n rfl ?_
  refine r_virtual (vs := []) (as := [_]) (by decide) (zl rfl) rfl rfl (zl rfl) (Nat.le_refl _) (Or.inr (Or.inr ⟨zt rfl, rfl, zt rfl⟩)) ?_
  refine hel _ L _ i u z hz h160 hi hk hu hui (fun J hJ => ?_)
  refine r_istore_n (ls' := [_, _, _, _]) (zt rfl) rfl ?_
  refine r_iconst ?_
  refine r_istore_n (ls' := [_, _, _, _]) (zt rfl) rfl ?_
  refine r_nil ?_
  refine key 160 0 rfl (F (I 32) z i) J xU rfl hJ ?_
  have := hg (I 32) z i hi
  omega

set_option maxRecDepth 10000 in
theorem s_readsAnd {xs : xSc} {m o : Nat} {F : PFn} (hm : 7 ≤ m) (hg : ∀ b z, gd z (F b z)) (hel : Sp xs xi_X2_readsNot m o F) : Sp xs xi_X2_readsAnd (m + 1) o (fun b z i => pLp (tkd b z) (tst b z) opA (F b z) 160 (F b z i)) := by
  intro I L Q i u z hz h160 hi hk hu hui hQ
  dsimp only at hQ
  have key : ∀ d k, k + d = 160 → ∀ (r : PR) (J : Nat → Nat → Int32) (x4 : Value), pLp (tkd (I 32) z) (tst (I 32) z) opA (F (I 32) z) 160 (F (I 32) z i) = pLp (tkd (I 32) z) (tst (I 32) z) opA (F (I 32) z) d r → RS z u r I J → (i ≤ r.2.1 ∧ r.2.1 ≤ z) ∧ r.2.2.length + i ≤ r.2.1 → E xs m xi_X2_readsAnd 82 Q 8 [.ref 29, .int (io o), .int (bi r.1), .int (io k)] [] (82, J, L, xF0) := by
    intro d
    induction d using Nat.strongRecOn with
    | _ d ih =>
    intro k hd r J x4 hr0 hJ hb
    have htk := tkd_lt (b := I 32) (z := z) (i := r.2.1)
    refine E_go 1 rfl ?_
    refine r_iload_n rfl ?_
    refine r_sipush ?_
    refine r_icmp_ge (fun c_12 => ?_) (fun c_12 => ?_)
    · have c_12 := (n_le (a := 160) (b := k) rfl rfl (by omega) (by omega)).mp c_12
      refine E_go 2 rfl ?_
      refine r_iload_n rfl ?_
      refine r_iret rfl (bi_01 _) ?_
      have e : pLp (tkd (I 32) z) (tst (I 32) z) opA (F (I 32) z) 160 (F (I 32) z i) = r := by
        rw [hr0]
        first
          | (rw [show d = 0 by omega]; rfl)
          | exact pLp_f (fun q => absurd (bi_0.mp c_16) (not_not_intro q))
          | exact pLp_n (by simp [opA, *])
      have hQ2 := hQ J
      rw [e] at hQ2
      exact hQ2 hJ
    · have c_12 := (not_congr (n_le (a := 160) (b := k) rfl rfl (by omega) (by omega))).mp c_12
      refine r_iload_n rfl ?_
      refine r_if_eq (fun c_16 => ?_) (fun c_16 => ?_)
      · refine E_go 2 rfl ?_
        refine r_iload_n rfl ?_
        refine r_iret rfl (bi_01 _) ?_
        have e : pLp (tkd (I 32) z) (tst (I 32) z) opA (F (I 32) z) 160 (F (I 32) z i) = r := by
          rw [hr0]
          first
            | (rw [show d = 0 by omega]; rfl)
            | exact pLp_f (fun q => absurd (bi_0.mp c_16) (not_not_intro q))
            | exact pLp_n (by simp [opA, *])
        have hQ2 := hQ J
        rw [e] at hQ2
        exact hQ2 hJ
      · refine r_aload_n rfl ?_
        refine r_getI (by decide) rfl rfl (by decide) hJ.2.2.1.2.2.1 ?_
        refine r_bipush ?_
        refine r_icmp_ne (fun c_25 => ?_) (fun c_25 => ?_)
        · have c_25 := (not_congr (n_eq (a := (tkd (I 32) z r.2.1)) (b := 7) rfl rfl (by omega) (by omega))).mp c_25
          refine E_go 2 rfl ?_
          refine r_iload_n rfl ?_
          refine r_iret rfl (bi_01 _) ?_
          have e : pLp (tkd (I 32) z) (tst (I 32) z) opA (F (I 32) z) 160 (F (I 32) z i) = r := by
            rw [hr0]
            first
              | (rw [show d = 0 by omega]; rfl)
              | exact pLp_f (fun q => absurd (bi_0.mp c_16) (not_not_intro q))
              | exact pLp_n (by simp [opA, *])
          have hQ2 := hQ J
          rw [e] at hQ2
          exact hQ2 hJ
        · have c_25 := (n_eq (a := (tkd (I 32) z r.2.1)) (b := 7) rfl rfl (by omega) (by omega)).mp c_25
          refine r_aload_n rfl ?_
          refine r_virtual (vs := []) (as := []) (by decide) (zl rfl) rfl rfl (zl rfl) (Nat.le_refl _) (Or.inr (Or.inr ⟨zt rfl, rfl, zt rfl⟩)) ?_
          obtain ⟨w, hop, hw⟩ : ∃ w, opA (tkd (I 32) z r.2.1) = some w ∧ (-7 : Int32) = w := ⟨-7, by rw [c_25]; rfl, rfl⟩
          have hr1 := bi_n.mp c_16
          have hT := tst_lt (b := I 32) hb.1.2 (by omega : ¬ tkd (I 32) z r.2.1 = 0)
          have hT2 := tst_z (b := I 32) hb.1.2
          refine s_steps (by omega) (i := tst (I 32) z r.2.1) (z := z) (by rw [hJ.2.1]; exact hz) h160 hT2 hJ.2.2.1.1 (fun J1 h1 h2 => ?_)
          rw [hJ.1 32 (by omega)] at h2
          have hJ1 := RS_t hJ h1 h2
          obtain ⟨v1, e1, e2, e3⟩ := RS_v hJ1
          have e3 := e3 hr1
          dsimp only at e3
          have hq := hg (I 32) z _ hT2
          refine r_aload_n rfl ?_
          refine r_iload_n rfl ?_
          refine r_virtual (vs := []) (as := [_]) (by decide) (zl rfl) rfl rfl (zl rfl) (Nat.le_refl _) (Or.inr (Or.inr ⟨zt rfl, rfl, zt rfl⟩)) ?_
          refine hel J1 L _ (tst (I 32) z r.2.1) v1 z (by rw [hJ1.2.1]; exact hz) h160 hT2 (by rw [hJ1.1 32 (by omega)]; exact h2) e2 (by omega) (fun J2 h3 => ?_)
          rw [hJ1.1 32 (by omega)] at h3
          rw [hJ1.1 32 (by omega)]
          rw [e3] at h3
          have hJ2 := RS_app (q := F (I 32) z (tst (I 32) z r.2.1)) hJ1 hr1 h3
          refine r_istore_n (ls' := [_, _, _, _]) (zt rfl) rfl ?_
          refine r_aload_n rfl ?_
          refine r_bipush ?_
          refine r_virtual (vs := []) (as := [_]) (by decide) (zl rfl) rfl rfl (zl rfl) (Nat.le_refl _) (Or.inr (Or.inr ⟨zt rfl, rfl, zt rfl⟩)) ?_
          subst hw
          refine w_word (w := -7) (by omega) hJ2 (fun hb1 => ?_) (fun K hK => ?_)
          · rw [List.length_append]; dsimp only; omega
          rw [List.append_assoc] at hK
          refine r_iincN (y := io (k + 1)) (ls' := [_, _, _, _]) rfl (zt rfl) (n_add (a := k) (b := 1) rfl rfl) rfl ?_
          refine r_goto ?_
          refine ih (d - 1) (by omega) (k + 1) (by omega) ((F (I 32) z (tst (I 32) z r.2.1)).1, (F (I 32) z (tst (I 32) z r.2.1)).2.1, r.2.2 ++ ((F (I 32) z (tst (I 32) z r.2.1)).2.2 ++ [(-7)])) K xU ?_ hK ?_
          · rw [hr0]; exact pLp_s (by omega) hr1 hop
          · simp only [List.length_append, List.length_cons, List.length_nil]
            omega
  refine M_go (ls := [_, _, _, _]) (ml := 4) rfl rfl rfl (zl rfl) rfl ?_
  refine r_aload_n rfl ?_
  refine r_iload_n rfl ?_
  refine r_virtual (vs := []) (as := [_]) (by decide) (zl rfl) rfl rfl (zl rfl) (Nat.le_refl _) (Or.inr (Or.inr ⟨zt rfl, rfl, zt rfl⟩)) ?_
  refine hel _ L _ i u z hz h160 hi hk hu hui (fun J hJ => ?_)
  refine r_istore_n (ls' := [_, _, _, _]) (zt rfl) rfl ?_
  refine r_iconst ?_
  refine r_istore_n (ls' := [_, _, _, _]) (zt rfl) rfl ?_
  refine r_nil ?_
  refine key 160 0 rfl (F (I 32) z i) J xU rfl hJ ?_
  have := hg (I 32) z i hi
  omega

set_option maxRecDepth 10000 in
theorem s_readsTerm {xs : xSc} {m o : Nat} {F : PFn} (hm : 7 ≤ m) (hg : ∀ b z, gd z (F b z)) (hel : Sp xs xi_X2_readsOne m o F) : Sp xs xi_X2_readsTerm (m + 1) o (fun b z i => pLp (tkd b z) (tst b z) opT (F b z) 160 (F b z i)) := by
  intro I L Q i u z hz h160 hi hk hu hui hQ
  dsimp only at hQ
  have key : ∀ d k, k + d = 160 → ∀ (r : PR) (J : Nat → Nat → Int32) (x4 : Value), pLp (tkd (I 32) z) (tst (I 32) z) opT (F (I 32) z) 160 (F (I 32) z i) = pLp (tkd (I 32) z) (tst (I 32) z) opT (F (I 32) z) d r → RS z u r I J → (i ≤ r.2.1 ∧ r.2.1 ≤ z) ∧ r.2.2.length + i ≤ r.2.1 → E xs m xi_X2_readsTerm 82 Q 8 [.ref 29, .int (io o), .int (bi r.1), .int (io k)] [] (82, J, L, xF0) := by
    intro d
    induction d using Nat.strongRecOn with
    | _ d ih =>
    intro k hd r J x4 hr0 hJ hb
    have htk := tkd_lt (b := I 32) (z := z) (i := r.2.1)
    refine E_go 1 rfl ?_
    refine r_iload_n rfl ?_
    refine r_sipush ?_
    refine r_icmp_ge (fun c_12 => ?_) (fun c_12 => ?_)
    · have c_12 := (n_le (a := 160) (b := k) rfl rfl (by omega) (by omega)).mp c_12
      refine E_go 2 rfl ?_
      refine r_iload_n rfl ?_
      refine r_iret rfl (bi_01 _) ?_
      have e : pLp (tkd (I 32) z) (tst (I 32) z) opT (F (I 32) z) 160 (F (I 32) z i) = r := by
        rw [hr0]
        first
          | (rw [show d = 0 by omega]; rfl)
          | exact pLp_f (fun q => absurd (bi_0.mp c_16) (not_not_intro q))
          | exact pLp_n (by simp [opT, *])
      have hQ2 := hQ J
      rw [e] at hQ2
      exact hQ2 hJ
    · have c_12 := (not_congr (n_le (a := 160) (b := k) rfl rfl (by omega) (by omega))).mp c_12
      refine r_iload_n rfl ?_
      refine r_if_eq (fun c_16 => ?_) (fun c_16 => ?_)
      · refine E_go 2 rfl ?_
        refine r_iload_n rfl ?_
        refine r_iret rfl (bi_01 _) ?_
        have e : pLp (tkd (I 32) z) (tst (I 32) z) opT (F (I 32) z) 160 (F (I 32) z i) = r := by
          rw [hr0]
          first
            | (rw [show d = 0 by omega]; rfl)
            | exact pLp_f (fun q => absurd (bi_0.mp c_16) (not_not_intro q))
            | exact pLp_n (by simp [opT, *])
        have hQ2 := hQ J
        rw [e] at hQ2
        exact hQ2 hJ
      · refine r_aload_n rfl ?_
        refine r_getI (by decide) rfl rfl (by decide) hJ.2.2.1.2.2.1 ?_
        refine r_bipush ?_
        refine r_icmp_ne (fun c_25 => ?_) (fun c_25 => ?_)
        · have c_25 := (not_congr (n_eq (a := (tkd (I 32) z r.2.1)) (b := 42) rfl rfl (by omega) (by omega))).mp c_25
          refine E_go 2 rfl ?_
          refine r_iload_n rfl ?_
          refine r_iret rfl (bi_01 _) ?_
          have e : pLp (tkd (I 32) z) (tst (I 32) z) opT (F (I 32) z) 160 (F (I 32) z i) = r := by
            rw [hr0]
            first
              | (rw [show d = 0 by omega]; rfl)
              | exact pLp_f (fun q => absurd (bi_0.mp c_16) (not_not_intro q))
              | exact pLp_n (by simp [opT, *])
          have hQ2 := hQ J
          rw [e] at hQ2
          exact hQ2 hJ
        · have c_25 := (n_eq (a := (tkd (I 32) z r.2.1)) (b := 42) rfl rfl (by omega) (by omega)).mp c_25
          refine r_aload_n rfl ?_
          refine r_virtual (vs := []) (as := []) (by decide) (zl rfl) rfl rfl (zl rfl) (Nat.le_refl _) (Or.inr (Or.inr ⟨zt rfl, rfl, zt rfl⟩)) ?_
          obtain ⟨w, hop, hw⟩ : ∃ w, opT (tkd (I 32) z r.2.1) = some w ∧ (-42 : Int32) = w := ⟨-42, by rw [c_25]; rfl, rfl⟩
          have hr1 := bi_n.mp c_16
          have hT := tst_lt (b := I 32) hb.1.2 (by omega : ¬ tkd (I 32) z r.2.1 = 0)
          have hT2 := tst_z (b := I 32) hb.1.2
          refine s_steps (by omega) (i := tst (I 32) z r.2.1) (z := z) (by rw [hJ.2.1]; exact hz) h160 hT2 hJ.2.2.1.1 (fun J1 h1 h2 => ?_)
          rw [hJ.1 32 (by omega)] at h2
          have hJ1 := RS_t hJ h1 h2
          obtain ⟨v1, e1, e2, e3⟩ := RS_v hJ1
          have e3 := e3 hr1
          dsimp only at e3
          have hq := hg (I 32) z _ hT2
          refine r_aload_n rfl ?_
          refine r_iload_n rfl ?_
          refine r_virtual (vs := []) (as := [_]) (by decide) (zl rfl) rfl rfl (zl rfl) (Nat.le_refl _) (Or.inr (Or.inr ⟨zt rfl, rfl, zt rfl⟩)) ?_
          refine hel J1 L _ (tst (I 32) z r.2.1) v1 z (by rw [hJ1.2.1]; exact hz) h160 hT2 (by rw [hJ1.1 32 (by omega)]; exact h2) e2 (by omega) (fun J2 h3 => ?_)
          rw [hJ1.1 32 (by omega)] at h3
          rw [hJ1.1 32 (by omega)]
          rw [e3] at h3
          have hJ2 := RS_app (q := F (I 32) z (tst (I 32) z r.2.1)) hJ1 hr1 h3
          refine r_istore_n (ls' := [_, _, _, _]) (zt rfl) rfl ?_
          refine r_aload_n rfl ?_
          refine r_bipush ?_
          refine r_virtual (vs := []) (as := [_]) (by decide) (zl rfl) rfl rfl (zl rfl) (Nat.le_refl _) (Or.inr (Or.inr ⟨zt rfl, rfl, zt rfl⟩)) ?_
          subst hw
          refine w_word (w := -42) (by omega) hJ2 (fun hb1 => ?_) (fun K hK => ?_)
          · rw [List.length_append]; dsimp only; omega
          rw [List.append_assoc] at hK
          refine r_iincN (y := io (k + 1)) (ls' := [_, _, _, _]) rfl (zt rfl) (n_add (a := k) (b := 1) rfl rfl) rfl ?_
          refine r_goto ?_
          refine ih (d - 1) (by omega) (k + 1) (by omega) ((F (I 32) z (tst (I 32) z r.2.1)).1, (F (I 32) z (tst (I 32) z r.2.1)).2.1, r.2.2 ++ ((F (I 32) z (tst (I 32) z r.2.1)).2.2 ++ [(-42)])) K xU ?_ hK ?_
          · rw [hr0]; exact pLp_s (by omega) hr1 hop
          · simp only [List.length_append, List.length_cons, List.length_nil]
            omega
  refine M_go (ls := [_, _, _, _]) (ml := 4) rfl rfl rfl (zl rfl) rfl ?_
  refine r_aload_n rfl ?_
  refine r_iload_n rfl ?_
  refine r_virtual (vs := []) (as := [_]) (by decide) (zl rfl) rfl rfl (zl rfl) (Nat.le_refl _) (Or.inr (Or.inr ⟨zt rfl, rfl, zt rfl⟩)) ?_
  refine hel _ L _ i u z hz h160 hi hk hu hui (fun J hJ => ?_)
  refine r_istore_n (ls' := [_, _, _, _]) (zt rfl) rfl ?_
  refine r_iconst ?_
  refine r_istore_n (ls' := [_, _, _, _]) (zt rfl) rfl ?_
  refine r_nil ?_
  refine key 160 0 rfl (F (I 32) z i) J xU rfl hJ ?_
  have := hg (I 32) z i hi
  omega

set_option maxRecDepth 10000 in
theorem s_readsSum {xs : xSc} {m o : Nat} {F : PFn} (hm : 7 ≤ m) (hg : ∀ b z, gd z (F b z)) (hel : Sp xs xi_X2_readsTerm m o F) : Sp xs xi_X2_readsSum (m + 1) o (fun b z i => pLp (tkd b z) (tst b z) opS (F b z) 160 (F b z i)) := by
  intro I L Q i u z hz h160 hi hk hu hui hQ
  dsimp only at hQ
  have key : ∀ d k, k + d = 160 → ∀ (r : PR) (J : Nat → Nat → Int32) (x4 : Value), pLp (tkd (I 32) z) (tst (I 32) z) opS (F (I 32) z) 160 (F (I 32) z i) = pLp (tkd (I 32) z) (tst (I 32) z) opS (F (I 32) z) d r → RS z u r I J → (i ≤ r.2.1 ∧ r.2.1 ≤ z) ∧ r.2.2.length + i ≤ r.2.1 → E xs m xi_X2_readsSum 82 Q 8 [.ref 29, .int (io o), .int (bi r.1), .int (io k), x4] [] (82, J, L, xF0) := by
    intro d
    induction d using Nat.strongRecOn with
    | _ d ih =>
    intro k hd r J x4 hr0 hJ hb
    have htk := tkd_lt (b := I 32) (z := z) (i := r.2.1)
    refine E_go 1 rfl ?_
    refine r_iload_n rfl ?_
    refine r_sipush ?_
    refine r_icmp_ge (fun c_12 => ?_) (fun c_12 => ?_)
    · have c_12 := (n_le (a := 160) (b := k) rfl rfl (by omega) (by omega)).mp c_12
      refine E_go 3 rfl ?_
      refine r_iload_n rfl ?_
      refine r_iret rfl (bi_01 _) ?_
      have e : pLp (tkd (I 32) z) (tst (I 32) z) opS (F (I 32) z) 160 (F (I 32) z i) = r := by
        rw [hr0]
        first
          | (rw [show d = 0 by omega]; rfl)
          | exact pLp_f (fun q => absurd (bi_0.mp c_16) (not_not_intro q))
          | exact pLp_n (by simp [opS, *])
      have hQ2 := hQ J
      rw [e] at hQ2
      exact hQ2 hJ
    · have c_12 := (not_congr (n_le (a := 160) (b := k) rfl rfl (by omega) (by omega))).mp c_12
      refine r_iload_n rfl ?_
      refine r_if_eq (fun c_16 => ?_) (fun c_16 => ?_)
      · refine E_go 3 rfl ?_
        refine r_iload_n rfl ?_
        refine r_iret rfl (bi_01 _) ?_
        have e : pLp (tkd (I 32) z) (tst (I 32) z) opS (F (I 32) z) 160 (F (I 32) z i) = r := by
          rw [hr0]
          first
            | (rw [show d = 0 by omega]; rfl)
            | exact pLp_f (fun q => absurd (bi_0.mp c_16) (not_not_intro q))
            | exact pLp_n (by simp [opS, *])
        have hQ2 := hQ J
        rw [e] at hQ2
        exact hQ2 hJ
      · refine r_aload_n rfl ?_
        refine r_getI (by decide) rfl rfl (by decide) hJ.2.2.1.2.2.1 ?_
        refine r_bipush ?_
        refine r_icmp_eq (fun c_25 => ?_) (fun c_25 => ?_)
        · have c_25 := (n_eq (a := (tkd (I 32) z r.2.1)) (b := 43) rfl rfl (by omega) (by omega)).mp c_25
          refine E_go 2 rfl ?_
          refine r_aload_n rfl ?_
          refine r_getI (by decide) rfl rfl (by decide) hJ.2.2.1.2.2.1 ?_
          refine r_istore (ls' := [_, _, _, _, _]) (zt rfl) rfl ?_
          refine r_aload_n rfl ?_
          refine r_virtual (vs := []) (as := []) (by decide) (zl rfl) rfl rfl (zl rfl) (Nat.le_refl _) (Or.inr (Or.inr ⟨zt rfl, rfl, zt rfl⟩)) ?_
          have hop : ∃ w, opS (tkd (I 32) z r.2.1) = some w ∧ - io (tkd (I 32) z r.2.1) = w := by
            first
            | exact ⟨-43, by rw [c_25]; rfl, by rw [c_25]; rfl⟩
            | exact ⟨-45, by rw [c_34]; rfl, by rw [c_34]; rfl⟩
          obtain ⟨w, hop, hw⟩ := hop
          have hr1 := bi_n.mp c_16
          have hT := tst_lt (b := I 32) hb.1.2 (by omega : ¬ tkd (I 32) z r.2.1 = 0)
          have hT2 := tst_z (b := I 32) hb.1.2
          refine s_steps (by omega) (i := tst (I 32) z r.2.1) (z := z) (by rw [hJ.2.1]; exact hz) h160 hT2 hJ.2.2.1.1 (fun J1 h1 h2 => ?_)
          rw [hJ.1 32 (by omega)] at h2
          have hJ1 := RS_t hJ h1 h2
          obtain ⟨v1, e1, e2, e3⟩ := RS_v hJ1
          have e3 := e3 hr1
          dsimp only at e3
          have hq := hg (I 32) z _ hT2
          refine r_aload_n rfl ?_
          refine r_iload_n rfl ?_
          refine r_virtual (vs := []) (as := [_]) (by decide) (zl rfl) rfl rfl (zl rfl) (Nat.le_refl _) (Or.inr (Or.inr ⟨zt rfl, rfl, zt rfl⟩)) ?_
          refine hel J1 L _ (tst (I 32) z r.2.1) v1 z (by rw [hJ1.2.1]; exact hz) h160 hT2 (by rw [hJ1.1 32 (by omega)]; exact h2) e2 (by omega) (fun J2 h3 => ?_)
          rw [hJ1.1 32 (by omega)] at h3
          rw [hJ1.1 32 (by omega)]
          rw [e3] at h3
          have hJ2 := RS_app (q := F (I 32) z (tst (I 32) z r.2.1)) hJ1 hr1 h3
          refine r_istore_n (ls' := [_, _, _, _, _]) (zt rfl) rfl ?_
          refine r_aload_n rfl ?_
          refine r_iload rfl ?_
          refine r_ineg ?_
          refine r_virtual (vs := []) (as := [_]) (by decide) (zl rfl) rfl rfl (zl rfl) (Nat.le_refl _) (Or.inr (Or.inr ⟨zt rfl, rfl, zt rfl⟩)) ?_
          rw [hw]
          refine w_word (w := w) (by omega) hJ2 (fun hb1 => ?_) (fun K hK => ?_)
          · rw [List.length_append]; dsimp only; omega
          rw [List.append_assoc] at hK
          refine r_iincN (y := io (k + 1)) (ls' := [_, _, _, _, _]) rfl (zt rfl) (n_add (a := k) (b := 1) rfl rfl) rfl ?_
          refine r_goto ?_
          refine ih (d - 1) (by omega) (k + 1) (by omega) ((F (I 32) z (tst (I 32) z r.2.1)).1, (F (I 32) z (tst (I 32) z r.2.1)).2.1, r.2.2 ++ ((F (I 32) z (tst (I 32) z r.2.1)).2.2 ++ [w])) K _ ?_ hK ?_
          · rw [hr0]; exact pLp_s (by omega) hr1 hop
          · simp only [List.length_append, List.length_cons, List.length_nil]
            omega
        · have c_25 := (not_congr (n_eq (a := (tkd (I 32) z r.2.1)) (b := 43) rfl rfl (by omega) (by omega))).mp c_25
          refine r_aload_n rfl ?_
          refine r_getI (by decide) rfl rfl (by decide) hJ.2.2.1.2.2.1 ?_
          refine r_bipush ?_
          refine r_icmp_ne (fun c_34 => ?_) (fun c_34 => ?_)
          · have c_34 := (not_congr (n_eq (a := (tkd (I 32) z r.2.1)) (b := 45) rfl rfl (by omega) (by omega))).mp c_34
            refine E_go 3 rfl ?_
            refine r_iload_n rfl ?_
            refine r_iret rfl (bi_01 _) ?_
            have e : pLp (tkd (I 32) z) (tst (I 32) z) opS (F (I 32) z) 160 (F (I 32) z i) = r := by
              rw [hr0]
              first
                | (rw [show d = 0 by omega]; rfl)
                | exact pLp_f (fun q => absurd (bi_0.mp c_16) (not_not_intro q))
                | exact pLp_n (by simp [opS, *])
            have hQ2 := hQ J
            rw [e] at hQ2
            exact hQ2 hJ
          · have c_34 := (n_eq (a := (tkd (I 32) z r.2.1)) (b := 45) rfl rfl (by omega) (by omega)).mp c_34
            refine r_nil ?_
            refine E_go 2 rfl ?_
            refine r_aload_n rfl ?_
            refine r_getI (by decide) rfl rfl (by decide) hJ.2.2.1.2.2.1 ?_
            refine r_istore (ls' := [_, _, _, _, _]) (zt rfl) rfl ?_
            refine r_aload_n rfl ?_
            refine r_virtual (vs := []) (as := []) (by decide) (zl rfl) rfl rfl (zl rfl) (Nat.le_refl _) (Or.inr (Or.inr ⟨zt rfl, rfl, zt rfl⟩)) ?_
            have hop : ∃ w, opS (tkd (I 32) z r.2.1) = some w ∧ - io (tkd (I 32) z r.2.1) = w := by
              first
              | exact ⟨-43, by rw [c_25]; rfl, by rw [c_25]; rfl⟩
              | exact ⟨-45, by rw [c_34]; rfl, by rw [c_34]; rfl⟩
            obtain ⟨w, hop, hw⟩ := hop
            have hr1 := bi_n.mp c_16
            have hT := tst_lt (b := I 32) hb.1.2 (by omega : ¬ tkd (I 32) z r.2.1 = 0)
            have hT2 := tst_z (b := I 32) hb.1.2
            refine s_steps (by omega) (i := tst (I 32) z r.2.1) (z := z) (by rw [hJ.2.1]; exact hz) h160 hT2 hJ.2.2.1.1 (fun J1 h1 h2 => ?_)
            rw [hJ.1 32 (by omega)] at h2
            have hJ1 := RS_t hJ h1 h2
            obtain ⟨v1, e1, e2, e3⟩ := RS_v hJ1
            have e3 := e3 hr1
            dsimp only at e3
            have hq := hg (I 32) z _ hT2
            refine r_aload_n rfl ?_
            refine r_iload_n rfl ?_
            refine r_virtual (vs := []) (as := [_]) (by decide) (zl rfl) rfl rfl (zl rfl) (Nat.le_refl _) (Or.inr (Or.inr ⟨zt rfl, rfl, zt rfl⟩)) ?_
            refine hel J1 L _ (tst (I 32) z r.2.1) v1 z (by rw [hJ1.2.1]; exact hz) h160 hT2 (by rw [hJ1.1 32 (by omega)]; exact h2) e2 (by omega) (fun J2 h3 => ?_)
            rw [hJ1.1 32 (by omega)] at h3
            rw [hJ1.1 32 (by omega)]
            rw [e3] at h3
            have hJ2 := RS_app (q := F (I 32) z (tst (I 32) z r.2.1)) hJ1 hr1 h3
            refine r_istore_n (ls' := [_, _, _, _, _]) (zt rfl) rfl ?_
            refine r_aload_n rfl ?_
            refine r_iload rfl ?_
            refine r_ineg ?_
            refine r_virtual (vs := []) (as := [_]) (by decide) (zl rfl) rfl rfl (zl rfl) (Nat.le_refl _) (Or.inr (Or.inr ⟨zt rfl, rfl, zt rfl⟩)) ?_
            rw [hw]
            refine w_word (w := w) (by omega) hJ2 (fun hb1 => ?_) (fun K hK => ?_)
            · rw [List.length_append]; dsimp only; omega
            rw [List.append_assoc] at hK
            refine r_iincN (y := io (k + 1)) (ls' := [_, _, _, _, _]) rfl (zt rfl) (n_add (a := k) (b := 1) rfl rfl) rfl ?_
            refine r_goto ?_
            refine ih (d - 1) (by omega) (k + 1) (by omega) ((F (I 32) z (tst (I 32) z r.2.1)).1, (F (I 32) z (tst (I 32) z r.2.1)).2.1, r.2.2 ++ ((F (I 32) z (tst (I 32) z r.2.1)).2.2 ++ [w])) K _ ?_ hK ?_
            · rw [hr0]; exact pLp_s (by omega) hr1 hop
            · simp only [List.length_append, List.length_cons, List.length_nil]
              omega
  refine M_go (ls := [_, _, _, _, _]) (ml := 5) rfl rfl rfl (zl rfl) rfl ?_
  refine r_aload_n rfl ?_
  refine r_iload_n rfl ?_
  refine r_virtual (vs := []) (as := [_]) (by decide) (zl rfl) rfl rfl (zl rfl) (Nat.le_refl _) (Or.inr (Or.inr ⟨zt rfl, rfl, zt rfl⟩)) ?_
  refine hel _ L _ i u z hz h160 hi hk hu hui (fun J hJ => ?_)
  refine r_istore_n (ls' := [_, _, _, _, _]) (zt rfl) rfl ?_
  refine r_iconst ?_
  refine r_istore_n (ls' := [_, _, _, _, _]) (zt rfl) rfl ?_
  refine r_nil ?_
  refine key 160 0 rfl (F (I 32) z i) J _ rfl hJ ?_
  have := hg (I 32) z i hi
  omega

theorem pNt_8 {kd st : Nat → Nat} {fn fc : Nat → PR} {i : Nat} (h : kd i = 8) : pNt kd st (some fn) fc i = ((fn (st i)).1, (fn (st i)).2.1, (fn (st i)).2.2 ++ [-8]) := if_pos h
theorem pNt_80 {kd st : Nat → Nat} {fc : Nat → PR} {i : Nat} (h : kd i = 8) : pNt kd st none fc i = (false, i, []) := if_pos h
theorem pNt_n {kd st : Nat → Nat} {dn : Option (Nat → PR)} {fc : Nat → PR} {i : Nat} (h : ¬ kd i = 8) : pNt kd st dn fc i = fc i := if_neg h
theorem pCm_y {kd st : Nat → Nat} {fs : Nat → PR} {i : Nat} (h : (fs i).1 = true) (h2 : kd (fs i).2.1 = 60 ∨ kd (fs i).2.1 = 61) : pCm kd st fs i = ((fs (st (fs i).2.1)).1, (fs (st (fs i).2.1)).2.1, (fs i).2.2 ++ ((fs (st (fs i).2.1)).2.2 ++ [-(io (kd (fs i).2.1))])) := if_pos ⟨h, h2⟩
theorem pCm_n {kd st : Nat → Nat} {fs : Nat → PR} {i : Nat} (h : ¬ ((fs i).1 = true ∧ (kd (fs i).2.1 = 60 ∨ kd (fs i).2.1 = 61))) : pCm kd st fs i = fs i := if_neg h

set_option maxRecDepth 10000 in
theorem s_readsNot0 {xs : xSc} {m : Nat} {F : PFn} (hm : 7 ≤ m) (hg : ∀ b z, gd z (F b z)) (hel : Sp xs xi_X2_readsSum m 5 F) : Sp xs xi_X2_readsNot (m + 1) 5 (fun b z i => pNt (tkd b z) (tst b z) none (pCm (tkd b z) (tst b z) (F b z)) i) := by
  intro I L Q i u z hz h160 hi hk hu hui hQ
  have htk := tkd_lt (b := I 32) (z := z) (i := i)
  dsimp only at hQ
  refine M_go (ls := [_, _, _, _]) (ml := 4) rfl rfl rfl (zl rfl) rfl ?_
  refine r_aload_n rfl ?_
  refine r_getI (by decide) rfl rfl (by decide) hk.2.2.1 ?_
  refine r_bipush ?_
  refine r_icmp_ne (fun c_6 => ?_) (fun c_6 => ?_)
  · have c_6 := (not_congr (n_eq (a := (tkd (I 32) z i)) (b := 8) rfl rfl (by omega) (by omega))).mp c_6
    refine E_go 2 rfl ?_
    refine r_aload_n rfl ?_
    refine r_iload_n rfl ?_
    refine r_virtual (vs := []) (as := [_]) (by decide) (zl rfl) rfl rfl (zl rfl) (Nat.le_refl _) (Or.inr (Or.inr ⟨zt rfl, rfl, zt rfl⟩)) ?_
    refine hel I L _ i u z hz h160 hi hk hu hui (fun J hJ => ?_)
    have htj := tkd_lt (b := I 32) (z := z) (i := (F (I 32) z i).2.1)
    refine r_istore_n (ls' := [_, _, _, _]) (zt rfl) rfl ?_
    refine r_iload_n rfl ?_
    refine r_if_eq (fun c_43 => ?_) (fun c_43 => ?_)
    · refine E_go 4 rfl ?_
      refine r_iload_n rfl ?_
      refine r_iret rfl (bi_01 _) ?_
      refine qib (hQ _) ((pNt_n c_6).trans (pCm_n ?_)) hJ
      first
      | exact fun q => absurd q.1 (bi_0.mp c_43)
      | exact fun q => by omega
    · refine r_aload_n rfl ?_
      refine r_getI (by decide) rfl rfl (by decide) hJ.2.2.1.2.2.1 ?_
      refine r_bipush ?_
      refine r_icmp_eq (fun c_52 => ?_) (fun c_52 => ?_)
      · have c_52 := (n_eq (a := (tkd (I 32) z (F (I 32) z i).2.1)) (b := 60) rfl rfl (by omega) (by omega)).mp c_52
        refine E_go 3 rfl ?_
        refine r_aload_n rfl ?_
        refine r_getI (by decide) rfl rfl (by decide) hJ.2.2.1.2.2.1 ?_
        refine r_istore_n (ls' := [_, _, _, _]) (zt rfl) rfl ?_
        refine r_aload_n rfl ?_
        refine r_virtual (vs := []) (as := []) (by decide) (zl rfl) rfl rfl (zl rfl) (Nat.le_refl _) (Or.inr (Or.inr ⟨zt rfl, rfl, zt rfl⟩)) ?_
        have hJ0 := hJ
        have hr1 := bi_n.mp c_43
        have hg1 := hg (I 32) z i hi
        have hT := tst_lt (b := I 32) hg1.1.2 (by omega : ¬ tkd (I 32) z (F (I 32) z i).2.1 = 0)
        have hT2 := tst_z (b := I 32) hg1.1.2
        refine s_steps (by omega) (i := tst (I 32) z (F (I 32) z i).2.1) (z := z) (by rw [hJ.2.1]; exact hz) h160 hT2 hJ.2.2.1.1 (fun J1 h1 h2 => ?_)
        rw [hJ.1 32 (by omega)] at h2
        have hJ1 := RS_t hJ h1 h2
        obtain ⟨v1, e1, e2, e3⟩ := RS_v hJ1
        have e3 := e3 hr1
        dsimp only at e3
        have hq := hg (I 32) z _ hT2
        refine r_aload_n rfl ?_
        refine r_iload_n rfl ?_
        refine r_virtual (vs := []) (as := [_]) (by decide) (zl rfl) rfl rfl (zl rfl) (Nat.le_refl _) (Or.inr (Or.inr ⟨zt rfl, rfl, zt rfl⟩)) ?_
        refine hel J1 L _ (tst (I 32) z (F (I 32) z i).2.1) v1 z (by rw [hJ1.2.1]; exact hz) h160 hT2 (by rw [hJ1.1 32 (by omega)]; exact h2) e2 (by omega) (fun J2 h3 => ?_)
        rw [hJ1.1 32 (by omega)] at h3
        rw [hJ1.1 32 (by omega)]
        rw [e3] at h3
        have hJ2 := RS_app (q := F (I 32) z (tst (I 32) z (F (I 32) z i).2.1)) hJ1 hr1 h3
        refine r_istore_n (ls' := [_, _, _, _]) (zt rfl) rfl ?_
        refine r_aload_n rfl ?_
        refine r_iload_n rfl ?_
        refine r_ineg ?_
        refine r_virtual (vs := []) (as := [_]) (by decide) (zl rfl) rfl rfl (zl rfl) (Nat.le_refl _) (Or.inr (Or.inr ⟨zt rfl, rfl, zt rfl⟩)) ?_
        refine w_word (w := -(io (tkd (I 32) z (F (I 32) z i).2.1))) (by omega) hJ2 (fun hb1 => ?_) (fun K hK => ?_)
        · rw [List.length_append]; dsimp only; omega
        rw [List.append_assoc] at hK
        refine r_nil ?_
        refine E_go 4 rfl ?_
        refine r_iload_n rfl ?_
        refine r_iret rfl (bi_01 _) ?_
        have hx := qib (hQ _) ((pNt_n c_6).trans (pCm_y hr1 (by omega))) hK
        exact hx
      · have c_52 := (not_congr (n_eq (a := (tkd (I 32) z (F (I 32) z i).2.1)) (b := 60) rfl rfl (by omega) (by omega))).mp c_52
        refine r_aload_n rfl ?_
        refine r_getI (by decide) rfl rfl (by decide) hJ.2.2.1.2.2.1 ?_
        refine r_bipush ?_
        refine r_icmp_ne (fun c_61 => ?_) (fun c_61 => ?_)
        · have c_61 := (not_congr (n_eq (a := (tkd (I 32) z (F (I 32) z i).2.1)) (b := 61) rfl rfl (by omega) (by omega))).mp c_61
          refine E_go 4 rfl ?_
          refine r_iload_n rfl ?_
          refine r_iret rfl (bi_01 _) ?_
          refine qib (hQ _) ((pNt_n c_6).trans (pCm_n ?_)) hJ
          first
          | exact fun q => absurd q.1 (bi_0.mp c_43)
          | exact fun q => by omega
        · have c_61 := (n_eq (a := (tkd (I 32) z (F (I 32) z i).2.1)) (b := 61) rfl rfl (by omega) (by omega)).mp c_61
          refine r_nil ?_
          refine E_go 3 rfl ?_
          refine r_aload_n rfl ?_
          refine r_getI (by decide) rfl rfl (by decide) hJ.2.2.1.2.2.1 ?_
          refine r_istore_n (ls' := [_, _, _, _]) (zt rfl) rfl ?_
          refine r_aload_n rfl ?_
          refine r_virtual (vs := []) (as := []) (by decide) (zl rfl) rfl rfl (zl rfl) (Nat.le_refl _) (Or.inr (Or.inr ⟨zt rfl, rfl, zt rfl⟩)) ?_
          have hJ0 := hJ
          have hr1 := bi_n.mp c_43
          have hg1 := hg (I 32) z i hi
          have hT := tst_lt (b := I 32) hg1.1.2 (by omega : ¬ tkd (I 32) z (F (I 32) z i).2.1 = 0)
          have hT2 := tst_z (b := I 32) hg1.1.2
          refine s_steps (by omega) (i := tst (I 32) z (F (I 32) z i).2.1) (z := z) (by rw [hJ.2.1]; exact hz) h160 hT2 hJ.2.2.1.1 (fun J1 h1 h2 => ?_)
          rw [hJ.1 32 (by omega)] at h2
          have hJ1 := RS_t hJ h1 h2
          obtain ⟨v1, e1, e2, e3⟩ := RS_v hJ1
          have e3 := e3 hr1
          dsimp only at e3
          have hq := hg (I 32) z _ hT2
          refine r_aload_n rfl ?_
          refine r_iload_n rfl ?_
          refine r_virtual (vs := []) (as := [_]) (by decide) (zl rfl) rfl rfl (zl rfl) (Nat.le_refl _) (Or.inr (Or.inr ⟨zt rfl, rfl, zt rfl⟩)) ?_
          refine hel J1 L _ (tst (I 32) z (F (I 32) z i).2.1) v1 z (by rw [hJ1.2.1]; exact hz) h160 hT2 (by rw [hJ1.1 32 (by omega)]; exact h2) e2 (by omega) (fun J2 h3 => ?_)
          rw [hJ1.1 32 (by omega)] at h3
          rw [hJ1.1 32 (by omega)]
          rw [e3] at h3
          have hJ2 := RS_app (q := F (I 32) z (tst (I 32) z (F (I 32) z i).2.1)) hJ1 hr1 h3
          refine r_istore_n (ls' := [_, _, _, _]) (zt rfl) rfl ?_
          refine r_aload_n rfl ?_
          refine r_iload_n rfl ?_
          refine r_ineg ?_
          refine r_virtual (vs := []) (as := [_]) (by decide) (zl rfl) rfl rfl (zl rfl) (Nat.le_refl _) (Or.inr (Or.inr ⟨zt rfl, rfl, zt rfl⟩)) ?_
          refine w_word (w := -(io (tkd (I 32) z (F (I 32) z i).2.1))) (by omega) hJ2 (fun hb1 => ?_) (fun K hK => ?_)
          · rw [List.length_append]; dsimp only; omega
          rw [List.append_assoc] at hK
          refine r_nil ?_
          refine E_go 4 rfl ?_
          refine r_iload_n rfl ?_
          refine r_iret rfl (bi_01 _) ?_
          have hx := qib (hQ _) ((pNt_n c_6).trans (pCm_y hr1 (by omega))) hK
          exact hx
  · have c_6 := (n_eq (a := (tkd (I 32) z i)) (b := 8) rfl rfl (by omega) (by omega)).mp c_6
    refine r_iload_n rfl ?_
    refine r_iconst ?_
    refine r_icmp_lt (fun c_11 => ?_) (fun c_11 => ?_)
    · exact absurd c_11 (by decide)
    · refine r_iconst ?_
      refine r_iret rfl (by first | exact Or.inl rfl | exact Or.inr rfl) ?_
      have hx := qib (hQ _) (pNt_80 c_6) (RS_0 hk hu (by omega))
      exact hx

set_option maxRecDepth 10000 in
theorem s_readsNotS {xs : xSc} {m o : Nat} {F G : PFn} (hm : 7 ≤ m) (hg : ∀ b z, gd z (F b z)) (hel : Sp xs xi_X2_readsSum m o F) (hd5 : o < 5) (hgd : ∀ b z, gd z (G b z)) (hdp : Sp xs xi_X2_readsNot m (o + 1) G) : Sp xs xi_X2_readsNot (m + 1) o (fun b z i => pNt (tkd b z) (tst b z) (some (G b z)) (pCm (tkd b z) (tst b z) (F b z)) i) := by
  intro I L Q i u z hz h160 hi hk hu hui hQ
  have htk := tkd_lt (b := I 32) (z := z) (i := i)
  dsimp only at hQ
  refine M_go (ls := [_, _, _, _]) (ml := 4) rfl rfl rfl (zl rfl) rfl ?_
  refine r_aload_n rfl ?_
  refine r_getI (by decide) rfl rfl (by decide) hk.2.2.1 ?_
  refine r_bipush ?_
  refine r_icmp_ne (fun c_6 => ?_) (fun c_6 => ?_)
  · have c_6 := (not_congr (n_eq (a := (tkd (I 32) z i)) (b := 8) rfl rfl (by omega) (by omega))).mp c_6
    refine E_go 2 rfl ?_
    refine r_aload_n rfl ?_
    refine r_iload_n rfl ?_
    refine r_virtual (vs := []) (as := [_]) (by decide) (zl rfl) rfl rfl (zl rfl) (Nat.le_refl _) (Or.inr (Or.inr ⟨zt rfl, rfl, zt rfl⟩)) ?_
    refine hel I L _ i u z hz h160 hi hk hu hui (fun J hJ => ?_)
    have htj := tkd_lt (b := I 32) (z := z) (i := (F (I 32) z i).2.1)
    refine r_istore_n (ls' := [_, _, _, _]) (zt rfl) rfl ?_
    refine r_iload_n rfl ?_
    refine r_if_eq (fun c_43 => ?_) (fun c_43 => ?_)
    · refine E_go 4 rfl ?_
      refine r_iload_n rfl ?_
      refine r_iret rfl (bi_01 _) ?_
      refine qib (hQ _) ((pNt_n c_6).trans (pCm_n ?_)) hJ
      first
      | exact fun q => absurd q.1 (bi_0.mp c_43)
      | exact fun q => by omega
    · refine r_aload_n rfl ?_
      refine r_getI (by decide) rfl rfl (by decide) hJ.2.2.1.2.2.1 ?_
      refine r_bipush ?_
      refine r_icmp_eq (fun c_52 => ?_) (fun c_52 => ?_)
      · have c_52 := (n_eq (a := (tkd (I 32) z (F (I 32) z i).2.1)) (b := 60) rfl rfl (by omega) (by omega)).mp c_52
        refine E_go 3 rfl ?_
        refine r_aload_n rfl ?_
        refine r_getI (by decide) rfl rfl (by decide) hJ.2.2.1.2.2.1 ?_
        refine r_istore_n (ls' := [_, _, _, _]) (zt rfl) rfl ?_
        refine r_aload_n rfl ?_
        refine r_virtual (vs := []) (as := []) (by decide) (zl rfl) rfl rfl (zl rfl) (Nat.le_refl _) (Or.inr (Or.inr ⟨zt rfl, rfl, zt rfl⟩)) ?_
        have hJ0 := hJ
        have hr1 := bi_n.mp c_43
        have hg1 := hg (I 32) z i hi
        have hT := tst_lt (b := I 32) hg1.1.2 (by omega : ¬ tkd (I 32) z (F (I 32) z i).2.1 = 0)
        have hT2 := tst_z (b := I 32) hg1.1.2
        refine s_steps (by omega) (i := tst (I 32) z (F (I 32) z i).2.1) (z := z) (by rw [hJ.2.1]; exact hz) h160 hT2 hJ.2.2.1.1 (fun J1 h1 h2 => ?_)
        rw [hJ.1 32 (by omega)] at h2
        have hJ1 := RS_t hJ h1 h2
        obtain ⟨v1, e1, e2, e3⟩ := RS_v hJ1
        have e3 := e3 hr1
        dsimp only at e3
        have hq := hg (I 32) z _ hT2
        refine r_aload_n rfl ?_
        refine r_iload_n rfl ?_
        refine r_virtual (vs := []) (as := [_]) (by decide) (zl rfl) rfl rfl (zl rfl) (Nat.le_refl _) (Or.inr (Or.inr ⟨zt rfl, rfl, zt rfl⟩)) ?_
        refine hel J1 L _ (tst (I 32) z (F (I 32) z i).2.1) v1 z (by rw [hJ1.2.1]; exact hz) h160 hT2 (by rw [hJ1.1 32 (by omega)]; exact h2) e2 (by omega) (fun J2 h3 => ?_)
        rw [hJ1.1 32 (by omega)] at h3
        rw [hJ1.1 32 (by omega)]
        rw [e3] at h3
        have hJ2 := RS_app (q := F (I 32) z (tst (I 32) z (F (I 32) z i).2.1)) hJ1 hr1 h3
        refine r_istore_n (ls' := [_, _, _, _]) (zt rfl) rfl ?_
        refine r_aload_n rfl ?_
        refine r_iload_n rfl ?_
        refine r_ineg ?_
        refine r_virtual (vs := []) (as := [_]) (by decide) (zl rfl) rfl rfl (zl rfl) (Nat.le_refl _) (Or.inr (Or.inr ⟨zt rfl, rfl, zt rfl⟩)) ?_
        refine w_word (w := -(io (tkd (I 32) z (F (I 32) z i).2.1))) (by omega) hJ2 (fun hb1 => ?_) (fun K hK => ?_)
        · rw [List.length_append]; dsimp only; omega
        rw [List.append_assoc] at hK
        refine r_nil ?_
        refine E_go 4 rfl ?_
        refine r_iload_n rfl ?_
        refine r_iret rfl (bi_01 _) ?_
        have hx := qib (hQ _) ((pNt_n c_6).trans (pCm_y hr1 (by omega))) hK
        exact hx
      · have c_52 := (not_congr (n_eq (a := (tkd (I 32) z (F (I 32) z i).2.1)) (b := 60) rfl rfl (by omega) (by omega))).mp c_52
        refine r_aload_n rfl ?_
        refine r_getI (by decide) rfl rfl (by decide) hJ.2.2.1.2.2.1 ?_
        refine r_bipush ?_
        refine r_icmp_ne (fun c_61 => ?_) (fun c_61 => ?_)
        · have c_61 := (not_congr (n_eq (a := (tkd (I 32) z (F (I 32) z i).2.1)) (b := 61) rfl rfl (by omega) (by omega))).mp c_61
          refine E_go 4 rfl ?_
          refine r_iload_n rfl ?_
          refine r_iret rfl (bi_01 _) ?_
          refine qib (hQ _) ((pNt_n c_6).trans (pCm_n ?_)) hJ
          first
          | exact fun q => absurd q.1 (bi_0.mp c_43)
          | exact fun q => by omega
        · have c_61 := (n_eq (a := (tkd (I 32) z (F (I 32) z i).2.1)) (b := 61) rfl rfl (by omega) (by omega)).mp c_61
          refine r_nil ?_
          refine E_go 3 rfl ?_
          refine r_aload_n rfl ?_
          refine r_getI (by decide) rfl rfl (by decide) hJ.2.2.1.2.2.1 ?_
          refine r_istore_n (ls' := [_, _, _, _]) (zt rfl) rfl ?_
          refine r_aload_n rfl ?_
          refine r_virtual (vs := []) (as := []) (by decide) (zl rfl) rfl rfl (zl rfl) (Nat.le_refl _) (Or.inr (Or.inr ⟨zt rfl, rfl, zt rfl⟩)) ?_
          have hJ0 := hJ
          have hr1 := bi_n.mp c_43
          have hg1 := hg (I 32) z i hi
          have hT := tst_lt (b := I 32) hg1.1.2 (by omega : ¬ tkd (I 32) z (F (I 32) z i).2.1 = 0)
          have hT2 := tst_z (b := I 32) hg1.1.2
          refine s_steps (by omega) (i := tst (I 32) z (F (I 32) z i).2.1) (z := z) (by rw [hJ.2.1]; exact hz) h160 hT2 hJ.2.2.1.1 (fun J1 h1 h2 => ?_)
          rw [hJ.1 32 (by omega)] at h2
          have hJ1 := RS_t hJ h1 h2
          obtain ⟨v1, e1, e2, e3⟩ := RS_v hJ1
          have e3 := e3 hr1
          dsimp only at e3
          have hq := hg (I 32) z _ hT2
          refine r_aload_n rfl ?_
          refine r_iload_n rfl ?_
          refine r_virtual (vs := []) (as := [_]) (by decide) (zl rfl) rfl rfl (zl rfl) (Nat.le_refl _) (Or.inr (Or.inr ⟨zt rfl, rfl, zt rfl⟩)) ?_
          refine hel J1 L _ (tst (I 32) z (F (I 32) z i).2.1) v1 z (by rw [hJ1.2.1]; exact hz) h160 hT2 (by rw [hJ1.1 32 (by omega)]; exact h2) e2 (by omega) (fun J2 h3 => ?_)
          rw [hJ1.1 32 (by omega)] at h3
          rw [hJ1.1 32 (by omega)]
          rw [e3] at h3
          have hJ2 := RS_app (q := F (I 32) z (tst (I 32) z (F (I 32) z i).2.1)) hJ1 hr1 h3
          refine r_istore_n (ls' := [_, _, _, _]) (zt rfl) rfl ?_
          refine r_aload_n rfl ?_
          refine r_iload_n rfl ?_
          refine r_ineg ?_
          refine r_virtual (vs := []) (as := [_]) (by decide) (zl rfl) rfl rfl (zl rfl) (Nat.le_refl _) (Or.inr (Or.inr ⟨zt rfl, rfl, zt rfl⟩)) ?_
          refine w_word (w := -(io (tkd (I 32) z (F (I 32) z i).2.1))) (by omega) hJ2 (fun hb1 => ?_) (fun K hK => ?_)
          · rw [List.length_append]; dsimp only; omega
          rw [List.append_assoc] at hK
          refine r_nil ?_
          refine E_go 4 rfl ?_
          refine r_iload_n rfl ?_
          refine r_iret rfl (bi_01 _) ?_
          have hx := qib (hQ _) ((pNt_n c_6).trans (pCm_y hr1 (by omega))) hK
          exact hx
  · have c_6 := (n_eq (a := (tkd (I 32) z i)) (b := 8) rfl rfl (by omega) (by omega)).mp c_6
    refine r_iload_n rfl ?_
    refine r_iconst ?_
    refine r_icmp_lt (fun c_11 => ?_) (fun c_11 => ?_)
    · have c_11 := (n_lt (a := o) (b := 5) rfl rfl (by omega) (by omega)).mp c_11
      refine E_go 1 rfl ?_
      refine r_aload_n rfl ?_
      refine r_virtual (vs := []) (as := []) (by decide) (zl rfl) rfl rfl (zl rfl) (Nat.le_refl _) (Or.inr (Or.inr ⟨zt rfl, rfl, zt rfl⟩)) ?_
      have hJ0 := RS_0 (b := true) hk hu (by omega)
      have hT := tst_lt (b := I 32) hi (by omega : ¬ tkd (I 32) z i = 0)
      have hT2 := tst_z (b := I 32) hi
      refine s_steps (by omega) (i := tst (I 32) z i) (z := z) (by rw [hJ0.2.1]; exact hz) h160 hT2 hJ0.2.2.1.1 (fun J1 h1 h2 => ?_)
      rw [hJ0.1 32 (by omega)] at h2
      have hJ1 := RS_t hJ0 h1 h2
      obtain ⟨v1, e1, e2, e3⟩ := RS_v hJ1
      have e3 := e3 rfl
      dsimp only at e3
      refine r_aload_n rfl ?_
      refine r_iload_n rfl ?_
      refine r_iconst ?_
      refine r_iadd ?_
      refine r_virtual (vs := []) (as := [_]) (by decide) (zl rfl) rfl rfl (zl rfl) (Nat.le_refl _) (Or.inr (Or.inr ⟨zt rfl, rfl, zt rfl⟩)) ?_
      rw [io_succ o]
      refine hdp J1 L _ (tst (I 32) z i) v1 z (by rw [hJ1.2.1]; exact hz) h160 hT2 (by rw [hJ1.1 32 (by omega)]; exact h2) e2 (by rw [e3]; simp only [List.length_nil]; omega) (fun J2 h3 => ?_)
      rw [hJ1.1 32 (by omega)] at h3
      rw [hJ1.1 32 (by omega)]
      rw [e3] at h3
      have hJ2 := RS_app (q := G (I 32) z (tst (I 32) z i)) hJ1 rfl h3
      have hq := hgd (I 32) z _ hT2
      refine r_istore_n (ls' := [_, _, _, _]) (zt rfl) rfl ?_
      refine r_aload_n rfl ?_
      refine r_bipush ?_
      refine r_virtual (vs := []) (as := [_]) (by decide) (zl rfl) rfl rfl (zl rfl) (Nat.le_refl _) (Or.inr (Or.inr ⟨zt rfl, rfl, zt rfl⟩)) ?_
      refine w_word (w := -8) (by omega) hJ2 (fun hb1 => ?_) (fun K hK => ?_)
      · rw [List.length_append]; dsimp only [List.length_nil]; omega
      refine r_iload_n rfl ?_
      refine r_iret rfl (bi_01 _) ?_
      have hx := qib (hQ _) (pNt_8 c_6) hK
      exact hx
    · have c_11 := (not_congr (n_lt (a := o) (b := 5) rfl rfl (by omega) (by omega))).mp c_11
      exact absurd hd5 c_11

section
variable {kd st : Nat → Nat} {wt : Nat → Int32} {dp : Option ((Nat → PR) × (Nat → PR))} {fa fo : Nat → PR} {i : Nat}
theorem pAt_2 (h : kd i = 2) : pAt kd st wt dp i = (true, st i, [wt i]) := if_pos h
theorem pAt_n (h1 : 10 ≤ kd i) (h2 : kd i < 16) : pAt kd st wt dp i = (true, st i, [-(io (kd i))]) := by
  unfold pAt
  rw [if_neg (by omega), if_pos ⟨h1, h2⟩]
theorem pAt_f0 (h : ¬ kd i = 2) (h1 : ¬ (10 ≤ kd i ∧ kd i < 16)) : pAt kd st wt none i = (false, i, []) := by
  unfold pAt
  rw [if_neg h, if_neg h1]
theorem pAt_f (h : ¬ kd i = 2) (h1 : ¬ (10 ≤ kd i ∧ kd i < 16)) (h2 : ¬ kd i = 45) (h3 : ¬ kd i = 40) : pAt kd st wt dp i = (false, i, []) := by
  unfold pAt
  rw [if_neg h, if_neg h1]
  rcases dp with _ | ⟨fa, fo⟩
  · rfl
  · dsimp only
    rw [if_neg h2, if_neg h3]
theorem pAt_m (h : kd i = 45) : pAt kd st wt (some (fa, fo)) i = ((fa (st i)).1, (fa (st i)).2.1, (fa (st i)).2.2 ++ [-9]) := by
  unfold pAt
  rw [if_neg (by omega), if_neg (by omega)]
  dsimp only
  rw [if_pos h]
theorem pAt_p (h : kd i = 40) : pAt kd st wt (some (fa, fo)) i = (if (fo (st i)).1 = true then (if kd (fo (st i)).2.1 = 41 then (true, st (fo (st i)).2.1, (fo (st i)).2.2) else (false, (fo (st i)).2.1, [])) else fo (st i)) := by
  unfold pAt
  rw [if_neg (by omega), if_neg (by omega)]
  dsimp only
  rw [if_neg (by omega), if_pos h]
theorem pAt_p1 (h : kd i = 40) (h1 : (fo (st i)).1 = true) (h2 : kd (fo (st i)).2.1 = 41) : pAt kd st wt (some (fa, fo)) i = (true, st (fo (st i)).2.1, (fo (st i)).2.2) := by
  rw [pAt_p h, if_pos h1, if_pos h2]
theorem pAt_p2 (h : kd i = 40) (h1 : (fo (st i)).1 = true) (h2 : ¬ kd (fo (st i)).2.1 = 41) : pAt kd st wt (some (fa, fo)) i = (false, (fo (st i)).2.1, []) := by
  rw [pAt_p h, if_pos h1, if_neg h2]
theorem pAt_p3 (h : kd i = 40) (h1 : ¬ (fo (st i)).1 = true) : pAt kd st wt (some (fa, fo)) i = fo (st i) := by
  rw [pAt_p h, if_neg h1]
end

set_option maxRecDepth 10000 in
theorem s_readsOne0 {xs : xSc} {m : Nat} (hm : 7 ≤ m) : Sp xs xi_X2_readsOne (m + 1) 5 (fun b z i => pAt (tkd b z) (tst b z) (twt b z) none i) := by
  intro I L Q i u z hz h160 hi hk hu hui hQ
  have htk := tkd_lt (b := I 32) (z := z) (i := i)
  dsimp only at hQ
  refine M_go (ls := [_, _, _]) (ml := 3) rfl rfl rfl (zl rfl) rfl ?_
  refine r_aload_n rfl ?_
  refine r_getI (by decide) rfl rfl (by decide) hk.2.2.1 ?_
  refine r_iconst ?_
  refine r_icmp_ne (fun c_5 => ?_) (fun c_5 => ?_)
  · have c_5 := (not_congr (n_eq (a := (tkd (I 32) z i)) (b := 2) rfl rfl (by omega) (by omega))).mp c_5
    refine E_go 1 rfl ?_
    refine r_aload_n rfl ?_
    refine r_getI (by decide) rfl rfl (by decide) hk.2.2.1 ?_
    refine r_bipush ?_
    refine r_icmp_lt (fun c_28 => ?_) (fun c_28 => ?_)
    · have c_28 := (n_lt (a := (tkd (I 32) z i)) (b := 10) rfl rfl (by omega) (by omega)).mp c_28
      refine E_go 2 rfl ?_
      refine r_aload_n rfl ?_
      refine r_getI (by decide) rfl rfl (by decide) hk.2.2.1 ?_
      refine r_bipush ?_
      refine r_icmp_eq (fun c_61 => ?_) (fun c_61 => ?_)
      · have c_61 := (n_eq (a := (tkd (I 32) z i)) (b := 45) rfl rfl (by omega) (by omega)).mp c_61
        refine E_go 3 rfl ?_
        refine r_iload_n rfl ?_
        refine r_iconst ?_
        refine r_icmp_lt (fun c_75 => ?_) (fun c_75 => ?_)
        · have c_75 := (n_lt (a := 5) (b := 5) rfl rfl (by omega) (by omega)).mp c_75
          exact absurd c_75 (by decide)
        · have c_75 := (not_congr (n_lt (a := 5) (b := 5) rfl rfl (by omega) (by omega))).mp c_75
          refine r_nil ?_
          refine E_go 4 rfl ?_
          refine r_iconst ?_
          refine r_iret rfl (by first | exact Or.inl rfl | exact Or.inr rfl) ?_
          have hx := qib (hQ _) (pAt_f0 c_5 (by omega)) (RS_0 hk hu (by omega))
          exact hx
      · have c_61 := (not_congr (n_eq (a := (tkd (I 32) z i)) (b := 45) rfl rfl (by omega) (by omega))).mp c_61
        refine r_aload_n rfl ?_
        refine r_getI (by decide) rfl rfl (by decide) hk.2.2.1 ?_
        refine r_bipush ?_
        refine r_icmp_ne (fun c_70 => ?_) (fun c_70 => ?_)
        · have c_70 := (not_congr (n_eq (a := (tkd (I 32) z i)) (b := 40) rfl rfl (by omega) (by omega))).mp c_70
          refine E_go 4 rfl ?_
          refine r_iconst ?_
          refine r_iret rfl (by first | exact Or.inl rfl | exact Or.inr rfl) ?_
          have hx := qib (hQ _) (pAt_f0 c_5 (by omega)) (RS_0 hk hu (by omega))
          exact hx
        · have c_70 := (n_eq (a := (tkd (I 32) z i)) (b := 40) rfl rfl (by omega) (by omega)).mp c_70
          refine r_nil ?_
          refine E_go 3 rfl ?_
          refine r_iload_n rfl ?_
          refine r_iconst ?_
          refine r_icmp_lt (fun c_75 => ?_) (fun c_75 => ?_)
          · have c_75 := (n_lt (a := 5) (b := 5) rfl rfl (by omega) (by omega)).mp c_75
            exact absurd c_75 (by decide)
          · have c_75 := (not_congr (n_lt (a := 5) (b := 5) rfl rfl (by omega) (by omega))).mp c_75
            refine r_nil ?_
            refine E_go 4 rfl ?_
            refine r_iconst ?_
            refine r_iret rfl (by first | exact Or.inl rfl | exact Or.inr rfl) ?_
            have hx := qib (hQ _) (pAt_f0 c_5 (by omega)) (RS_0 hk hu (by omega))
            exact hx
    · have c_28 := (not_congr (n_lt (a := (tkd (I 32) z i)) (b := 10) rfl rfl (by omega) (by omega))).mp c_28
      refine r_aload_n rfl ?_
      refine r_getI (by decide) rfl rfl (by decide) hk.2.2.1 ?_
      refine r_bipush ?_
      refine r_icmp_ge (fun c_37 => ?_) (fun c_37 => ?_)
      · have c_37 := (n_le (a := 16) (b := (tkd (I 32) z i)) rfl rfl (by omega) (by omega)).mp c_37
        refine E_go 2 rfl ?_
        refine r_aload_n rfl ?_
        refine r_getI (by decide) rfl rfl (by decide) hk.2.2.1 ?_
        refine r_bipush ?_
        refine r_icmp_eq (fun c_61 => ?_) (fun c_61 => ?_)
        · have c_61 := (n_eq (a := (tkd (I 32) z i)) (b := 45) rfl rfl (by omega) (by omega)).mp c_61
          refine E_go 3 rfl ?_
          refine r_iload_n rfl ?_
          refine r_iconst ?_
          refine r_icmp_lt (fun c_75 => ?_) (fun c_75 => ?_)
          · have c_75 := (n_lt (a := 5) (b := 5) rfl rfl (by omega) (by omega)).mp c_75
            exact absurd c_75 (by decide)
          · have c_75 := (not_congr (n_lt (a := 5) (b := 5) rfl rfl (by omega) (by omega))).mp c_75
            refine r_nil ?_
            refine E_go 4 rfl ?_
            refine r_iconst ?_
            refine r_iret rfl (by first | exact Or.inl rfl | exact Or.inr rfl) ?_
            have hx := qib (hQ _) (pAt_f0 c_5 (by omega)) (RS_0 hk hu (by omega))
            exact hx
        · have c_61 := (not_congr (n_eq (a := (tkd (I 32) z i)) (b := 45) rfl rfl (by omega) (by omega))).mp c_61
          refine r_aload_n rfl ?_
          refine r_getI (by decide) rfl rfl (by decide) hk.2.2.1 ?_
          refine r_bipush ?_
          refine r_icmp_ne (fun c_70 => ?_) (fun c_70 => ?_)
          · have c_70 := (not_congr (n_eq (a := (tkd (I 32) z i)) (b := 40) rfl rfl (by omega) (by omega))).mp c_70
            refine E_go 4 rfl ?_
            refine r_iconst ?_
            refine r_iret rfl (by first | exact Or.inl rfl | exact Or.inr rfl) ?_
            have hx := qib (hQ _) (pAt_f0 c_5 (by omega)) (RS_0 hk hu (by omega))
            exact hx
          · have c_70 := (n_eq (a := (tkd (I 32) z i)) (b := 40) rfl rfl (by omega) (by omega)).mp c_70
            refine r_nil ?_
            refine E_go 3 rfl ?_
            refine r_iload_n rfl ?_
            refine r_iconst ?_
            refine r_icmp_lt (fun c_75 => ?_) (fun c_75 => ?_)
            · have c_75 := (n_lt (a := 5) (b := 5) rfl rfl (by omega) (by omega)).mp c_75
              exact absurd c_75 (by decide)
            · have c_75 := (not_congr (n_lt (a := 5) (b := 5) rfl rfl (by omega) (by omega))).mp c_75
              refine r_nil ?_
              refine E_go 4 rfl ?_
              refine r_iconst ?_
              refine r_iret rfl (by first | exact Or.inl rfl | exact Or.inr rfl) ?_
              have hx := qib (hQ _) (pAt_f0 c_5 (by omega)) (RS_0 hk hu (by omega))
              exact hx
      · have c_37 := (not_congr (n_le (a := 16) (b := (tkd (I 32) z i)) rfl rfl (by omega) (by omega))).mp c_37
        refine r_aload_n rfl ?_
        refine r_aload_n rfl ?_
        refine r_getI (by decide) rfl rfl (by decide) hk.2.2.1 ?_
        refine r_ineg ?_
        refine r_virtual (vs := []) (as := [_]) (by decide) (zl rfl) rfl rfl (zl rfl) (Nat.le_refl _) (Or.inr (Or.inr ⟨zt rfl, rfl, zt rfl⟩)) ?_
        have hT := tst_lt (b := I 32) hi (by omega : ¬ tkd (I 32) z i = 0)
        have hT2 := tst_z (b := I 32) hi
        refine w_word (w := (-(io (tkd (I 32) z i)))) (by omega) (RS_0 (b := true) hk hu (by omega)) (fun hb1 => ?_) (fun K hK => ?_)
        · dsimp only [List.length_nil]; omega
        refine r_aload_n rfl ?_
        refine r_virtual (vs := []) (as := []) (by decide) (zl rfl) rfl rfl (zl rfl) (Nat.le_refl _) (Or.inr (Or.inr ⟨zt rfl, rfl, zt rfl⟩)) ?_
        refine s_steps (by omega) (i := tst (I 32) z i) (z := z) (by rw [hK.2.1]; exact hz) h160 hT2 hK.2.2.1.1 (fun J1 h1 h2 => ?_)
        rw [hK.1 32 (by omega)] at h2
        have hJ1 := RS_t hK h1 h2
        refine r_iconst ?_
        refine r_iret rfl (by first | exact Or.inl rfl | exact Or.inr rfl) ?_
        have hx := qib (hQ _) (pAt_n (by omega) (by omega)) hJ1
        exact hx
  · have c_5 := (n_eq (a := (tkd (I 32) z i)) (b := 2) rfl rfl (by omega) (by omega)).mp c_5
    refine r_aload_n rfl ?_
    refine r_aload_n rfl ?_
    refine r_getI (by decide) rfl rfl (by decide) (hk.2.2.2 c_5) ?_
    refine r_virtual (vs := []) (as := [_]) (by decide) (zl rfl) rfl rfl (zl rfl) (Nat.le_refl _) (Or.inr (Or.inr ⟨zt rfl, rfl, zt rfl⟩)) ?_
    have hT := tst_lt (b := I 32) hi (by omega : ¬ tkd (I 32) z i = 0)
    have hT2 := tst_z (b := I 32) hi
    refine w_word (w := (twt (I 32) z i)) (by omega) (RS_0 (b := true) hk hu (by omega)) (fun hb1 => ?_) (fun K hK => ?_)
    · dsimp only [List.length_nil]; omega
    refine r_aload_n rfl ?_
    refine r_virtual (vs := []) (as := []) (by decide) (zl rfl) rfl rfl (zl rfl) (Nat.le_refl _) (Or.inr (Or.inr ⟨zt rfl, rfl, zt rfl⟩)) ?_
    refine s_steps (by omega) (i := tst (I 32) z i) (z := z) (by rw [hK.2.1]; exact hz) h160 hT2 hK.2.2.1.1 (fun J1 h1 h2 => ?_)
    rw [hK.1 32 (by omega)] at h2
    have hJ1 := RS_t hK h1 h2
    refine r_iconst ?_
    refine r_iret rfl (by first | exact Or.inl rfl | exact Or.inr rfl) ?_
    have hx := qib (hQ _) (pAt_2 c_5) hJ1
    exact hx

set_option maxRecDepth 10000 in
theorem s_readsOneS {xs : xSc} {m o : Nat} {G G2 : PFn} (hm : 7 ≤ m) (hd5 : o < 5) (hgd : ∀ b z, gd z (G b z)) (hgo : ∀ b z, gd z (G2 b z)) (hdp : Sp xs xi_X2_readsOne m (o + 1) G) (hdo : Sp xs xi_X2_readsOr m (o + 1) G2) : Sp xs xi_X2_readsOne (m + 1) o (fun b z i => pAt (tkd b z) (tst b z) (twt b z) (some (G b z, G2 b z)) i) := by
  intro I L Q i u z hz h160 hi hk hu hui hQ
  have htk := tkd_lt (b := I 32) (z := z) (i := i)
  dsimp only at hQ
  refine M_go (ls := [_, _, _]) (ml := 3) rfl rfl rfl (zl rfl) rfl ?_
  refine r_aload_n rfl ?_
  refine r_getI (by decide) rfl rfl (by decide) hk.2.2.1 ?_
  refine r_iconst ?_
  refine r_icmp_ne (fun c_5 => ?_) (fun c_5 => ?_)
  · have c_5 := (not_congr (n_eq (a := (tkd (I 32) z i)) (b := 2) rfl rfl (by omega) (by omega))).mp c_5
    refine E_go 1 rfl ?_
    refine r_aload_n rfl ?_
    refine r_getI (by decide) rfl rfl (by decide) hk.2.2.1 ?_
    refine r_bipush ?_
    refine r_icmp_lt (fun c_28 => ?_) (fun c_28 => ?_)
    · have c_28 := (n_lt (a := (tkd (I 32) z i)) (b := 10) rfl rfl (by omega) (by omega)).mp c_28
      refine E_go 2 rfl ?_
      refine r_aload_n rfl ?_
      refine r_getI (by decide) rfl rfl (by decide) hk.2.2.1 ?_
      refine r_bipush ?_
      refine r_icmp_eq (fun c_61 => ?_) (fun c_61 => ?_)
      · have c_61 := (n_eq (a := (tkd (I 32) z i)) (b := 45) rfl rfl (by omega) (by omega)).mp c_61
        refine E_go 3 rfl ?_
        refine r_iload_n rfl ?_
        refine r_iconst ?_
        refine r_icmp_lt (fun c_75 => ?_) (fun c_75 => ?_)
        · have c_75 := (n_lt (a := o) (b := 5) rfl rfl (by omega) (by omega)).mp c_75
          refine E_go 5 rfl ?_
          refine r_aload_n rfl ?_
          refine r_getI (by decide) rfl rfl (by decide) hk.2.2.1 ?_
          refine r_bipush ?_
          refine r_icmp_ne (fun c_86 => ?_) (fun c_86 => ?_)
          · have c_86 := (not_congr (n_eq (a := (tkd (I 32) z i)) (b := 45) rfl rfl (by omega) (by omega))).mp c_86
            refine E_go 6 rfl ?_
            refine r_aload_n rfl ?_
            refine r_virtual (vs := []) (as := []) (by decide) (zl rfl) rfl rfl (zl rfl) (Nat.le_refl _) (Or.inr (Or.inr ⟨zt rfl, rfl, zt rfl⟩)) ?_
            have hJ0 := RS_0 (b := true) hk hu (by omega)
            have hT := tst_lt (b := I 32) hi (by omega : ¬ tkd (I 32) z i = 0)
            have hT2 := tst_z (b := I 32) hi
            refine s_steps (by omega) (i := tst (I 32) z i) (z := z) (by rw [hJ0.2.1]; exact hz) h160 hT2 hJ0.2.2.1.1 (fun J1 h1 h2 => ?_)
            rw [hJ0.1 32 (by omega)] at h2
            have hJ1 := RS_t hJ0 h1 h2
            obtain ⟨v1, e1, e2, e3⟩ := RS_v hJ1
            have e3 := e3 rfl
            dsimp only at e3
            refine r_aload_n rfl ?_
            refine r_iload_n rfl ?_
            refine r_iconst ?_
            refine r_iadd ?_
            refine r_virtual (vs := []) (as := [_]) (by decide) (zl rfl) rfl rfl (zl rfl) (Nat.le_refl _) (Or.inr (Or.inr ⟨zt rfl, rfl, zt rfl⟩)) ?_
            rw [io_succ o]
            refine hdo J1 L _ (tst (I 32) z i) v1 z (by rw [hJ1.2.1]; exact hz) h160 hT2 (by rw [hJ1.1 32 (by omega)]; exact h2) e2 (by rw [e3]; simp only [List.length_nil]; omega) (fun J2 h3 => ?_)
            rw [hJ1.1 32 (by omega)] at h3
            rw [hJ1.1 32 (by omega)]
            rw [e3] at h3
            have hJ2 := RS_app (q := G2 (I 32) z (tst (I 32) z i)) hJ1 rfl h3
            have hq := hgo (I 32) z _ hT2
            have htj := tkd_lt (b := I 32) (z := z) (i := (G2 (I 32) z (tst (I 32) z i)).2.1)
            refine r_if_eq (fun c_120 => ?_) (fun c_120 => ?_)
            · refine E_go 7 rfl ?_
              refine r_iconst ?_
              refine r_iret rfl (by first | exact Or.inl rfl | exact Or.inr rfl) ?_
              first
              | (have hx := qib (hQ _) (pAt_p3 (by omega) (bi_0.mp c_120)) hJ2
                 rw [c_120] at hx
                 exact hx)
              | (have hx := qib (hQ _) (pAt_p2 (by omega) (bi_n.mp c_120) c_129) (RS_fl hJ2)
                 exact hx)
            · refine r_aload_n rfl ?_
              refine r_getI (by decide) rfl rfl (by decide) hJ2.2.2.1.2.2.1 ?_
              refine r_bipush ?_
              refine r_icmp_eq (fun c_129 => ?_) (fun c_129 => ?_)
              · have c_129 := (n_eq (a := (tkd (I 32) z (G2 (I 32) z (tst (I 32) z i)).2.1)) (b := 41) rfl rfl (by omega) (by omega)).mp c_129
                refine E_go 8 rfl ?_
                refine r_aload_n rfl ?_
                refine r_virtual (vs := []) (as := []) (by decide) (zl rfl) rfl rfl (zl rfl) (Nat.le_refl _) (Or.inr (Or.inr ⟨zt rfl, rfl, zt rfl⟩)) ?_
                have hq1 := bi_n.mp c_120
                have hT3 := tst_z (b := I 32) hq.1.2
                refine s_steps (by omega) (i := tst (I 32) z (G2 (I 32) z (tst (I 32) z i)).2.1) (z := z) (by rw [hJ2.2.1]; exact hz) h160 hT3 hJ2.2.2.1.1 (fun J3 h31 h32 => ?_)
                rw [hJ2.1 32 (by omega)] at h32
                have hJ3 := RS_t hJ2 h31 h32
                refine r_iconst ?_
                refine r_iret rfl (by first | exact Or.inl rfl | exact Or.inr rfl) ?_
                have hx := qib (hQ _) (pAt_p1 (by omega) hq1 c_129) (by have hy := hJ3; rw [hq1] at hy; exact hy)
                exact hx
              · have c_129 := (not_congr (n_eq (a := (tkd (I 32) z (G2 (I 32) z (tst (I 32) z i)).2.1)) (b := 41) rfl rfl (by omega) (by omega))).mp c_129
                refine r_nil ?_
                refine E_go 7 rfl ?_
                refine r_iconst ?_
                refine r_iret rfl (by first | exact Or.inl rfl | exact Or.inr rfl) ?_
                first
                | (have hx := qib (hQ _) (pAt_p3 (by omega) (bi_0.mp c_120)) hJ2
                   rw [c_120] at hx
                   exact hx)
                | (have hx := qib (hQ _) (pAt_p2 (by omega) (bi_n.mp c_120) c_129) (RS_fl hJ2)
                   exact hx)
          · have c_86 := (n_eq (a := (tkd (I 32) z i)) (b := 45) rfl rfl (by omega) (by omega)).mp c_86
            refine r_aload_n rfl ?_
            refine r_virtual (vs := []) (as := []) (by decide) (zl rfl) rfl rfl (zl rfl) (Nat.le_refl _) (Or.inr (Or.inr ⟨zt rfl, rfl, zt rfl⟩)) ?_
            have hJ0 := RS_0 (b := true) hk hu (by omega)
            have hT := tst_lt (b := I 32) hi (by omega : ¬ tkd (I 32) z i = 0)
            have hT2 := tst_z (b := I 32) hi
            refine s_steps (by omega) (i := tst (I 32) z i) (z := z) (by rw [hJ0.2.1]; exact hz) h160 hT2 hJ0.2.2.1.1 (fun J1 h1 h2 => ?_)
            rw [hJ0.1 32 (by omega)] at h2
            have hJ1 := RS_t hJ0 h1 h2
            obtain ⟨v1, e1, e2, e3⟩ := RS_v hJ1
            have e3 := e3 rfl
            dsimp only at e3
            refine r_aload_n rfl ?_
            refine r_iload_n rfl ?_
            refine r_iconst ?_
            refine r_iadd ?_
            refine r_virtual (vs := []) (as := [_]) (by decide) (zl rfl) rfl rfl (zl rfl) (Nat.le_refl _) (Or.inr (Or.inr ⟨zt rfl, rfl, zt rfl⟩)) ?_
            rw [io_succ o]
            refine hdp J1 L _ (tst (I 32) z i) v1 z (by rw [hJ1.2.1]; exact hz) h160 hT2 (by rw [hJ1.1 32 (by omega)]; exact h2) e2 (by rw [e3]; simp only [List.length_nil]; omega) (fun J2 h3 => ?_)
            rw [hJ1.1 32 (by omega)] at h3
            rw [hJ1.1 32 (by omega)]
            rw [e3] at h3
            have hJ2 := RS_app (q := G (I 32) z (tst (I 32) z i)) hJ1 rfl h3
            have hq := hgd (I 32) z _ hT2
            have htj := tkd_lt (b := I 32) (z := z) (i := (G (I 32) z (tst (I 32) z i)).2.1)
            refine r_istore_n (ls' := [_, _, _]) (zt rfl) rfl ?_
            refine r_aload_n rfl ?_
            refine r_bipush ?_
            refine r_virtual (vs := []) (as := [_]) (by decide) (zl rfl) rfl rfl (zl rfl) (Nat.le_refl _) (Or.inr (Or.inr ⟨zt rfl, rfl, zt rfl⟩)) ?_
            refine w_word (w := -9) (by omega) hJ2 (fun hb1 => ?_) (fun K hK => ?_)
            · rw [List.length_append]; dsimp only [List.length_nil]; omega
            refine r_iload_n rfl ?_
            refine r_iret rfl (bi_01 _) ?_
            have hx := qib (hQ _) (pAt_m (by omega)) hK
            exact hx
        · have c_75 := (not_congr (n_lt (a := o) (b := 5) rfl rfl (by omega) (by omega))).mp c_75
          exact absurd hd5 c_75
      · have c_61 := (not_congr (n_eq (a := (tkd (I 32) z i)) (b := 45) rfl rfl (by omega) (by omega))).mp c_61
        refine r_aload_n rfl ?_
        refine r_getI (by decide) rfl rfl (by decide) hk.2.2.1 ?_
        refine r_bipush ?_
        refine r_icmp_ne (fun c_70 => ?_) (fun c_70 => ?_)
        · have c_70 := (not_congr (n_eq (a := (tkd (I 32) z i)) (b := 40) rfl rfl (by omega) (by omega))).mp c_70
          refine E_go 4 rfl ?_
          refine r_iconst ?_
          refine r_iret rfl (by first | exact Or.inl rfl | exact Or.inr rfl) ?_
          have hx := qib (hQ _) (pAt_f c_5 (by omega) (by omega) (by omega)) (RS_0 hk hu (by omega))
          exact hx
        · have c_70 := (n_eq (a := (tkd (I 32) z i)) (b := 40) rfl rfl (by omega) (by omega)).mp c_70
          refine r_nil ?_
          refine E_go 3 rfl ?_
          refine r_iload_n rfl ?_
          refine r_iconst ?_
          refine r_icmp_lt (fun c_75 => ?_) (fun c_75 => ?_)
          · have c_75 := (n_lt (a := o) (b := 5) rfl rfl (by omega) (by omega)).mp c_75
            refine E_go 5 rfl ?_
            refine r_aload_n rfl ?_
            refine r_getI (by decide) rfl rfl (by decide) hk.2.2.1 ?_
            refine r_bipush ?_
            refine r_icmp_ne (fun c_86 => ?_) (fun c_86 => ?_)
            · have c_86 := (not_congr (n_eq (a := (tkd (I 32) z i)) (b := 45) rfl rfl (by omega) (by omega))).mp c_86
              refine E_go 6 rfl ?_
              refine r_aload_n rfl ?_
              refine r_virtual (vs := []) (as := []) (by decide) (zl rfl) rfl rfl (zl rfl) (Nat.le_refl _) (Or.inr (Or.inr ⟨zt rfl, rfl, zt rfl⟩)) ?_
              have hJ0 := RS_0 (b := true) hk hu (by omega)
              have hT := tst_lt (b := I 32) hi (by omega : ¬ tkd (I 32) z i = 0)
              have hT2 := tst_z (b := I 32) hi
              refine s_steps (by omega) (i := tst (I 32) z i) (z := z) (by rw [hJ0.2.1]; exact hz) h160 hT2 hJ0.2.2.1.1 (fun J1 h1 h2 => ?_)
              rw [hJ0.1 32 (by omega)] at h2
              have hJ1 := RS_t hJ0 h1 h2
              obtain ⟨v1, e1, e2, e3⟩ := RS_v hJ1
              have e3 := e3 rfl
              dsimp only at e3
              refine r_aload_n rfl ?_
              refine r_iload_n rfl ?_
              refine r_iconst ?_
              refine r_iadd ?_
              refine r_virtual (vs := []) (as := [_]) (by decide) (zl rfl) rfl rfl (zl rfl) (Nat.le_refl _) (Or.inr (Or.inr ⟨zt rfl, rfl, zt rfl⟩)) ?_
              rw [io_succ o]
              refine hdo J1 L _ (tst (I 32) z i) v1 z (by rw [hJ1.2.1]; exact hz) h160 hT2 (by rw [hJ1.1 32 (by omega)]; exact h2) e2 (by rw [e3]; simp only [List.length_nil]; omega) (fun J2 h3 => ?_)
              rw [hJ1.1 32 (by omega)] at h3
              rw [hJ1.1 32 (by omega)]
              rw [e3] at h3
              have hJ2 := RS_app (q := G2 (I 32) z (tst (I 32) z i)) hJ1 rfl h3
              have hq := hgo (I 32) z _ hT2
              have htj := tkd_lt (b := I 32) (z := z) (i := (G2 (I 32) z (tst (I 32) z i)).2.1)
              refine r_if_eq (fun c_120 => ?_) (fun c_120 => ?_)
              · refine E_go 7 rfl ?_
                refine r_iconst ?_
                refine r_iret rfl (by first | exact Or.inl rfl | exact Or.inr rfl) ?_
                first
                | (have hx := qib (hQ _) (pAt_p3 (by omega) (bi_0.mp c_120)) hJ2
                   rw [c_120] at hx
                   exact hx)
                | (have hx := qib (hQ _) (pAt_p2 (by omega) (bi_n.mp c_120) c_129) (RS_fl hJ2)
                   exact hx)
              · refine r_aload_n rfl ?_
                refine r_getI (by decide) rfl rfl (by decide) hJ2.2.2.1.2.2.1 ?_
                refine r_bipush ?_
                refine r_icmp_eq (fun c_129 => ?_) (fun c_129 => ?_)
                · have c_129 := (n_eq (a := (tkd (I 32) z (G2 (I 32) z (tst (I 32) z i)).2.1)) (b := 41) rfl rfl (by omega) (by omega)).mp c_129
                  refine E_go 8 rfl ?_
                  refine r_aload_n rfl ?_
                  refine r_virtual (vs := []) (as := []) (by decide) (zl rfl) rfl rfl (zl rfl) (Nat.le_refl _) (Or.inr (Or.inr ⟨zt rfl, rfl, zt rfl⟩)) ?_
                  have hq1 := bi_n.mp c_120
                  have hT3 := tst_z (b := I 32) hq.1.2
                  refine s_steps (by omega) (i := tst (I 32) z (G2 (I 32) z (tst (I 32) z i)).2.1) (z := z) (by rw [hJ2.2.1]; exact hz) h160 hT3 hJ2.2.2.1.1 (fun J3 h31 h32 => ?_)
                  rw [hJ2.1 32 (by omega)] at h32
                  have hJ3 := RS_t hJ2 h31 h32
                  refine r_iconst ?_
                  refine r_iret rfl (by first | exact Or.inl rfl | exact Or.inr rfl) ?_
                  have hx := qib (hQ _) (pAt_p1 (by omega) hq1 c_129) (by have hy := hJ3; rw [hq1] at hy; exact hy)
                  exact hx
                · have c_129 := (not_congr (n_eq (a := (tkd (I 32) z (G2 (I 32) z (tst (I 32) z i)).2.1)) (b := 41) rfl rfl (by omega) (by omega))).mp c_129
                  refine r_nil ?_
                  refine E_go 7 rfl ?_
                  refine r_iconst ?_
                  refine r_iret rfl (by first | exact Or.inl rfl | exact Or.inr rfl) ?_
                  first
                  | (have hx := qib (hQ _) (pAt_p3 (by omega) (bi_0.mp c_120)) hJ2
                     rw [c_120] at hx
                     exact hx)
                  | (have hx := qib (hQ _) (pAt_p2 (by omega) (bi_n.mp c_120) c_129) (RS_fl hJ2)
                     exact hx)
            · have c_86 := (n_eq (a := (tkd (I 32) z i)) (b := 45) rfl rfl (by omega) (by omega)).mp c_86
              refine r_aload_n rfl ?_
              refine r_virtual (vs := []) (as := []) (by decide) (zl rfl) rfl rfl (zl rfl) (Nat.le_refl _) (Or.inr (Or.inr ⟨zt rfl, rfl, zt rfl⟩)) ?_
              have hJ0 := RS_0 (b := true) hk hu (by omega)
              have hT := tst_lt (b := I 32) hi (by omega : ¬ tkd (I 32) z i = 0)
              have hT2 := tst_z (b := I 32) hi
              refine s_steps (by omega) (i := tst (I 32) z i) (z := z) (by rw [hJ0.2.1]; exact hz) h160 hT2 hJ0.2.2.1.1 (fun J1 h1 h2 => ?_)
              rw [hJ0.1 32 (by omega)] at h2
              have hJ1 := RS_t hJ0 h1 h2
              obtain ⟨v1, e1, e2, e3⟩ := RS_v hJ1
              have e3 := e3 rfl
              dsimp only at e3
              refine r_aload_n rfl ?_
              refine r_iload_n rfl ?_
              refine r_iconst ?_
              refine r_iadd ?_
              refine r_virtual (vs := []) (as := [_]) (by decide) (zl rfl) rfl rfl (zl rfl) (Nat.le_refl _) (Or.inr (Or.inr ⟨zt rfl, rfl, zt rfl⟩)) ?_
              rw [io_succ o]
              refine hdp J1 L _ (tst (I 32) z i) v1 z (by rw [hJ1.2.1]; exact hz) h160 hT2 (by rw [hJ1.1 32 (by omega)]; exact h2) e2 (by rw [e3]; simp only [List.length_nil]; omega) (fun J2 h3 => ?_)
              rw [hJ1.1 32 (by omega)] at h3
              rw [hJ1.1 32 (by omega)]
              rw [e3] at h3
              have hJ2 := RS_app (q := G (I 32) z (tst (I 32) z i)) hJ1 rfl h3
              have hq := hgd (I 32) z _ hT2
              have htj := tkd_lt (b := I 32) (z := z) (i := (G (I 32) z (tst (I 32) z i)).2.1)
              refine r_istore_n (ls' := [_, _, _]) (zt rfl) rfl ?_
              refine r_aload_n rfl ?_
              refine r_bipush ?_
              refine r_virtual (vs := []) (as := [_]) (by decide) (zl rfl) rfl rfl (zl rfl) (Nat.le_refl _) (Or.inr (Or.inr ⟨zt rfl, rfl, zt rfl⟩)) ?_
              refine w_word (w := -9) (by omega) hJ2 (fun hb1 => ?_) (fun K hK => ?_)
              · rw [List.length_append]; dsimp only [List.length_nil]; omega
              refine r_iload_n rfl ?_
              refine r_iret rfl (bi_01 _) ?_
              have hx := qib (hQ _) (pAt_m (by omega)) hK
              exact hx
          · have c_75 := (not_congr (n_lt (a := o) (b := 5) rfl rfl (by omega) (by omega))).mp c_75
            exact absurd hd5 c_75
    · have c_28 := (not_congr (n_lt (a := (tkd (I 32) z i)) (b := 10) rfl rfl (by omega) (by omega))).mp c_28
      refine r_aload_n rfl ?_
      refine r_getI (by decide) rfl rfl (by decide) hk.2.2.1 ?_
      refine r_bipush ?_
      refine r_icmp_ge (fun c_37 => ?_) (fun c_37 => ?_)
      · have c_37 := (n_le (a := 16) (b := (tkd (I 32) z i)) rfl rfl (by omega) (by omega)).mp c_37
        refine E_go 2 rfl ?_
        refine r_aload_n rfl ?_
        refine r_getI (by decide) rfl rfl (by decide) hk.2.2.1 ?_
        refine r_bipush ?_
        refine r_icmp_eq (fun c_61 => ?_) (fun c_61 => ?_)
        · have c_61 := (n_eq (a := (tkd (I 32) z i)) (b := 45) rfl rfl (by omega) (by omega)).mp c_61
          refine E_go 3 rfl ?_
          refine r_iload_n rfl ?_
          refine r_iconst ?_
          refine r_icmp_lt (fun c_75 => ?_) (fun c_75 => ?_)
          · have c_75 := (n_lt (a := o) (b := 5) rfl rfl (by omega) (by omega)).mp c_75
            refine E_go 5 rfl ?_
            refine r_aload_n rfl ?_
            refine r_getI (by decide) rfl rfl (by decide) hk.2.2.1 ?_
            refine r_bipush ?_
            refine r_icmp_ne (fun c_86 => ?_) (fun c_86 => ?_)
            · have c_86 := (not_congr (n_eq (a := (tkd (I 32) z i)) (b := 45) rfl rfl (by omega) (by omega))).mp c_86
              refine E_go 6 rfl ?_
              refine r_aload_n rfl ?_
              refine r_virtual (vs := []) (as := []) (by decide) (zl rfl) rfl rfl (zl rfl) (Nat.le_refl _) (Or.inr (Or.inr ⟨zt rfl, rfl, zt rfl⟩)) ?_
              have hJ0 := RS_0 (b := true) hk hu (by omega)
              have hT := tst_lt (b := I 32) hi (by omega : ¬ tkd (I 32) z i = 0)
              have hT2 := tst_z (b := I 32) hi
              refine s_steps (by omega) (i := tst (I 32) z i) (z := z) (by rw [hJ0.2.1]; exact hz) h160 hT2 hJ0.2.2.1.1 (fun J1 h1 h2 => ?_)
              rw [hJ0.1 32 (by omega)] at h2
              have hJ1 := RS_t hJ0 h1 h2
              obtain ⟨v1, e1, e2, e3⟩ := RS_v hJ1
              have e3 := e3 rfl
              dsimp only at e3
              refine r_aload_n rfl ?_
              refine r_iload_n rfl ?_
              refine r_iconst ?_
              refine r_iadd ?_
              refine r_virtual (vs := []) (as := [_]) (by decide) (zl rfl) rfl rfl (zl rfl) (Nat.le_refl _) (Or.inr (Or.inr ⟨zt rfl, rfl, zt rfl⟩)) ?_
              rw [io_succ o]
              refine hdo J1 L _ (tst (I 32) z i) v1 z (by rw [hJ1.2.1]; exact hz) h160 hT2 (by rw [hJ1.1 32 (by omega)]; exact h2) e2 (by rw [e3]; simp only [List.length_nil]; omega) (fun J2 h3 => ?_)
              rw [hJ1.1 32 (by omega)] at h3
              rw [hJ1.1 32 (by omega)]
              rw [e3] at h3
              have hJ2 := RS_app (q := G2 (I 32) z (tst (I 32) z i)) hJ1 rfl h3
              have hq := hgo (I 32) z _ hT2
              have htj := tkd_lt (b := I 32) (z := z) (i := (G2 (I 32) z (tst (I 32) z i)).2.1)
              refine r_if_eq (fun c_120 => ?_) (fun c_120 => ?_)
              · refine E_go 7 rfl ?_
                refine r_iconst ?_
                refine r_iret rfl (by first | exact Or.inl rfl | exact Or.inr rfl) ?_
                first
                | (have hx := qib (hQ _) (pAt_p3 (by omega) (bi_0.mp c_120)) hJ2
                   rw [c_120] at hx
                   exact hx)
                | (have hx := qib (hQ _) (pAt_p2 (by omega) (bi_n.mp c_120) c_129) (RS_fl hJ2)
                   exact hx)
              · refine r_aload_n rfl ?_
                refine r_getI (by decide) rfl rfl (by decide) hJ2.2.2.1.2.2.1 ?_
                refine r_bipush ?_
                refine r_icmp_eq (fun c_129 => ?_) (fun c_129 => ?_)
                · have c_129 := (n_eq (a := (tkd (I 32) z (G2 (I 32) z (tst (I 32) z i)).2.1)) (b := 41) rfl rfl (by omega) (by omega)).mp c_129
                  refine E_go 8 rfl ?_
                  refine r_aload_n rfl ?_
                  refine r_virtual (vs := []) (as := []) (by decide) (zl rfl) rfl rfl (zl rfl) (Nat.le_refl _) (Or.inr (Or.inr ⟨zt rfl, rfl, zt rfl⟩)) ?_
                  have hq1 := bi_n.mp c_120
                  have hT3 := tst_z (b := I 32) hq.1.2
                  refine s_steps (by omega) (i := tst (I 32) z (G2 (I 32) z (tst (I 32) z i)).2.1) (z := z) (by rw [hJ2.2.1]; exact hz) h160 hT3 hJ2.2.2.1.1 (fun J3 h31 h32 => ?_)
                  rw [hJ2.1 32 (by omega)] at h32
                  have hJ3 := RS_t hJ2 h31 h32
                  refine r_iconst ?_
                  refine r_iret rfl (by first | exact Or.inl rfl | exact Or.inr rfl) ?_
                  have hx := qib (hQ _) (pAt_p1 (by omega) hq1 c_129) (by have hy := hJ3; rw [hq1] at hy; exact hy)
                  exact hx
                · have c_129 := (not_congr (n_eq (a := (tkd (I 32) z (G2 (I 32) z (tst (I 32) z i)).2.1)) (b := 41) rfl rfl (by omega) (by omega))).mp c_129
                  refine r_nil ?_
                  refine E_go 7 rfl ?_
                  refine r_iconst ?_
                  refine r_iret rfl (by first | exact Or.inl rfl | exact Or.inr rfl) ?_
                  first
                  | (have hx := qib (hQ _) (pAt_p3 (by omega) (bi_0.mp c_120)) hJ2
                     rw [c_120] at hx
                     exact hx)
                  | (have hx := qib (hQ _) (pAt_p2 (by omega) (bi_n.mp c_120) c_129) (RS_fl hJ2)
                     exact hx)
            · have c_86 := (n_eq (a := (tkd (I 32) z i)) (b := 45) rfl rfl (by omega) (by omega)).mp c_86
              refine r_aload_n rfl ?_
              refine r_virtual (vs := []) (as := []) (by decide) (zl rfl) rfl rfl (zl rfl) (Nat.le_refl _) (Or.inr (Or.inr ⟨zt rfl, rfl, zt rfl⟩)) ?_
              have hJ0 := RS_0 (b := true) hk hu (by omega)
              have hT := tst_lt (b := I 32) hi (by omega : ¬ tkd (I 32) z i = 0)
              have hT2 := tst_z (b := I 32) hi
              refine s_steps (by omega) (i := tst (I 32) z i) (z := z) (by rw [hJ0.2.1]; exact hz) h160 hT2 hJ0.2.2.1.1 (fun J1 h1 h2 => ?_)
              rw [hJ0.1 32 (by omega)] at h2
              have hJ1 := RS_t hJ0 h1 h2
              obtain ⟨v1, e1, e2, e3⟩ := RS_v hJ1
              have e3 := e3 rfl
              dsimp only at e3
              refine r_aload_n rfl ?_
              refine r_iload_n rfl ?_
              refine r_iconst ?_
              refine r_iadd ?_
              refine r_virtual (vs := []) (as := [_]) (by decide) (zl rfl) rfl rfl (zl rfl) (Nat.le_refl _) (Or.inr (Or.inr ⟨zt rfl, rfl, zt rfl⟩)) ?_
              rw [io_succ o]
              refine hdp J1 L _ (tst (I 32) z i) v1 z (by rw [hJ1.2.1]; exact hz) h160 hT2 (by rw [hJ1.1 32 (by omega)]; exact h2) e2 (by rw [e3]; simp only [List.length_nil]; omega) (fun J2 h3 => ?_)
              rw [hJ1.1 32 (by omega)] at h3
              rw [hJ1.1 32 (by omega)]
              rw [e3] at h3
              have hJ2 := RS_app (q := G (I 32) z (tst (I 32) z i)) hJ1 rfl h3
              have hq := hgd (I 32) z _ hT2
              have htj := tkd_lt (b := I 32) (z := z) (i := (G (I 32) z (tst (I 32) z i)).2.1)
              refine r_istore_n (ls' := [_, _, _]) (zt rfl) rfl ?_
              refine r_aload_n rfl ?_
              refine r_bipush ?_
              refine r_virtual (vs := []) (as := [_]) (by decide) (zl rfl) rfl rfl (zl rfl) (Nat.le_refl _) (Or.inr (Or.inr ⟨zt rfl, rfl, zt rfl⟩)) ?_
              refine w_word (w := -9) (by omega) hJ2 (fun hb1 => ?_) (fun K hK => ?_)
              · rw [List.length_append]; dsimp only [List.length_nil]; omega
              refine r_iload_n rfl ?_
              refine r_iret rfl (bi_01 _) ?_
              have hx := qib (hQ _) (pAt_m (by omega)) hK
              exact hx
          · have c_75 := (not_congr (n_lt (a := o) (b := 5) rfl rfl (by omega) (by omega))).mp c_75
            exact absurd hd5 c_75
        · have c_61 := (not_congr (n_eq (a := (tkd (I 32) z i)) (b := 45) rfl rfl (by omega) (by omega))).mp c_61
          refine r_aload_n rfl ?_
          refine r_getI (by decide) rfl rfl (by decide) hk.2.2.1 ?_
          refine r_bipush ?_
          refine r_icmp_ne (fun c_70 => ?_) (fun c_70 => ?_)
          · have c_70 := (not_congr (n_eq (a := (tkd (I 32) z i)) (b := 40) rfl rfl (by omega) (by omega))).mp c_70
            refine E_go 4 rfl ?_
            refine r_iconst ?_
            refine r_iret rfl (by first | exact Or.inl rfl | exact Or.inr rfl) ?_
            have hx := qib (hQ _) (pAt_f c_5 (by omega) (by omega) (by omega)) (RS_0 hk hu (by omega))
            exact hx
          · have c_70 := (n_eq (a := (tkd (I 32) z i)) (b := 40) rfl rfl (by omega) (by omega)).mp c_70
            refine r_nil ?_
            refine E_go 3 rfl ?_
            refine r_iload_n rfl ?_
            refine r_iconst ?_
            refine r_icmp_lt (fun c_75 => ?_) (fun c_75 => ?_)
            · have c_75 := (n_lt (a := o) (b := 5) rfl rfl (by omega) (by omega)).mp c_75
              refine E_go 5 rfl ?_
              refine r_aload_n rfl ?_
              refine r_getI (by decide) rfl rfl (by decide) hk.2.2.1 ?_
              refine r_bipush ?_
              refine r_icmp_ne (fun c_86 => ?_) (fun c_86 => ?_)
              · have c_86 := (not_congr (n_eq (a := (tkd (I 32) z i)) (b := 45) rfl rfl (by omega) (by omega))).mp c_86
                refine E_go 6 rfl ?_
                refine r_aload_n rfl ?_
                refine r_virtual (vs := []) (as := []) (by decide) (zl rfl) rfl rfl (zl rfl) (Nat.le_refl _) (Or.inr (Or.inr ⟨zt rfl, rfl, zt rfl⟩)) ?_
                have hJ0 := RS_0 (b := true) hk hu (by omega)
                have hT := tst_lt (b := I 32) hi (by omega : ¬ tkd (I 32) z i = 0)
                have hT2 := tst_z (b := I 32) hi
                refine s_steps (by omega) (i := tst (I 32) z i) (z := z) (by rw [hJ0.2.1]; exact hz) h160 hT2 hJ0.2.2.1.1 (fun J1 h1 h2 => ?_)
                rw [hJ0.1 32 (by omega)] at h2
                have hJ1 := RS_t hJ0 h1 h2
                obtain ⟨v1, e1, e2, e3⟩ := RS_v hJ1
                have e3 := e3 rfl
                dsimp only at e3
                refine r_aload_n rfl ?_
                refine r_iload_n rfl ?_
                refine r_iconst ?_
                refine r_iadd ?_
                refine r_virtual (vs := []) (as := [_]) (by decide) (zl rfl) rfl rfl (zl rfl) (Nat.le_refl _) (Or.inr (Or.inr ⟨zt rfl, rfl, zt rfl⟩)) ?_
                rw [io_succ o]
                refine hdo J1 L _ (tst (I 32) z i) v1 z (by rw [hJ1.2.1]; exact hz) h160 hT2 (by rw [hJ1.1 32 (by omega)]; exact h2) e2 (by rw [e3]; simp only [List.length_nil]; omega) (fun J2 h3 => ?_)
                rw [hJ1.1 32 (by omega)] at h3
                rw [hJ1.1 32 (by omega)]
                rw [e3] at h3
                have hJ2 := RS_app (q := G2 (I 32) z (tst (I 32) z i)) hJ1 rfl h3
                have hq := hgo (I 32) z _ hT2
                have htj := tkd_lt (b := I 32) (z := z) (i := (G2 (I 32) z (tst (I 32) z i)).2.1)
                refine r_if_eq (fun c_120 => ?_) (fun c_120 => ?_)
                · refine E_go 7 rfl ?_
                  refine r_iconst ?_
                  refine r_iret rfl (by first | exact Or.inl rfl | exact Or.inr rfl) ?_
                  first
                  | (have hx := qib (hQ _) (pAt_p3 (by omega) (bi_0.mp c_120)) hJ2
                     rw [c_120] at hx
                     exact hx)
                  | (have hx := qib (hQ _) (pAt_p2 (by omega) (bi_n.mp c_120) c_129) (RS_fl hJ2)
                     exact hx)
                · refine r_aload_n rfl ?_
                  refine r_getI (by decide) rfl rfl (by decide) hJ2.2.2.1.2.2.1 ?_
                  refine r_bipush ?_
                  refine r_icmp_eq (fun c_129 => ?_) (fun c_129 => ?_)
                  · have c_129 := (n_eq (a := (tkd (I 32) z (G2 (I 32) z (tst (I 32) z i)).2.1)) (b := 41) rfl rfl (by omega) (by omega)).mp c_129
                    refine E_go 8 rfl ?_
                    refine r_aload_n rfl ?_
                    refine r_virtual (vs := []) (as := []) (by decide) (zl rfl) rfl rfl (zl rfl) (Nat.le_refl _) (Or.inr (Or.inr ⟨zt rfl, rfl, zt rfl⟩)) ?_
                    have hq1 := bi_n.mp c_120
                    have hT3 := tst_z (b := I 32) hq.1.2
                    refine s_steps (by omega) (i := tst (I 32) z (G2 (I 32) z (tst (I 32) z i)).2.1) (z := z) (by rw [hJ2.2.1]; exact hz) h160 hT3 hJ2.2.2.1.1 (fun J3 h31 h32 => ?_)
                    rw [hJ2.1 32 (by omega)] at h32
                    have hJ3 := RS_t hJ2 h31 h32
                    refine r_iconst ?_
                    refine r_iret rfl (by first | exact Or.inl rfl | exact Or.inr rfl) ?_
                    have hx := qib (hQ _) (pAt_p1 (by omega) hq1 c_129) (by have hy := hJ3; rw [hq1] at hy; exact hy)
                    exact hx
                  · have c_129 := (not_congr (n_eq (a := (tkd (I 32) z (G2 (I 32) z (tst (I 32) z i)).2.1)) (b := 41) rfl rfl (by omega) (by omega))).mp c_129
                    refine r_nil ?_
                    refine E_go 7 rfl ?_
                    refine r_iconst ?_
                    refine r_iret rfl (by first | exact Or.inl rfl | exact Or.inr rfl) ?_
                    first
                    | (have hx := qib (hQ _) (pAt_p3 (by omega) (bi_0.mp c_120)) hJ2
                       rw [c_120] at hx
                       exact hx)
                    | (have hx := qib (hQ _) (pAt_p2 (by omega) (bi_n.mp c_120) c_129) (RS_fl hJ2)
                       exact hx)
              · have c_86 := (n_eq (a := (tkd (I 32) z i)) (b := 45) rfl rfl (by omega) (by omega)).mp c_86
                refine r_aload_n rfl ?_
                refine r_virtual (vs := []) (as := []) (by decide) (zl rfl) rfl rfl (zl rfl) (Nat.le_refl _) (Or.inr (Or.inr ⟨zt rfl, rfl, zt rfl⟩)) ?_
                have hJ0 := RS_0 (b := true) hk hu (by omega)
                have hT := tst_lt (b := I 32) hi (by omega : ¬ tkd (I 32) z i = 0)
                have hT2 := tst_z (b := I 32) hi
                refine s_steps (by omega) (i := tst (I 32) z i) (z := z) (by rw [hJ0.2.1]; exact hz) h160 hT2 hJ0.2.2.1.1 (fun J1 h1 h2 => ?_)
                rw [hJ0.1 32 (by omega)] at h2
                have hJ1 := RS_t hJ0 h1 h2
                obtain ⟨v1, e1, e2, e3⟩ := RS_v hJ1
                have e3 := e3 rfl
                dsimp only at e3
                refine r_aload_n rfl ?_
                refine r_iload_n rfl ?_
                refine r_iconst ?_
                refine r_iadd ?_
                refine r_virtual (vs := []) (as := [_]) (by decide) (zl rfl) rfl rfl (zl rfl) (Nat.le_refl _) (Or.inr (Or.inr ⟨zt rfl, rfl, zt rfl⟩)) ?_
                rw [io_succ o]
                refine hdp J1 L _ (tst (I 32) z i) v1 z (by rw [hJ1.2.1]; exact hz) h160 hT2 (by rw [hJ1.1 32 (by omega)]; exact h2) e2 (by rw [e3]; simp only [List.length_nil]; omega) (fun J2 h3 => ?_)
                rw [hJ1.1 32 (by omega)] at h3
                rw [hJ1.1 32 (by omega)]
                rw [e3] at h3
                have hJ2 := RS_app (q := G (I 32) z (tst (I 32) z i)) hJ1 rfl h3
                have hq := hgd (I 32) z _ hT2
                have htj := tkd_lt (b := I 32) (z := z) (i := (G (I 32) z (tst (I 32) z i)).2.1)
                refine r_istore_n (ls' := [_, _, _]) (zt rfl) rfl ?_
                refine r_aload_n rfl ?_
                refine r_bipush ?_
                refine r_virtual (vs := []) (as := [_]) (by decide) (zl rfl) rfl rfl (zl rfl) (Nat.le_refl _) (Or.inr (Or.inr ⟨zt rfl, rfl, zt rfl⟩)) ?_
                refine w_word (w := -9) (by omega) hJ2 (fun hb1 => ?_) (fun K hK => ?_)
                · rw [List.length_append]; dsimp only [List.length_nil]; omega
                refine r_iload_n rfl ?_
                refine r_iret rfl (bi_01 _) ?_
                have hx := qib (hQ _) (pAt_m (by omega)) hK
                exact hx
            · have c_75 := (not_congr (n_lt (a := o) (b := 5) rfl rfl (by omega) (by omega))).mp c_75
              exact absurd hd5 c_75
      · have c_37 := (not_congr (n_le (a := 16) (b := (tkd (I 32) z i)) rfl rfl (by omega) (by omega))).mp c_37
        refine r_aload_n rfl ?_
        refine r_aload_n rfl ?_
        refine r_getI (by decide) rfl rfl (by decide) hk.2.2.1 ?_
        refine r_ineg ?_
        refine r_virtual (vs := []) (as := [_]) (by decide) (zl rfl) rfl rfl (zl rfl) (Nat.le_refl _) (Or.inr (Or.inr ⟨zt rfl, rfl, zt rfl⟩)) ?_
        have hT := tst_lt (b := I 32) hi (by omega : ¬ tkd (I 32) z i = 0)
        have hT2 := tst_z (b := I 32) hi
        refine w_word (w := (-(io (tkd (I 32) z i)))) (by omega) (RS_0 (b := true) hk hu (by omega)) (fun hb1 => ?_) (fun K hK => ?_)
        · dsimp only [List.length_nil]; omega
        refine r_aload_n rfl ?_
        refine r_virtual (vs := []) (as := []) (by decide) (zl rfl) rfl rfl (zl rfl) (Nat.le_refl _) (Or.inr (Or.inr ⟨zt rfl, rfl, zt rfl⟩)) ?_
        refine s_steps (by omega) (i := tst (I 32) z i) (z := z) (by rw [hK.2.1]; exact hz) h160 hT2 hK.2.2.1.1 (fun J1 h1 h2 => ?_)
        rw [hK.1 32 (by omega)] at h2
        have hJ1 := RS_t hK h1 h2
        refine r_iconst ?_
        refine r_iret rfl (by first | exact Or.inl rfl | exact Or.inr rfl) ?_
        have hx := qib (hQ _) (pAt_n (by omega) (by omega)) hJ1
        exact hx
  · have c_5 := (n_eq (a := (tkd (I 32) z i)) (b := 2) rfl rfl (by omega) (by omega)).mp c_5
    refine r_aload_n rfl ?_
    refine r_aload_n rfl ?_
    refine r_getI (by decide) rfl rfl (by decide) (hk.2.2.2 c_5) ?_
    refine r_virtual (vs := []) (as := [_]) (by decide) (zl rfl) rfl rfl (zl rfl) (Nat.le_refl _) (Or.inr (Or.inr ⟨zt rfl, rfl, zt rfl⟩)) ?_
    have hT := tst_lt (b := I 32) hi (by omega : ¬ tkd (I 32) z i = 0)
    have hT2 := tst_z (b := I 32) hi
    refine w_word (w := (twt (I 32) z i)) (by omega) (RS_0 (b := true) hk hu (by omega)) (fun hb1 => ?_) (fun K hK => ?_)
    · dsimp only [List.length_nil]; omega
    refine r_aload_n rfl ?_
    refine r_virtual (vs := []) (as := []) (by decide) (zl rfl) rfl rfl (zl rfl) (Nat.le_refl _) (Or.inr (Or.inr ⟨zt rfl, rfl, zt rfl⟩)) ?_
    refine s_steps (by omega) (i := tst (I 32) z i) (z := z) (by rw [hK.2.1]; exact hz) h160 hT2 hK.2.2.1.1 (fun J1 h1 h2 => ?_)
    rw [hK.1 32 (by omega)] at h2
    have hJ1 := RS_t hK h1 h2
    refine r_iconst ?_
    refine r_iret rfl (by first | exact Or.inl rfl | exact Or.inr rfl) ?_
    have hx := qib (hQ _) (pAt_2 c_5) hJ1
    exact hx

def gA (d : Nat) : PFn := fun b z => qA (tkd b z) (tst b z) (twt b z) d
def gN (d : Nat) : PFn := fun b z => qN (tkd b z) (tst b z) (twt b z) d
def gO (d : Nat) : PFn := fun b z => qO (tkd b z) (tst b z) (twt b z) d
theorem gA_gd (d : Nat) (b : Nat → Int32) (z : Nat) : gd z (gA d b z) := (lv_gd tkG_t d).1
theorem gN_gd (d : Nat) (b : Nat → Int32) (z : Nat) : gd z (gN d b z) := (lv_gd tkG_t d).2.1
theorem gO_gd (d : Nat) (b : Nat → Int32) (z : Nat) : gd z (gO d b z) := (lv_gd tkG_t d).2.2
/-- from an atom to a comparison -/
theorem sp_cmp {xs : xSc} {o k : Nat} {F : PFn} (hk : 7 ≤ k) (hg : ∀ b z, gd z (F b z)) (h : ∀ m, k ≤ m → Sp xs xi_X2_readsOne m o F) : (∀ b z, gd z (pSm (tkd b z) (tst b z) (pTm (tkd b z) (tst b z) (F b z)))) ∧ ∀ m, k + 2 ≤ m → Sp xs xi_X2_readsSum m o (fun b z => pSm (tkd b z) (tst b z) (pTm (tkd b z) (tst b z) (F b z))) := by
  have g1 : ∀ b z, gd z (pTm (tkd b z) (tst b z) (F b z)) := fun b z => pLp_gd1 tkG_t rfl (hg b z)
  refine ⟨fun b z => pLp_gd1 tkG_t rfl (g1 b z), fun m hm => ?_⟩
  obtain ⟨m, rfl⟩ : ∃ j, m = j + 1 + 1 := ⟨m - 2, by omega⟩
  exact s_readsSum (by omega) g1 (s_readsTerm (by omega) hg (h m (by omega)))
theorem sp_or {xs : xSc} {o k : Nat} {F : PFn} (hk : 7 ≤ k) (hg : ∀ b z, gd z (F b z)) (h : ∀ m, k ≤ m → Sp xs xi_X2_readsNot m o F) : ∀ m, k + 2 ≤ m → Sp xs xi_X2_readsOr m o (fun b z => pOr (tkd b z) (tst b z) (pAn (tkd b z) (tst b z) (F b z))) := by
  intro m hm
  obtain ⟨m, rfl⟩ : ∃ j, m = j + 1 + 1 := ⟨m - 2, by omega⟩
  exact s_readsOr (by omega) (fun b z => pLp_gd1 tkG_t rfl (hg b z)) (s_readsAnd (by omega) hg (h m (by omega)))
theorem sp_lv {xs : xSc} : ∀ d, d ≤ 5 → (∀ m, 8 + 6 * d ≤ m → Sp xs xi_X2_readsOne m (5 - d) (gA d)) ∧ (∀ m, 11 + 6 * d ≤ m → Sp xs xi_X2_readsNot m (5 - d) (gN d)) ∧ (∀ m, 13 + 6 * d ≤ m → Sp xs xi_X2_readsOr m (5 - d) (gO d)) := by
  intro d
  induction d with
  | zero =>
    intro _
    have a : ∀ m, 8 ≤ m → Sp xs xi_X2_readsOne m 5 (gA 0) := fun m hm => by
      obtain ⟨m, rfl⟩ : ∃ j, m = j + 1 := ⟨m - 1, by omega⟩
      exact s_readsOne0 (by omega)
    have n : ∀ m, 11 ≤ m → Sp xs xi_X2_readsNot m 5 (gN 0) := fun m hm => by
      obtain ⟨m, rfl⟩ : ∃ j, m = j + 1 := ⟨m - 1, by omega⟩
      obtain ⟨h1, h2⟩ := sp_cmp (by omega) (gA_gd 0) a
      exact s_readsNot0 (by omega) h1 (h2 m (by omega))
    exact ⟨a, n, fun m hm => sp_or (k := 11) (by omega) (gN_gd 0) n m (by omega)⟩
  | succ d ih =>
    intro hd
    obtain ⟨i1, i2, i3⟩ := ih (by omega)
    have e5 : 5 - (d + 1) + 1 = 5 - d := by omega
    have a : ∀ m, 8 + 6 * (d + 1) ≤ m → Sp xs xi_X2_readsOne m (5 - (d + 1)) (gA (d + 1)) := fun m hm => by
      obtain ⟨m, rfl⟩ : ∃ j, m = j + 1 := ⟨m - 1, by omega⟩
      exact s_readsOneS (by omega) (by omega) (gA_gd d) (gO_gd d) (by rw [e5]; exact i1 m (by omega)) (by rw [e5]; exact i3 m (by omega))
    have n : ∀ m, 11 + 6 * (d + 1) ≤ m → Sp xs xi_X2_readsNot m (5 - (d + 1)) (gN (d + 1)) := fun m hm => by
      obtain ⟨m, rfl⟩ : ∃ j, m = j + 1 := ⟨m - 1, by omega⟩
      obtain ⟨h1, h2⟩ := sp_cmp (by omega) (gA_gd (d + 1)) a
      exact s_readsNotS (by omega) h1 (h2 m (by omega)) (by omega) (gN_gd d) (by rw [e5]; exact i2 m (by omega))
    exact ⟨a, n, fun m hm => sp_or (k := 11 + 6 * (d + 1)) (by omega) (gN_gd (d + 1)) n m (by omega)⟩
/-- words so far -/
def CD (J : Nat → Nat → Int32) (c : List Int32) : Prop := J 29 4 = io c.length ∧ ∀ j, j < c.length → J 30 j = c.getD j 0
theorem CD_RS {z u : Nat} {c : List Int32} {r : PR} {I J : Nat → Nat → Int32} (h : CD I c) (hu : u = c.length) (hr : r.1 = true) (hh : RS z u r I J) : CD J (c ++ r.2.2) := by
  obtain ⟨h1, h3⟩ := h
  obtain ⟨k1, k2, k3, w, k4, k5, k6⟩ := hh
  obtain ⟨f1, f2, f3⟩ := k6 hr
  subst hu
  refine ⟨by rw [List.length_append, k5, f1], fun j hj => ?_⟩
  rw [List.length_append] at hj
  by_cases d : j < c.length
  · rw [f2 j d, h3 j d, gD_l d]
  · rw [gD_r (by omega), ← f3 (j - c.length) (by omega), show c.length + (j - c.length) = j by omega]
theorem CD_sF {c : List Int32} {I J : Nat → Nat → Int32} (h : CD I c) (hs : sF I J) : CD J c := by
  unfold CD at h ⊢
  rw [hs.1 30 (by omega), hs.2 4 (by omega)]
  exact h
def tF (I J : Nat → Nat → Int32) : Prop := (∀ p, ¬ (29 ≤ p ∧ p ≤ 31) → J p = I p) ∧ J 29 0 = I 29 0
theorem tF.s {I J K : Nat → Nat → Int32} (h : tF I J) (h2 : sF J K) : tF I K := ⟨fun p hp => by rw [h2.1 p (by omega), h.1 p hp], by rw [h2.2 0 (by omega), h.2]⟩
theorem tF.r {z u : Nat} {r : PR} {I J K : Nat → Nat → Int32} (h : tF I J) (h2 : RS z u r J K) : tF I K := ⟨fun p hp => by rw [h2.1 p (by omega), h.1 p hp], by rw [h2.2.1, h.2]⟩
theorem tF.u {k : Nat} {v : Int32} {I J : Nat → Nat → Int32} (h : tF I J) : tF I (up2 J 31 k v) := ⟨fun p hp => by rw [up2_q (by omega), h.1 p hp], by rw [up2_q (by omega), h.2]⟩
theorem tF.refl {I : Nat → Nat → Int32} : tF I I := ⟨fun _ _ => rfl, rfl⟩
theorem tF.up {k : Nat} {v : Int32} {I J : Nat → Nat → Int32} (h : tF I J) (hk : ¬ k = 0) : tF I (up2 J 29 k v) := ⟨fun p hp => by rw [up2_q (by omega), h.1 p hp], by rw [up2_k (by omega), h.2]⟩
def gP (j : Nat) : PFn := fun b z => pPt (tkd b z) (tst b z) (twt b z) j
def gT (b : Nat → Int32) (z : Nat) : Bool × Nat × List Int32 × List Int32 × List Int32 := pTx (tkd b z) (tst b z) (twt b z)

/-- a part of a text, read at a state -/
def PS (b : Nat → Int32) (z i : Nat) (c : List Int32) (J : Nat → Nat → Int32) : Prop := J 32 = b ∧ J 29 0 = io z ∧ cK b z i J ∧ CD J c ∧ i ≤ z ∧ c.length ≤ i
theorem pPt_gd {j : Nat} {b : Nat → Int32} {z : Nat} : gd z (gP j b z) := by
  intro i hi
  have h1 := (tkG_t (b := b) (z := z)).1 i hi
  have h2 := (tkG_t (b := b) (z := z)).2.1 i hi
  show (i ≤ (pPt _ _ _ j i).2.1 ∧ (pPt _ _ _ j i).2.1 ≤ z) ∧ (pPt _ _ _ j i).2.2.length + i ≤ (pPt _ _ _ j i).2.1
  unfold pPt
  by_cases c1 : tkd b z i = 3 + j
  · rw [if_pos c1]
    have h3 := h2 (by omega)
    have g := gO_gd 5 b z _ h1.2
    unfold gO at g
    by_cases c2 : (qO (tkd b z) (tst b z) (twt b z) 5 (tst b z i)).1 = true
    · rw [if_pos c2]
      by_cases c3 : tkd b z (qO (tkd b z) (tst b z) (twt b z) 5 (tst b z i)).2.1 = 59
      · rw [if_pos c3]
        have g2 := (tkG_t (b := b) (z := z)).1 _ g.1.2
        dsimp only
        omega
      · rw [if_neg c3]
        dsimp only [List.length_nil]
        omega
    · rw [if_neg c2]
      omega
  · rw [if_neg c1]
    dsimp only [List.length_nil]
    omega

section
variable {b : Nat → Int32} {z i j : Nat}
theorem gP_k (h : ¬ tkd b z i = 3 + j) : gP j b z i = (false, i, []) := if_neg h
theorem gP_f (h : tkd b z i = 3 + j) (h1 : ¬ (gO 5 b z (tst b z i)).1 = true) : gP j b z i = gO 5 b z (tst b z i) := (if_pos h).trans (if_neg h1)
theorem gP_s (h : tkd b z i = 3 + j) (h1 : (gO 5 b z (tst b z i)).1 = true) (h2 : ¬ tkd b z (gO 5 b z (tst b z i)).2.1 = 59) : gP j b z i = (false, (gO 5 b z (tst b z i)).2.1, []) := (if_pos h).trans ((if_pos h1).trans (if_neg h2))
theorem gP_t (h : tkd b z i = 3 + j) (h1 : (gO 5 b z (tst b z i)).1 = true) (h2 : tkd b z (gO 5 b z (tst b z i)).2.1 = 59) : gP j b z i = (true, tst b z (gO 5 b z (tst b z i)).2.1, (gO 5 b z (tst b z i)).2.2) := (if_pos h).trans ((if_pos h1).trans (if_pos h2))
end

set_option maxRecDepth 10000 in
theorem s_part {xs : xSc} {m : Nat} {J : Nat → Nat → Int32} {L : Nat → Nat → Int64} {Q : Value → xHp → Prop} {z i j : Nat} {b : Nat → Int32} {c : List Int32} (hm : 44 ≤ m) (hj : j < 3) (h160 : z ≤ 160) (hP : PS b z i c J) (hF : ¬ (gP j b z i).1 = true → ∀ K, tF J K → Q (.int (io (tpl b z (gP j b z i).2.1))) (Hp K L)) (hS : (gP j b z i).1 = true → ∀ K, tF J K → PS b z (gP j b z i).2.1 (c ++ (gP j b z i).2.2) K → K 31 j = io (c ++ (gP j b z i).2.2).length → (∀ k, ¬ k = j → K 31 k = J 31 k) → E xs m xi_X2_readsTape 82 Q 16 [.ref 29, .int (io (j + 1))] [] (82, K, L, xF0)) : E xs m xi_X2_readsTape 82 Q 16 [.ref 29, .int (io j)] [] (82, J, L, xF0) := by
  obtain ⟨hb, hz, hk, hcd, hiz, hcl⟩ := hP
  subst hb
  have htk := tkd_lt (b := J 32) (z := z) (i := i)
  have hor : Sp xs xi_X2_readsOr m 0 (gO 5) := (sp_lv 5 (by omega)).2.2 m (by omega)
  refine E_go 1 rfl ?_
  refine r_iload_n rfl ?_
  refine r_iconst ?_
  refine r_icmp_ge (fun c_18 => ?_) (fun c_18 => ?_)
  · have c_18 := (n_le (a := 3) (b := j) rfl rfl (by omega) (by omega)).mp c_18
    omega
  · have c_18 := (not_congr (n_le (a := 3) (b := j) rfl rfl (by omega) (by omega))).mp c_18
    refine r_aload_n rfl ?_
    refine r_getI (by decide) rfl rfl (by decide) hk.2.2.1 ?_
    refine r_iconst ?_
    refine r_iload_n rfl ?_
    refine r_iadd ?_
    refine r_icmp_eq (fun c_28 => ?_) (fun c_28 => ?_)
    · have c_28 := (n_eq (a := (tkd (J 32) z i)) (b := (3 + j)) rfl (n_add (a := 3) (b := j) rfl rfl) (by omega) (by omega)).mp c_28
      refine E_go 2 rfl ?_
      refine r_aload_n rfl ?_
      refine r_virtual (vs := []) (as := []) (by decide) (zl rfl) rfl rfl (zl rfl) (Nat.le_refl _) (Or.inr (Or.inr ⟨zt rfl, rfl, zt rfl⟩)) ?_
      have hT := tst_lt (b := J 32) hiz (by omega : ¬ tkd (J 32) z i = 0)
      have hT2 := tst_z (b := J 32) hiz
      refine s_steps (by omega) (i := tst (J 32) z i) (z := z) hz h160 hT2 hk.1 (fun J1 h1 h2 => ?_)
      have hg := gO_gd 5 (J 32) z _ hT2
      have htj := tkd_lt (b := J 32) (z := z) (i := (gO 5 (J 32) z (tst (J 32) z i)).2.1)
      refine r_aload_n rfl ?_
      refine r_iconst ?_
      refine r_virtual (vs := []) (as := [_]) (by decide) (zl rfl) rfl rfl (zl rfl) (Nat.le_refl _) (Or.inr (Or.inr ⟨zt rfl, rfl, zt rfl⟩)) ?_
      refine hor J1 L _ (tst (J 32) z i) c.length z (by rw [h1.2 0 (by omega)]; exact hz) h160 hT2 (by rw [h1.1 32 (by omega)]; exact h2) (CD_sF hcd h1).1 (by omega) (fun J2 h3 => ?_)
      rw [h1.1 32 (by omega)] at h3
      rw [h1.1 32 (by omega)]
      have h3k : cK (J1 32) z (gO 5 (J 32) z (tst (J 32) z i)).2.1 J2 := h3.2.2.1
      rw [h1.1 32 (by omega)] at h3k
      refine r_if_eq (fun c_45 => ?_) (fun c_45 => ?_)
      · refine E_go 3 rfl ?_
        refine r_aload_n rfl ?_
        refine r_getI (by decide) rfl rfl (by decide) h3k.2.1 ?_
        refine r_iret rfl trivial ?_
        first
        | (have e := gP_f (by omega) (bi_0.mp c_45)
           have hx := hF (by rw [e]; exact bi_0.mp c_45) J2 ((tF.refl.s h1).r h3)
           rw [e] at hx
           exact hx)
        | (have e := gP_s (by omega) (bi_n.mp c_45) c_54
           have hx := hF (by rw [e]; exact Bool.noConfusion) J2 ((tF.refl.s h1).r h3)
           rw [e] at hx
           exact hx)
      · refine r_aload_n rfl ?_
        refine r_getI (by decide) rfl rfl (by decide) h3k.2.2.1 ?_
        refine r_bipush ?_
        refine r_icmp_eq (fun c_54 => ?_) (fun c_54 => ?_)
        · have c_54 := (n_eq (a := (tkd (J 32) z (gO 5 (J 32) z (tst (J 32) z i)).2.1)) (b := 59) rfl rfl (by omega) (by omega)).mp c_54
          refine E_go 4 rfl ?_
          refine r_aload_n rfl ?_
          refine r_virtual (vs := []) (as := []) (by decide) (zl rfl) rfl rfl (zl rfl) (Nat.le_refl _) (Or.inr (Or.inr ⟨zt rfl, rfl, zt rfl⟩)) ?_
          have hT3 := tst_z (b := J 32) hg.1.2
          have hT4 := tst_lt (b := J 32) hg.1.2 (by omega : ¬ tkd (J 32) z (gO 5 (J 32) z (tst (J 32) z i)).2.1 = 0)
          have hcd2 := CD_RS (CD_sF hcd h1) rfl (bi_n.mp c_45) h3
          refine s_steps (by omega) (i := tst (J 32) z (gO 5 (J 32) z (tst (J 32) z i)).2.1) (z := z) (by rw [h3.2.1, h1.2 0 (by omega)]; exact hz) h160 hT3 h3k.1 (fun J3 k1 k2 => ?_)
          have e32 : J2 32 = J 32 := (h3.1 32 (by omega)).trans (h1.1 32 (by omega))
          rw [e32] at k2
          have hcd3 := CD_sF hcd2 k1
          refine r_aload_n rfl ?_
          refine r_getA (q := 31) (by decide) rfl rfl (by decide) ?_
          refine r_iload_n rfl ?_
          refine r_aload_n rfl ?_
          refine r_getI (by decide) rfl rfl (by decide) rfl ?_
          refine r_iastore rfl (by decide) (ixE rfl (show j < 3 by omega) (by decide)) ?_
          refine r_iincN (y := io (j + 1)) (ls' := [_, _]) rfl (zt rfl) (n_add (a := j) (b := 1) rfl rfl) rfl ?_
          refine r_goto ?_
          have e := gP_t (b := J 32) (z := z) (i := i) (j := j) (by omega) (bi_n.mp c_45) c_54
          have hu4 : J3 29 4 = io (c ++ (gO 5 (J 32) z (tst (J 32) z i)).2.2).length := hcd3.1
          refine hS (by rw [e]) _ (((tF.refl.s h1).r h3).s k1).u ⟨?_, ?_, ?_, ?_, ?_, ?_⟩ ?_ (fun k hk => ?_)
          · rw [up2_q (by omega), k1.1 32 (by omega), e32]
          · rw [up2_q (by omega), k1.2 0 (by omega), h3.2.1, h1.2 0 (by omega)]; exact hz
          · rw [e]; exact cK_up k2 (by omega)
          · rw [e]; unfold CD; rw [up2_q (by omega), up2_q (by omega)]; exact hcd3
          · rw [e]; exact hT3
          · rw [e, List.length_append]; dsimp only; omega
          · rw [e, up2_at]; exact hu4
          · rw [up2_k hk, k1.1 31 (by omega), h3.1 31 (by omega), h1.1 31 (by omega)]
        · have c_54 := (not_congr (n_eq (a := (tkd (J 32) z (gO 5 (J 32) z (tst (J 32) z i)).2.1)) (b := 59) rfl rfl (by omega) (by omega))).mp c_54
          refine r_nil ?_
          refine E_go 3 rfl ?_
          refine r_aload_n rfl ?_
          refine r_getI (by decide) rfl rfl (by decide) h3k.2.1 ?_
          refine r_iret rfl trivial ?_
          first
          | (have e := gP_f (by omega) (bi_0.mp c_45)
             have hx := hF (by rw [e]; exact bi_0.mp c_45) J2 ((tF.refl.s h1).r h3)
             rw [e] at hx
             exact hx)
          | (have e := gP_s (by omega) (bi_n.mp c_45) c_54
             have hx := hF (by rw [e]; exact Bool.noConfusion) J2 ((tF.refl.s h1).r h3)
             rw [e] at hx
             exact hx)
    · have c_28 := (not_congr (n_eq (a := (tkd (J 32) z i)) (b := (3 + j)) rfl (n_add (a := 3) (b := j) rfl rfl) (by omega) (by omega))).mp c_28
      refine r_aload_n rfl ?_
      refine r_getI (by decide) rfl rfl (by decide) hk.2.1 ?_
      refine r_iret rfl trivial ?_
      have hx := hF (by rw [gP_k c_28]; exact Bool.noConfusion) J tF.refl
      rw [gP_k c_28] at hx
      exact hx

section
variable {b : Nat → Int32} {z : Nat}
theorem gT_0 (h : ¬ (gP 0 b z 0).1 = true) : gT b z = (false, (gP 0 b z 0).2.1, [], [], []) := if_neg h
theorem gT_1 (h : (gP 0 b z 0).1 = true) (h1 : ¬ (gP 1 b z (gP 0 b z 0).2.1).1 = true) : gT b z = (false, (gP 1 b z (gP 0 b z 0).2.1).2.1, [], [], []) := (if_pos h).trans (if_neg h1)
theorem gT_2 (h : (gP 0 b z 0).1 = true) (h1 : (gP 1 b z (gP 0 b z 0).2.1).1 = true) : gT b z = (((gP 2 b z (gP 1 b z (gP 0 b z 0).2.1).2.1).1 && decide (tkd b z (gP 2 b z (gP 1 b z (gP 0 b z 0).2.1).2.1).2.1 = 0)), (gP 2 b z (gP 1 b z (gP 0 b z 0).2.1).2.1).2.1, (gP 0 b z 0).2.2, (gP 1 b z (gP 0 b z 0).2.1).2.2, (gP 2 b z (gP 1 b z (gP 0 b z 0).2.1).2.1).2.2) := (if_pos h).trans (if_pos h1)
end

set_option maxRecDepth 10000 in
theorem s_tapeEnd {xs : xSc} {m : Nat} {J : Nat → Nat → Int32} {L : Nat → Nat → Int64} {Q : Value → xHp → Prop} {z i : Nat} {b : Nat → Int32} {c : List Int32} (hP : PS b z i c J) (hQ1 : tkd b z i = 0 → Q (.int (-1)) (Hp J L)) (hQ0 : ¬ tkd b z i = 0 → Q (.int (io (tpl b z i))) (Hp J L)) : E xs m xi_X2_readsTape 82 Q 16 [.ref 29, .int (io 3)] [] (82, J, L, xF0) := by
  have htk := tkd_lt (b := b) (z := z) (i := i)
  refine E_go 1 rfl ?_
  refine r_iload_n rfl ?_
  refine r_iconst ?_
  refine r_icmp_ge (fun c_18 => ?_) (fun c_18 => ?_)
  · have c_18 := (n_le (a := 3) (b := 3) rfl rfl (by omega) (by omega)).mp c_18
    refine E_go 5 rfl ?_
    refine r_aload_n rfl ?_
    refine r_getI (by decide) rfl rfl (by decide) hP.2.2.1.2.2.1 ?_
    refine r_if_ne (fun c_86 => ?_) (fun c_86 => ?_)
    · have c_86 := (not_congr (n_eq (a := (tkd b z i)) (b := 0) rfl rfl (by omega) (by omega))).mp c_86
      refine E_go 6 rfl ?_
      refine r_aload_n rfl ?_
      refine r_getI (by decide) rfl rfl (by decide) hP.2.2.1.2.1 ?_
      refine r_nil ?_
      refine E_go 7 rfl ?_
      refine r_iret rfl trivial ?_
      exact hQ0 c_86
    · have c_86 := (n_eq (a := (tkd b z i)) (b := 0) rfl rfl (by omega) (by omega)).mp c_86
      refine r_iconst ?_
      refine r_goto ?_
      refine E_go 7 rfl ?_
      refine r_iret rfl trivial ?_
      exact hQ1 c_86
  · have c_18 := (not_congr (n_le (a := 3) (b := 3) rfl rfl (by omega) (by omega))).mp c_18
    omega

theorem tF.tr {I J K : Nat → Nat → Int32} (h : tF I J) (h2 : tF J K) : tF I K := ⟨fun p hp => by rw [h2.1 p hp, h.1 p hp], by rw [h2.2, h.2]⟩

set_option maxRecDepth 10000 in
theorem s_readsTape {xs : xSc} {m : Nat} {I : Nat → Nat → Int32} {L : Nat → Nat → Int64} {Q : Value → xHp → Prop} {z : Nat} (hm : 45 ≤ m) (hz : I 29 0 = io z) (h160 : z ≤ 160) (hQ1 : ∀ J, tF I J → (gT (I 32) z).1 = true → okE (J 31) (gT (I 32) z).2.2.1.length ((gT (I 32) z).2.2.1.length + (gT (I 32) z).2.2.2.1.length) ((gT (I 32) z).2.2.1.length + (gT (I 32) z).2.2.2.1.length + (gT (I 32) z).2.2.2.2.length) → (∀ j, j < (gT (I 32) z).2.2.1.length + (gT (I 32) z).2.2.2.1.length + (gT (I 32) z).2.2.2.2.length → J 30 j = ((gT (I 32) z).2.2.1 ++ (gT (I 32) z).2.2.2.1 ++ (gT (I 32) z).2.2.2.2).getD j 0) → Q (.int (-1)) (Hp J L)) (hQ0 : ∀ J, tF I J → ¬ (gT (I 32) z).1 = true → Q (.int (io (tpl (I 32) z (gT (I 32) z).2.1))) (Hp J L)) : M xs m xi_X2_readsTape [.ref 29] (Hp I L) Q := by
  obtain ⟨m, rfl⟩ : ∃ k, m = k + 1 := ⟨m - 1, by omega⟩
  refine M_go (ls := [_, _]) (ml := 2) rfl rfl rfl (zl rfl) rfl ?_
  refine r_aload_n rfl ?_
  refine r_iconst ?_
  refine r_putI rfl rfl (by decide) ?_
  refine r_aload_n rfl ?_
  refine r_iconst ?_
  refine r_putI rfl rfl (by decide) ?_
  refine r_aload_n rfl ?_
  refine r_virtual (vs := []) (as := []) (by decide) (zl rfl) rfl rfl (zl rfl) (Nat.le_refl _) (Or.inr (Or.inr ⟨zt rfl, rfl, zt rfl⟩)) ?_
  refine s_steps (by omega) (i := 0) (z := z) hz h160 (Nat.zero_le _) rfl (fun J0 h1 h2 => ?_)
  refine r_iconst ?_
  refine r_istore_n (ls' := [_, _]) (zt rfl) rfl ?_
  refine r_nil ?_
  have hT0 : tF I J0 := ((tF.refl.up (by omega)).up (by omega)).s h1
  have hP0 : PS (I 32) z 0 [] J0 := ⟨h1.1 32 (by omega), by rw [h1.2 0 (by omega)]; exact hz, h2, ⟨by rw [h1.2 4 (by omega)]; rfl, fun j hj => absurd hj (by simp)⟩, Nat.zero_le _, Nat.le_refl _⟩
  refine s_part (j := 0) (by omega) (by omega) h160 hP0 (fun q K hK => ?_) (fun q1 K1 t1 P1 w1 y1 => ?_)
  · have hx := hQ0 K (hT0.tr hK)
    rw [gT_0 q] at hx
    exact hx Bool.noConfusion
  refine s_part (j := 1) (by omega) (by omega) h160 P1 (fun q K hK => ?_) (fun q2 K2 t2 P2 w2 y2 => ?_)
  · have hx := hQ0 K ((hT0.tr t1).tr hK)
    rw [gT_1 q1 q] at hx
    exact hx Bool.noConfusion
  have e := gT_2 q1 q2
  refine s_part (j := 2) (by omega) (by omega) h160 P2 (fun q K hK => ?_) (fun q3 K3 t3 P3 w3 y3 => ?_)
  · have hx := hQ0 K (((hT0.tr t1).tr t2).tr hK)
    rw [e] at hx
    exact hx (by simp [q])
  refine s_tapeEnd P3 (fun q4 => ?_) (fun q4 => ?_)
  · have hx := hQ1 K3 (((hT0.tr t1).tr t2).tr t3)
    rw [e] at hx
    dsimp only at hx
    have l1 : K3 31 0 = io (gP 0 (I 32) z 0).2.2.length := by
      rw [y3 0 (by omega), y2 0 (by omega), w1]; rfl
    have l2 := w2
    rw [← y3 1 (by omega)] at l2
    simp only [List.nil_append] at l2 w3
    have hlen := P3.2.2.2.2
    simp only [List.nil_append, List.length_append] at hlen l2 w3
    refine hx (by simp [q3, q4]) ⟨⟨by omega, by omega, by omega⟩, l1, l2, w3⟩ ?_
    have hc := P3.2.2.2.1.2
    simp only [List.nil_append] at hc
    exact fun j hj => hc j (by simp only [List.length_append]; omega)
  · have hx := hQ0 K3 (((hT0.tr t1).tr t2).tr t3)
    rw [e] at hx
    exact hx (by simp [q4])
