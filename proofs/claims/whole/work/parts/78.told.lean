/-! told heats: told by a value; bits, how many, least -/

theorem w_cfo1 {xs : xSc} {m : Nat} {I : Nat → Nat → Int32} {L : Nat → Nat → Int64} {Q : Value → xHp → Prop} (hm : 5 ≤ m) {n r s z : Nat} {ru : Ru} (h : CC n r ru I) (hs : s < 4) (hz6 : z ≤ 6) (hz : I (53 + 2 * s) 1 = io z) (hQ : ∀ J, oF 19 28 I J → Q (.int (fo (ht ru (pX n I)) (I (54 + 2 * s)) z 0)) (Hp J L)) : M xs m xi_X6_firstOther [.ref 0, .ref 1, .ref (53 + 2 * s)] (Hp I L) Q := by
  obtain ⟨⟨h1, h2, h3, h4⟩, c, k1, k2⟩ := h
  exact s_cfo_1 hm h2 h1 h4 h3 k1.1 hs hz6 hz (fun J j1 => by rw [cT_eq k1, ← k2]; exact hQ J j1)
theorem w_cfo13 {xs : xSc} {m : Nat} {I J : Nat → Nat → Int32} {L : Nat → Nat → Int64} {Q : Value → xHp → Prop} (hm : 5 ≤ m) {n r s z : Nat} {ru : Ru} {X : Pot} (h5 : n ≤ 5) (h6 : r < 6) (h : ∃ c, cTx r J c ∧ ru = ruL c) (t : TC n r X I J) (hs : s < 4) (hz6 : z ≤ 6) (hz : J (53 + 2 * s) 1 = io z) (hQ : ∀ K, oF 19 28 J K → Q (.int (fo (ht ru X) (J (54 + 2 * s)) z 0)) (Hp K L)) : M xs m xi_X6_firstOther [.ref 0, .ref 13, .ref (53 + 2 * s)] (Hp J L) Q := by
  obtain ⟨c, k1, k2⟩ := h
  exact s_cfo_13 hm h5 t.2.1 h6 t.2.2.1 k1.1 hs hz6 hz (fun K j1 => by rw [cT_eq k1, ← k2, ht_c t.2.2.2]; exact hQ K j1)
/-- from lo on: who is told, as bits; how many; the least -/
def bo (f : Nat → Int32) : Nat → Nat → Int32
  | 0, _ => 0
  | d + 1, v => if f v = -1 then bo f d (v + 1) ||| (1 <<< (io v &&& 31)) else bo f d (v + 1)
def co (f : Nat → Int32) : Nat → Nat → Nat
  | 0, _ => 0
  | d + 1, v => if f v = -1 then co f d (v + 1) + 1 else co f d (v + 1)
def le1 (f : Nat → Int32) : Nat → Nat → Int32
  | 0, _ => -1
  | d + 1, v => if f v = -1 then io v else le1 f d (v + 1)
section
variable {f : Nat → Int32} {d v : Nat}
theorem bo_y (h : f v = -1) : bo f (d + 1) v = bo f d (v + 1) ||| (1 <<< (io v &&& 31)) := if_pos h
theorem bo_n (h : ¬ f v = -1) : bo f (d + 1) v = bo f d (v + 1) := if_neg h
theorem co_y (h : f v = -1) : co f (d + 1) v = co f d (v + 1) + 1 := if_pos h
theorem co_n (h : ¬ f v = -1) : co f (d + 1) v = co f d (v + 1) := if_neg h
theorem le1_y (h : f v = -1) : le1 f (d + 1) v = io v := if_pos h
theorem le1_n (h : ¬ f v = -1) : le1 f (d + 1) v = le1 f d (v + 1) := if_neg h
theorem co_le : ∀ d v, co f d v ≤ d
  | 0, _ => Nat.le_refl _
  | d + 1, v => by
    have q := co_le d (v + 1)
    rw [co]
    split
    · omega
    · omega
end

/-- the class finds v told, as f says -/
def cTo (xs : xSc) (m s : Nat) (w a : Int32) (N : Nat) (f : Nat → Int32) (I : Nat → Nat → Int32) : Prop := ∀ v, v < N → ∀ (J : Nat → Nat → Int32) (L : Nat → Nat → Int64) (Q : Value → xHp → Prop), fS I J → (∀ K, fS I K → Q (.int (if f v = -1 then 1 else 0)) (Hp K L)) → M xs m xi_X6_isToldBy [.ref 0, .ref (53 + 2 * s), .int w, .int a, .int (io v)] (Hp J L) Q
def cVa (xs : xSc) (m : Nat) (w : Int32) (N : Nat) (I : Nat → Nat → Int32) : Prop := ∀ (J : Nat → Nat → Int32) (L : Nat → Nat → Int64) (Q : Value → xHp → Prop), fS I J → Q (.int (io N)) (Hp J L) → M xs m xi_X6_values [.ref 0, .int w] (Hp J L) Q

set_option maxRecDepth 10000 in
theorem s_bitsTold {xs : xSc} {m : Nat} {I : Nat → Nat → Int32} {L : Nat → Nat → Int64} {Q : Value → xHp → Prop} {s N : Nat} {w a : Int32} {f : Nat → Int32} (hN : N ≤ 100) (hV : cVa xs m w N I) (hT : cTo xs m s w a N f I) (hQ : ∀ K, fS I K → Q (.int (bo f N 0)) (Hp K L)) : M xs (m + 1) xi_X6_bitsTold [.ref 0, .ref (53 + 2 * s), .int w, .int a] (Hp I L) Q := by
  have key : ∀ d v, v + d = N → ∀ (J : Nat → Nat → Int32) (acc : Int32), fS I J → (acc ||| bo f d v = bo f N 0) → E xs m xi_X6_bitsTold 82 Q 6 [.ref 0, .ref (53 + 2 * s), .int w, .int a, .int acc, .int (io v)] [] (82, J, L, xF0) := by
    intro d
    induction d using Nat.strongRecOn with
    | _ d ih =>
    intro v hd J acc hJ hA
    refine E_go 1 rfl ?_
    refine r_iload rfl ?_
    refine r_aload_n rfl ?_
    refine r_iload_n rfl ?_
    refine r_virtual (vs := []) (as := [_]) (by decide) (zl rfl) rfl rfl (zl rfl) (Nat.le_refl _) (Or.inr (Or.inr ⟨zt rfl, rfl, zt rfl⟩)) ?_
    refine hV J L _ hJ ?_
    refine r_icmp_ge (fun c_13 => ?_) (fun c_13 => ?_)
    · have c_13 := (n_le (a := N) (b := v) rfl rfl (by omega) (by omega)).mp c_13
      refine E_go 3 rfl ?_
      refine r_iload rfl ?_
      refine r_iret rfl trivial ?_
      rw [show d = 0 by omega, bo, Int32.or_zero] at hA
      rw [hA]
      exact hQ _ hJ
    · have c_13 := (not_congr (n_le (a := N) (b := v) rfl rfl (by omega) (by omega))).mp c_13
      refine r_aload_n rfl ?_
      refine r_aload_n rfl ?_
      refine r_iload_n rfl ?_
      refine r_iload_n rfl ?_
      refine r_iload rfl ?_
      refine r_virtual (vs := []) (as := [_, _, _, _]) (by decide) (zl rfl) rfl rfl (zl rfl) (Nat.le_refl _) (Or.inr (Or.inr ⟨zt rfl, rfl, zt rfl⟩)) ?_
      refine hT v (by omega) J L _ hJ (fun K k => ?_)
      refine r_if_eq (fun c_25 => ?_) (fun c_25 => ?_)
      · refine E_go 2 rfl ?_
        refine r_iincN (y := io (v + 1)) (ls' := [_, _, _, _, _, _]) rfl (zt rfl) (n_add (a := v) (b := 1) rfl rfl) rfl ?_
        refine r_goto ?_
        have e : ¬ f v = -1 := b01.mp c_25
        exact ih (d - 1) (by omega) (v + 1) (by omega) K _ k (by rw [← hA, show d = (d - 1) + 1 by omega, bo_n e, show d - 1 + 1 - 1 = d - 1 by omega])
      · refine r_iload rfl ?_
        refine r_iconst ?_
        refine r_iload rfl ?_
        refine r_ishl ?_
        refine r_ior ?_
        refine r_istore (ls' := [_, _, _, _, _, _]) (zt rfl) rfl ?_
        refine r_nil ?_
        refine E_go 2 rfl ?_
        refine r_iincN (y := io (v + 1)) (ls' := [_, _, _, _, _, _]) rfl (zt rfl) (n_add (a := v) (b := 1) rfl rfl) rfl ?_
        refine r_goto ?_
        have e : f v = -1 := b01n.mp c_25
        exact ih (d - 1) (by omega) (v + 1) (by omega) K _ k (by rw [← hA, show d = (d - 1) + 1 by omega, bo_y e, show d - 1 + 1 - 1 = d - 1 by omega, Int32.or_assoc, Int32.or_comm (1 <<< (io v &&& 31))])
  refine M_go (ls := [_, _, _, _, _, _]) (ml := 6) rfl rfl rfl (zl rfl) rfl ?_
  refine r_iconst ?_
  refine r_istore (ls' := [_, _, _, _, _, _]) (zt rfl) rfl ?_
  refine r_iconst ?_
  refine r_istore (ls' := [_, _, _, _, _, _]) (zt rfl) rfl ?_
  refine r_nil ?_
  exact key N 0 (by omega) I 0 fS.refl (by rw [Int32.zero_or])

set_option maxRecDepth 10000 in
theorem s_howManyTold {xs : xSc} {m : Nat} {I : Nat → Nat → Int32} {L : Nat → Nat → Int64} {Q : Value → xHp → Prop} {s N : Nat} {w a : Int32} {f : Nat → Int32} (hN : N ≤ 100) (hV : cVa xs m w N I) (hT : cTo xs m s w a N f I) (hQ : ∀ K, fS I K → Q (.int (io (co f N 0))) (Hp K L)) : M xs (m + 1) xi_X6_howManyTold [.ref 0, .ref (53 + 2 * s), .int w, .int a] (Hp I L) Q := by
  have key : ∀ d v, v + d = N → ∀ (J : Nat → Nat → Int32) (acc : Nat), fS I J → (acc + co f d v = co f N 0) → E xs m xi_X6_howManyTold 82 Q 6 [.ref 0, .ref (53 + 2 * s), .int w, .int a, .int (io acc), .int (io v)] [] (82, J, L, xF0) := by
    intro d
    induction d using Nat.strongRecOn with
    | _ d ih =>
    intro v hd J acc hJ hA
    have ha : acc ≤ 100 := by have := co_le (f := f) N 0; omega
    refine E_go 1 rfl ?_
    refine r_iload rfl ?_
    refine r_aload_n rfl ?_
    refine r_iload_n rfl ?_
    refine r_virtual (vs := []) (as := [_]) (by decide) (zl rfl) rfl rfl (zl rfl) (Nat.le_refl _) (Or.inr (Or.inr ⟨zt rfl, rfl, zt rfl⟩)) ?_
    refine hV J L _ hJ ?_
    refine r_icmp_ge (fun c_13 => ?_) (fun c_13 => ?_)
    · have c_13 := (n_le (a := N) (b := v) rfl rfl (by omega) (by omega)).mp c_13
      refine E_go 3 rfl ?_
      refine r_iload rfl ?_
      refine r_iret rfl trivial ?_
      rw [show d = 0 by omega, co, Nat.add_zero] at hA
      rw [hA]
      exact hQ _ hJ
    · have c_13 := (not_congr (n_le (a := N) (b := v) rfl rfl (by omega) (by omega))).mp c_13
      refine r_aload_n rfl ?_
      refine r_aload_n rfl ?_
      refine r_iload_n rfl ?_
      refine r_iload_n rfl ?_
      refine r_iload rfl ?_
      refine r_virtual (vs := []) (as := [_, _, _, _]) (by decide) (zl rfl) rfl rfl (zl rfl) (Nat.le_refl _) (Or.inr (Or.inr ⟨zt rfl, rfl, zt rfl⟩)) ?_
      refine hT v (by omega) J L _ hJ (fun K k => ?_)
      refine r_if_eq (fun c_25 => ?_) (fun c_25 => ?_)
      · refine E_go 2 rfl ?_
        refine r_iincN (y := io (v + 1)) (ls' := [_, _, _, _, _, _]) rfl (zt rfl) (n_add (a := v) (b := 1) rfl rfl) rfl ?_
        refine r_goto ?_
        have e : ¬ f v = -1 := b01.mp c_25
        exact ih (d - 1) (by omega) (v + 1) (by omega) K _ k (by rw [← hA, show d = (d - 1) + 1 by omega, co_n e, show d - 1 + 1 - 1 = d - 1 by omega])
      · refine r_iincN (y := io (acc + 1)) (ls' := [_, _, _, _, _, _]) rfl (zt rfl) (n_add (a := acc) (b := 1) rfl rfl) rfl ?_
        refine r_nil ?_
        refine E_go 2 rfl ?_
        refine r_iincN (y := io (v + 1)) (ls' := [_, _, _, _, _, _]) rfl (zt rfl) (n_add (a := v) (b := 1) rfl rfl) rfl ?_
        refine r_goto ?_
        have e : f v = -1 := b01n.mp c_25
        exact ih (d - 1) (by omega) (v + 1) (by omega) K _ k (by rw [← hA, show d = (d - 1) + 1 by omega, co_y e, show d - 1 + 1 - 1 = d - 1 by omega]; omega)
  refine M_go (ls := [_, _, _, _, _, _]) (ml := 6) rfl rfl rfl (zl rfl) rfl ?_
  refine r_iconst ?_
  refine r_istore (ls' := [_, _, _, _, _, _]) (zt rfl) rfl ?_
  refine r_iconst ?_
  refine r_istore (ls' := [_, _, _, _, _, _]) (zt rfl) rfl ?_
  refine r_nil ?_
  exact key N 0 (by omega) I 0 fS.refl (Nat.zero_add _)

set_option maxRecDepth 10000 in
theorem s_leastTold {xs : xSc} {m : Nat} {I : Nat → Nat → Int32} {L : Nat → Nat → Int64} {Q : Value → xHp → Prop} {s N : Nat} {w a : Int32} {f : Nat → Int32} (hN : N ≤ 100) (hV : cVa xs m w N I) (hT : cTo xs m s w a N f I) (hQ : ∀ K, fS I K → Q (.int (le1 f N 0)) (Hp K L)) : M xs (m + 1) xi_X6_leastTold [.ref 0, .ref (53 + 2 * s), .int w, .int a] (Hp I L) Q := by
  have key : ∀ d v, v + d = N → ∀ (J : Nat → Nat → Int32), fS I J → (le1 f d v = le1 f N 0) → E xs m xi_X6_leastTold 82 Q 3 [.ref 0, .ref (53 + 2 * s), .int w, .int a, .int (io v)] [] (82, J, L, xF0) := by
    intro d
    induction d using Nat.strongRecOn with
    | _ d ih =>
    intro v hd J hJ hA
    refine E_go 1 rfl ?_
    refine r_iload rfl ?_
    refine r_aload_n rfl ?_
    refine r_iload_n rfl ?_
    refine r_virtual (vs := []) (as := [_]) (by decide) (zl rfl) rfl rfl (zl rfl) (Nat.le_refl _) (Or.inr (Or.inr ⟨zt rfl, rfl, zt rfl⟩)) ?_
    refine hV J L _ hJ ?_
    refine r_icmp_ge (fun c_10 => ?_) (fun c_10 => ?_)
    · have c_10 := (n_le (a := N) (b := v) rfl rfl (by omega) (by omega)).mp c_10
      refine E_go 3 rfl ?_
      refine r_iconst ?_
      refine r_iret rfl trivial ?_
      rw [show d = 0 by omega, le1] at hA
      rw [hA]
      exact hQ _ hJ
    · have c_10 := (not_congr (n_le (a := N) (b := v) rfl rfl (by omega) (by omega))).mp c_10
      refine r_aload_n rfl ?_
      refine r_aload_n rfl ?_
      refine r_iload_n rfl ?_
      refine r_iload_n rfl ?_
      refine r_iload rfl ?_
      refine r_virtual (vs := []) (as := [_, _, _, _]) (by decide) (zl rfl) rfl rfl (zl rfl) (Nat.le_refl _) (Or.inr (Or.inr ⟨zt rfl, rfl, zt rfl⟩)) ?_
      refine hT v (by omega) J L _ hJ (fun K k => ?_)
      refine r_if_eq (fun c_22 => ?_) (fun c_22 => ?_)
      · refine E_go 2 rfl ?_
        refine r_iincN (y := io (v + 1)) (ls' := [_, _, _, _, _]) rfl (zt rfl) (n_add (a := v) (b := 1) rfl rfl) rfl ?_
        refine r_goto ?_
        have e : ¬ f v = -1 := b01.mp c_22
        exact ih (d - 1) (by omega) (v + 1) (by omega) K k (by rw [← hA, show d = (d - 1) + 1 by omega, le1_n e, show d - 1 + 1 - 1 = d - 1 by omega])
      · refine r_iload rfl ?_
        refine r_iret rfl trivial ?_
        have e : f v = -1 := b01n.mp c_22
        rw [show d = (d - 1) + 1 by omega, le1_y e] at hA
        rw [hA]
        exact hQ _ k
  refine M_go (ls := [_, _, _, _, _]) (ml := 5) rfl rfl rfl (zl rfl) rfl ?_
  refine r_iconst ?_
  refine r_istore (ls' := [_, _, _, _, _]) (zt rfl) rfl ?_
  refine r_nil ?_
  exact key N 0 (by omega) I fS.refl rfl
