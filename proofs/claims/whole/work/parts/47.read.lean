/-! what the model asks of a text (its reader stands in an earlier part) -/

/-- the model's reader changes its own slots alone -/
def rF (I J : Nat → Nat → Int32) : Prop := (∀ p, ¬ p = 61 → J p = I p) ∧ ∀ k, ¬ (19 ≤ k ∧ k ≤ 27) → J 61 k = I 61 k
/-- the model's text t is one with the words c -/
def mTx (t : Nat) (I : Nat → Nat → Int32) (c : List Int32 × List Int32 × List Int32) : Prop := ∃ z i, (z ≤ 160 ∧ I 63 t = io z) ∧ (∀ i, i < z → ∃ k, k < 256 ∧ I 62 (160 * t + i) = io k) ∧ pTx (tkd (fun i => I 62 (160 * t + i)) z) (tst (fun i => I 62 (160 * t + i)) z) (twt (fun i => I 62 (160 * t + i)) z) = (true, i, c)
theorem s_read {xs : xSc} {m : Nat} {I : Nat → Nat → Int32} {L : Nat → Nat → Int64} {Q : Value → xHp → Prop} (hm : 50 ≤ m) {t h : Nat} {c : List Int32 × List Int32 × List Int32} {w : Vw} (ht : t < 6) (hh : h < 3) (hc : mTx t I c) (hw : ∀ k, k < 6 → I 61 (13 + k) = w k) (hQ : ∀ J L', rF I J → Q (.int (ruL c h w)) (Hp J L')) : M xs m xi_X7_read [.ref 61, .int (io t), .int (io h)] (Hp I L) Q := by
  sorry
