/-! how the relation goes on when something is put -/
theorem RA.g {n : Nat} {I J : Nat → Nat → Int32} (h : RA n I) (e1 : J 1 0 = I 1 0) (e2 : J 1 1 = I 1 1) (e3 : J 1 3 = I 1 3) (e4 : J 2 = I 2) (e5 : J 3 = I 3) (e6 : J 4 = I 4) (e7 : J 5 = I 5) (e8 : J 6 = I 6) (e9 : J 65 = I 65) (e10 : J 66 = I 66) (e11 : J 67 = I 67) (e12 : J 61 7 = I 61 7) (e13 : J 61 8 = I 61 8) (e14 : J 61 12 = I 61 12) : RA n J := by
  unfold RA mNu mTh mPl at h ⊢
  rw [e1, e2, e3, e4, e5, e6, e7, e8, e9, e10, e11, e12, e13, e14]
  exact h
theorem RT.g {tc r : Nat} {I J : Nat → Nat → Int32} (h : RT tc r I) (e1 : J 0 7 = I 0 7) (e2 : J 1 2 = I 1 2) (e3 : J 61 3 = I 61 3) (e4 : J 61 4 = I 61 4) (e5 : J 62 = I 62) (e6 : J 63 = I 63) (e7 : ∀ p, 35 ≤ p → p < 53 → J p = I p) : RT tc r J := by
  obtain ⟨⟨h1, h2, h3, h4⟩, ⟨h5, h6, h7⟩, h8⟩ := h
  refine ⟨⟨h1, h2, by rw [e1]; exact h3, by rw [e3]; exact h4⟩, ⟨h5, by rw [e2]; exact h6, by rw [e4]; exact h7⟩, fun t ht => ?_⟩
  obtain ⟨c, k1, k2⟩ := h8 t ht
  have := tq_b (show t < 6 by omega)
  exact ⟨c, mTx_s e5 e6 k1, cTx_s (e7 _ (by omega) (by omega)) (e7 _ (by omega) (by omega)) k2⟩
theorem RP.g {tp : Nat} {I J : Nat → Nat → Int32} (h : RP tp I) (e1 : J 29 0 = I 29 0) (e2 : J 61 6 = I 61 6) (e3 : J 64 = I 64) (e4 : J 32 = I 32) : RP tp J := by
  unfold RP at h ⊢
  rw [e1, e2, e3, e4]
  exact h
theorem RI.g {n tc : Nat} {I J : Nat → Nat → Int32} (h : RI n tc I) (e1 : J 0 8 = I 0 8) (e2 : J 2 = I 2) (e3 : ∀ p, 7 ≤ p → p ≤ 12 → J p = I p) (e4 : J 76 = I 76) (e5 : J 77 = I 77) (e6 : ∀ k, 41 ≤ k → k ≤ 44 → J 61 k = I 61 k) : RI n tc J := by
  unfold RI RIy at h ⊢
  rw [e1, e2, e3 7 (by omega) (by omega), e3 8 (by omega) (by omega), e3 9 (by omega) (by omega), e3 10 (by omega) (by omega), e3 11 (by omega) (by omega), e3 12 (by omega) (by omega), e4, e5, e6 41 (by omega) (by omega), e6 42 (by omega) (by omega), e6 43 (by omega) (by omega), e6 44 (by omega) (by omega)]
  exact h
theorem RH.g {I J : Nat → Nat → Int32} (h : RH I) (e : ∀ p, (53 ≤ p ∧ p ≤ 60) ∨ (78 ≤ p ∧ p ≤ 81) → J p = I p) : RH J := by
  intro s hs
  have h := h s hs
  unfold RHs at h ⊢
  rw [e (53 + 2 * s) (by omega), e (54 + 2 * s) (by omega), e 78 (by omega), e 79 (by omega), e 80 (by omega), e 81 (by omega)]
  exact h
section
variable {n tc r tp a : Nat} {v : Int32} {I J : Nat → Nat → Int32}
theorem RX.ki (h : RX n tc r tp I) (ha : a < n) : I 65 a = I 2 a := (h.1.2.2.2 a ha).1.1
theorem RX.nu (h : RX n tc r tp I) (ha : a < n) : mNu I a = I 3 a := (h.1.2.2.2 a ha).2.1.1
theorem RX.th (h : RX n tc r tp I) (ha : a < n) : mTh I a = I 4 a := (h.1.2.2.2 a ha).2.2.1.1
theorem RX.pl (h : RX n tc r tp I) (ha : a < n) : mPl I a = I 5 a := (h.1.2.2.2 a ha).2.2.2.1.1
theorem RX.hd (h : RX n tc r tp I) (ha : a < n) : I 67 a = I 6 a := (h.1.2.2.2 a ha).2.2.2.2.1
theorem RX.setH (h : RX n tc r tp I) (hv : isN 100 v) : RX n tc r tp (up2 (up2 I 1 0 v) 61 7 v) :=
  ⟨⟨h.1.1, ⟨rfl, hv⟩, h.1.2.2.1, h.1.2.2.2⟩, h.2.1.g rfl rfl rfl rfl rfl rfl (fun p _ _ => by rw [up2_q (by omega), up2_q (by omega)]), h.2.2.1.g rfl rfl rfl rfl, h.2.2.2.1.g rfl rfl (fun p _ _ => by rw [up2_q (by omega), up2_q (by omega)]) rfl rfl (fun k _ _ => by rw [up2_k (by omega), up2_q (by omega)]), h.2.2.2.2.g (fun p _ => by rw [up2_q (by omega), up2_q (by omega)])⟩
theorem RX.setO (h : RX n tc r tp I) (hv : isN 1000 v) : RX n tc r tp (up2 (up2 I 1 1 v) 61 8 v) :=
  ⟨⟨h.1.1, h.1.2.1, ⟨rfl, hv⟩, h.1.2.2.2⟩, h.2.1.g rfl rfl rfl rfl rfl rfl (fun p _ _ => by rw [up2_q (by omega), up2_q (by omega)]), h.2.2.1.g rfl rfl rfl rfl, h.2.2.2.1.g rfl rfl (fun p _ _ => by rw [up2_q (by omega), up2_q (by omega)]) rfl rfl (fun k _ _ => by rw [up2_k (by omega), up2_q (by omega)]), h.2.2.2.2.g (fun p _ => by rw [up2_q (by omega), up2_q (by omega)])⟩
theorem RX.setN (h : RX n tc r tp I) (ha : a < n) (hv : isN 10 v) : RX n tc r tp (up2 (up2 I 3 a v) 66 (3 * a) v) := by
  refine ⟨⟨h.1.1, h.1.2.1, h.1.2.2.1, fun b hb => ?_⟩, h.2.1.g rfl rfl rfl rfl rfl rfl (fun p _ _ => by rw [up2_q (by omega), up2_q (by omega)]), h.2.2.1.g rfl rfl rfl rfl, h.2.2.2.1.g rfl rfl (fun p _ _ => by rw [up2_q (by omega), up2_q (by omega)]) rfl rfl (fun k _ _ => by rw [up2_q (by omega), up2_q (by omega)]), h.2.2.2.2.g (fun p _ => by rw [up2_q (by omega), up2_q (by omega)])⟩
  obtain ⟨i1, i2, i3, i4, i5⟩ := h.1.2.2.2 b hb
  refine ⟨i1, ?_, ?_, ?_, i5⟩
  · show up2 (up2 I 3 a v) 66 (3 * a) v 66 (3 * b) = up2 I 3 a v 3 b ∧ isN 10 (up2 I 3 a v 3 b)
    by_cases c : b = a
    · subst c; rw [up2_at, up2_at]; exact ⟨rfl, hv⟩
    · rw [up2_k (by omega), up2_q (by omega), up2_k c]; exact i2
  · show up2 (up2 I 3 a v) 66 (3 * a) v 66 (3 * b + 1) = _ ∧ _
    rw [up2_k (by omega)]; exact i3
  · show up2 (up2 I 3 a v) 66 (3 * a) v 66 (3 * b + 2) = _ ∧ _
    rw [up2_k (by omega)]; exact i4
theorem RX.setT (h : RX n tc r tp I) (ha : a < n) (hv : isN 100 v) : RX n tc r tp (up2 (up2 I 4 a v) 66 (3 * a + 1) v) := by
  refine ⟨⟨h.1.1, h.1.2.1, h.1.2.2.1, fun b hb => ?_⟩, h.2.1.g rfl rfl rfl rfl rfl rfl (fun p _ _ => by rw [up2_q (by omega), up2_q (by omega)]), h.2.2.1.g rfl rfl rfl rfl, h.2.2.2.1.g rfl rfl (fun p _ _ => by rw [up2_q (by omega), up2_q (by omega)]) rfl rfl (fun k _ _ => by rw [up2_q (by omega), up2_q (by omega)]), h.2.2.2.2.g (fun p _ => by rw [up2_q (by omega), up2_q (by omega)])⟩
  obtain ⟨i1, i2, i3, i4, i5⟩ := h.1.2.2.2 b hb
  refine ⟨i1, ?_, ?_, ?_, i5⟩
  · show up2 (up2 I 4 a v) 66 (3 * a + 1) v 66 (3 * b) = _ ∧ _
    rw [up2_k (by omega)]; exact i2
  · show up2 (up2 I 4 a v) 66 (3 * a + 1) v 66 (3 * b + 1) = up2 I 4 a v 4 b ∧ isN 100 (up2 I 4 a v 4 b)
    by_cases c : b = a
    · subst c; rw [up2_at, up2_at]; exact ⟨rfl, hv⟩
    · rw [up2_k (by omega), up2_q (by omega), up2_k c]; exact i3
  · show up2 (up2 I 4 a v) 66 (3 * a + 1) v 66 (3 * b + 2) = _ ∧ _
    rw [up2_k (by omega)]; exact i4
theorem RX.setP (h : RX n tc r tp I) (ha : a < n) (hv : isN 64 v) : RX n tc r tp (up2 (up2 I 5 a v) 66 (3 * a + 2) v) := by
  refine ⟨⟨h.1.1, h.1.2.1, h.1.2.2.1, fun b hb => ?_⟩, h.2.1.g rfl rfl rfl rfl rfl rfl (fun p _ _ => by rw [up2_q (by omega), up2_q (by omega)]), h.2.2.1.g rfl rfl rfl rfl, h.2.2.2.1.g rfl rfl (fun p _ _ => by rw [up2_q (by omega), up2_q (by omega)]) rfl rfl (fun k _ _ => by rw [up2_q (by omega), up2_q (by omega)]), h.2.2.2.2.g (fun p _ => by rw [up2_q (by omega), up2_q (by omega)])⟩
  obtain ⟨i1, i2, i3, i4, i5⟩ := h.1.2.2.2 b hb
  refine ⟨i1, ?_, ?_, ?_, i5⟩
  · show up2 (up2 I 5 a v) 66 (3 * a + 2) v 66 (3 * b) = _ ∧ _
    rw [up2_k (by omega)]; exact i2
  · show up2 (up2 I 5 a v) 66 (3 * a + 2) v 66 (3 * b + 1) = _ ∧ _
    rw [up2_k (by omega)]; exact i3
  · show up2 (up2 I 5 a v) 66 (3 * a + 2) v 66 (3 * b + 2) = up2 I 5 a v 5 b ∧ isN 64 (up2 I 5 a v 5 b)
    by_cases c : b = a
    · subst c; rw [up2_at, up2_at]; exact ⟨rfl, hv⟩
    · rw [up2_k (by omega), up2_q (by omega), up2_k c]; exact i4
theorem RX.force {t : Nat} (h : RX n tc r tp I) (ht : t < tc) : RX n tc t tp (up2 (up2 I 1 2 (io t)) 61 4 (io t)) :=
  ⟨h.1.g rfl rfl rfl rfl rfl rfl rfl rfl rfl rfl rfl rfl rfl rfl, ⟨h.2.1.1, ⟨ht, rfl, rfl⟩, fun t ht => by
    obtain ⟨c, k1, k2⟩ := h.2.1.2.2 t ht
    have := tq_b (show t < 6 from Nat.lt_of_lt_of_le ht h.t6)
    exact ⟨c, mTx_s rfl rfl k1, cTx_s (by rw [up2_q (by omega), up2_q (by omega)]) (by rw [up2_q (by omega), up2_q (by omega)]) k2⟩⟩, h.2.2.1.g rfl rfl rfl rfl, h.2.2.2.1.g rfl rfl (fun p _ _ => by rw [up2_q (by omega), up2_q (by omega)]) rfl rfl (fun k _ _ => by rw [up2_k (by omega), up2_q (by omega)]), h.2.2.2.2.g (fun p _ => by rw [up2_q (by omega), up2_q (by omega)])⟩
theorem RX.feed (h : RX n tc r tp I) (ht : tp < 160) (hv : isN 256 v) : RX n tc r (tp + 1) (up2 (up2 (up2 (up2 I 32 tp v) 29 0 (io tp + 1)) 64 tp v) 61 6 (io tp + 1)) := by
  refine ⟨h.1.g rfl rfl rfl rfl rfl rfl rfl rfl rfl rfl rfl rfl rfl rfl, h.2.1.g rfl rfl rfl rfl rfl rfl (fun p _ _ => by rw [up2_q (by omega), up2_q (by omega), up2_q (by omega), up2_q (by omega)]), ⟨⟨ht, ?_, ?_⟩, fun i hi => ?_⟩, h.2.2.2.1.g rfl rfl (fun p _ _ => by rw [up2_q (by omega), up2_q (by omega), up2_q (by omega), up2_q (by omega)]) rfl rfl (fun k _ _ => by rw [up2_k (by omega), up2_q (by omega), up2_q (by omega), up2_q (by omega)]), h.2.2.2.2.g (fun p _ => by rw [up2_q (by omega), up2_q (by omega), up2_q (by omega), up2_q (by omega)])⟩
  · exact n_add (a := tp) (b := 1) rfl rfl
  · exact n_add (a := tp) (b := 1) rfl rfl
  · show up2 _ 64 tp v 64 i = up2 I 32 tp v 32 i ∧ isN 256 (up2 I 32 tp v 32 i)
    by_cases c : i = tp
    · subst c; rw [up2_at, up2_at]; exact ⟨rfl, hv⟩
    · rw [up2_k c, up2_k c, up2_q (by omega), up2_q (by omega)]; exact h.2.2.1.2 i (by omega)
end
