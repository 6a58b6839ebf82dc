/-! quotients, drawn numbers, bits -/
theorem n_div {x y : Int32} {a b : Nat} (ex : x = io a) (ey : y = io b) (ha : a < 2147483648) (hb : b < 2147483648) : x / y = io (a / b) := by
  have h := Nat.div_le_self a b
  rw [ex, ey, eq_int, Int32.toInt_div, io_int ha, io_int hb, io_int (by omega), ← Int.ofNat_tdiv]
  generalize a / b = q at h ⊢
  exact bm (by omega) (by omega)
theorem n_rem {x y : Int32} {a b : Nat} (ex : x = io a) (ey : y = io b) (ha : a < 2147483648) (hb : b < 2147483648) : x - x / y * y = io (a % b) := by
  have h := Nat.div_add_mod a b
  rw [Nat.mul_comm] at h
  rw [n_div ex ey ha hb, n_mul rfl ey, n_sub ex rfl (by omega)]
  exact congrArg io (by omega)
def ur (z : Int32) : Int32 := (z.toUInt32 >>> (Int32.toUInt32 9 &&& Int32.toUInt32 31)).toInt32
def dr (z : Int32) : Int32 := ur z - ur z / 50 * 50
def zs (s : Int32) : Nat → Int32
  | 0 => s
  | a + 1 => zs s a * 1103515245 + 12345
theorem ur_n (z : Int32) : ∃ k, k < 8388608 ∧ ur z = io k := by
  refine ⟨(z.toUInt32 >>> (Int32.toUInt32 9 &&& Int32.toUInt32 31)).toNat, ?_, ?_⟩
  · rw [UInt32.toNat_shiftRight]
    show z.toUInt32.toNat >>> 9 < _
    have h := z.toUInt32.toNat_lt
    rw [Nat.shiftRight_eq_div_pow]
    omega
  · exact congrArg UInt32.toInt32 (UInt32.ofNat_toNat).symm
theorem dr_n (z : Int32) : isN 50 (dr z) := by
  obtain ⟨k, hk, e⟩ := ur_n z
  exact ⟨k % 50, Nat.mod_lt _ (by omega), n_rem e (show (50 : Int32) = io 50 from rfl) (by omega) (by omega)⟩
/-- thirsts drawn by a seed -/
def dT (s : Int32) : Nat → Int32 := fun a => dr (zs s (a + 1))
def wT (X : Pot) (f : Nat → Int32) : Pot := (X.1, X.2.1, X.2.2.1, X.2.2.2.1, f, X.2.2.2.2.2)
theorem wT_c {X Y : Pot} (h : pEq X Y) (f : Nat → Int32) : pEq (wT X f) (wT Y f) := ⟨h.1, h.2.1, fun a ha => ⟨(h.2.2 a ha).1, rfl, (h.2.2 a ha).2.2⟩⟩
theorem dT_n (s : Int32) (a : Nat) : isN 100 (dT s a) := by
  unfold dT
  obtain ⟨k, hk, e⟩ := dr_n (zs s (a + 1))
  exact ⟨k, Nat.lt_of_lt_of_le hk (by decide), e⟩
theorem wT_ok {X : Pot} {f : Nat → Int32} (h : okX X) (hf : ∀ a, isN 100 (f a)) : okX (wT X f) := ⟨h.1, h.2.1, h.2.2.1, h.2.2.2.1, fun a _ => hf a⟩
theorem tal_dn {ru : Ru} {K N P : Nat → Int32} {m sh : Int32} {s : Ms} (hs : s.2.2 = 0) : ∀ a, a ≤ 5 → ∃ k, k < 2 ^ a ∧ (tal ru K N P m sh a s).2.2 = io k
  | 0, _ => ⟨0, by decide, hs⟩
  | a + 1, h => by
    obtain ⟨k, hk, e⟩ := tal_dn hs a (by omega)
    rw [tal]
    by_cases c : (P a >>> (m &&& 31)) &&& 1 = 1
    · rw [if_pos c]
      unfold rch
      dsimp only
      split
      · rw [e]; exact bit_or a (by omega) k hk
      · exact ⟨k, by rw [Nat.pow_succ]; omega, e⟩
    · rw [if_neg c]
      exact ⟨k, by rw [Nat.pow_succ]; omega, e⟩
/-- who was denied in minute m -/
def dn (ru : Ru) (X : Pot) (m : Nat) : Int32 := (hri ru X m).2.2.2
theorem dn_n {ru : Ru} {X : Pot} (h : X.2.1 ≤ 5) (m : Nat) : ∃ k, k < 2 ^ X.2.1 ∧ dn ru X m = io k := tal_dn rfl _ h
theorem dn_c {ru : Ru} {X Y : Pot} (h : pEq X Y) (m : Nat) : dn ru X m = dn ru Y m := by unfold dn; rw [hri_c h]
theorem hD_d {n : Nat} {J : Nat → Nat → Int32} {ru : Ru} {X : Pot} (h : hD n J ru X) {m : Nat} (hm : m < 6) : J 26 m = dn ru X m := (h.2 m hm).2.2.2
theorem mD_d {n : Nat} {J : Nat → Nat → Int32} {ru : Ru} {X : Pot} (h : mD n J ru X) {m : Nat} (hm : m < 6) : J 74 m = dn ru X m := (h.2 m hm).2.2.2
theorem fbr_c {f g : Nat → Int32} : ∀ {d k : Nat}, (∀ j, k ≤ j → j < k + d → f j = g j) → fbr f d k = fbr g d k
  | 0, _, _ => rfl
  | d + 1, k, h => by
    rw [fbr, fbr, h k (by omega) (by omega), fbr_c (fun j h1 h2 => h j (by omega) (by omega))]
theorem fbr_cs {f : Nat → Int32} : ∀ (d k : Nat), (∃ j, k ≤ j ∧ j < k + d ∧ (∀ i, k ≤ i → i < j → f i = 0) ∧ ¬ f j = 0 ∧ fbr f d k = io j) ∨ ((∀ i, k ≤ i → i < k + d → f i = 0) ∧ fbr f d k = -1)
  | 0, k => Or.inr ⟨fun i h1 h2 => absurd h2 (by omega), rfl⟩
  | d + 1, k => by
    by_cases c : f k = 0
    · rcases fbr_cs (f := f) d (k + 1) with ⟨j, h1, h2, h3, h4, h5⟩ | ⟨h1, h2⟩
      · refine Or.inl ⟨j, by omega, by omega, fun i i1 i2 => ?_, h4, by rw [fbr, if_pos c]; exact h5⟩
        by_cases e : i = k
        · rw [e]; exact c
        · exact h3 i (by omega) i2
      · refine Or.inr ⟨fun i i1 i2 => ?_, by rw [fbr, if_pos c]; exact h2⟩
        by_cases e : i = k
        · rw [e]; exact c
        · exact h1 i (by omega) (by omega)
    · exact Or.inl ⟨k, by omega, by omega, fun i i1 i2 => absurd i2 (by omega), c, by rw [fbr, if_neg c]⟩
def tzL : List Nat := [0, 0, 1, 0, 2, 0, 1, 0, 3, 0, 1, 0, 2, 0, 1, 0, 4, 0, 1, 0, 2, 0, 1, 0, 3, 0, 1, 0, 2, 0, 1, 0]
def tz (k : Nat) : Nat := tzL.getD k 0
abbrev tb (x : Int32) (a : Nat) : Prop := x >>> (io a &&& 31) &&& 1 = 1
theorem tz_b : ∀ k, k < 32 → ∀ a, a < 5 → (∀ b, b < a → ¬ tb (io k) b) → tb (io k) a → tz k = a := by decide +kernel
theorem tz_0 : ∀ n, n < 6 → ∀ k, k < 2 ^ n → (∀ b, b < n → ¬ tb (io k) b) → k = 0 := by decide +kernel
theorem tz_l : ∀ n, n < 6 → ∀ k, k < 2 ^ n → 0 < k → tz k < n := by decide +kernel
theorem tb_0 : ∀ a, a < 5 → ¬ tb 0 a := by decide +kernel
