/-! ints as naturals; bounds -/
abbrev io (n : Nat) : Int32 := Int32.ofNat n
theorem io_lt {a b : Nat} (ha : a < 2147483648) (hb : b < 2147483648) : io a < io b ↔ a < b := Int32.ofNat_lt_iff_lt ha hb
theorem io_le {a b : Nat} (ha : a < 2147483648) (hb : b < 2147483648) : io a ≤ io b ↔ a ≤ b := Int32.ofNat_le_iff_le ha hb
theorem io_nat {a : Nat} (ha : a < 2147483648) : (io a).toNatClampNeg = a := Int32.toNatClampNeg_ofNat_of_lt ha
theorem io_int {a : Nat} (ha : a < 2147483648) : (io a).toInt = a := Int32.toInt_ofNat_of_lt ha
theorem io_inj {a b : Nat} (ha : a < 2147483648) (hb : b < 2147483648) : io a = io b ↔ a = b :=
  ⟨fun h => by rw [← io_nat ha, h, io_nat hb], fun h => by rw [h]⟩
theorem io_succ (a : Nat) : io a + 1 = io (a + 1) := (Int32.ofNat_add a 1).symm
theorem io_of {x : Int32} (h : 0 ≤ x) : io x.toNatClampNeg = x := Int32.ofNat_toNatClampNeg x h
theorem vp_io {a n : Nat} (h : a < n) (hn : n ≤ 1000) : vp_in (io a) n := by
  unfold vp_in
  rw [io_nat (by omega)]
  rintro (z | z)
  · have z : io a < io 0 := z
    rw [io_lt (by omega) (by omega)] at z
    omega
  · omega
theorem ix {a n : Nat} (h : a < n) (hn : n ≤ 1000) : xIx (io a) a n := ⟨vp_io h hn, io_nat (by omega)⟩
theorem lt_int {x y : Int32} : x < y ↔ x.toInt < y.toInt := Int32.lt_iff_toInt_lt
theorem le_int {x y : Int32} : x ≤ y ↔ x.toInt ≤ y.toInt := Int32.le_iff_toInt_le
theorem eq_int {x y : Int32} : x = y ↔ x.toInt = y.toInt := ⟨fun h => by rw [h], fun h => Int32.toInt_inj.mp h⟩
theorem bm {z : Int} (h1 : -2147483648 ≤ z) (h2 : z < 2147483648) : z.bmod 4294967296 = z := xb_bmod h1 h2
theorem add_int {x y : Int32} (h1 : -2147483648 ≤ x.toInt + y.toInt) (h2 : x.toInt + y.toInt < 2147483648) : (x + y).toInt = x.toInt + y.toInt := by
  rw [Int32.toInt_add]; exact bm h1 h2
theorem sub_int {x y : Int32} (h1 : -2147483648 ≤ x.toInt - y.toInt) (h2 : x.toInt - y.toInt < 2147483648) : (x - y).toInt = x.toInt - y.toInt := by
  rw [Int32.toInt_sub]; exact bm h1 h2
theorem mul_int {x y : Int32} (h1 : -2147483648 ≤ x.toInt * y.toInt) (h2 : x.toInt * y.toInt < 2147483648) : (x * y).toInt = x.toInt * y.toInt := by
  rw [Int32.toInt_mul]; exact bm h1 h2
/-- an int in bounds is a natural -/
theorem io_ex {x : Int32} {n : Nat} (h0 : 0 ≤ x) (h1 : x < io n) (hn : n < 2147483648) : ∃ k, k < n ∧ x = io k := by
  refine ⟨x.toNatClampNeg, ?_, (io_of h0).symm⟩
  rw [← io_of h0, io_lt (Int32.toNatClampNeg_lt x) hn] at h1
  exact h1
theorem lv_xIx {i : Int32} {k n : Nat} (h : xIx i k n) : xIx i k n := h
/-- an array cut off behind n -/
def cl (n : Nat) (f : Nat → Int32) : Nat → Int32 := fun a => if a < n then f a else 0
theorem cl_at {n a : Nat} {f : Nat → Int32} (h : a < n) : cl n f a = f a := if_pos h
theorem cl_ext {n : Nat} {f g : Nat → Int32} (h : ∀ a, a < n → f a = g a) : cl n f = cl n g := by
  funext a
  by_cases c : a < n
  · rw [cl_at c, cl_at c, h a c]
  · rw [cl, cl, if_neg c, if_neg c]
theorem cl_use {n a : Nat} {f g : Nat → Int32} (h : cl n f = cl n g) (ha : a < n) : f a = g a := by
  rw [← cl_at (f := f) ha, h, cl_at ha]
theorem cl_cl {n : Nat} {f : Nat → Int32} : cl n (cl n f) = cl n f := cl_ext fun a h => cl_at h
/-- one place put anew -/
def u1 (f : Nat → Int32) (a : Nat) (v : Int32) : Nat → Int32 := fun b => if b = a then v else f b
theorem u1_eq {f : Nat → Int32} {a : Nat} {v : Int32} : u1 f a v a = v := if_pos rfl
theorem u1_ne {f : Nat → Int32} {a b : Nat} {v : Int32} (h : ¬ b = a) : u1 f a v b = f b := if_neg h
theorem up2_p {I : Nat → Nat → Int32} {p k : Nat} {v : Int32} : up2 I p k v p = u1 (I p) k v := by
  funext b
  show (if p = p then (if b = k then v else I p b) else I p b) = _
  rw [if_pos rfl]
  rfl
theorem up2_q {I : Nat → Nat → Int32} {p q k : Nat} {v : Int32} (h : ¬ q = p) : up2 I p k v q = I q := by
  funext b
  exact if_neg h
theorem cl_u1 {n a : Nat} {f : Nat → Int32} {v : Int32} (h : a < n) : cl n (u1 f a v) = u1 (cl n f) a v := by
  funext b
  by_cases c : b = a
  · subst c; rw [cl_at h, u1_eq, u1_eq]
  · rw [u1_ne c]
    by_cases d : b < n
    · rw [cl_at d, cl_at d, u1_ne c]
    · rw [cl, cl, if_neg d, if_neg d]
theorem u1_u1 {f : Nat → Int32} {a : Nat} {v w : Int32} : u1 (u1 f a v) a w = u1 f a w := by
  funext b
  by_cases c : b = a
  · subst c; rw [u1_eq, u1_eq]
  · rw [u1_ne c, u1_ne c, u1_ne c]
theorem u1_self {f : Nat → Int32} {a : Nat} : u1 f a (f a) = f := by
  funext b
  by_cases c : b = a
  · subst c; rw [u1_eq]
  · rw [u1_ne c]
/-- a loop over naturals -/
theorem lp {P : Nat → Prop} {n : Nat} (step : ∀ a, a < n → P a → P (a + 1)) (h0 : P 0) : ∀ a, a ≤ n → P a := by
  intro a
  induction a with
  | zero => exact fun _ => h0
  | succ a ih => exact fun h => step a h (ih (by omega))
/-- a loop of the small machine, its end reached backwards -/
theorem lpE {G : Prop} {n : Nat} {P : Nat → Prop} (step : ∀ a, a < n → P a → (P (a + 1) → G) → G) (fin : P n → G) : ∀ d a, a + d = n → P a → G := by
  intro d
  induction d with
  | zero => intro a h p; rw [show a = n by omega] at p; exact fin p
  | succ d ih => intro a h p; exact step a (by omega) p (fun q => ih (a + 1) (by omega) q)
theorem n_lt {x y : Int32} {a b : Nat} (ex : x = io a) (ey : y = io b) (ha : a < 2147483648) (hb : b < 2147483648) : x < y ↔ a < b := by
  rw [ex, ey]; exact io_lt ha hb
theorem n_le {x y : Int32} {a b : Nat} (ex : x = io a) (ey : y = io b) (ha : a < 2147483648) (hb : b < 2147483648) : x ≤ y ↔ a ≤ b := by
  rw [ex, ey]; exact io_le ha hb
theorem n_eq {x y : Int32} {a b : Nat} (ex : x = io a) (ey : y = io b) (ha : a < 2147483648) (hb : b < 2147483648) : x = y ↔ a = b := by
  rw [ex, ey]; exact io_inj ha hb
theorem n_add {x y : Int32} {a b : Nat} (ex : x = io a) (ey : y = io b) : x + y = io (a + b) := by
  rw [ex, ey]; exact (Int32.ofNat_add a b).symm
theorem n_mul {x y : Int32} {a b : Nat} (ex : x = io a) (ey : y = io b) : x * y = io (a * b) := by
  rw [ex, ey]; exact (Int32.ofNat_mul a b).symm
theorem n_sub {x y : Int32} {a b : Nat} (ex : x = io a) (ey : y = io b) (h : b ≤ a) : x - y = io (a - b) := by
  rw [ex, ey]; exact (Int32.ofNat_sub a b h).symm
theorem n_dec {x v : Int32} {a b : Nat} (ex : x = io a) (ev : v = -(io b)) (h : b ≤ a) : x + v = io (a - b) := by
  rw [ex, ev, ← Int32.sub_eq_add_neg]; exact (Int32.ofNat_sub a b h).symm
theorem ixE {i : Int32} {k n : Nat} (e : i = io k) (h : k < n) (hn : n ≤ 1000) : xIx i k n := by
  rw [e]; exact ix h hn
theorem ixQ {i : Int32} {p k n : Nat} (e : i = io k) (h : k < n) (hn : n ≤ 1000) (hp : xLn p = n) : xIx i k (xLn p) := by
  rw [hp]; exact ixE e h hn
theorem up2_at {I : Nat → Nat → Int32} {p k : Nat} {v : Int32} : up2 I p k v p k = v := by simp [up2]
theorem up2_k {I : Nat → Nat → Int32} {p k b : Nat} {v : Int32} (h : ¬ b = k) : up2 I p k v p b = I p b := by simp [up2, h]
theorem all_succ {a : Nat} {P : Nat → Prop} (h : ∀ b, b < a → P b) (h1 : P a) : ∀ b, b < a + 1 → P b := by
  intro b hb
  by_cases c : b = a
  · rw [c]; exact h1
  · exact h b (by omega)
theorem r_iincN {xs : xSc} {al rk : Nat → Nat} {C : xT} {lim : Nat} {K : Nat → List Value → List Value → xHp → Prop} {ep : Nat} {Q : Value → xHp → Prop} {l : List xEl} {ls ls' st : List Value} {h : xHp} {pc len a b : Nat} {v : Int32} {w : Int64} {ts : List (Int32 × Nat)} {i : Nat} {z : Int} {x y : Int32} (hl : ls[i]? = some (.int x)) (hi : i < ls.length) (e : x + v = y) (hs : xSt1 ls i (.int y) = ls') (k : xR xs al rk C lim K ep Q l ls' st h) : xR xs al rk C lim K ep Q ((Instr.iinc i z, (pc, len, a, b), v, w, ts) :: l) ls st h := by
  subst e
  exact r_iinc hl hi hs k
