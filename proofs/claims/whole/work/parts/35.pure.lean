/-! an hour, as a function -/
def kPr (n t : Int32) : Int32 := if 5 * n + 20 < t then 1 else 0
def kShow (k n t m : Int32) : Int32 := if k = 1 then (if 5 * n + 20 < t then 1 else 0) else if k = 2 then (if 0 < t then 1 else 0) else if k = 3 then (if 5 * n + 20 < t then 1 else if m - m / 2 * 2 = 1 then 1 else 0) else if k = 4 then (if 0 < t then (if n ≤ m then 1 else 0) else 0) else if k = 5 then 0 else if 20 < t then 1 else 0
def kJoy (k n v h : Int32) : Int32 := if k = 1 then (if 60 < h then 2 * v else 0) else if k = 2 then v + n else if k = 3 then (if 60 < h then 2 * v else 0) + 3 else if k = 4 then (v + n) / 2 else if k = 5 then 1 else v
def kTake (k n : Int32) : Int32 := if k = 1 then 6 + n else if k = 2 then 3 else if k = 3 then 6 + n else if k = 4 then 4 else if k = 5 then 0 else 6
/-- heat, how many, kind, number, thirst, plan -/
abbrev Pot : Type := Int32 × Nat × (Nat → Int32) × (Nat → Int32) × (Nat → Int32) × (Nat → Int32)
abbrev Vw : Type := Nat → Int32
abbrev Ru : Type := Nat → Vw → Int32
def vw (h t n s m c : Int32) : Vw := fun k => match k with
  | 0 => h
  | 1 => t
  | 2 => n
  | 3 => s
  | 4 => m
  | _ => c
/-- heat, thirst, cups, joy -/
abbrev Hs : Type := Int32 × (Nat → Int32) × (Nat → Int32) × (Nat → Int32)
/-- with who poured, who was denied -/
abbrev Ms : Type := Hs × Int32 × Int32
def w3 (v lo hi : Int32) : Int32 := if v < lo then lo else if hi < v then hi else v
def mx0 (v : Int32) : Int32 := if 0 < v then v else 0
def mn99 (v : Int32) : Int32 := if v < 99 then v else 99
def bit (a : Nat) : Int32 := 1 <<< (io a &&& 31)
def bcL : List Int32 := [0, 1, 1, 2, 1, 2, 2, 3, 1, 2, 2, 3, 2, 3, 3, 4, 1, 2, 2, 3, 2, 3, 3, 4, 2, 3, 3, 4, 3, 4, 4, 5]
def bc (x : Int32) : Int32 := bcL.getD x.toNatClampNeg 0
def shw (K N th : Nat → Int32) (m : Int32) : Nat → Int32
  | 0 => 0
  | a + 1 => if kShow (K a) (N a) (th a) m = 0 then shw K N th m a else shw K N th m a ||| bit a
def rch (ru : Ru) (K N : Nat → Int32) (m sh : Int32) (a : Nat) (s : Ms) : Ms :=
  let w := vw s.1.1 (s.1.2.1 a) (N a) (bc (sh &&& (bit a ^^^ -1))) m (s.1.2.2.1 a)
  if ru 0 w = 0 then (s.1, s.2.1, s.2.2 ||| bit a)
  else ((mx0 (s.1.1 - kTake (K a) (N a)), u1 s.1.2.1 a (mx0 (s.1.2.1 a - 10)), u1 s.1.2.2.1 a (s.1.2.2.1 a + 1), u1 s.1.2.2.2 a (s.1.2.2.2 a + kJoy (K a) (N a) (w3 (ru 1 w) (-99) 99) s.1.1)), s.2.1 ||| bit a, s.2.2)
def tal (ru : Ru) (K N P : Nat → Int32) (m sh : Int32) : Nat → Ms → Ms
  | 0, s => s
  | a + 1, s => if (P a >>> (m &&& 31)) &&& 1 = 1 then rch ru K N m sh a (tal ru K N P m sh a s) else tal ru K N P m sh a s
def thi (n : Nat) (th : Nat → Int32) : Nat → Int32 := fun a => if a < n then mn99 (th a + 2) else th a
/-- a minute: what is behind it; heat behind it, who showed, who poured, who was denied -/
def mnt (ru : Ru) (n : Nat) (K N P : Nat → Int32) (m : Nat) (s : Hs) : Hs × (Int32 × Int32 × Int32 × Int32) :=
  let sh := shw K N s.2.1 (io m) n
  let t := tal ru K N P (io m) sh n ((mx0 (s.1 - w3 (ru 2 (vw s.1 0 0 (bc sh) (io m) 0)) 0 40), s.2.1, s.2.2.1, s.2.2.2), 0, 0)
  ((t.1.1, thi n t.1.2.1, t.1.2.2.1, t.1.2.2.2), (t.1.1, sh, t.2.1, t.2.2))
def hrs (ru : Ru) (X : Pot) : Nat → Hs
  | 0 => (X.1, cl X.2.1 X.2.2.2.2.1, fun _ => 0, fun _ => 0)
  | m + 1 => (mnt ru X.2.1 X.2.2.1 X.2.2.2.1 X.2.2.2.2.2 m (hrs ru X m)).1
def hri (ru : Ru) (X : Pot) (m : Nat) : Int32 × Int32 × Int32 × Int32 := (mnt ru X.2.1 X.2.2.1 X.2.2.2.1 X.2.2.2.2.2 m (hrs ru X m)).2
