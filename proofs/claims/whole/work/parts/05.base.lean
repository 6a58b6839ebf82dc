/-! the small machine: its state, what an instruction asks and does, blocks, methods -/
abbrev xHp : Type := Nat × (Nat → Nat → Int32) × (Nat → Nat → Int64) × (Nat → Nat → Option Nat)
abbrev xEl : Type := Instr × (Nat × Nat × Nat × Nat) × Int32 × Int64 × List (Int32 × Nat)
/-- the kinds of the places in the order of their making: 0 .. 6 objects of vwCl, 7 int[], 8 boolean[], 9 Sheet[], 10 Text[] -/
def xKdL : List Nat := [5, 3, 7, 7, 7, 7, 7, 3, 7, 7, 7, 7, 7, 3, 7, 7, 7, 7, 7, 0, 7, 7, 7, 7, 7, 7, 7, 7, 7, 1, 7, 7, 7, 10, 9, 4, 7, 7, 4, 7, 7, 4, 7, 7, 4, 7, 7, 4, 7, 7, 4, 7, 7, 2, 7, 2, 7, 2, 7, 2, 7, 6, 7, 7, 7, 7, 7, 7, 7, 7, 7, 7, 7, 7, 7, 7, 7, 7, 8, 7, 7, 7]
/-- how many slots each has -/
def xLnL : List Nat := [9, 9, 5, 5, 5, 5, 5, 9, 5, 5, 5, 5, 5, 9, 5, 5, 5, 5, 5, 11, 5, 5, 5, 6, 6, 6, 6, 6, 160, 9, 160, 3, 160, 6, 4, 2, 160, 3, 2, 160, 3, 2, 160, 3, 2, 160, 3, 2, 160, 3, 2, 160, 3, 3, 40, 3, 40, 3, 40, 3, 40, 49, 960, 6, 160, 5, 15, 5, 5, 5, 5, 6, 6, 6, 6, 5, 15, 5, 4, 4, 4, 160]
def xKd (p : Nat) : Nat := xKdL.getD p 99
def xLn (p : Nat) : Nat := xLnL.getD p 0
/-- the String constants' bytes, the array of Kinds -/
def xSb : List (List Int32) := [[109, 97, 121, 32, 115, 104, 111, 119, 110, 32, 60, 32, 49, 32, 59, 32, 106, 111, 121, 115, 32, 104, 101, 97, 116, 32, 59, 32, 99, 111, 111, 108, 115, 32, 51, 32, 59],
  [109, 97, 121],
  [106, 111, 121, 115],
  [99, 111, 111, 108, 115],
  [111, 114],
  [97, 110, 100],
  [110, 111, 116],
  [104, 101, 97, 116],
  [116, 104, 105, 114, 115, 116],
  [110, 117, 109, 98, 101, 114],
  [115, 104, 111, 119, 110],
  [109, 105, 110, 117, 116, 101],
  [99, 117, 112, 115]]
def xSn : List Nat := [37, 3, 4, 5, 2, 3, 3, 4, 6, 6, 5, 6, 4]
def xAb : List Int32 := [-1, 0, 0, 1, 2, 0]
def xSl : Nat → Nat
  | 0 => 0
  | n + 1 => xSl n + xLn n
def xFt : Nat → Nat → FieldType := fun ci => match ci with
  | 0 => tyX0
  | 1 => tyX2
  | 2 => tyX3
  | 3 => tyX4
  | 4 => tyX5
  | 5 => tyX6
  | _ => tyX7
def xNf (ci : Nat) : Nat := [11, 9, 3, 9, 2, 9, 49].getD ci 0
abbrev xBk : Type := List (Nat × Nat × List xEl)
/-- the law's script: its length, its ints -/
abbrev xSc : Type := Nat × (Nat → Int32)
