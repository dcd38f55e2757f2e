/-! The words of the two readers by their numbers: the class's and the reference's. -/
/-- the reference's number of a word out of the class's -/
def ph : Nat → Nat → Nat
  | 0, _ => 0
  | k + 1, n => if n = 0 then 0 else ph k (n / 32) * 256 + (n % 32 + 96)
def toldN (k : Nat) : Nat := ([8902227, 17171557, 23609, 215527, 542723566, 136356, 17800013413, 164968, 719722099, 23031, 244915, 146611, 624435, 278194, 498, 1476, 14836, 2610628, 508078, 366100, 15558, 86486190, 486, 215533, 664972, 21279923, 492210354] : List Nat).getD k 0
def ctA (k : Nat) : Int64 := Int64.ofNat (toldN k)
/-- the reference's order of the words -/
def pmR (k : Nat) : Nat := if k = 7 then 9 else if k = 8 then 7 else if k = 9 then 8 else k
def ctB (k : Nat) : Int64 := Int64.ofNat (ph 8 (toldN (pmR k)))
