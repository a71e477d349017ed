def bm (x : Int) : Int := Int.bmod x 4294967296
abbrev g_M : Type := Nat → Nat → Int
abbrev g_B : Type := List (Nat × Nat × Nat)
def up (M : g_M) (a i : Nat) (v : Int) : g_M := fun b j => if b = a ∧ j = i then v else M b j
def rg (M : g_M) (r : Nat) (i : Int) : Int := if bm i < 0 then 0 else M r (bm i).toNat
def rs (M : g_M) (r : Nat) (i v : Int) : g_M := up M r (bm i).toNat v
def capB (r : Nat) : Nat := if r = 5 then 32 else if r = 30 then 16 else 64
def okI (r : Nat) (i : Int) : Prop := 0 ≤ bm i ∧ bm i < 1024 * capB r
def inI (i : Int) (n : Nat) : Prop := 0 ≤ bm i ∧ bm i < (n : Int)
def isB (v : Int) : Prop := v = 0 ∨ v = 1
def isY (v : Int) : Prop := -128 ≤ v ∧ v ≤ 127
def idiv (a b : Int) : Int := (Int32.ofInt a / Int32.ofInt b).toInt
def irem (a b : Int) : Int := (Int32.ofInt a - Int32.ofInt a / Int32.ofInt b * Int32.ofInt b).toInt
def iand (a b : Int) : Int := (Int32.ofInt a &&& Int32.ofInt b).toInt
def ior (a b : Int) : Int := (Int32.ofInt a ||| Int32.ofInt b).toInt
def ixor (a b : Int) : Int := (Int32.ofInt a ^^^ Int32.ofInt b).toInt
def ishl (a b : Int) : Int := (Int32.ofInt a <<< (Int32.ofInt b &&& 31)).toInt
def ishr (a b : Int) : Int := (Int32.ofInt a >>> (Int32.ofInt b &&& 31)).toInt
def iushr (a b : Int) : Int := ((Int32.ofInt a).toUInt32 >>> ((Int32.ofInt b).toUInt32 &&& Int32.toUInt32 31)).toInt32.toInt
def i2b (a : Int) : Int := (Int32.ofInt a).toInt8.toInt32.toInt
def M0 : g_M := fun a i => if a = 42 ∧ i = 12 then 4096 else if a = 46 ∧ i = 9 then -1 else 0
def imax (a b : Int) : Int := if bm a < bm b then b else a
def imin (a b : Int) : Int := if bm b < bm a then b else a
