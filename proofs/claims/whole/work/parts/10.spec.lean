/-! what is reckoned, as functions -/
def sumL (f : Nat → Int32) : Nat → Int64
  | 0 => 0
  | k + 1 => sumL f k + (f k).toInt64
def cnt (f : Nat → Int32) (x : Int32) (a : Nat) : Nat → Nat
  | 0 => 0
  | k + 1 => cnt f x a k + (if f (a + k) = x then 1 else 0)
