def suN (f : Nat → Nat) : Nat → Nat
  | 0 => 0
  | i + 1 => suN f i + f i
def anF (f : Nat → Int32) (b : Int32) : Nat → Int32
  | 0 => b
  | i + 1 => anF f b i &&& (f i ^^^ (-1))
