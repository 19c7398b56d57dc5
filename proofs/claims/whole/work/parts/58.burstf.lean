/-- a burst: v is added to k symbols from x on -/
def qs_bu (D : Nat → BitVec 8) (x : Nat) (v : BitVec 8) : Nat → (Nat → BitVec 8)
  | 0 => D
  | k + 1 => va_up (qs_bu D x v k) (x + k) (qs_bu D x v k (x + k) ^^^ v)
