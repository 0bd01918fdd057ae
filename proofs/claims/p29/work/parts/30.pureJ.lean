def dgP (pb : Nat → Nat) (d : Int64) : Nat → Int64 | 0 => d | i + 1 => dg1 (dgP pb d i) (Int32.toInt64 (nI (pb i)))
