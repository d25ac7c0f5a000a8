
def statv (w : Int32) : Int32 := if 0 ≤ w.toInt ∧ w.toInt ≤ 2 then 0 else -1
def heldv (w : Int32) : Int32 := if 0 ≤ w.toInt ∧ w.toInt ≤ 4 then 0 else -100000000
def endv (w : Int32) : Int32 := if w.toInt = 0 then 1 else 0
def faultv (w : Int32) : Int32 := if w.toInt = 0 ∨ w.toInt = 1 then 0 else -2
