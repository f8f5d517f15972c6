/-! ROWS -/
def zlst (t : Nat) : Int32 := if t = 0 then -128 else if t = 1 then -32768 else -2147483648
def zlow (t : Nat) (v : Int32) : Int32 := if t = 0 then v.toInt8.toInt32 else if t = 1 then v.toInt16.toInt32 else v
