/-- a bit is there -/
def hbQ (a b : Int32) : Prop := ¬ ((a >>> (b &&& 31)) &&& 1) = 0
