/-! ===== sums ===== -/
def sumI (f : Nat → Int) : Nat → Int
  | 0 => 0
  | n + 1 => sumI f n + f n
/-! rooms -/
def rmH (k : Int) : Int := sumI (fun f => rmC k (f : Int)) 5
def rmA (kd : Nat → Int32) (n : Nat) : Int := sumI (fun c => rmH (kd c).toInt) n
def usF (pl : Nat → Int32) (n : Nat) (x : Int) : Int := if 0 < cntR pl n x then 1 else 0
def usH (pl : Nat → Int32) (n : Nat) (c : Nat) : Nat → Int := sumI (fun f => usF pl n (10 * (c : Int) + (f : Int)))
def usA (pl : Nat → Int32) (n : Nat) : Nat → Int := sumI (fun c => usH pl n c 5)
def qRule (b : Int) (M : Mem) : Int := if b = 0 then (clM M).toInt else if b = 1 then (thM M).toInt else if b = 2 then (dyM M).toInt else if b = 3 then rmA (kdM M) (clM M).toInt.toNat else if b = 4 then usA (plM M) (thM M).toInt.toNat (clM M).toInt.toNat else -1
def rfA (kd : Nat → Int32) (n : Nat) : Int := sumI (fun c => sumI (fun f => rmF (kd c).toInt (f : Int)) 5) n
