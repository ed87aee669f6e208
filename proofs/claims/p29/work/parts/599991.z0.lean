noncomputable def oaR (pl pa kn : Nat → Int32) (d : Int) (n : Nat) (x : Nat) : Nat → Int := sumI (fun y => owS pl pa kn (10 * (x : Int) + (y : Int)) d n)
noncomputable def oaS (pl pa kn : Nat → Int32) (d : Int) (n c : Nat) : Nat → Int := sumI (fun x => oaR pl pa kn d n x c)
noncomputable def ntS (pl pa kn : Nat → Int32) (n : Nat) (c : Nat) : Nat → Int := sumI (fun k => owS pl pa kn (10 * (k : Int) + (c : Int)) 9 n - owS pl pa kn (10 * (c : Int) + (k : Int)) 9 n)
def mx0 (x : Int) : Int := if 0 < x then x else 0
noncomputable def npS (pl pa kn : Nat → Int32) (n c : Nat) : Nat → Int := sumI (fun k => mx0 (ntS pl pa kn n k c))
noncomputable def qSum (b : Int) (M : Mem) : Int := if b = 0 ∨ b = 1 then oaS (plM M) (paM M) (knM M) (if b = 0 then 9 else (dyM M).toInt) (thM M).toInt.toNat (clM M).toInt.toNat (clM M).toInt.toNat else if b = 2 then npS (plM M) (paM M) (knM M) (thM M).toInt.toNat (clM M).toInt.toNat (clM M).toInt.toNat else -1
/-! clerk -/
noncomputable def qClerk (a b : Int) (M : Mem) : Int := if ¬ (0 ≤ a ∧ a < (clM M).toInt) then -1 else if b = 0 then (kdM M a.toNat).toInt else if b = 1 then cntR (fun t => plM M t / 10) (thM M).toInt.toNat a else if b = 2 then rmH (kdM M a.toNat).toInt else if b = 3 then 1000 + ntS (plM M) (paM M) (knM M) (thM M).toInt.toNat a.toNat (clM M).toInt.toNat else -1
/-! the reference's nets, of row 45 -/
def nt45 (f : Nat → Int32) (c : Nat) : Nat → Int := sumI (fun k => (f (4 * k + c)).toInt - (f (4 * c + k)).toInt)
def np45 (f : Nat → Int32) : Nat → Int := sumI (fun c => mx0 (nt45 f c 4))
def all45 (f : Nat → Int32) : Nat → Int := sumI (fun k => (f k).toInt)
def dSm (a d : Int) : Int := if a = 1 then d else 9
