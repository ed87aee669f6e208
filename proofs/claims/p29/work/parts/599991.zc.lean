/-! ===== the fewest fingers ===== -/
def stp (r : Int) (s : Int × Int) : Int × Int := if 0 < s.1 then (s.1 - r, s.2 + 1) else s
def itN (r : Int) : Nat → Int × Int → Int × Int
  | 0, s => s
  | n + 1, s => stp r (itN r n s)
/-- how many fingers have so much room -/
def fgH (k r : Int) : Nat → Nat := rnk (fun f => decide (rmC k (f : Int) = r))
def fgA (kd : Nat → Int32) (r : Int) : Nat → Nat
  | 0 => 0
  | c + 1 => fgA kd r c + fgH (kd c).toInt r 5
def fewS (kd : Nat → Int32) (cl : Nat) (th : Int) : Nat → Int × Int
  | 0 => (th, 0)
  | k + 1 => itN (3 - (k : Int)) (fgA kd (3 - (k : Int)) cl) (fewS kd cl th k)
def qFewest (M : Mem) : Int := (fewS (kdM M) (clM M).toInt.toNat (thM M).toInt 3).2
/-- the class's loops: room r, i fingers still, (l, m) -/
def fwI (kd : Nat → Int32) (cl : Nat) (th r i l m : Int) : Prop := (0 ≤ i ∧ i ≤ (fgA kd r cl : Int)) ∧ (l, m) = itN r ((fgA kd r cl : Int) - i).toNat (fewS kd cl th (3 - r).toNat)
/-- the reference's loops: n fingers of room r so far -/
def fwR (kd : Nat → Int32) (cl : Nat) (th r : Int) (n : Nat) (l m : Int) : Prop := (l, m) = itN r n (fewS kd cl th (3 - r).toNat)
