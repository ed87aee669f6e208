/-! ===== by a seed ===== -/
def drB0 (x : Int32) : Int32 := (1 <<< (x &&& 31)) - 1
def drS (x : Int32) : Int32 := (x * 1103515245) + 12345
def drX (x : Int32) : Int32 := (x >>> (16 &&& 31)) &&& 32767
def drQ (x : Int32) : Int := (drX x - drX x / 20 * 20).toInt
def drC (y : Int32) (t : Nat) : Int32 := y &&& ((1 <<< (nI t &&& 31)) ^^^ (-1 : Int32))
def drT (sl : Nat → Int) (p : Int32 × Int32) (t : Nat) : Int32 × Int32 := if bP p.2 t = true then p else if drQ (drS p.1) < sl t then (drS p.1, drC p.2 t) else (drS p.1, p.2)
def drI (sl : Nat → Int) (p : Int32 × Int32) : Nat → Int32 × Int32
  | 0 => p
  | n + 1 => drT sl (drI sl p n) n
def drN (sl : Nat → Int) (th : Nat) (p : Int32 × Int32) : Nat → Int32 × Int32
  | 0 => p
  | k + 1 => drI sl (drN sl th p k) th
/-- a bit is there -/
def hbQ (a b : Int32) : Prop := ¬ ((a >>> (b &&& 31)) &&& 1) = 0
def drW (y z : Int32) (t : Nat) : Prop := ∀ u : Nat, t ≤ u → u < 10 → bP y u = bP z u
noncomputable def qDrift (a : Int32) (n v : Int) (M : Mem) : Int := ifP ((1 ≤ n ∧ n ≤ 20) ∧ 0 ≤ v ∧ v ≤ 10) ((drN (slO (kdM M) (plM M) v) (thM M).toInt.toNat (a, drB0 (thM M)) n.toNat).2.toInt) (-1)
