/-! ===== what is owed ===== -/
def wc (h : qm_H) : Prop := wfM (mC h)
def wr (h : qm_H) : Prop := wfM (mR h)
def wa (h : qm_H) : Prop := wfM (mA h)
noncomputable def owT (pl pa kn : Nat → Int32) (p d : Int) (t : Nat) : Int := ifP ((pa t).toInt = p ∧ (kn t).toInt % 10 ≤ d ∧ ¬ icA pl pa kn t) ((kn t).toInt / 10) 0
noncomputable def owS (pl pa kn : Nat → Int32) (p d : Int) : Nat → Int := sumI (owT pl pa kn p d)
noncomputable def owM (M : Mem) (p d : Int) : Int := owS (plM M) (paM M) (knM M) p d (thM M).toInt.toNat
noncomputable def qOwed (a b : Int) (M : Mem) : Int := if ¬ ((0 ≤ a ∧ a / 10 < (clM M).toInt ∧ a % 10 < (clM M).toInt ∧ ¬ a / 10 = a % 10) ∧ 0 ≤ b ∧ b ≤ 1) then -1 else owM M a (if b = 0 then 9 else (dyM M).toInt)
theorem wf_tr2 {M N : Mem} (h : wfM M) (e : N = M) : wfM N := e ▸ h
/-- the reference's sums by fours -/
def owI (pl pa kn : Nat → Int32) (d : Int) (n : Nat) (f : Nat → Int32) : Prop := ∀ x y : Nat, x < 4 → y < 4 → (f (4 * x + y)).toInt = owS pl pa kn (10 * (x : Int) + (y : Int)) d n
