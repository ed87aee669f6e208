/-! ===== debts, counts ===== -/
def sdF (pa kn : Nat → Int32) (t u : Nat) : Prop := (pa t).toInt = (pa u).toInt ∧ (kn t).toInt = (kn u).toInt
def fsA (pa kn : Nat → Int32) (t : Nat) : Prop := ¬ ∃ u : Nat, u < t ∧ sdF pa kn t u
noncomputable def cntP (P : Nat → Prop) : Nat → Int := sumI (fun t => ifP (P t) 1 0)
noncomputable def qCount (a : Int) (M : Mem) (f : Nat → Int32) (L : Int) (S : SH) : Int := if a = 0 then cntP (fsA (paM M) (knM M)) (thM M).toInt.toNat else if a = 1 then cntP (icM M) (thM M).toInt.toNat else if a = 2 then (snM M).toInt else if a = 3 then ifP (f 0 = 0) 0 1 + ifP (f 1 = 0) 0 1 else if a = 4 then L else if a = 5 then S.2.1.toInt else -1
/-- a flag that is 1 just while nothing was found below n -/
def anI (x : Int32) (P : Nat → Prop) (n : Nat) : Prop := (¬ x = 0 ∧ ∀ u : Nat, u < n → ¬ P u) ∨ (x = 0 ∧ ∃ u : Nat, u < n ∧ P u)
