/-! ===== quarrels ===== -/
def qrF (pl pa kn : Nat → Int32) (t u : Nat) : Prop := ¬ (pl t / 10).toInt = (pl u / 10).toInt ∧ (pa t).toInt = (pa u).toInt ∧ (kn t - kn t / 10 * 10).toInt = (kn u - kn u / 10 * 10).toInt ∧ ¬ (kn t / 10).toInt = (kn u / 10).toInt
noncomputable def qst (p : Prop) (v : Int) (s : Int × Int) : Int × Int := @ite _ p (Classical.propDecidable _) (s.1 + 1, if s.1 = 0 then v else s.2) s
noncomputable def qfI (Q : Nat → Nat → Prop) (t : Nat) : Nat → Int × Int → Int × Int
  | 0, s => s
  | u + 1, s => qst (t < u ∧ Q t u) (10 * (t : Int) + (u : Int)) (qfI Q t u s)
noncomputable def qfO (Q : Nat → Nat → Prop) (n : Nat) : Nat → Int × Int
  | 0 => (0, -4)
  | t + 1 => qfI Q t n (qfO Q n t)
noncomputable def qQuarrel (a : Int) (M : Mem) : Int := if ¬ (0 ≤ a ∧ a ≤ 1) then -1 else if a = 0 then (qfO (qrF (plM M) (paM M) (knM M)) (thM M).toInt.toNat (thM M).toInt.toNat).1 else (qfO (qrF (plM M) (paM M) (knM M)) (thM M).toInt.toNat (thM M).toInt.toNat).2
