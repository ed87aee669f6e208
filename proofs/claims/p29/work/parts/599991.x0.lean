/-! ===== sums ===== -/
def sumI (f : Nat → Int) : Nat → Int
  | 0 => 0
  | n + 1 => sumI f n + f n
theorem sumI_s {f : Nat → Int} {n : Nat} : sumI f (n + 1) = sumI f n + f n := rfl
theorem sumI_eq {f g : Nat → Int} : ∀ {n : Nat}, (∀ j : Nat, j < n → f j = g j) → sumI f n = sumI g n
  | 0, _ => rfl
  | n + 1, h => by rw [sumI_s, sumI_s, sumI_eq (fun j q => h j (by omega)), h n (Nat.lt_succ_self _)]
theorem sumI_rng {f : Nat → Int} {m : Int} (h : ∀ j : Nat, 0 ≤ f j ∧ f j ≤ m) : ∀ n : Nat, 0 ≤ sumI f n ∧ sumI f n ≤ m * (n : Int)
  | 0 => ⟨Int.le_refl _, by rw [show ((0 : Nat) : Int) = 0 from rfl, Int.mul_zero]; exact Int.le_refl _⟩
  | n + 1 => by
    have a := sumI_rng h n
    have b := h n
    rw [sumI_s, show m * ((n + 1 : Nat) : Int) = m * (n : Int) + m from by rw [show ((n + 1 : Nat) : Int) = (n : Int) + 1 from rfl, Int.mul_add, Int.mul_one]]
    omega
/-! rooms -/
def rmH (k : Int) : Int := sumI (fun f => rmC k (f : Int)) 5
def rmA (kd : Nat → Int32) (n : Nat) : Int := sumI (fun c => rmH (kd c).toInt) n
def usF (pl : Nat → Int32) (n : Nat) (x : Int) : Int := if 0 < cntR pl n x then 1 else 0
def usH (pl : Nat → Int32) (n : Nat) (c : Nat) : Nat → Int := sumI (fun f => usF pl n (10 * (c : Int) + (f : Int)))
def usA (pl : Nat → Int32) (n : Nat) : Nat → Int := sumI (fun c => usH pl n c 5)
def qRule (b : Int) (M : Mem) : Int := if b = 0 then (clM M).toInt else if b = 1 then (thM M).toInt else if b = 2 then (dyM M).toInt else if b = 3 then rmA (kdM M) (clM M).toInt.toNat else if b = 4 then usA (plM M) (thM M).toInt.toNat (clM M).toInt.toNat else -1
def rfA (kd : Nat → Int32) (n : Nat) : Int := sumI (fun c => sumI (fun f => rmF (kd c).toInt (f : Int)) 5) n
