/-! ===== sums ===== -/
def sumI (f : Nat → Int) : Nat → Int
  | 0 => 0
  | n + 1 => sumI f n + f n
theorem sumI_s {f : Nat → Int} {n : Nat} : sumI f (n + 1) = sumI f n + f n := rfl
theorem sumI_eq {f g : Nat → Int} : ∀ {n : Nat}, (∀ j : Nat, j < n → f j = g j) → sumI f n = sumI g n
  | 0, _ => rfl
  | n + 1, h => by rw [sumI_s, sumI_s, sumI_eq (fun j q => h j (by omega)), h n (Nat.lt_succ_self _)]
theorem sumI_rng {f : Nat → Int} {m : Int} (h : ∀ j : Nat, 0 ≤ f j ∧ f j ≤ m) : ∀ n : Nat, 0 ≤ sumI f n ∧ sumI f n ≤ m * (n : Int)
  | 0 => ⟨Int.le_refl _, by rw [show ((0 : Nat) : Int) = 0 from rfl, Int.mul_zero]; exact Int.le_refl _⟩
  | n + 1 => by
    have a := sumI_rng h n
    have b := h n
    rw [sumI_s, show m * ((n + 1 : Nat) : Int) = m * (n : Int) + m from by rw [show ((n + 1 : Nat) : Int) = (n : Int) + 1 from rfl, Int.mul_add, Int.mul_one]]
    omega
/-! rooms -/
def rmH (k : Int) : Int := sumI (fun f => rmC k (f : Int)) 5
theorem rmH_rng {k : Int} : 0 ≤ rmH k ∧ rmH k ≤ 15 := by
  have := sumI_rng (f := fun f => rmC k (f : Int)) (m := 3) (fun j => rmC_rng) 5
  unfold rmH
  omega
def rmA (kd : Nat → Int32) (n : Nat) : Int := sumI (fun c => rmH (kd c).toInt) n
theorem rmA_rng {kd : Nat → Int32} {n : Nat} : 0 ≤ rmA kd n ∧ rmA kd n ≤ 15 * (n : Int) := sumI_rng (fun j => rmH_rng) n
def usF (pl : Nat → Int32) (n : Nat) (x : Int) : Int := if 0 < cntR pl n x then 1 else 0
theorem usF_rng {pl : Nat → Int32} {n : Nat} {x : Int} : 0 ≤ usF pl n x ∧ usF pl n x ≤ 1 := by
  unfold usF
  split <;> omega
def usH (pl : Nat → Int32) (n : Nat) (c : Nat) : Nat → Int := sumI (fun f => usF pl n (10 * (c : Int) + (f : Int)))
def usA (pl : Nat → Int32) (n : Nat) : Nat → Int := sumI (fun c => usH pl n c 5)
theorem usH_rng {pl : Nat → Int32} {n c k : Nat} : 0 ≤ usH pl n c k ∧ usH pl n c k ≤ 1 * (k : Int) := sumI_rng (fun j => usF_rng) k
theorem usA_rng {pl : Nat → Int32} {n k : Nat} : 0 ≤ usA pl n k ∧ usA pl n k ≤ 5 * (k : Int) := sumI_rng (fun j => by have := usH_rng (pl := pl) (n := n) (c := j) (k := 5); omega) k
def qRule (b : Int) (M : Mem) : Int := if b = 0 then (clM M).toInt else if b = 1 then (thM M).toInt else if b = 2 then (dyM M).toInt else if b = 3 then rmA (kdM M) (clM M).toInt.toNat else if b = 4 then usA (plM M) (thM M).toInt.toNat (clM M).toInt.toNat else -1
theorem usF_eq {pl pl2 : Nat → Int32} {n : Nat} {x : Int} (h : ∀ j : Nat, j < n → pl j = pl2 j) : usF pl n x = usF pl2 n x := by
  unfold usF
  rw [cntR_eq h]
theorem rule_3 {b : Int} {cl th dy sn : Int32} {kd pl pa kn sp ss : Nat → Int32} (hb : b = 3) : qRule b (mkM cl th dy sn kd pl pa kn sp ss) = rmA kd cl.toInt.toNat := by
  unfold qRule
  rw [if_neg (by omega), if_neg (by omega), if_neg (by omega), if_pos hb]
  exact sumI_eq (fun j q => by have q : j < cl.toInt.toNat := q; show rmH (msk cl kd j).toInt = _; rw [msk_in (by omega)])
theorem rule_4 {b : Int} {cl th dy sn : Int32} {kd pl pa kn sp ss : Nat → Int32} (hb : b = 4) : qRule b (mkM cl th dy sn kd pl pa kn sp ss) = usA pl th.toInt.toNat cl.toInt.toNat := by
  unfold qRule
  rw [if_neg (by omega), if_neg (by omega), if_neg (by omega), if_neg (by omega), if_pos hb]
  exact sumI_eq (fun j q => sumI_eq (fun i w => usF_eq (fun k z => msk_in (by show (k : Int) < th.toInt; have : k < th.toInt.toNat := z; omega))))
theorem rule_0 {b : Int} {M : Mem} (hb : b = 0) : qRule b M = (clM M).toInt := if_pos hb
theorem rule_1 {b : Int} {M : Mem} (hb : b = 1) : qRule b M = (thM M).toInt := by
  unfold qRule
  rw [if_neg (by omega), if_pos hb]
theorem rule_2 {b : Int} {M : Mem} (hb : b = 2) : qRule b M = (dyM M).toInt := by
  unfold qRule
  rw [if_neg (by omega), if_neg (by omega), if_pos hb]
theorem rule_d {b : Int} {M : Mem} (hb : ¬ b = 0 ∧ ¬ b = 1 ∧ ¬ b = 2 ∧ ¬ b = 3 ∧ ¬ b = 4) : qRule b M = -1 := by
  unfold qRule
  rw [if_neg hb.1, if_neg hb.2.1, if_neg hb.2.2.1, if_neg hb.2.2.2.1, if_neg hb.2.2.2.2]
def rfA (kd : Nat → Int32) (n : Nat) : Int := sumI (fun c => sumI (fun f => rmF (kd c).toInt (f : Int)) 5) n
theorem rfA_rng {kd : Nat → Int32} {n : Nat} : 0 ≤ rfA kd n ∧ rfA kd n ≤ 15 * (n : Int) := sumI_rng (fun j => by have := sumI_rng (f := fun f => rmF (kd j).toInt (f : Int)) (m := 3) (fun j => rmF_rng) 5; omega) n
theorem rfA_C {c : Int32} {kd : Nat → Int32} (h : ∀ j : Nat, (j : Int) < c.toInt → 0 ≤ (kd j).toInt ∧ (kd j).toInt ≤ 3) : rfA kd c.toInt.toNat = rmA kd c.toInt.toNat := sumI_eq (fun j q => sumI_eq (fun f w => rmF_C (h j (by omega)) ⟨by omega, by omega⟩))
