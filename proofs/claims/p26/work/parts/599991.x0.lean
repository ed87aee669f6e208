/-! ===== sums ===== -/
noncomputable def sumI (f : Nat → Int) : Nat → Int
  | 0 => 0
  | n + 1 => sumI f n + f n
theorem sumI_s {f : Nat → Int} {n : Nat} : sumI f (n + 1) = sumI f n + f n := rfl
theorem sumI_eq {f g : Nat → Int} : ∀ {n : Nat}, (∀ j : Nat, j < n → f j = g j) → sumI f n = sumI g n
  | 0, _ => rfl
  | n + 1, h => by rw [sumI_s, sumI_s, sumI_eq (fun j q => h j (by omega)), h n (Nat.lt_succ_self _)]
theorem sumI_rng {f : Nat → Int} {m : Int} (h : ∀ j : Nat, 0 ≤ f j ∧ f j ≤ m) : ∀ n : Nat, 0 ≤ sumI f n ∧ sumI f n ≤ m * (n : Int)
  | 0 => ⟨Int.le_refl _, by rw [show ((0 : Nat) : Int) = 0 from rfl, Int.mul_zero]; exact Int.le_refl _⟩
  | n + 1 => by
    have a := sumI_rng h n
    have b := h n
    rw [sumI_s, show m * ((n + 1 : Nat) : Int) = m * (n : Int) + m from by rw [show ((n + 1 : Nat) : Int) = (n : Int) + 1 from rfl, Int.mul_add, Int.mul_one]]
    omega
