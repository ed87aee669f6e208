theorem lg_pos {x : Int64} (h : 1 ≤ x.toInt) : ¬ x = 0 := by
  intro e
  rw [e] at h
  exact absurd h (by decide)
theorem l_mul20 (x : Int64) : 0 ≤ x.toInt → x.toInt ≤ 400000000000000000 → (x * 20).toInt = 20 * x.toInt := by
  intro h0 h1
  rw [Int64.toInt_mul, show (20 : Int64).toInt = 20 from rfl]
  rw [Int.mul_comm]
  refine Int.bmod_eq_of_le ?_ ?_ <;> omega
theorem l_mul1 (x : Int64) : (x * 1).toInt = x.toInt := by
  rw [Int64.mul_one]
