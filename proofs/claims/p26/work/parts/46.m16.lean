theorem lg_eq0 {x : Int64} (h : lg_cmp x 0 = 0) : x = 0 := by
  have e := lg_cmp_i x 0
  rw [h] at e
  have z : (0 : Int32).toInt = 0 := rfl
  have z2 : (0 : Int64).toInt = 0 := rfl
  exact Int64.toInt_inj.mp (by omega)
theorem l_rem (x y : Int64) (hy : ¬ y = 0) : (x - x / y * y).toInt.natAbs < y.toInt.natAbs := by
  have h0 : y.toInt ≠ 0 := fun e => hy (Int64.toInt_inj.mp (e.trans rfl))
  have hlt : (x.toInt.tmod y.toInt).natAbs < y.toInt.natAbs := by
    rw [Int.natAbs_tmod]; exact Nat.mod_lt _ (by omega)
  have e : x.toInt - x.toInt.tdiv y.toInt * y.toInt = x.toInt.tmod y.toInt := by
    have := Int.tmod_add_mul_tdiv x.toInt y.toInt
    rw [Int.mul_comm] at this
    omega
  have hy1 := y.toInt_lt
  have hy2 := y.le_toInt
  rw [Int64.toInt_sub, Int64.toInt_mul, Int64.toInt_div, Int.bmod_mul_bmod, Int.sub_bmod_bmod, e]
  have eb : (x.toInt.tmod y.toInt).bmod (2 ^ 64) = x.toInt.tmod y.toInt := by
    refine Int.bmod_eq_of_le ?_ ?_ <;> omega
  rw [eb]; exact hlt
