/-- a bit is there -/
noncomputable def hbQ (a b : Int32) : Prop := ¬ ((a >>> (b &&& 31)) &&& 1) = 0
theorem an1 {y : Int32} : (y &&& 1) = 0 ∨ (y &&& 1) = 1 := by
  have a := and_le (1 : Int32) y (by decide)
  have h1 : (1 : Int32).toInt = 1 := rfl
  have e : (1 &&& y) = (y &&& 1) := Int32.and_comm 1 y
  rw [e] at a
  have q : (y &&& 1).toInt = 0 ∨ (y &&& 1).toInt = 1 := by omega
  obtain q | q := q
  · exact Or.inl (Int32.toInt_inj.mp (q.trans rfl))
  · exact Or.inr (Int32.toInt_inj.mp (q.trans rfl))
