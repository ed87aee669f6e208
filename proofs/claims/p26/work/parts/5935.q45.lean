theorem or_leB {x f c : Int32} (hx : 0 ≤ x.toInt ∧ x.toInt ≤ 15) (hf : f = 0 ∨ f = 1) (hc : 0 ≤ c.toInt ∧ c.toInt ≤ 3) : 0 ≤ (x ||| (f <<< (c &&& 31))).toInt ∧ (x ||| (f <<< (c &&& 31))).toInt ≤ 15 := by
  rcases hf with rfl | rfl
  · exact or_le x 0 c hx (by decide) hc
  · exact or_le x 1 c hx (by decide) hc
