theorem sm_saw {h : qm_H} (hp : sm h) (k : Int32) : 0 ≤ k.toInt → k.toInt ≤ 5 → (0 ≤ (h 40 (37 + (2 * k)).toInt.toNat).toInt ∧ (h 40 (37 + (2 * k)).toInt.toNat).toInt / 10 ≤ 3 ∧ (h 40 (37 + (2 * k)).toInt.toNat).toInt % 10 ≤ 3) := by
  intro h0 h1
  have e1 := ti_mulL (2 : Int32) 2 rfl k (by omega)
  have e2 := ti_addL (2 * k) (37 : Int32) 37 rfl (by omega)
  have e3 : (37 + (2 * k)).toInt.toNat = 37 + 2 * k.toInt.toNat := by omega
  rw [e3]
  have h5 := hp.2.1.2.2.2.2 k.toInt.toNat (by omega)
  rw [Nat.zero_add] at h5
  exact h5
