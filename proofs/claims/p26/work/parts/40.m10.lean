theorem sm_saw {h : qm_H} (hp : sm h) (k : Int32) : 0 ≤ k.toInt → k.toInt ≤ 5 → (0 ≤ (h 40 (37 + (2 * k)).toInt.toNat).toInt ∧ (h 40 (37 + (2 * k)).toInt.toNat).toInt / 10 ≤ 3 ∧ (h 40 (37 + (2 * k)).toInt.toNat).toInt % 10 ≤ 3) := by
  intro h0 h1
  have e1 := ti_mulL (2 : Int32) 2 rfl k (by omega)
  have e2 := ti_addL (2 * k) (37 : Int32) 37 rfl (by omega)
  have e3 : (37 + (2 * k)).toInt.toNat = 37 + 2 * k.toInt.toNat := by omega
  rw [e3]
  have h5 := hp.2.1.2.2.2.2.1 k.toInt.toNat (by omega)
  rw [Nat.zero_add] at h5
  exact h5
theorem tie_ix {m : Int32} (hm : 0 ≤ m.toInt ∧ m.toInt ≤ 9) : ((6 + (3 * m)) + 0).toInt.toNat = 6 + 3 * m.toInt.toNat ∧ ((6 + (3 * m)) + 1).toInt.toNat = 7 + 3 * m.toInt.toNat ∧ ((6 + (3 * m)) + 2).toInt.toNat = 8 + 3 * m.toInt.toNat := by
  have e1 := ti_mulL (3 : Int32) 3 rfl m (by omega)
  have e2 := ti_addL (3 * m) (6 : Int32) 6 rfl (by omega)
  have e3 := ti_addK (6 + (3 * m)) (0 : Int32) 0 rfl (by omega)
  have e4 := ti_addK (6 + (3 * m)) (1 : Int32) 1 rfl (by omega)
  have e5 := ti_addK (6 + (3 * m)) (2 : Int32) 2 rfl (by omega)
  omega
theorem sm_tie {h : qm_H} (hp : sm h) {m a b c : Int32} (hm : 0 ≤ m.toInt ∧ m.toInt ≤ 9) (ha : 0 ≤ a.toInt ∧ a.toInt ≤ 39) (hb : pr b) (hc : 0 ≤ c.toInt ∧ c.toInt ≤ 99) : sm (qm_row (qm_row (qm_row h 40 (upd (h 40) ((6 + (3 * m)) + 0).toInt.toNat a)) 40 (upd (upd (h 40) ((6 + (3 * m)) + 0).toInt.toNat a) ((6 + (3 * m)) + 1).toInt.toNat b)) 40 (upd (upd (upd (h 40) ((6 + (3 * m)) + 0).toInt.toNat a) ((6 + (3 * m)) + 1).toInt.toNat b) ((6 + (3 * m)) + 2).toInt.toNat c)) := by
  obtain ⟨e0, e1, e2⟩ := tie_ix hm
  rw [e0, e1, e2]
  have h1 := sm_upd hp (j := 6 + 3 * m.toInt.toNat) (v := a) (by omega) (pv_place (by omega) ha)
  have h2 := sm_upd h1 (j := 7 + 3 * m.toInt.toNat) (v := b) (by omega) (pv_pair (by omega) hb)
  exact sm_upd h2 (j := 8 + 3 * m.toInt.toNat) (v := c) (by omega) (pv_knot (by omega) hc)
theorem tie_many {f : Nat → Int32} {m a b c : Int32} (hm : 0 ≤ m.toInt ∧ m.toInt ≤ 9) (hf : 0 ≤ (f 4).toInt ∧ (f 4).toInt ≤ 9) : 0 ≤ (((upd (upd (upd f ((6 + (3 * m)) + 0).toInt.toNat a) ((6 + (3 * m)) + 1).toInt.toNat b) ((6 + (3 * m)) + 2).toInt.toNat c) 4) + 1).toInt ∧ (((upd (upd (upd f ((6 + (3 * m)) + 0).toInt.toNat a) ((6 + (3 * m)) + 1).toInt.toNat b) ((6 + (3 * m)) + 2).toInt.toNat c) 4) + 1).toInt ≤ 10 := by
  obtain ⟨e0, e1, e2⟩ := tie_ix hm
  rw [e0, e1, e2]
  have e : (upd (upd (upd f (6 + 3 * m.toInt.toNat) a) (7 + 3 * m.toInt.toNat) b) (8 + 3 * m.toInt.toNat) c) 4 = f 4 := by
    unfold upd
    rw [if_neg (by omega), if_neg (by omega), if_neg (by omega)]
  rw [e]
  have := ti_addK (f 4) (1 : Int32) 1 rfl (by omega)
  omega
