theorem saw_ix {m : Int32} (h0 : 0 ≤ m.toInt) (h1 : m.toInt ≤ 5) : (37 + (2 * m)).toInt.toNat = 37 + 2 * m.toInt.toNat ∧ ((37 + (2 * m)) + 1).toInt.toNat = 38 + 2 * m.toInt.toNat := by
  have e1 := ti_mulL (2 : Int32) 2 rfl m (by omega)
  have e2 := ti_addL (2 * m) (37 : Int32) 37 rfl (by omega)
  have e4 := ti_addK (37 + (2 * m)) (1 : Int32) 1 rfl (by omega)
  omega
theorem see_eq {f : Nat → Int32} {a : Int32} (h0 : 0 ≤ (f 36).toInt) (h1 : (f 36).toInt ≤ 5) : (upd f (37 + (2 * (f 36))).toInt.toNat a) 36 = f 36 := by
  rw [(saw_ix h0 h1).1]
  unfold upd
  rw [if_neg (by omega)]
theorem see_ix {f : Nat → Int32} {a : Int32} : 0 ≤ (f 36).toInt → (f 36).toInt ≤ 5 → ((upd f (37 + (2 * (f 36))).toInt.toNat a) 36).toInt = (f 36).toInt := fun h0 h1 => by rw [see_eq h0 h1]
theorem sm_see {h : qm_H} (hp : sm h) {a b : Int32} (hs : (h 40 36).toInt ≤ 5) (ha : pr a) : sm (qm_row (qm_row (qm_row h 40 (upd (h 40) (37 + (2 * (h 40 36))).toInt.toNat a)) 40 (upd (upd (h 40) (37 + (2 * (h 40 36))).toInt.toNat a) ((37 + (2 * ((upd (h 40) (37 + (2 * (h 40 36))).toInt.toNat a) 36))) + 1).toInt.toNat b)) 40 (upd (upd (upd (h 40) (37 + (2 * (h 40 36))).toInt.toNat a) ((37 + (2 * ((upd (h 40) (37 + (2 * (h 40 36))).toInt.toNat a) 36))) + 1).toInt.toNat b) 36 (((upd (upd (h 40) (37 + (2 * (h 40 36))).toInt.toNat a) ((37 + (2 * ((upd (h 40) (37 + (2 * (h 40 36))).toInt.toNat a) 36))) + 1).toInt.toNat b) 36) + 1))) := by
  have hm := hp.1.2.1
  rw [see_eq hm hs, (saw_ix hm hs).1, (saw_ix hm hs).2]
  have e : (upd (upd (h 40) (37 + 2 * (h 40 36).toInt.toNat) a) (38 + 2 * (h 40 36).toInt.toNat) b) 36 = h 40 36 := by
    unfold upd
    rw [if_neg (by omega), if_neg (by omega)]
  rw [e]
  have e9 := ti_addK (h 40 36) (1 : Int32) 1 rfl (by omega)
  have h1 := sm_upd hp (j := 37 + 2 * (h 40 36).toInt.toNat) (v := a) (by omega) (pv_saw (by omega) ha)
  have h2 := sm_upd h1 (j := 38 + 2 * (h 40 36).toInt.toNat) (v := b) (by omega) (pv_much (by omega))
  exact sm_upd h2 (j := 36) (v := (h 40 36) + 1) (by omega) (pv_seen (by omega))
