/-! ===== the tapes of both sides ===== -/
theorem i8_id {a : Int32} (h : 0 ≤ a.toInt ∧ a.toInt ≤ 127) : ((Int32.toInt8 ((Int32.toInt8 a).toInt32)).toInt32) = a := by
  have e1 : (Int32.toInt8 a).toInt = a.toInt := by
    rw [Int32.toInt_toInt8]
    show (if a.toInt % 256 < (256 + 1) / 2 then a.toInt % 256 else a.toInt % 256 - 256) = a.toInt
    rw [if_pos (by omega)]
    omega
  have e2 : (Int32.toInt8 a).toInt32 = a := Int32.toInt_inj.mp (by rw [Int8.toInt_toInt32]; exact e1)
  rw [e2, e2]
/-- a byte that comes behind a tape -/
def fdQ (a : Int32) (L L2 : Int) (f g : Nat → Int32) : Prop := ((0 ≤ a.toInt ∧ a.toInt ≤ 127) ∧ (0 ≤ L ∧ L < 160) ∧ L2 = L + 1 ∧ g = upd f L.toNat a) ∨ (¬ ((0 ≤ a.toInt ∧ a.toInt ≤ 127) ∧ (0 ≤ L ∧ L < 160)) ∧ L2 = L ∧ g = f)
/-- the two tapes are one -/
def tp (h : qm_H) : Prop := (h 23 2).toInt = (h 39 9).toInt ∧ h 24 = h 44 ∧ bt (h 44) (h 39 9).toInt
theorem tp_keep {h g : qm_H} (t : tp h) (e2 : (g 23 2).toInt = (h 23 2).toInt) (e9 : (g 39 9).toInt = (h 39 9).toInt) (r24 : g 24 = h 24) (r44 : g 44 = h 44) : tp g := by
  unfold tp
  rw [e2, e9, r24, r44]
  exact t
theorem bt_le {f : Nat → Int32} {n m : Int} (h : bt f n) (hm : m ≤ n) : bt f m := fun j hj => h j (by omega)
theorem bt_0 {f : Nat → Int32} {n : Int} (hn : n = 0) : bt f n := fun j hj => by omega
theorem tp_end {h g : qm_H} (t : tp h) (e : (g 23 2).toInt = (g 39 9).toInt) (l : (g 39 9).toInt ≤ (h 39 9).toInt) (r24 : g 24 = h 24) (r44 : g 44 = h 44) : tp g := by
  refine ⟨e, ?_, ?_⟩
  · rw [r24, r44]; exact t.2.1
  · rw [r44]; exact bt_le t.2.2 l
theorem tp_feed {h g : qm_H} {a : Int32} (t : tp h) (c : fdQ a (h 23 2).toInt (g 23 2).toInt (h 24) (g 24)) (d : fdQ a (h 39 9).toInt (g 39 9).toInt (h 44) (g 44)) : tp g := by
  obtain ⟨t1, t2, t3⟩ := t
  obtain c | c := c
  · obtain d | d := d
    · refine ⟨by omega, ?_, ?_⟩
      · rw [c.2.2.2, d.2.2.2, t1, t2]
      · rw [d.2.2.1, d.2.2.2]
        intro j hj
        unfold upd
        by_cases q : j = (h 39 9).toInt.toNat
        · rw [if_pos q]; exact c.1
        · rw [if_neg q]; exact t3 j (by omega)
    · exact absurd ⟨c.1, by omega, by omega⟩ d.1
  · obtain d | d := d
    · exact absurd ⟨d.1, by omega, by omega⟩ c.1
    · refine ⟨by omega, ?_, ?_⟩
      · rw [c.2.2, d.2.2, t2]
      · rw [d.2.1, d.2.2]; exact t3
