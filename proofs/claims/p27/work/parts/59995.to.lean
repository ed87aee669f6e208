/-! ===== the tapes of both sides ===== -/
theorem i8_id {a : Int32} (h : 0 ≤ a.toInt ∧ a.toInt ≤ 127) : ((Int32.toInt8 ((Int32.toInt8 a).toInt32)).toInt32) = a := by
  have e1 : (Int32.toInt8 a).toInt = a.toInt := by
    rw [Int32.toInt_toInt8]
    show (if a.toInt % 256 < (256 + 1) / 2 then a.toInt % 256 else a.toInt % 256 - 256) = a.toInt
    rw [if_pos (by omega)]
    omega
  have e2 : (Int32.toInt8 a).toInt32 = a := Int32.toInt_inj.mp (by rw [Int8.toInt_toInt32]; exact e1)
  rw [e2, e2]
/-- a byte that comes behind a tape -/
noncomputable def fdQ (a : Int32) (L L2 : Int) (f g : Nat → Int32) : Prop := ((0 ≤ a.toInt ∧ a.toInt ≤ 127) ∧ (0 ≤ L ∧ L < 160) ∧ L2 = L + 1 ∧ g = upd f L.toNat a) ∨ (¬ ((0 ≤ a.toInt ∧ a.toInt ≤ 127) ∧ (0 ≤ L ∧ L < 160)) ∧ L2 = L ∧ g = f)
/-- the two tapes are one -/
noncomputable def tp (h : qm_H) : Prop := (h 23 2).toInt = (h 39 9).toInt ∧ h 24 = h 44 ∧ bt (h 44) (h 39 9).toInt
theorem tp_keep {h g : qm_H} (t : tp h) (e2 : (g 23 2).toInt = (h 23 2).toInt) (e9 : (g 39 9).toInt = (h 39 9).toInt) (r24 : g 24 = h 24) (r44 : g 44 = h 44) : tp g := by
  unfold tp
  rw [e2, e9, r24, r44]
  exact t
theorem bt_le {f : Nat → Int32} {n m : Int} (h : bt f n) (hm : m ≤ n) : bt f m := fun j hj => h j (by omega)
theorem bt_0 {f : Nat → Int32} {n : Int} (hn : n = 0) : bt f n := fun j hj => by omega
theorem tp_end {h g : qm_H} (t : tp h) (e : (g 23 2).toInt = (g 39 9).toInt) (l : (g 39 9).toInt ≤ (h 39 9).toInt) (r24 : g 24 = h 24) (r44 : g 44 = h 44) : tp g := by
  refine ⟨e, ?_, ?_⟩
  · rw [r24, r44]; exact t.2.1
  · rw [r44]; exact bt_le t.2.2 l
theorem tp_feed {h g : qm_H} {a : Int32} (t : tp h) (c : fdQ a (h 23 2).toInt (g 23 2).toInt (h 24) (g 24)) (d : fdQ a (h 39 9).toInt (g 39 9).toInt (h 44) (g 44)) : tp g := by
  obtain ⟨t1, t2, t3⟩ := t
  obtain c | c := c
  · obtain d | d := d
    · refine ⟨by omega, ?_, ?_⟩
      · rw [c.2.2.2, d.2.2.2, t1, t2]
      · rw [d.2.2.1, d.2.2.2]
        intro j hj
        unfold upd
        by_cases q : j = (h 39 9).toInt.toNat
        · rw [if_pos q]; exact c.1
        · rw [if_neg q]; exact t3 j (by omega)
    · exact absurd ⟨c.1, by omega, by omega⟩ d.1
  · obtain d | d := d
    · exact absurd ⟨d.1, by omega, by omega⟩ c.1
    · refine ⟨by omega, ?_, ?_⟩
      · rw [c.2.2, d.2.2, t2]
      · rw [d.2.1, d.2.2]; exact t3
/-! the images' flags -/
noncomputable def kpQ (a : Int32) (r : Int) (f g : Nat → Int32) : Prop := ((0 ≤ a.toInt ∧ a.toInt ≤ 1) ∧ ((f a.toInt.toNat = 0 ∧ r = 0) ∨ (¬ f a.toInt.toNat = 0 ∧ r = 1)) ∧ g = upd f a.toInt.toNat 1) ∨ (¬ (0 ≤ a.toInt ∧ a.toInt ≤ 1) ∧ r = -1 ∧ g = f)
noncomputable def ik (h : qm_H) : Prop := h 22 = h 42
theorem ik_text {h g : qm_H} {fk fk2 : Int} (t : ik h) (e : fk = fk2) (a : ikQ fk (h 22) (g 22)) (b : ikQ fk2 (h 42) (g 42)) : ik g := by
  have t2 : h 22 = h 42 := t
  unfold ik
  obtain a | a := a
  · obtain b | b := b
    · rw [a.2, b.2, t2]
    · exact absurd (e.symm.trans a.1) b.1
  · obtain b | b := b
    · exact absurd (e.trans b.1) a.1
    · rw [a.2, b.2, t2]
theorem ik_keep {h g : qm_H} {a : Int32} {r r2 : Int} (t : ik h) (x : kpQ a r (h 22) (g 22)) (y : kpQ a r2 (h 42) (g 42)) : ik g ∧ r = r2 := by
  have t2 : h 22 = h 42 := t
  unfold ik
  rw [t2] at x
  obtain x | x := x
  · obtain y | y := y
    · refine ⟨by rw [x.2.2, y.2.2], ?_⟩
      obtain u | u := x.2.1
      · obtain v | v := y.2.1
        · omega
        · exact absurd u.1 v.1
      · obtain v | v := y.2.1
        · exact absurd v.1 u.1
        · omega
    · exact absurd x.1 y.1
  · obtain y | y := y
    · exact absurd y.1 x.1
    · exact ⟨by rw [x.2.2, y.2.2], by omega⟩
theorem rd_fk0 {R : tR} {r fk fp ln n : Int} {g : qm_H} (h : rdQ R r fk fp ln n g) (hr : r = 0) : ¬ fk = 0 := by
  obtain q | q | q | q := h
  · rw [q.2.2.1]; exact q.2.1
  · omega
  · omega
  · exact absurd (hr.symm.trans q.2.1) (by decide)
theorem rd_fk1 {R : tR} {r fk fp ln n : Int} {g : qm_H} (h : rdQ R r fk fp ln n g) (hr : ¬ r = 0) : fk = 0 := by
  obtain q | q | q | q := h
  · exact absurd q.1 hr
  · exact absurd q.2.1 hr
  · exact absurd q.2.1 hr
  · exact q.2.2.2.2.1
theorem rd_cT {R : tR} {r fk fp ln n : Int} {g : qm_H} (h : rdQ R r fk fp ln n g) (hr : ¬ r = 0) : cT R.2.2.2 g := by
  obtain q | q | q | q := h
  · exact absurd q.1 hr
  · exact absurd q.2.1 hr
  · exact absurd q.2.1 hr
  · exact q.2.2.2.2.2.2
