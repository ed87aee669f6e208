/-! ===== both sides hold one Memory ===== -/
noncomputable def mm (h : qm_H) : Prop := (mC h = mR h ∧ wfM (mC h)) ∧ h 22 = h 42 ∧ (¬ h 22 0 = 0 → mC8 h = mR49 h ∧ wfM (mC8 h)) ∧ (¬ h 22 1 = 0 → mC15 h = mR98 h ∧ wfM (mC15 h)) ∧ ∀ k : Nat, k < 4 → svC h k = svR h k
theorem mm_keep {h g : qm_H} (t : mm h) (c : ∀ k : Nat, 1 ≤ k → k ≤ 22 → g k = h k) (s : ∀ k : Nat, 35 ≤ k → k ≤ 37 → g k = h k) (e3 : g 39 3 = h 39 3) (r40 : g 40 = h 40) (r42 : g 42 = h 42) (z : ∀ k : Nat, 48 ≤ k → k ≤ 50 → g k = h k) : mm g := by
  obtain ⟨t1, t2, t3, t4, t5⟩ := t
  have a1 : mC g = mC h := mC_of (fun k p q => c k p (by omega))
  have a8 : mC8 g = mC8 h := mC8_of (fun k p q => c k (by omega) (by omega))
  have a15 : mC15 g = mC15 h := mC15_of (fun k p q => c k (by omega) (by omega))
  have b1 : mR g = mR h := mR_of e3 r40
  have b49 : mR49 g = mR49 h := mR49_of e3 (fun j _ => congrFun r40 j)
  have b98 : mR98 g = mR98 h := mR98_of e3 (fun j _ => congrFun r40 j)
  have d1 : svC g = svC h := svC_of (s 35 (by omega) (by omega)) (s 36 (by omega) (by omega)) (s 37 (by omega) (by omega))
  have d2 : svR g = svR h := svR_of (z 50 (by omega) (by omega)) (z 48 (by omega) (by omega)) (z 49 (by omega) (by omega))
  unfold mm
  rw [a1, a8, a15, b1, b49, b98, d1, d2, r42, c 22 (by omega) (by omega)]
  exact ⟨t1, t2, t3, t4, t5⟩
/-- a call that changes the Memory of both sides by one operation -/
theorem mm_op {h g k : qm_H} {r s : Int} (op : Mem → Int × Mem) (hw : ∀ M : Mem, wfM M → wfM (op M).2) (t : mm h) (c : r = (op (mC h)).1 ∧ mC g = (op (mC h)).2) (m : (wfM (mR g) → s = (op (mR g)).1 ∧ mR k = (op (mR g)).2) ∧ ∀ j : Nat, 49 ≤ j → (k 40) j = (g 40) j) (f1 : ∀ i : Nat, 8 ≤ i → g i = h i) (f2 : ∀ i : Nat, i ≤ 38 → k i = g i) (f3 : ∀ i : Nat, 42 ≤ i → k i = g i) (e3 : k 39 3 = g 39 3) : mm k ∧ r = s := by
  obtain ⟨⟨t1, tw⟩, t2, t3, t4, t5⟩ := t
  have b1 : mR g = mR h := mR_of (congrFun (f1 39 (by omega)) 3) (f1 40 (by omega))
  have b49 : mR49 k = mR49 h := (mR49_of e3 m.2).trans (mR49_of (congrFun (f1 39 (by omega)) 3) (fun j _ => congrFun (f1 40 (by omega)) j))
  have b98 : mR98 k = mR98 h := (mR98_of e3 m.2).trans (mR98_of (congrFun (f1 39 (by omega)) 3) (fun j _ => congrFun (f1 40 (by omega)) j))
  have a1 : mC k = mC g := mC_of (fun i p q => f2 i (by omega))
  have a8 : mC8 k = mC8 h := (mC8_of (fun i p q => f2 i (by omega))).trans (mC8_of (fun i p q => f1 i (by omega)))
  have a15 : mC15 k = mC15 h := (mC15_of (fun i p q => f2 i (by omega))).trans (mC15_of (fun i p q => f1 i (by omega)))
  have d1 : svC k = svC h := (svC_of (f2 35 (by omega)) (f2 36 (by omega)) (f2 37 (by omega))).trans (svC_of (f1 35 (by omega)) (f1 36 (by omega)) (f1 37 (by omega)))
  have d2 : svR k = svR h := (svR_of (f3 50 (by omega)) (f3 48 (by omega)) (f3 49 (by omega))).trans (svR_of (f1 50 (by omega)) (f1 48 (by omega)) (f1 49 (by omega)))
  have r22 : k 22 = h 22 := (f2 22 (by omega)).trans (f1 22 (by omega))
  have r42 : k 42 = h 42 := (f3 42 (by omega)).trans (f1 42 (by omega))
  rw [b1, ← t1] at m
  have m1 := m.1 tw
  refine ⟨?_, c.1.trans m1.1.symm⟩
  unfold mm
  rw [a1, c.2, m1.2, a8, a15, b49, b98, d1, d2, r22, r42]
  exact ⟨⟨rfl, hw _ tw⟩, t2, t3, t4, t5⟩
theorem read_eq {a b c d : Int32} {V W : Nat → SH} {M : Mem} (h : ∀ k : Nat, k < 4 → V k = W k) : opRead a b c d V M = opRead a b c d W M := by
  unfold opRead
  split
  · rfl
  · rename_i q
    have q := Decidable.not_not.mp q
    rw [h a.toInt.toNat (by omega)]
theorem mm_read {h g k : qm_H} {r s : Int} {a b c d : Int32} (t : mm h) (x : r = (opRead a b c d (svC h) (mC h)).1 ∧ mC g = (opRead a b c d (svC h) (mC h)).2) (m : (wfM (mR g) → s = (opRead a b c d (svR g) (mR g)).1 ∧ mR k = (opRead a b c d (svR g) (mR g)).2) ∧ ∀ j : Nat, 49 ≤ j → (k 40) j = (g 40) j) (f1 : ∀ i : Nat, 8 ≤ i → g i = h i) (f2 : ∀ i : Nat, i ≤ 38 → k i = g i) (f3 : ∀ i : Nat, 42 ≤ i → k i = g i) (e3 : k 39 3 = g 39 3) : mm k ∧ r = s := by
  refine mm_op (opRead a b c d (svC h)) (fun M w => wf_read w) t x ⟨fun w => ?_, m.2⟩ f1 f2 f3 e3
  have d2 : svR g = svR h := svR_of (f1 50 (by omega)) (f1 48 (by omega)) (f1 49 (by omega))
  have e := m.1 w
  rw [d2, ← read_eq (V := svC h) (W := svR h) t.2.2.2.2] at e
  exact e
/-- sheets change on both sides alike -/
theorem mm_sh {h g k : qm_H} (op : (Nat → SH) → Nat → SH) (ho : ∀ V W : Nat → SH, (∀ i : Nat, i < 4 → V i = W i) → ∀ i : Nat, i < 4 → op V i = op W i) (t : mm h) (x : ∀ i : Nat, i < 4 → svC g i = op (svC h) i) (y : ∀ i : Nat, i < 4 → svR k i = op (svR g) i) (f1 : ∀ i : Nat, (i < 35 ∨ 37 < i) → g i = h i) (f2 : ∀ i : Nat, (i < 48 ∨ 50 < i) → k i = g i) : mm k := by
  have d2 : svR g = svR h := svR_of (f1 50 (by omega)) (f1 48 (by omega)) (f1 49 (by omega))
  have d1 : svC k = svC g := svC_of (f2 35 (by omega)) (f2 36 (by omega)) (f2 37 (by omega))
  have e : ∀ i : Nat, (i < 35 ∨ 37 < i) → (i < 48 ∨ 50 < i) → k i = h i := fun i p q => (f2 i q).trans (f1 i p)
  obtain ⟨t1, t2, t3, t4, t5⟩ := t
  have a1 : mC k = mC h := mC_of (fun i p q => e i (by omega) (by omega))
  have a8 : mC8 k = mC8 h := mC8_of (fun i p q => e i (by omega) (by omega))
  have a15 : mC15 k = mC15 h := mC15_of (fun i p q => e i (by omega) (by omega))
  have b1 : mR k = mR h := mR_of (congrFun (e 39 (by omega) (by omega)) 3) (e 40 (by omega) (by omega))
  have b49 : mR49 k = mR49 h := mR49_of (congrFun (e 39 (by omega) (by omega)) 3) (fun j _ => congrFun (e 40 (by omega) (by omega)) j)
  have b98 : mR98 k = mR98 h := mR98_of (congrFun (e 39 (by omega) (by omega)) 3) (fun j _ => congrFun (e 40 (by omega) (by omega)) j)
  unfold mm
  rw [a1, a8, a15, b1, b49, b98, e 22 (by omega) (by omega), e 42 (by omega) (by omega)]
  refine ⟨t1, t2, t3, t4, fun i hi => ?_⟩
  rw [d1, x i hi, y i hi, d2]
  exact ho _ _ t5 i hi
theorem sheet_co {a b c : Int32} (V W : Nat → SH) (h : ∀ i : Nat, i < 4 → V i = W i) : ∀ i : Nat, i < 4 → opSheet a b c V i = opSheet a b c W i := fun i hi => by
  unfold opSheet
  rw [h i hi]
theorem lay_co {a b c : Int32} (V W : Nat → SH) (h : ∀ i : Nat, i < 4 → V i = W i) : ∀ i : Nat, i < 4 → opLay a b c V i = opLay a b c W i := fun i hi => by
  unfold opLay
  rw [h i hi]
/-- keep -/
theorem mm_image {h g k : qm_H} {a : Int32} {r s : Int} (t : mm h) (x : kpQ a r (h 22) (g 22) ∧ kmC a h g) (y : kpQ a s (g 42) (k 42) ∧ kmR a g k ∧ mR k = mR g) (f1 : ∀ i : Nat, (i < 8 ∨ 22 < i) → g i = h i) (f2 : ∀ i : Nat, (i < 39 ∨ 42 < i) → k i = g i) : mm k ∧ r = s := by
  obtain ⟨⟨t1, tw⟩, t2, t3, t4, t5⟩ := t
  have b1 : mR g = mR h := mR_of (congrFun (f1 39 (by omega)) 3) (f1 40 (by omega))
  have b49 : mR49 g = mR49 h := mR49_of (congrFun (f1 39 (by omega)) 3) (fun j _ => congrFun (f1 40 (by omega)) j)
  have b98 : mR98 g = mR98 h := mR98_of (congrFun (f1 39 (by omega)) 3) (fun j _ => congrFun (f1 40 (by omega)) j)
  have a1 : mC k = mC h := (mC_of (fun i p q => f2 i (by omega))).trans (mC_of (fun i p q => f1 i (by omega)))
  have a8 : mC8 k = mC8 g := mC8_of (fun i p q => f2 i (by omega))
  have a15 : mC15 k = mC15 g := mC15_of (fun i p q => f2 i (by omega))
  have d1 : svC k = svC h := (svC_of (f2 35 (by omega)) (f2 36 (by omega)) (f2 37 (by omega))).trans (svC_of (f1 35 (by omega)) (f1 36 (by omega)) (f1 37 (by omega)))
  have d2 : svR k = svR h := (svR_of (f2 50 (by omega)) (f2 48 (by omega)) (f2 49 (by omega))).trans (svR_of (f1 50 (by omega)) (f1 48 (by omega)) (f1 49 (by omega)))
  have r22 : k 22 = g 22 := f2 22 (by omega)
  obtain ⟨x1, x2⟩ := x
  obtain ⟨y1, y2, y3⟩ := y
  rw [f1 42 (by omega)] at y1
  have ik := ik_keep (h := h) (g := k) (show h 22 = h 42 from t2) (by rw [r22]; exact x1) y1
  refine ⟨?_, ik.2⟩
  have ik1 : k 22 = k 42 := ik.1
  have fl : ∀ i : Nat, ¬ (i : Int) = a.toInt → g 22 i = h 22 i := by
    intro i hi
    obtain p | p := x1
    · rw [p.2.2]; exact upd_ne (by omega)
    · rw [p.2.2]
  unfold mm
  rw [a1, y3, b1, d1, d2, a8, a15]
  refine ⟨⟨t1, tw⟩, ik1, ?_, ?_, t5⟩
  · rw [r22]
    obtain x | x | x := x2
    · obtain y | y | y := y2
      · intro _; rw [x.2.1, y.2.1, b1]; exact ⟨t1, tw⟩
      · exact absurd x.1 (by omega)
      · exact absurd x.1 (by omega)
    · obtain y | y | y := y2
      · exact absurd y.1 (by omega)
      · rw [fl 0 (by omega), x.2.2, y.2.2, b49]; exact t3
      · exact absurd x.1 (by omega)
    · obtain y | y | y := y2
      · exact absurd y.1 (by omega)
      · exact absurd y.1 (by omega)
      · rw [fl 0 (by omega), x.2.1, y.2.1, b49]; exact t3
  · rw [r22]
    obtain x | x | x := x2
    · obtain y | y | y := y2
      · rw [fl 1 (by omega), x.2.2, y.2.2, b98]; exact t4
      · exact absurd x.1 (by omega)
      · exact absurd x.1 (by omega)
    · obtain y | y | y := y2
      · exact absurd y.1 (by omega)
      · intro _; rw [x.2.1, y.2.1, b1]; exact ⟨t1, tw⟩
      · exact absurd x.1 (by omega)
    · obtain y | y | y := y2
      · exact absurd y.1 (by omega)
      · exact absurd y.1 (by omega)
      · rw [fl 1 (by omega), x.2.2, y.2.2, b98]; exact t4
/-- back -/
theorem mm_back {h g k : qm_H} {a : Int32} {r s : Int} (t : mm h) (x : bkC a r h g) (y : bkR a s g k ∧ ∀ j : Nat, 49 ≤ j → (k 40) j = (g 40) j) (f1 : ∀ i : Nat, 8 ≤ i → g i = h i) (f2 : ∀ i : Nat, (i < 40 ∨ 40 < i) → k i = g i) : mm k ∧ r = s := by
  obtain ⟨⟨t1, tw⟩, t2, t3, t4, t5⟩ := t
  have b1 : mR g = mR h := mR_of (congrFun (f1 39 (by omega)) 3) (f1 40 (by omega))
  have b49 : mR49 g = mR49 h := mR49_of (congrFun (f1 39 (by omega)) 3) (fun j _ => congrFun (f1 40 (by omega)) j)
  have b98 : mR98 g = mR98 h := mR98_of (congrFun (f1 39 (by omega)) 3) (fun j _ => congrFun (f1 40 (by omega)) j)
  have c49 : mR49 k = mR49 h := (mR49_of (congrFun (f2 39 (by omega)) 3) y.2).trans b49
  have c98 : mR98 k = mR98 h := (mR98_of (congrFun (f2 39 (by omega)) 3) y.2).trans b98
  have a1 : mC k = mC g := mC_of (fun i p q => f2 i (by omega))
  have a8 : mC8 k = mC8 h := (mC8_of (fun i p q => f2 i (by omega))).trans (mC8_of (fun i p q => f1 i (by omega)))
  have a15 : mC15 k = mC15 h := (mC15_of (fun i p q => f2 i (by omega))).trans (mC15_of (fun i p q => f1 i (by omega)))
  have d1 : svC k = svC h := (svC_of (f2 35 (by omega)) (f2 36 (by omega)) (f2 37 (by omega))).trans (svC_of (f1 35 (by omega)) (f1 36 (by omega)) (f1 37 (by omega)))
  have d2 : svR k = svR h := (svR_of (f2 50 (by omega)) (f2 48 (by omega)) (f2 49 (by omega))).trans (svR_of (f1 50 (by omega)) (f1 48 (by omega)) (f1 49 (by omega)))
  have r22 : k 22 = h 22 := (f2 22 (by omega)).trans (f1 22 (by omega))
  have r42 : k 42 = h 42 := (f2 42 (by omega)).trans (f1 42 (by omega))
  have g42 : g 42 = h 22 := (f1 42 (by omega)).trans t2.symm
  have y1 := y.1
  unfold bkR at y1
  rw [g42, b1, b49, b98] at y1
  have key : (mC g = mR k ∧ wfM (mC g)) ∧ r = s := by
    obtain x | x | x | x := x
    · obtain y | y | y | y := y1
      · exact ⟨⟨by rw [x.2.2, y.2.2]; exact t1, by rw [x.2.2]; exact tw⟩, by rw [x.2.1, y.2.1]⟩
      · exact absurd y.1 x.1
      · exact absurd y.1 (by omega)
      · exact absurd y.1 (by omega)
    · obtain y | y | y | y := y1
      · exact absurd x.1 y.1
      · exact ⟨⟨by rw [x.2.2.2, y.2.2.2]; exact t1, by rw [x.2.2.2]; exact tw⟩, by rw [x.2.2.1, y.2.2.1]⟩
      · exact absurd (show h 22 0 = 0 by rw [show 0 = a.toInt.toNat by omega]; exact x.2.1) y.2.1
      · exact absurd (show h 22 1 = 0 by rw [show 1 = a.toInt.toNat by omega]; exact x.2.1) y.2.1
    · have w := t3 x.2.1
      obtain y | y | y | y := y1
      · exact absurd x.1 (by omega)
      · exact absurd (show h 22 0 = 0 by rw [show 0 = a.toInt.toNat by omega]; exact y.2.1) x.2.1
      · have e : mC g = mR k := by rw [x.2.2.2, y.2.2.2]; exact w.1
        exact ⟨⟨e, by rw [x.2.2.2]; exact w.2⟩, by rw [x.2.2.1, y.2.2.1, e]⟩
      · exact absurd x.1 (by omega)
    · have w := t4 x.2.1
      obtain y | y | y | y := y1
      · exact absurd x.1 (by omega)
      · exact absurd (show h 22 1 = 0 by rw [show 1 = a.toInt.toNat by omega]; exact y.2.1) x.2.1
      · exact absurd x.1 (by omega)
      · have e : mC g = mR k := by rw [x.2.2.2, y.2.2.2]; exact w.1
        exact ⟨⟨e, by rw [x.2.2.2]; exact w.2⟩, by rw [x.2.2.1, y.2.2.1, e]⟩
  refine ⟨?_, key.2⟩
  unfold mm
  rw [a1, a8, a15, c49, c98, d1, d2, r22, r42]
  exact ⟨key.1, t2, t3, t4, t5⟩
/-- text -/
theorem mm_text {h g k : qm_H} {fk fk2 n r : Int} {R : tR} (t : mm h) (x : ikQ fk (h 22) (g 22) ∧ txM fk R (mC h) (mC g)) (y : ikQ fk2 (g 42) (k 42) ∧ txM fk2 R (mR g) (mR k)) (e : fk = fk2) (q : txQ R r fk n) (w : wfS R.2.2.2) (f1 : ∀ i : Nat, (8 ≤ i ∧ i ≤ 21) ∨ 31 < i → g i = h i) (f2 : ∀ i : Nat, (i < 39 ∨ 44 < i) → k i = g i) (e3 : ¬ fk2 = 0 → k 39 3 = g 39 3 ∧ k 40 = g 40) : mm k := by
  obtain ⟨⟨t1, tw⟩, t2, t3, t4, t5⟩ := t
  have b1 : mR g = mR h := mR_of (congrFun (f1 39 (by omega)) 3) (f1 40 (by omega))
  have a1 : mC k = mC g := mC_of (fun i p q => f2 i (by omega))
  have a8 : mC8 k = mC8 h := (mC8_of (fun i p q => f2 i (by omega))).trans (mC8_of (fun i p q => f1 i (by omega)))
  have a15 : mC15 k = mC15 h := (mC15_of (fun i p q => f2 i (by omega))).trans (mC15_of (fun i p q => f1 i (by omega)))
  have d1 : svC k = svC h := (svC_of (f2 35 (by omega)) (f2 36 (by omega)) (f2 37 (by omega))).trans (svC_of (f1 35 (by omega)) (f1 36 (by omega)) (f1 37 (by omega)))
  have d2 : svR k = svR h := (svR_of (f2 50 (by omega)) (f2 48 (by omega)) (f2 49 (by omega))).trans (svR_of (f1 50 (by omega)) (f1 48 (by omega)) (f1 49 (by omega)))
  have r22 : k 22 = g 22 := f2 22 (by omega)
  have y0 := y.1
  rw [f1 42 (by omega)] at y0
  have ik : k 22 = k 42 := ik_text (h := h) (g := k) (show h 22 = h 42 from t2) e (by rw [r22]; exact x.1) y0
  have y2 := y.2
  rw [b1] at y2
  unfold mm
  rw [a1, a8, a15, d1, d2]
  obtain u | u := x.2
  · obtain v | v := y2
    · have fl : k 22 0 = 0 ∧ k 22 1 = 0 := by
        obtain z | z := x.1
        · rw [r22, z.2]; exact ⟨rfl, rfl⟩
        · exact absurd u.1 z.1
      have c6 : ck6 R.2.2.2 := by
        obtain p | p | p | p := q
        · exact absurd (p.2.1.symm.trans u.1) p.1
        · exact absurd (p.2.2.1.symm.trans u.1) (by decide)
        · exact absurd (p.2.2.2.1.symm.trans u.1) (by decide)
        · exact p.2.1
      exact ⟨⟨by rw [u.2, v.2], by rw [u.2]; exact wf_text w c6⟩, ik, fun z => absurd fl.1 z, fun z => absurd fl.2 z, t5⟩
    · exact absurd (e.symm.trans u.1) v.1
  · obtain v | v := y2
    · exact absurd (e.trans v.1) u.1
    · have q3 := e3 v.1
      have c49 : mR49 k = mR49 h := (mR49_of q3.1 (fun j _ => congrFun q3.2 j)).trans (mR49_of (congrFun (f1 39 (by omega)) 3) (fun j _ => congrFun (f1 40 (by omega)) j))
      have c98 : mR98 k = mR98 h := (mR98_of q3.1 (fun j _ => congrFun q3.2 j)).trans (mR98_of (congrFun (f1 39 (by omega)) 3) (fun j _ => congrFun (f1 40 (by omega)) j))
      have fl : k 22 = h 22 := by
        obtain z | z := x.1
        · exact absurd z.1 u.1
        · rw [r22, z.2]
      rw [u.2, v.2, c49, c98, fl, ← ik, fl]
      exact ⟨⟨t1, tw⟩, rfl, t3, t4, t5⟩
theorem mm_start {h : qm_H} (h1 : h 1 6 = 0 ∧ h 1 7 = 0 ∧ h 1 8 = 0 ∧ h 1 9 = 0) (h3 : h 39 3 = 0) (h40 : ∀ j : Nat, h 40 j = 0) (h22 : h 22 0 = 0 ∧ h 22 1 = 0) (e22 : h 22 = h 42) (s : ∀ k : Nat, k < 4 → (h 37 k).toInt = -4 ∧ (h 48 k).toInt = -4) : mm h := by
  have z : (0 : Int32).toInt = 0 := rfl
  have e : mC h = mR h := by
    unfold mC mR mG
    rw [h1.1, h1.2.1, h1.2.2.1, h1.2.2.2, h3, h40, h40, h40]
    exact mkM_eq (fun j w => absurd w (by omega)) (fun j w => absurd w (by omega)) (fun j w => absurd w (by omega))
  refine ⟨⟨e, ?_⟩, e22, fun q => absurd h22.1 q, fun q => absurd h22.2 q, fun k hk => ?_⟩
  · unfold mC
    rw [h1.1, h1.2.1, h1.2.2.1, h1.2.2.2]
    exact wf_mk ⟨by omega, by omega, by omega, by omega⟩ (fun j w => absurd w (by omega)) (fun j w => absurd w (by omega)) (fun j w => absurd w (by omega))
  · have a := s k hk
    unfold svC svR
    rw [if_pos a.1, if_pos a.2]
