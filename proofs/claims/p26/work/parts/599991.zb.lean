/-! ===== debts, counts ===== -/
noncomputable def sdF (pa kn : Nat → Int32) (t u : Nat) : Prop := (pa t).toInt = (pa u).toInt ∧ (kn t).toInt = (kn u).toInt
noncomputable def fsA (pa kn : Nat → Int32) (t : Nat) : Prop := ¬ ∃ u : Nat, u < t ∧ sdF pa kn t u
noncomputable def cntP (P : Nat → Prop) : Nat → Int := sumI (fun t => ifP (P t) 1 0)
theorem cntP_t {P : Nat → Prop} {n : Nat} (h : P n) : cntP P (n + 1) = cntP P n + 1 := by
  show cntP P n + ifP (P n) 1 0 = _
  rw [ifP_t h]
theorem cntP_f {P : Nat → Prop} {n : Nat} (h : ¬ P n) : cntP P (n + 1) = cntP P n := by
  show cntP P n + ifP (P n) 1 0 = _
  rw [ifP_f h, Int.add_zero]
theorem cntP_rng {P : Nat → Prop} {n : Nat} : 0 ≤ cntP P n ∧ cntP P n ≤ 1 * (n : Int) := sumI_rng (fun j => by
  by_cases q : P j
  · rw [ifP_t q]; omega
  · rw [ifP_f q]; omega) n
theorem cntP_eq {P Q : Nat → Prop} {n : Nat} (h : ∀ j : Nat, j < n → (P j ↔ Q j)) : cntP P n = cntP Q n := sumI_eq (fun j q => by
  by_cases w : P j
  · rw [ifP_t w, ifP_t ((h j q).mp w)]
  · rw [ifP_f w, ifP_f (fun z => w ((h j q).mpr z))])
theorem fsA_eq {pa kn pa2 kn2 : Nat → Int32} {t n : Nat} (h : ∀ j : Nat, j < n → pa j = pa2 j ∧ kn j = kn2 j) (ht : t < n) : fsA pa kn t ↔ fsA pa2 kn2 t := by
  have e : ∀ u : Nat, u < t → (sdF pa kn t u ↔ sdF pa2 kn2 t u) := fun u hu => by
    unfold sdF
    rw [(h t ht).1, (h t ht).2, (h u (by omega)).1, (h u (by omega)).2]
  unfold fsA
  constructor
  · rintro a ⟨u, b, c⟩; exact a ⟨u, b, (e u b).mpr c⟩
  · rintro a ⟨u, b, c⟩; exact a ⟨u, b, (e u b).mp c⟩
noncomputable def qCount (a : Int) (M : Mem) (f : Nat → Int32) (L : Int) (S : SH) : Int := if a = 0 then cntP (fsA (paM M) (knM M)) (thM M).toInt.toNat else if a = 1 then cntP (icM M) (thM M).toInt.toNat else if a = 2 then (snM M).toInt else if a = 3 then ifP (f 0 = 0) 0 1 + ifP (f 1 = 0) 0 1 else if a = 4 then L else if a = 5 then S.2.1.toInt else -1
theorem count_0 {a L : Int} {f : Nat → Int32} {S : SH} {cl th dy sn : Int32} {kd pl pa kn sp ss : Nat → Int32} (ha : a = 0) : qCount a (mkM cl th dy sn kd pl pa kn sp ss) f L S = cntP (fsA pa kn) th.toInt.toNat := by
  unfold qCount
  rw [if_pos ha]
  exact cntP_eq (fun j q => fsA_eq (n := th.toInt.toNat) (fun i w => ⟨msk_in (by omega), msk_in (by omega)⟩) q)
theorem count_1 {a L : Int} {f : Nat → Int32} {S : SH} {cl th dy sn : Int32} {kd pl pa kn sp ss : Nat → Int32} (ha : a = 1) : qCount a (mkM cl th dy sn kd pl pa kn sp ss) f L S = cntP (icA pl pa kn) th.toInt.toNat := by
  unfold qCount
  rw [if_neg (by omega), if_pos ha]
  exact cntP_eq (fun j q => icM_mk (by have q : j < th.toInt.toNat := q; omega))
theorem count_2 {a L : Int} {f : Nat → Int32} {S : SH} {M : Mem} (ha : a = 2) : qCount a M f L S = (snM M).toInt := by
  unfold qCount
  rw [if_neg (by omega), if_neg (by omega), if_pos ha]
theorem count_3 {a L : Int} {f : Nat → Int32} {S : SH} {M : Mem} (ha : a = 3) : qCount a M f L S = ifP (f 0 = 0) 0 1 + ifP (f 1 = 0) 0 1 := by
  unfold qCount
  rw [if_neg (by omega), if_neg (by omega), if_neg (by omega), if_pos ha]
theorem count_4 {a L : Int} {f : Nat → Int32} {S : SH} {M : Mem} (ha : a = 4) : qCount a M f L S = L := by
  unfold qCount
  rw [if_neg (by omega), if_neg (by omega), if_neg (by omega), if_neg (by omega), if_pos ha]
theorem count_5 {a L : Int} {f : Nat → Int32} {S : SH} {M : Mem} (ha : a = 5) : qCount a M f L S = S.2.1.toInt := by
  unfold qCount
  rw [if_neg (by omega), if_neg (by omega), if_neg (by omega), if_neg (by omega), if_neg (by omega), if_pos ha]
theorem count_d {a L : Int} {f : Nat → Int32} {S : SH} {M : Mem} (ha : a < 0 ∨ 5 < a) : qCount a M f L S = -1 := by
  unfold qCount
  rw [if_neg (by omega), if_neg (by omega), if_neg (by omega), if_neg (by omega), if_neg (by omega), if_neg (by omega)]
theorem svC_sz {h : qm_H} {k : Nat} {r : Int} (q : ((h 37 k).toInt = -4 ∧ r = -4) ∨ (¬ (h 37 k).toInt = -4 ∧ r = (h 37 k).toInt)) : r = (svC h k).2.1.toInt := by
  unfold svC
  obtain q | q := q
  · rw [if_pos q.1, q.2]; rfl
  · rw [if_neg q.1]; exact q.2
theorem svR_sz {h : qm_H} {k : Nat} {r : Int} (q : ((h 48 k).toInt = -4 ∧ r = -4) ∨ (¬ (h 48 k).toInt = -4 ∧ r = (h 49 k).toInt)) : r = (svR h k).2.1.toInt := by
  unfold svR
  obtain q | q := q
  · rw [if_pos q.1, q.2]; rfl
  · rw [if_neg q.1]; exact q.2
/-- a flag that is 1 just while nothing was found below n -/
noncomputable def anI (x : Int32) (P : Nat → Prop) (n : Nat) : Prop := (¬ x = 0 ∧ ∀ u : Nat, u < n → ¬ P u) ∨ (x = 0 ∧ ∃ u : Nat, u < n ∧ P u)
theorem anI_0 {P : Nat → Prop} {n : Nat} (hn : n = 0) : anI 1 P n := Or.inl ⟨by decide, fun u h => by omega⟩
theorem anI_k {x : Int32} {P : Nat → Prop} {n : Nat} (h : anI x P n) (hx : x = 0) : anI 0 P (n + 1) := by
  obtain q | q := h
  · exact absurd hx q.1
  · obtain ⟨u, a, b⟩ := q.2
    exact Or.inr ⟨rfl, u, by omega, b⟩
theorem anI_n {P : Nat → Prop} {n : Nat} (hp : P n) : anI 0 P (n + 1) := Or.inr ⟨rfl, n, Nat.lt_succ_self _, hp⟩
theorem anI_y {x : Int32} {P : Nat → Prop} {n : Nat} (h : anI x P n) (hx : ¬ x = 0) (hp : ¬ P n) : anI 1 P (n + 1) := by
  obtain q | q := h
  · refine Or.inl ⟨by decide, fun u hu => ?_⟩
    by_cases e : u = n
    · rw [e]; exact hp
    · exact q.2 u (by omega)
  · exact absurd q.1 hx
theorem anI_two {x : Int32} {P : Nat → Prop} {n m : Nat} (h : anI x P n) (e : n = m) : (¬ x = 0 ∧ ¬ ∃ u : Nat, u < m ∧ P u) ∨ (x = 0 ∧ ¬ ¬ ∃ u : Nat, u < m ∧ P u) := by
  subst e
  obtain q | q := h
  · exact Or.inl ⟨q.1, fun w => w.elim fun u z => q.2 u z.1 z.2⟩
  · exact Or.inr ⟨q.1, fun w => w q.2⟩
theorem fs_41 {h g : qm_H} {t : Nat} (s : ∀ j : Nat, j < 49 → g 41 j = h 40 j) (ht : t < 10) : fsA (fun t => g 41 (7 + 3 * t)) (fun t => g 41 (8 + 3 * t)) t ↔ fsA (fun t => h 40 (7 + 3 * t)) (fun t => h 40 (8 + 3 * t)) t := fsA_eq (n := 10) (fun j q => ⟨s _ (by omega), s _ (by omega)⟩) ht
theorem cnt_fl {x r : Int32} {A : Prop} {P : Nat → Prop} {t : Nat} {n : Int} (o : (¬ x = 0 ∧ A) ∨ (x = 0 ∧ ¬ A)) (f : (x.toInt = 0 ∧ r.toInt = 0) ∨ (¬ x.toInt = 0 ∧ r.toInt = 1)) (e : A ↔ P t) (hn : n = cntP P t) : cntP P (t + 1) = n + r.toInt := by
  obtain q | q := o
  · have : ¬ x.toInt = 0 := fun w => q.1 (Int32.toInt_inj.mp w)
    rw [cntP_t (e.mp q.2)]; omega
  · have : x.toInt = 0 := by rw [q.1]; rfl
    rw [cntP_f (fun w => q.2 (e.mpr w))]; omega
theorem fl_if {h g : qm_H} {k : Nat} {r : Int32} (w : g 42 = h 42) (f : ((g 42 k).toInt = 0 ∧ r.toInt = 0) ∨ (¬ (g 42 k).toInt = 0 ∧ r.toInt = 1)) : r.toInt = ifP (h 42 k = 0) 0 1 := by
  rw [w] at f
  obtain q | q := f
  · rw [ifP_t (Int32.toInt_inj.mp q.1)]; exact q.2
  · rw [ifP_f (fun z => q.1 (by rw [z]; rfl))]; exact q.2
theorem fl_rng {f : Nat → Int32} {k : Nat} : 0 ≤ ifP (f k = 0) 0 1 ∧ ifP (f k = 0) 0 1 ≤ 1 := by
  by_cases q : f k = 0
  · rw [ifP_t q]; omega
  · rw [ifP_f q]; omega
