/-! ===== copies ===== -/
noncomputable def icF (pl pa kn : Nat → Int32) (t u : Nat) : Prop := (pa t).toInt = (pa u).toInt ∧ (kn t).toInt = (kn u).toInt ∧ ¬ (pl t / 10).toInt = (pl u / 10).toInt
noncomputable def icA (pl pa kn : Nat → Int32) (t : Nat) : Prop := ∃ u : Nat, u < t ∧ icF pl pa kn t u
theorem icF_eq {pl pa kn pl2 pa2 kn2 : Nat → Int32} {t u n : Nat} (h : ∀ j : Nat, j < n → pl j = pl2 j ∧ pa j = pa2 j ∧ kn j = kn2 j) (ht : t < n) (hu : u < n) : icF pl pa kn t u ↔ icF pl2 pa2 kn2 t u := by
  unfold icF
  rw [(h t ht).1, (h t ht).2.1, (h t ht).2.2, (h u hu).1, (h u hu).2.1, (h u hu).2.2]
theorem icA_eq {pl pa kn pl2 pa2 kn2 : Nat → Int32} {t n : Nat} (h : ∀ j : Nat, j < n → pl j = pl2 j ∧ pa j = pa2 j ∧ kn j = kn2 j) (ht : t < n) : icA pl pa kn t ↔ icA pl2 pa2 kn2 t := by
  constructor
  · rintro ⟨u, a, b⟩; exact ⟨u, a, (icF_eq h ht (by omega)).mp b⟩
  · rintro ⟨u, a, b⟩; exact ⟨u, a, (icF_eq h ht (by omega)).mpr b⟩
noncomputable def icM (M : Mem) (t : Nat) : Prop := icA (plM M) (paM M) (knM M) t
theorem icM_mk {cl th dy sn : Int32} {kd pl pa kn sp ss : Nat → Int32} {t : Nat} (ht : (t : Int) < th.toInt) : icM (mkM cl th dy sn kd pl pa kn sp ss) t ↔ icA pl pa kn t := icA_eq (n := th.toInt.toNat) (fun j q => ⟨msk_in (by omega), msk_in (by omega), msk_in (by omega)⟩) (by omega)
/-- a word of bits that is 0 just when nothing was found below n -/
noncomputable def orI (x : Int32) (P : Nat → Prop) (n : Nat) : Prop := (x = 0 ∧ ∀ u : Nat, u < n → ¬ P u) ∨ (¬ x = 0 ∧ ∃ u : Nat, u < n ∧ P u)
theorem orI_0 {P : Nat → Prop} {n : Nat} (hn : n = 0) : orI 0 P n := Or.inl ⟨rfl, fun u h => by omega⟩
theorem orI_n {x : Int32} {P : Nat → Prop} {n : Nat} (h : orI x P n) (hp : ¬ P n) : orI x P (n + 1) := by
  obtain q | q := h
  · refine Or.inl ⟨q.1, fun u hu => ?_⟩
    by_cases e : u = n
    · rw [e]; exact hp
    · exact q.2 u (by omega)
  · obtain ⟨u, a, b⟩ := q.2
    exact Or.inr ⟨q.1, u, by omega, b⟩
theorem or_ne {x l : Int32} {n : Nat} (hl : l = nI n) (hn : n < 10) : ¬ (x ||| (1 <<< (l &&& 31))) = 0 := by
  intro e
  have a : bi (x ||| (1 <<< (l &&& 31))) n = bi 0 n := by rw [e]
  rw [bi_or, bi_0, hl, bi_one ⟨n, hn⟩ ⟨n, hn⟩, decide_eq_true rfl, Bool.or_true] at a
  exact Bool.noConfusion a
theorem orI_y {x y : Int32} {P : Nat → Prop} {n : Nat} (hp : P n) (hy : ¬ y = 0) : orI y P (n + 1) := Or.inr ⟨hy, n, Nat.lt_succ_self _, hp⟩
noncomputable def ifP (p : Prop) (a b : Int) : Int := @ite _ p (Classical.propDecidable _) a b
theorem ifP_t {p : Prop} {a b : Int} (h : p) : ifP p a b = a := if_pos h
theorem ifP_f {p : Prop} {a b : Int} (h : ¬ p) : ifP p a b = b := if_neg h
/-! thread -/
noncomputable def qThread (a b : Int) (M : Mem) : Int := if ¬ (0 ≤ a ∧ a < (thM M).toInt) then -1 else if b = 0 then (plM M a.toNat).toInt else if b = 1 then (paM M a.toNat).toInt else if b = 2 then (knM M a.toNat).toInt else if b = 3 then ifP (icM M a.toNat) 1 0 else -1
theorem thread_no {a b : Int} {M : Mem} (h : ¬ (0 ≤ a ∧ a < (thM M).toInt) ∨ (¬ b = 0 ∧ ¬ b = 1 ∧ ¬ b = 2 ∧ ¬ b = 3)) : qThread a b M = -1 := by
  unfold qThread
  by_cases q : 0 ≤ a ∧ a < (thM M).toInt
  · have w := h.resolve_left (fun z => z q)
    rw [if_neg (fun z => z q), if_neg w.1, if_neg w.2.1, if_neg w.2.2.1, if_neg w.2.2.2]
  · rw [if_pos q]
theorem thread_0 {a b : Int} {cl th dy sn : Int32} {kd pl pa kn sp ss : Nat → Int32} (h : 0 ≤ a ∧ a < th.toInt) (hb : b = 0) : qThread a b (mkM cl th dy sn kd pl pa kn sp ss) = (pl a.toNat).toInt := by
  unfold qThread
  rw [if_neg (fun z => z h), if_pos hb]
  exact congrArg Int32.toInt (msk_in (by omega))
theorem thread_1 {a b : Int} {cl th dy sn : Int32} {kd pl pa kn sp ss : Nat → Int32} (h : 0 ≤ a ∧ a < th.toInt) (hb : b = 1) : qThread a b (mkM cl th dy sn kd pl pa kn sp ss) = (pa a.toNat).toInt := by
  unfold qThread
  rw [if_neg (fun z => z h), if_neg (by omega), if_pos hb]
  exact congrArg Int32.toInt (msk_in (by omega))
theorem thread_2 {a b : Int} {cl th dy sn : Int32} {kd pl pa kn sp ss : Nat → Int32} (h : 0 ≤ a ∧ a < th.toInt) (hb : b = 2) : qThread a b (mkM cl th dy sn kd pl pa kn sp ss) = (kn a.toNat).toInt := by
  unfold qThread
  rw [if_neg (fun z => z h), if_neg (by omega), if_neg (by omega), if_pos hb]
  exact congrArg Int32.toInt (msk_in (by omega))
theorem thread_3 {a b r : Int} {cl th dy sn : Int32} {kd pl pa kn sp ss : Nat → Int32} (h : 0 ≤ a ∧ a < th.toInt) (hb : b = 3) (hr : (r = 1 ∧ icA pl pa kn a.toNat) ∨ (r = 0 ∧ ¬ icA pl pa kn a.toNat)) : qThread a b (mkM cl th dy sn kd pl pa kn sp ss) = r := by
  unfold qThread
  rw [if_neg (fun z => z h), if_neg (by omega), if_neg (by omega), if_neg (by omega), if_pos hb]
  have e := icM_mk (cl := cl) (th := th) (dy := dy) (sn := sn) (kd := kd) (pl := pl) (pa := pa) (kn := kn) (sp := sp) (ss := ss) (t := a.toNat) (by omega)
  obtain q | q := hr
  · rw [ifP_t (e.mpr q.2), q.1]
  · rw [ifP_f (fun z => q.2 (e.mp z)), q.1]
theorem orI_to {x : Int32} {P : Nat → Prop} {n m : Nat} (h : orI x P n) (e : n = m) : orI x P m := e ▸ h
theorem orI_z {x : Int32} {P : Nat → Prop} {n : Nat} (h : orI x P n) (hx : x = 0) : orI 0 P n := hx ▸ h
theorem orI_y1 {x : Int32} {P : Nat → Prop} {n : Nat} (h : orI x P n) (hx : ¬ x = 0) : orI 1 P (n + 1) := by
  obtain q | q := h
  · exact absurd q.1 hx
  · obtain ⟨u, a, b⟩ := q.2
    exact Or.inr ⟨by decide, u, by omega, b⟩
theorem orI_yes {x : Int32} {P : Nat → Prop} {n : Nat} (h : orI x P n) (hx : ¬ x = 0) : ∃ u : Nat, u < n ∧ P u := h.elim (fun q => absurd q.1 hx) (fun q => q.2)
theorem orI_no {x : Int32} {P : Nat → Prop} {n : Nat} (h : orI x P n) (hx : x = 0) : ¬ ∃ u : Nat, u < n ∧ P u := h.elim (fun q w => w.elim fun u z => q.2 u z.1 z.2) (fun q => absurd hx q.1)
theorem orI_two {x : Int32} {P : Nat → Prop} {n : Nat} (h : orI x P n) : (¬ x = 0 ∧ ∃ u : Nat, u < n ∧ P u) ∨ (x = 0 ∧ ¬ ∃ u : Nat, u < n ∧ P u) := h.elim (fun q => Or.inr ⟨q.1, orI_no h q.1⟩) (fun q => Or.inl q)
theorem thread_of {h g : qm_H} {a b r : Int} {A B C : Prop} (s : ∀ j : Nat, j < 49 → g 41 j = h 40 j) (h9 : (h 40 4).toInt ≤ 10) (ha : 0 ≤ a ∧ a < (h 40 4).toInt) (hb : 0 ≤ b ∧ b ≤ 2) (o : ((b = 0 → (r = (g 41 (6 + 3 * a.toNat)).toInt ∧ A)) ∧ (b = 1 → (r = (g 41 (7 + 3 * a.toNat)).toInt ∧ B)) ∧ (b = 2 → (r = (g 41 (8 + 3 * a.toNat)).toInt ∧ C)))) : qThread a b (mR h) = r := by
  have q : b = 0 ∨ b = 1 ∨ b = 2 := by omega
  obtain q | q | q := q
  · rw [show qThread a b (mR h) = _ from thread_0 ha q, (o.1 q).1, s _ (by omega)]
  · rw [show qThread a b (mR h) = _ from thread_1 ha q, (o.2.1 q).1, s _ (by omega)]
  · rw [show qThread a b (mR h) = _ from thread_2 ha q, (o.2.2 q).1, s _ (by omega)]
theorem ic_41 {h g : qm_H} {t : Nat} (s : ∀ j : Nat, j < 49 → g 41 j = h 40 j) (ht : t < 10) : icA (fun t => g 41 (6 + 3 * t)) (fun t => g 41 (7 + 3 * t)) (fun t => g 41 (8 + 3 * t)) t ↔ icA (fun t => h 40 (6 + 3 * t)) (fun t => h 40 (7 + 3 * t)) (fun t => h 40 (8 + 3 * t)) t := icA_eq (n := 10) (fun j q => ⟨s _ (by omega), s _ (by omega), s _ (by omega)⟩) ht
theorem thread_c {h g : qm_H} {a : Int} {x r : Int32} (s : ∀ j : Nat, j < 49 → g 41 j = h 40 j) (h9 : (h 40 4).toInt ≤ 10) (ha : 0 ≤ a ∧ a < (h 40 4).toInt) (o : (¬ x = 0 ∧ icA (fun t => g 41 (6 + 3 * t)) (fun t => g 41 (7 + 3 * t)) (fun t => g 41 (8 + 3 * t)) a.toNat) ∨ (x = 0 ∧ ¬ icA (fun t => g 41 (6 + 3 * t)) (fun t => g 41 (7 + 3 * t)) (fun t => g 41 (8 + 3 * t)) a.toNat)) (f : (x.toInt = 0 ∧ r.toInt = 0) ∨ (¬ x.toInt = 0 ∧ r.toInt = 1)) : (r.toInt = 1 ∧ icA (fun t => h 40 (6 + 3 * t)) (fun t => h 40 (7 + 3 * t)) (fun t => h 40 (8 + 3 * t)) a.toNat) ∨ (r.toInt = 0 ∧ ¬ icA (fun t => h 40 (6 + 3 * t)) (fun t => h 40 (7 + 3 * t)) (fun t => h 40 (8 + 3 * t)) a.toNat) := by
  rw [ic_41 s (by omega)] at o
  obtain q | q := o
  · have : ¬ x.toInt = 0 := fun w => q.1 (Int32.toInt_inj.mp w)
    exact Or.inl ⟨by omega, q.2⟩
  · have : x.toInt = 0 := by rw [q.1]; rfl
    exact Or.inr ⟨by omega, q.2⟩
/-! ===== sums ===== -/
noncomputable def sumI (f : Nat → Int) : Nat → Int
  | 0 => 0
  | n + 1 => sumI f n + f n
theorem sumI_s {f : Nat → Int} {n : Nat} : sumI f (n + 1) = sumI f n + f n := rfl
theorem sumI_eq {f g : Nat → Int} : ∀ {n : Nat}, (∀ j : Nat, j < n → f j = g j) → sumI f n = sumI g n
  | 0, _ => rfl
  | n + 1, h => by rw [sumI_s, sumI_s, sumI_eq (fun j q => h j (by omega)), h n (Nat.lt_succ_self _)]
theorem sumI_rng {f : Nat → Int} {m : Int} (h : ∀ j : Nat, 0 ≤ f j ∧ f j ≤ m) : ∀ n : Nat, 0 ≤ sumI f n ∧ sumI f n ≤ m * (n : Int)
  | 0 => ⟨Int.le_refl _, by rw [show ((0 : Nat) : Int) = 0 from rfl, Int.mul_zero]; exact Int.le_refl _⟩
  | n + 1 => by
    have a := sumI_rng h n
    have b := h n
    rw [sumI_s, show m * ((n + 1 : Nat) : Int) = m * (n : Int) + m from by rw [show ((n + 1 : Nat) : Int) = (n : Int) + 1 from rfl, Int.mul_add, Int.mul_one]]
    omega
/-! ===== what is owed ===== -/
noncomputable def wc (h : qm_H) : Prop := wfM (mC h)
noncomputable def wr (h : qm_H) : Prop := wfM (mR h)
theorem wf_tr2 {M N : Mem} (h : wfM M) (e : N = M) : wfM N := e ▸ h
/-! ===== debts, counts ===== -/
noncomputable def sdF (pa kn : Nat → Int32) (t u : Nat) : Prop := (pa t).toInt = (pa u).toInt ∧ (kn t).toInt = (kn u).toInt
noncomputable def fsA (pa kn : Nat → Int32) (t : Nat) : Prop := ¬ ∃ u : Nat, u < t ∧ sdF pa kn t u
noncomputable def cntP (P : Nat → Prop) : Nat → Int := sumI (fun t => ifP (P t) 1 0)
theorem cntP_t {P : Nat → Prop} {n : Nat} (h : P n) : cntP P (n + 1) = cntP P n + 1 := by
  show cntP P n + ifP (P n) 1 0 = _
  rw [ifP_t h]
theorem cntP_f {P : Nat → Prop} {n : Nat} (h : ¬ P n) : cntP P (n + 1) = cntP P n := by
  show cntP P n + ifP (P n) 1 0 = _
  rw [ifP_f h, Int.add_zero]
theorem cntP_rng {P : Nat → Prop} {n : Nat} : 0 ≤ cntP P n ∧ cntP P n ≤ 1 * (n : Int) := sumI_rng (fun j => by
  by_cases q : P j
  · rw [ifP_t q]; omega
  · rw [ifP_f q]; omega) n
theorem cntP_eq {P Q : Nat → Prop} {n : Nat} (h : ∀ j : Nat, j < n → (P j ↔ Q j)) : cntP P n = cntP Q n := sumI_eq (fun j q => by
  by_cases w : P j
  · rw [ifP_t w, ifP_t ((h j q).mp w)]
  · rw [ifP_f w, ifP_f (fun z => w ((h j q).mpr z))])
theorem fsA_eq {pa kn pa2 kn2 : Nat → Int32} {t n : Nat} (h : ∀ j : Nat, j < n → pa j = pa2 j ∧ kn j = kn2 j) (ht : t < n) : fsA pa kn t ↔ fsA pa2 kn2 t := by
  have e : ∀ u : Nat, u < t → (sdF pa kn t u ↔ sdF pa2 kn2 t u) := fun u hu => by
    unfold sdF
    rw [(h t ht).1, (h t ht).2, (h u (by omega)).1, (h u (by omega)).2]
  unfold fsA
  constructor
  · rintro a ⟨u, b, c⟩; exact a ⟨u, b, (e u b).mpr c⟩
  · rintro a ⟨u, b, c⟩; exact a ⟨u, b, (e u b).mp c⟩
noncomputable def qCount (a : Int) (M : Mem) (f : Nat → Int32) (L : Int) (S : SH) : Int := if a = 0 then cntP (fsA (paM M) (knM M)) (thM M).toInt.toNat else if a = 1 then cntP (icM M) (thM M).toInt.toNat else if a = 2 then (snM M).toInt else if a = 3 then ifP (f 0 = 0) 0 1 + ifP (f 1 = 0) 0 1 else if a = 4 then L else if a = 5 then S.2.1.toInt else -1
theorem count_0 {a L : Int} {f : Nat → Int32} {S : SH} {cl th dy sn : Int32} {kd pl pa kn sp ss : Nat → Int32} (ha : a = 0) : qCount a (mkM cl th dy sn kd pl pa kn sp ss) f L S = cntP (fsA pa kn) th.toInt.toNat := by
  unfold qCount
  rw [if_pos ha]
  exact cntP_eq (fun j q => fsA_eq (n := th.toInt.toNat) (fun i w => ⟨msk_in (by omega), msk_in (by omega)⟩) q)
theorem count_1 {a L : Int} {f : Nat → Int32} {S : SH} {cl th dy sn : Int32} {kd pl pa kn sp ss : Nat → Int32} (ha : a = 1) : qCount a (mkM cl th dy sn kd pl pa kn sp ss) f L S = cntP (icA pl pa kn) th.toInt.toNat := by
  unfold qCount
  rw [if_neg (by omega), if_pos ha]
  exact cntP_eq (fun j q => icM_mk (by have q : j < th.toInt.toNat := q; omega))
theorem count_2 {a L : Int} {f : Nat → Int32} {S : SH} {M : Mem} (ha : a = 2) : qCount a M f L S = (snM M).toInt := by
  unfold qCount
  rw [if_neg (by omega), if_neg (by omega), if_pos ha]
theorem count_3 {a L : Int} {f : Nat → Int32} {S : SH} {M : Mem} (ha : a = 3) : qCount a M f L S = ifP (f 0 = 0) 0 1 + ifP (f 1 = 0) 0 1 := by
  unfold qCount
  rw [if_neg (by omega), if_neg (by omega), if_neg (by omega), if_pos ha]
theorem count_4 {a L : Int} {f : Nat → Int32} {S : SH} {M : Mem} (ha : a = 4) : qCount a M f L S = L := by
  unfold qCount
  rw [if_neg (by omega), if_neg (by omega), if_neg (by omega), if_neg (by omega), if_pos ha]
theorem count_5 {a L : Int} {f : Nat → Int32} {S : SH} {M : Mem} (ha : a = 5) : qCount a M f L S = S.2.1.toInt := by
  unfold qCount
  rw [if_neg (by omega), if_neg (by omega), if_neg (by omega), if_neg (by omega), if_neg (by omega), if_pos ha]
theorem count_d {a L : Int} {f : Nat → Int32} {S : SH} {M : Mem} (ha : a < 0 ∨ 5 < a) : qCount a M f L S = -1 := by
  unfold qCount
  rw [if_neg (by omega), if_neg (by omega), if_neg (by omega), if_neg (by omega), if_neg (by omega), if_neg (by omega)]
theorem svC_sz {h : qm_H} {k : Nat} {r : Int} (q : ((h 37 k).toInt = -4 ∧ r = -4) ∨ (¬ (h 37 k).toInt = -4 ∧ r = (h 37 k).toInt)) : r = (svC h k).2.1.toInt := by
  unfold svC
  obtain q | q := q
  · rw [if_pos q.1, q.2]; rfl
  · rw [if_neg q.1]; exact q.2
theorem svR_sz {h : qm_H} {k : Nat} {r : Int} (q : ((h 48 k).toInt = -4 ∧ r = -4) ∨ (¬ (h 48 k).toInt = -4 ∧ r = (h 49 k).toInt)) : r = (svR h k).2.1.toInt := by
  unfold svR
  obtain q | q := q
  · rw [if_pos q.1, q.2]; rfl
  · rw [if_neg q.1]; exact q.2
/-- a flag that is 1 just while nothing was found below n -/
noncomputable def anI (x : Int32) (P : Nat → Prop) (n : Nat) : Prop := (¬ x = 0 ∧ ∀ u : Nat, u < n → ¬ P u) ∨ (x = 0 ∧ ∃ u : Nat, u < n ∧ P u)
theorem anI_0 {P : Nat → Prop} {n : Nat} (hn : n = 0) : anI 1 P n := Or.inl ⟨by decide, fun u h => by omega⟩
theorem anI_k {x : Int32} {P : Nat → Prop} {n : Nat} (h : anI x P n) (hx : x = 0) : anI 0 P (n + 1) := by
  obtain q | q := h
  · exact absurd hx q.1
  · obtain ⟨u, a, b⟩ := q.2
    exact Or.inr ⟨rfl, u, by omega, b⟩
theorem anI_n {P : Nat → Prop} {n : Nat} (hp : P n) : anI 0 P (n + 1) := Or.inr ⟨rfl, n, Nat.lt_succ_self _, hp⟩
theorem anI_y {x : Int32} {P : Nat → Prop} {n : Nat} (h : anI x P n) (hx : ¬ x = 0) (hp : ¬ P n) : anI 1 P (n + 1) := by
  obtain q | q := h
  · refine Or.inl ⟨by decide, fun u hu => ?_⟩
    by_cases e : u = n
    · rw [e]; exact hp
    · exact q.2 u (by omega)
  · exact absurd q.1 hx
theorem anI_two {x : Int32} {P : Nat → Prop} {n m : Nat} (h : anI x P n) (e : n = m) : (¬ x = 0 ∧ ¬ ∃ u : Nat, u < m ∧ P u) ∨ (x = 0 ∧ ¬ ¬ ∃ u : Nat, u < m ∧ P u) := by
  subst e
  obtain q | q := h
  · exact Or.inl ⟨q.1, fun w => w.elim fun u z => q.2 u z.1 z.2⟩
  · exact Or.inr ⟨q.1, fun w => w q.2⟩
theorem fs_41 {h g : qm_H} {t : Nat} (s : ∀ j : Nat, j < 49 → g 41 j = h 40 j) (ht : t < 10) : fsA (fun t => g 41 (7 + 3 * t)) (fun t => g 41 (8 + 3 * t)) t ↔ fsA (fun t => h 40 (7 + 3 * t)) (fun t => h 40 (8 + 3 * t)) t := fsA_eq (n := 10) (fun j q => ⟨s _ (by omega), s _ (by omega)⟩) ht
theorem cnt_fl {x r : Int32} {A : Prop} {P : Nat → Prop} {t : Nat} {n : Int} (o : (¬ x = 0 ∧ A) ∨ (x = 0 ∧ ¬ A)) (f : (x.toInt = 0 ∧ r.toInt = 0) ∨ (¬ x.toInt = 0 ∧ r.toInt = 1)) (e : A ↔ P t) (hn : n = cntP P t) : cntP P (t + 1) = n + r.toInt := by
  obtain q | q := o
  · have : ¬ x.toInt = 0 := fun w => q.1 (Int32.toInt_inj.mp w)
    rw [cntP_t (e.mp q.2)]; omega
  · have : x.toInt = 0 := by rw [q.1]; rfl
    rw [cntP_f (fun w => q.2 (e.mpr w))]; omega
theorem fl_if {h g : qm_H} {k : Nat} {r : Int32} (w : g 42 = h 42) (f : ((g 42 k).toInt = 0 ∧ r.toInt = 0) ∨ (¬ (g 42 k).toInt = 0 ∧ r.toInt = 1)) : r.toInt = ifP (h 42 k = 0) 0 1 := by
  rw [w] at f
  obtain q | q := f
  · rw [ifP_t (Int32.toInt_inj.mp q.1)]; exact q.2
  · rw [ifP_f (fun z => q.1 (by rw [z]; rfl))]; exact q.2
theorem fl_rng {f : Nat → Int32} {k : Nat} : 0 ≤ ifP (f k = 0) 0 1 ∧ ifP (f k = 0) 0 1 ≤ 1 := by
  by_cases q : f k = 0
  · rw [ifP_t q]; omega
  · rw [ifP_f q]; omega
noncomputable def c20 : Nat → Int := fun _ => 20
/-! the reference's codes: which are rings, which ring each is -/
noncomputable def vR (cl : Int) (n c m : Nat) : Prop := ∀ i : Nat, i < m → ((dg n c i : Nat) : Int) < cl ∧ (0 < i → dg n c 0 < dg n c i) ∧ ∀ k : Nat, 0 < k → k < i → ¬ dg n c i = dg n c k
noncomputable def v4 (n c : Nat) : Bool := decide (∀ i : Nat, i < n → (0 < i → dg n c 0 < dg n c i) ∧ ∀ k : Nat, k < i → 0 < k → ¬ dg n c i = dg n c k)
