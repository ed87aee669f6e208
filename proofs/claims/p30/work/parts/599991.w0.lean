/-! ===== copies ===== -/
noncomputable def icF (pl pa kn : Nat → Int32) (t u : Nat) : Prop := (pa t).toInt = (pa u).toInt ∧ (kn t).toInt = (kn u).toInt ∧ ¬ (pl t / 10).toInt = (pl u / 10).toInt
noncomputable def icA (pl pa kn : Nat → Int32) (t : Nat) : Prop := ∃ u : Nat, u < t ∧ icF pl pa kn t u
theorem icF_eq {pl pa kn pl2 pa2 kn2 : Nat → Int32} {t u n : Nat} (h : ∀ j : Nat, j < n → pl j = pl2 j ∧ pa j = pa2 j ∧ kn j = kn2 j) (ht : t < n) (hu : u < n) : icF pl pa kn t u ↔ icF pl2 pa2 kn2 t u := by
  unfold icF
  rw [(h t ht).1, (h t ht).2.1, (h t ht).2.2, (h u hu).1, (h u hu).2.1, (h u hu).2.2]
theorem icA_eq {pl pa kn pl2 pa2 kn2 : Nat → Int32} {t n : Nat} (h : ∀ j : Nat, j < n → pl j = pl2 j ∧ pa j = pa2 j ∧ kn j = kn2 j) (ht : t < n) : icA pl pa kn t ↔ icA pl2 pa2 kn2 t := by
  constructor
  · rintro ⟨u, a, b⟩; exact ⟨u, a, (icF_eq h ht (by omega)).mp b⟩
  · rintro ⟨u, a, b⟩; exact ⟨u, a, (icF_eq h ht (by omega)).mpr b⟩
noncomputable def icM (M : Mem) (t : Nat) : Prop := icA (plM M) (paM M) (knM M) t
theorem icM_mk {cl th dy sn : Int32} {kd pl pa kn sp ss : Nat → Int32} {t : Nat} (ht : (t : Int) < th.toInt) : icM (mkM cl th dy sn kd pl pa kn sp ss) t ↔ icA pl pa kn t := icA_eq (n := th.toInt.toNat) (fun j q => ⟨msk_in (by omega), msk_in (by omega), msk_in (by omega)⟩) (by omega)
/-- a word of bits that is 0 just when nothing was found below n -/
noncomputable def orI (x : Int32) (P : Nat → Prop) (n : Nat) : Prop := (x = 0 ∧ ∀ u : Nat, u < n → ¬ P u) ∨ (¬ x = 0 ∧ ∃ u : Nat, u < n ∧ P u)
theorem orI_0 {P : Nat → Prop} {n : Nat} (hn : n = 0) : orI 0 P n := Or.inl ⟨rfl, fun u h => by omega⟩
theorem orI_n {x : Int32} {P : Nat → Prop} {n : Nat} (h : orI x P n) (hp : ¬ P n) : orI x P (n + 1) := by
  obtain q | q := h
  · refine Or.inl ⟨q.1, fun u hu => ?_⟩
    by_cases e : u = n
    · rw [e]; exact hp
    · exact q.2 u (by omega)
  · obtain ⟨u, a, b⟩ := q.2
    exact Or.inr ⟨q.1, u, by omega, b⟩
theorem or_ne {x l : Int32} {n : Nat} (hl : l = nI n) (hn : n < 10) : ¬ (x ||| (1 <<< (l &&& 31))) = 0 := by
  intro e
  have a : bi (x ||| (1 <<< (l &&& 31))) n = bi 0 n := by rw [e]
  rw [bi_or, bi_0, hl, bi_one ⟨n, hn⟩ ⟨n, hn⟩, decide_eq_true rfl, Bool.or_true] at a
  exact Bool.noConfusion a
theorem orI_y {x y : Int32} {P : Nat → Prop} {n : Nat} (hp : P n) (hy : ¬ y = 0) : orI y P (n + 1) := Or.inr ⟨hy, n, Nat.lt_succ_self _, hp⟩
noncomputable def ifP (p : Prop) (a b : Int) : Int := @ite _ p (Classical.propDecidable _) a b
theorem ifP_t {p : Prop} {a b : Int} (h : p) : ifP p a b = a := if_pos h
theorem ifP_f {p : Prop} {a b : Int} (h : ¬ p) : ifP p a b = b := if_neg h
/-! thread -/
noncomputable def qThread (a b : Int) (M : Mem) : Int := if ¬ (0 ≤ a ∧ a < (thM M).toInt) then -1 else if b = 0 then (plM M a.toNat).toInt else if b = 1 then (paM M a.toNat).toInt else if b = 2 then (knM M a.toNat).toInt else if b = 3 then ifP (icM M a.toNat) 1 0 else -1
theorem thread_no {a b : Int} {M : Mem} (h : ¬ (0 ≤ a ∧ a < (thM M).toInt) ∨ (¬ b = 0 ∧ ¬ b = 1 ∧ ¬ b = 2 ∧ ¬ b = 3)) : qThread a b M = -1 := by
  unfold qThread
  by_cases q : 0 ≤ a ∧ a < (thM M).toInt
  · have w := h.resolve_left (fun z => z q)
    rw [if_neg (fun z => z q), if_neg w.1, if_neg w.2.1, if_neg w.2.2.1, if_neg w.2.2.2]
  · rw [if_pos q]
theorem thread_0 {a b : Int} {cl th dy sn : Int32} {kd pl pa kn sp ss : Nat → Int32} (h : 0 ≤ a ∧ a < th.toInt) (hb : b = 0) : qThread a b (mkM cl th dy sn kd pl pa kn sp ss) = (pl a.toNat).toInt := by
  unfold qThread
  rw [if_neg (fun z => z h), if_pos hb]
  exact congrArg Int32.toInt (msk_in (by omega))
theorem thread_1 {a b : Int} {cl th dy sn : Int32} {kd pl pa kn sp ss : Nat → Int32} (h : 0 ≤ a ∧ a < th.toInt) (hb : b = 1) : qThread a b (mkM cl th dy sn kd pl pa kn sp ss) = (pa a.toNat).toInt := by
  unfold qThread
  rw [if_neg (fun z => z h), if_neg (by omega), if_pos hb]
  exact congrArg Int32.toInt (msk_in (by omega))
theorem thread_2 {a b : Int} {cl th dy sn : Int32} {kd pl pa kn sp ss : Nat → Int32} (h : 0 ≤ a ∧ a < th.toInt) (hb : b = 2) : qThread a b (mkM cl th dy sn kd pl pa kn sp ss) = (kn a.toNat).toInt := by
  unfold qThread
  rw [if_neg (fun z => z h), if_neg (by omega), if_neg (by omega), if_pos hb]
  exact congrArg Int32.toInt (msk_in (by omega))
theorem thread_3 {a b r : Int} {cl th dy sn : Int32} {kd pl pa kn sp ss : Nat → Int32} (h : 0 ≤ a ∧ a < th.toInt) (hb : b = 3) (hr : (r = 1 ∧ icA pl pa kn a.toNat) ∨ (r = 0 ∧ ¬ icA pl pa kn a.toNat)) : qThread a b (mkM cl th dy sn kd pl pa kn sp ss) = r := by
  unfold qThread
  rw [if_neg (fun z => z h), if_neg (by omega), if_neg (by omega), if_neg (by omega), if_pos hb]
  have e := icM_mk (cl := cl) (th := th) (dy := dy) (sn := sn) (kd := kd) (pl := pl) (pa := pa) (kn := kn) (sp := sp) (ss := ss) (t := a.toNat) (by omega)
  obtain q | q := hr
  · rw [ifP_t (e.mpr q.2), q.1]
  · rw [ifP_f (fun z => q.2 (e.mp z)), q.1]
theorem orI_to {x : Int32} {P : Nat → Prop} {n m : Nat} (h : orI x P n) (e : n = m) : orI x P m := e ▸ h
theorem orI_z {x : Int32} {P : Nat → Prop} {n : Nat} (h : orI x P n) (hx : x = 0) : orI 0 P n := hx ▸ h
theorem orI_y1 {x : Int32} {P : Nat → Prop} {n : Nat} (h : orI x P n) (hx : ¬ x = 0) : orI 1 P (n + 1) := by
  obtain q | q := h
  · exact absurd q.1 hx
  · obtain ⟨u, a, b⟩ := q.2
    exact Or.inr ⟨by decide, u, by omega, b⟩
theorem orI_yes {x : Int32} {P : Nat → Prop} {n : Nat} (h : orI x P n) (hx : ¬ x = 0) : ∃ u : Nat, u < n ∧ P u := h.elim (fun q => absurd q.1 hx) (fun q => q.2)
theorem orI_no {x : Int32} {P : Nat → Prop} {n : Nat} (h : orI x P n) (hx : x = 0) : ¬ ∃ u : Nat, u < n ∧ P u := h.elim (fun q w => w.elim fun u z => q.2 u z.1 z.2) (fun q => absurd hx q.1)
theorem orI_two {x : Int32} {P : Nat → Prop} {n : Nat} (h : orI x P n) : (¬ x = 0 ∧ ∃ u : Nat, u < n ∧ P u) ∨ (x = 0 ∧ ¬ ∃ u : Nat, u < n ∧ P u) := h.elim (fun q => Or.inr ⟨q.1, orI_no h q.1⟩) (fun q => Or.inl q)
theorem thread_of {h g : qm_H} {a b r : Int} {A B C : Prop} (s : ∀ j : Nat, j < 49 → g 41 j = h 40 j) (h9 : (h 40 4).toInt ≤ 10) (ha : 0 ≤ a ∧ a < (h 40 4).toInt) (hb : 0 ≤ b ∧ b ≤ 2) (o : ((b = 0 → (r = (g 41 (6 + 3 * a.toNat)).toInt ∧ A)) ∧ (b = 1 → (r = (g 41 (7 + 3 * a.toNat)).toInt ∧ B)) ∧ (b = 2 → (r = (g 41 (8 + 3 * a.toNat)).toInt ∧ C)))) : qThread a b (mR h) = r := by
  have q : b = 0 ∨ b = 1 ∨ b = 2 := by omega
  obtain q | q | q := q
  · rw [show qThread a b (mR h) = _ from thread_0 ha q, (o.1 q).1, s _ (by omega)]
  · rw [show qThread a b (mR h) = _ from thread_1 ha q, (o.2.1 q).1, s _ (by omega)]
  · rw [show qThread a b (mR h) = _ from thread_2 ha q, (o.2.2 q).1, s _ (by omega)]
theorem ic_41 {h g : qm_H} {t : Nat} (s : ∀ j : Nat, j < 49 → g 41 j = h 40 j) (ht : t < 10) : icA (fun t => g 41 (6 + 3 * t)) (fun t => g 41 (7 + 3 * t)) (fun t => g 41 (8 + 3 * t)) t ↔ icA (fun t => h 40 (6 + 3 * t)) (fun t => h 40 (7 + 3 * t)) (fun t => h 40 (8 + 3 * t)) t := icA_eq (n := 10) (fun j q => ⟨s _ (by omega), s _ (by omega), s _ (by omega)⟩) ht
theorem thread_c {h g : qm_H} {a : Int} {x r : Int32} (s : ∀ j : Nat, j < 49 → g 41 j = h 40 j) (h9 : (h 40 4).toInt ≤ 10) (ha : 0 ≤ a ∧ a < (h 40 4).toInt) (o : (¬ x = 0 ∧ icA (fun t => g 41 (6 + 3 * t)) (fun t => g 41 (7 + 3 * t)) (fun t => g 41 (8 + 3 * t)) a.toNat) ∨ (x = 0 ∧ ¬ icA (fun t => g 41 (6 + 3 * t)) (fun t => g 41 (7 + 3 * t)) (fun t => g 41 (8 + 3 * t)) a.toNat)) (f : (x.toInt = 0 ∧ r.toInt = 0) ∨ (¬ x.toInt = 0 ∧ r.toInt = 1)) : (r.toInt = 1 ∧ icA (fun t => h 40 (6 + 3 * t)) (fun t => h 40 (7 + 3 * t)) (fun t => h 40 (8 + 3 * t)) a.toNat) ∨ (r.toInt = 0 ∧ ¬ icA (fun t => h 40 (6 + 3 * t)) (fun t => h 40 (7 + 3 * t)) (fun t => h 40 (8 + 3 * t)) a.toNat) := by
  rw [ic_41 s (by omega)] at o
  obtain q | q := o
  · have : ¬ x.toInt = 0 := fun w => q.1 (Int32.toInt_inj.mp w)
    exact Or.inl ⟨by omega, q.2⟩
  · have : x.toInt = 0 := by rw [q.1]; rfl
    exact Or.inr ⟨by omega, q.2⟩
/-! ===== sums ===== -/
noncomputable def sumI (f : Nat → Int) : Nat → Int
  | 0 => 0
  | n + 1 => sumI f n + f n
theorem sumI_s {f : Nat → Int} {n : Nat} : sumI f (n + 1) = sumI f n + f n := rfl
theorem sumI_eq {f g : Nat → Int} : ∀ {n : Nat}, (∀ j : Nat, j < n → f j = g j) → sumI f n = sumI g n
  | 0, _ => rfl
  | n + 1, h => by rw [sumI_s, sumI_s, sumI_eq (fun j q => h j (by omega)), h n (Nat.lt_succ_self _)]
theorem sumI_rng {f : Nat → Int} {m : Int} (h : ∀ j : Nat, 0 ≤ f j ∧ f j ≤ m) : ∀ n : Nat, 0 ≤ sumI f n ∧ sumI f n ≤ m * (n : Int)
  | 0 => ⟨Int.le_refl _, by rw [show ((0 : Nat) : Int) = 0 from rfl, Int.mul_zero]; exact Int.le_refl _⟩
  | n + 1 => by
    have a := sumI_rng h n
    have b := h n
    rw [sumI_s, show m * ((n + 1 : Nat) : Int) = m * (n : Int) + m from by rw [show ((n + 1 : Nat) : Int) = (n : Int) + 1 from rfl, Int.mul_add, Int.mul_one]]
    omega
/-! ===== what is owed ===== -/
noncomputable def wc (h : qm_H) : Prop := wfM (mC h)
noncomputable def wr (h : qm_H) : Prop := wfM (mR h)
theorem wf_tr2 {M N : Mem} (h : wfM M) (e : N = M) : wfM N := e ▸ h
