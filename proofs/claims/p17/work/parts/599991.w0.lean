/-! ===== copies ===== -/
noncomputable def icF (pl pa kn : Nat → Int32) (t u : Nat) : Prop := (pa t).toInt = (pa u).toInt ∧ (kn t).toInt = (kn u).toInt ∧ ¬ (pl t / 10).toInt = (pl u / 10).toInt
noncomputable def icA (pl pa kn : Nat → Int32) (t : Nat) : Prop := ∃ u : Nat, u < t ∧ icF pl pa kn t u
theorem icF_eq {pl pa kn pl2 pa2 kn2 : Nat → Int32} {t u n : Nat} (h : ∀ j : Nat, j < n → pl j = pl2 j ∧ pa j = pa2 j ∧ kn j = kn2 j) (ht : t < n) (hu : u < n) : icF pl pa kn t u ↔ icF pl2 pa2 kn2 t u := by
  unfold icF
  rw [(h t ht).1, (h t ht).2.1, (h t ht).2.2, (h u hu).1, (h u hu).2.1, (h u hu).2.2]
theorem icA_eq {pl pa kn pl2 pa2 kn2 : Nat → Int32} {t n : Nat} (h : ∀ j : Nat, j < n → pl j = pl2 j ∧ pa j = pa2 j ∧ kn j = kn2 j) (ht : t < n) : icA pl pa kn t ↔ icA pl2 pa2 kn2 t := by
  constructor
  · rintro ⟨u, a, b⟩; exact ⟨u, a, (icF_eq h ht (by omega)).mp b⟩
  · rintro ⟨u, a, b⟩; exact ⟨u, a, (icF_eq h ht (by omega)).mpr b⟩
noncomputable def icM (M : Mem) (t : Nat) : Prop := icA (plM M) (paM M) (knM M) t
theorem icM_mk {cl th dy sn : Int32} {kd pl pa kn sp ss : Nat → Int32} {t : Nat} (ht : (t : Int) < th.toInt) : icM (mkM cl th dy sn kd pl pa kn sp ss) t ↔ icA pl pa kn t := icA_eq (n := th.toInt.toNat) (fun j q => ⟨msk_in (by omega), msk_in (by omega), msk_in (by omega)⟩) (by omega)
/-- a word of bits that is 0 just when nothing was found below n -/
noncomputable def orI (x : Int32) (P : Nat → Prop) (n : Nat) : Prop := (x = 0 ∧ ∀ u : Nat, u < n → ¬ P u) ∨ (¬ x = 0 ∧ ∃ u : Nat, u < n ∧ P u)
theorem orI_0 {P : Nat → Prop} {n : Nat} (hn : n = 0) : orI 0 P n := Or.inl ⟨rfl, fun u h => by omega⟩
theorem orI_n {x : Int32} {P : Nat → Prop} {n : Nat} (h : orI x P n) (hp : ¬ P n) : orI x P (n + 1) := by
  obtain q | q := h
  · refine Or.inl ⟨q.1, fun u hu => ?_⟩
    by_cases e : u = n
    · rw [e]; exact hp
    · exact q.2 u (by omega)
  · obtain ⟨u, a, b⟩ := q.2
    exact Or.inr ⟨q.1, u, by omega, b⟩
theorem or_ne {x l : Int32} {n : Nat} (hl : l = nI n) (hn : n < 10) : ¬ (x ||| (1 <<< (l &&& 31))) = 0 := by
  intro e
  have a : bi (x ||| (1 <<< (l &&& 31))) n = bi 0 n := by rw [e]
  rw [bi_or, bi_0, hl, bi_one ⟨n, hn⟩ ⟨n, hn⟩, decide_eq_true rfl, Bool.or_true] at a
  exact Bool.noConfusion a
theorem orI_y {x y : Int32} {P : Nat → Prop} {n : Nat} (hp : P n) (hy : ¬ y = 0) : orI y P (n + 1) := Or.inr ⟨hy, n, Nat.lt_succ_self _, hp⟩
noncomputable def ifP (p : Prop) (a b : Int) : Int := @ite _ p (Classical.propDecidable _) a b
theorem ifP_t {p : Prop} {a b : Int} (h : p) : ifP p a b = a := if_pos h
theorem ifP_f {p : Prop} {a b : Int} (h : ¬ p) : ifP p a b = b := if_neg h
/-! thread -/
noncomputable def qThread (a b : Int) (M : Mem) : Int := if ¬ (0 ≤ a ∧ a < (thM M).toInt) then -1 else if b = 0 then (plM M a.toNat).toInt else if b = 1 then (paM M a.toNat).toInt else if b = 2 then (knM M a.toNat).toInt else if b = 3 then ifP (icM M a.toNat) 1 0 else -1
theorem thread_no {a b : Int} {M : Mem} (h : ¬ (0 ≤ a ∧ a < (thM M).toInt) ∨ (¬ b = 0 ∧ ¬ b = 1 ∧ ¬ b = 2 ∧ ¬ b = 3)) : qThread a b M = -1 := by
  unfold qThread
  by_cases q : 0 ≤ a ∧ a < (thM M).toInt
  · have w := h.resolve_left (fun z => z q)
    rw [if_neg (fun z => z q), if_neg w.1, if_neg w.2.1, if_neg w.2.2.1, if_neg w.2.2.2]
  · rw [if_pos q]
theorem thread_0 {a b : Int} {cl th dy sn : Int32} {kd pl pa kn sp ss : Nat → Int32} (h : 0 ≤ a ∧ a < th.toInt) (hb : b = 0) : qThread a b (mkM cl th dy sn kd pl pa kn sp ss) = (pl a.toNat).toInt := by
  unfold qThread
  rw [if_neg (fun z => z h), if_pos hb]
  exact congrArg Int32.toInt (msk_in (by omega))
theorem thread_1 {a b : Int} {cl th dy sn : Int32} {kd pl pa kn sp ss : Nat → Int32} (h : 0 ≤ a ∧ a < th.toInt) (hb : b = 1) : qThread a b (mkM cl th dy sn kd pl pa kn sp ss) = (pa a.toNat).toInt := by
  unfold qThread
  rw [if_neg (fun z => z h), if_neg (by omega), if_pos hb]
  exact congrArg Int32.toInt (msk_in (by omega))
theorem thread_2 {a b : Int} {cl th dy sn : Int32} {kd pl pa kn sp ss : Nat → Int32} (h : 0 ≤ a ∧ a < th.toInt) (hb : b = 2) : qThread a b (mkM cl th dy sn kd pl pa kn sp ss) = (kn a.toNat).toInt := by
  unfold qThread
  rw [if_neg (fun z => z h), if_neg (by omega), if_neg (by omega), if_pos hb]
  exact congrArg Int32.toInt (msk_in (by omega))
theorem thread_3 {a b r : Int} {cl th dy sn : Int32} {kd pl pa kn sp ss : Nat → Int32} (h : 0 ≤ a ∧ a < th.toInt) (hb : b = 3) (hr : (r = 1 ∧ icA pl pa kn a.toNat) ∨ (r = 0 ∧ ¬ icA pl pa kn a.toNat)) : qThread a b (mkM cl th dy sn kd pl pa kn sp ss) = r := by
  unfold qThread
  rw [if_neg (fun z => z h), if_neg (by omega), if_neg (by omega), if_neg (by omega), if_pos hb]
  have e := icM_mk (cl := cl) (th := th) (dy := dy) (sn := sn) (kd := kd) (pl := pl) (pa := pa) (kn := kn) (sp := sp) (ss := ss) (t := a.toNat) (by omega)
  obtain q | q := hr
  · rw [ifP_t (e.mpr q.2), q.1]
  · rw [ifP_f (fun z => q.2 (e.mp z)), q.1]
theorem orI_to {x : Int32} {P : Nat → Prop} {n m : Nat} (h : orI x P n) (e : n = m) : orI x P m := e ▸ h
theorem orI_z {x : Int32} {P : Nat → Prop} {n : Nat} (h : orI x P n) (hx : x = 0) : orI 0 P n := hx ▸ h
theorem orI_y1 {x : Int32} {P : Nat → Prop} {n : Nat} (h : orI x P n) (hx : ¬ x = 0) : orI 1 P (n + 1) := by
  obtain q | q := h
  · exact absurd q.1 hx
  · obtain ⟨u, a, b⟩ := q.2
    exact Or.inr ⟨by decide, u, by omega, b⟩
theorem orI_yes {x : Int32} {P : Nat → Prop} {n : Nat} (h : orI x P n) (hx : ¬ x = 0) : ∃ u : Nat, u < n ∧ P u := h.elim (fun q => absurd q.1 hx) (fun q => q.2)
theorem orI_no {x : Int32} {P : Nat → Prop} {n : Nat} (h : orI x P n) (hx : x = 0) : ¬ ∃ u : Nat, u < n ∧ P u := h.elim (fun q w => w.elim fun u z => q.2 u z.1 z.2) (fun q => absurd hx q.1)
theorem orI_two {x : Int32} {P : Nat → Prop} {n : Nat} (h : orI x P n) : (¬ x = 0 ∧ ∃ u : Nat, u < n ∧ P u) ∨ (x = 0 ∧ ¬ ∃ u : Nat, u < n ∧ P u) := h.elim (fun q => Or.inr ⟨q.1, orI_no h q.1⟩) (fun q => Or.inl q)
theorem thread_of {h g : qm_H} {a b r : Int} {A B C : Prop} (s : ∀ j : Nat, j < 49 → g 41 j = h 40 j) (h9 : (h 40 4).toInt ≤ 10) (ha : 0 ≤ a ∧ a < (h 40 4).toInt) (hb : 0 ≤ b ∧ b ≤ 2) (o : ((b = 0 → (r = (g 41 (6 + 3 * a.toNat)).toInt ∧ A)) ∧ (b = 1 → (r = (g 41 (7 + 3 * a.toNat)).toInt ∧ B)) ∧ (b = 2 → (r = (g 41 (8 + 3 * a.toNat)).toInt ∧ C)))) : qThread a b (mR h) = r := by
  have q : b = 0 ∨ b = 1 ∨ b = 2 := by omega
  obtain q | q | q := q
  · rw [show qThread a b (mR h) = _ from thread_0 ha q, (o.1 q).1, s _ (by omega)]
  · rw [show qThread a b (mR h) = _ from thread_1 ha q, (o.2.1 q).1, s _ (by omega)]
  · rw [show qThread a b (mR h) = _ from thread_2 ha q, (o.2.2 q).1, s _ (by omega)]
theorem ic_41 {h g : qm_H} {t : Nat} (s : ∀ j : Nat, j < 49 → g 41 j = h 40 j) (ht : t < 10) : icA (fun t => g 41 (6 + 3 * t)) (fun t => g 41 (7 + 3 * t)) (fun t => g 41 (8 + 3 * t)) t ↔ icA (fun t => h 40 (6 + 3 * t)) (fun t => h 40 (7 + 3 * t)) (fun t => h 40 (8 + 3 * t)) t := icA_eq (n := 10) (fun j q => ⟨s _ (by omega), s _ (by omega), s _ (by omega)⟩) ht
theorem thread_c {h g : qm_H} {a : Int} {x r : Int32} (s : ∀ j : Nat, j < 49 → g 41 j = h 40 j) (h9 : (h 40 4).toInt ≤ 10) (ha : 0 ≤ a ∧ a < (h 40 4).toInt) (o : (¬ x = 0 ∧ icA (fun t => g 41 (6 + 3 * t)) (fun t => g 41 (7 + 3 * t)) (fun t => g 41 (8 + 3 * t)) a.toNat) ∨ (x = 0 ∧ ¬ icA (fun t => g 41 (6 + 3 * t)) (fun t => g 41 (7 + 3 * t)) (fun t => g 41 (8 + 3 * t)) a.toNat)) (f : (x.toInt = 0 ∧ r.toInt = 0) ∨ (¬ x.toInt = 0 ∧ r.toInt = 1)) : (r.toInt = 1 ∧ icA (fun t => h 40 (6 + 3 * t)) (fun t => h 40 (7 + 3 * t)) (fun t => h 40 (8 + 3 * t)) a.toNat) ∨ (r.toInt = 0 ∧ ¬ icA (fun t => h 40 (6 + 3 * t)) (fun t => h 40 (7 + 3 * t)) (fun t => h 40 (8 + 3 * t)) a.toNat) := by
  rw [ic_41 s (by omega)] at o
  obtain q | q := o
  · have : ¬ x.toInt = 0 := fun w => q.1 (Int32.toInt_inj.mp w)
    exact Or.inl ⟨by omega, q.2⟩
  · have : x.toInt = 0 := by rw [q.1]; rfl
    exact Or.inr ⟨by omega, q.2⟩
/-! ===== sums ===== -/
noncomputable def sumI (f : Nat → Int) : Nat → Int
  | 0 => 0
  | n + 1 => sumI f n + f n
theorem sumI_s {f : Nat → Int} {n : Nat} : sumI f (n + 1) = sumI f n + f n := rfl
theorem sumI_eq {f g : Nat → Int} : ∀ {n : Nat}, (∀ j : Nat, j < n → f j = g j) → sumI f n = sumI g n
  | 0, _ => rfl
  | n + 1, h => by rw [sumI_s, sumI_s, sumI_eq (fun j q => h j (by omega)), h n (Nat.lt_succ_self _)]
theorem sumI_rng {f : Nat → Int} {m : Int} (h : ∀ j : Nat, 0 ≤ f j ∧ f j ≤ m) : ∀ n : Nat, 0 ≤ sumI f n ∧ sumI f n ≤ m * (n : Int)
  | 0 => ⟨Int.le_refl _, by rw [show ((0 : Nat) : Int) = 0 from rfl, Int.mul_zero]; exact Int.le_refl _⟩
  | n + 1 => by
    have a := sumI_rng h n
    have b := h n
    rw [sumI_s, show m * ((n + 1 : Nat) : Int) = m * (n : Int) + m from by rw [show ((n + 1 : Nat) : Int) = (n : Int) + 1 from rfl, Int.mul_add, Int.mul_one]]
    omega
/-! rooms -/
noncomputable def rmH (k : Int) : Int := sumI (fun f => rmC k (f : Int)) 5
theorem rmH_rng {k : Int} : 0 ≤ rmH k ∧ rmH k ≤ 15 := by
  have := sumI_rng (f := fun f => rmC k (f : Int)) (m := 3) (fun j => rmC_rng) 5
  unfold rmH
  omega
noncomputable def rmA (kd : Nat → Int32) (n : Nat) : Int := sumI (fun c => rmH (kd c).toInt) n
theorem rmA_rng {kd : Nat → Int32} {n : Nat} : 0 ≤ rmA kd n ∧ rmA kd n ≤ 15 * (n : Int) := sumI_rng (fun j => rmH_rng) n
noncomputable def usF (pl : Nat → Int32) (n : Nat) (x : Int) : Int := if 0 < cntR pl n x then 1 else 0
theorem usF_rng {pl : Nat → Int32} {n : Nat} {x : Int} : 0 ≤ usF pl n x ∧ usF pl n x ≤ 1 := by
  unfold usF
  split <;> omega
noncomputable def usH (pl : Nat → Int32) (n : Nat) (c : Nat) : Nat → Int := sumI (fun f => usF pl n (10 * (c : Int) + (f : Int)))
noncomputable def usA (pl : Nat → Int32) (n : Nat) : Nat → Int := sumI (fun c => usH pl n c 5)
theorem usH_rng {pl : Nat → Int32} {n c k : Nat} : 0 ≤ usH pl n c k ∧ usH pl n c k ≤ 1 * (k : Int) := sumI_rng (fun j => usF_rng) k
theorem usA_rng {pl : Nat → Int32} {n k : Nat} : 0 ≤ usA pl n k ∧ usA pl n k ≤ 5 * (k : Int) := sumI_rng (fun j => by have := usH_rng (pl := pl) (n := n) (c := j) (k := 5); omega) k
noncomputable def qRule (b : Int) (M : Mem) : Int := if b = 0 then (clM M).toInt else if b = 1 then (thM M).toInt else if b = 2 then (dyM M).toInt else if b = 3 then rmA (kdM M) (clM M).toInt.toNat else if b = 4 then usA (plM M) (thM M).toInt.toNat (clM M).toInt.toNat else -1
theorem usF_eq {pl pl2 : Nat → Int32} {n : Nat} {x : Int} (h : ∀ j : Nat, j < n → pl j = pl2 j) : usF pl n x = usF pl2 n x := by
  unfold usF
  rw [cntR_eq h]
theorem rule_3 {b : Int} {cl th dy sn : Int32} {kd pl pa kn sp ss : Nat → Int32} (hb : b = 3) : qRule b (mkM cl th dy sn kd pl pa kn sp ss) = rmA kd cl.toInt.toNat := by
  unfold qRule
  rw [if_neg (by omega), if_neg (by omega), if_neg (by omega), if_pos hb]
  exact sumI_eq (fun j q => by have q : j < cl.toInt.toNat := q; show rmH (msk cl kd j).toInt = _; rw [msk_in (by omega)])
theorem rule_4 {b : Int} {cl th dy sn : Int32} {kd pl pa kn sp ss : Nat → Int32} (hb : b = 4) : qRule b (mkM cl th dy sn kd pl pa kn sp ss) = usA pl th.toInt.toNat cl.toInt.toNat := by
  unfold qRule
  rw [if_neg (by omega), if_neg (by omega), if_neg (by omega), if_neg (by omega), if_pos hb]
  exact sumI_eq (fun j q => sumI_eq (fun i w => usF_eq (fun k z => msk_in (by show (k : Int) < th.toInt; have : k < th.toInt.toNat := z; omega))))
theorem rule_0 {b : Int} {M : Mem} (hb : b = 0) : qRule b M = (clM M).toInt := if_pos hb
theorem rule_1 {b : Int} {M : Mem} (hb : b = 1) : qRule b M = (thM M).toInt := by
  unfold qRule
  rw [if_neg (by omega), if_pos hb]
theorem rule_2 {b : Int} {M : Mem} (hb : b = 2) : qRule b M = (dyM M).toInt := by
  unfold qRule
  rw [if_neg (by omega), if_neg (by omega), if_pos hb]
theorem rule_d {b : Int} {M : Mem} (hb : ¬ b = 0 ∧ ¬ b = 1 ∧ ¬ b = 2 ∧ ¬ b = 3 ∧ ¬ b = 4) : qRule b M = -1 := by
  unfold qRule
  rw [if_neg hb.1, if_neg hb.2.1, if_neg hb.2.2.1, if_neg hb.2.2.2.1, if_neg hb.2.2.2.2]
/-! ===== what is owed ===== -/
noncomputable def wc (h : qm_H) : Prop := wfM (mC h)
noncomputable def wr (h : qm_H) : Prop := wfM (mR h)
noncomputable def owT (pl pa kn : Nat → Int32) (p d : Int) (t : Nat) : Int := ifP ((pa t).toInt = p ∧ (kn t).toInt % 10 ≤ d ∧ ¬ icA pl pa kn t) ((kn t).toInt / 10) 0
noncomputable def owS (pl pa kn : Nat → Int32) (p d : Int) : Nat → Int := sumI (owT pl pa kn p d)
theorem owT_rng {pl pa kn : Nat → Int32} {p d : Int} {t : Nat} (h : 0 ≤ (kn t).toInt ∧ (kn t).toInt ≤ 99) : 0 ≤ owT pl pa kn p d t ∧ owT pl pa kn p d t ≤ 9 := by
  by_cases q : (pa t).toInt = p ∧ (kn t).toInt % 10 ≤ d ∧ ¬ icA pl pa kn t
  · rw [show owT pl pa kn p d t = (kn t).toInt / 10 from ifP_t q]; omega
  · rw [show owT pl pa kn p d t = 0 from ifP_f q]; omega
theorem owS_rng {pl pa kn : Nat → Int32} {p d : Int} : ∀ {n : Nat}, (∀ j : Nat, j < n → 0 ≤ (kn j).toInt ∧ (kn j).toInt ≤ 99) → 0 ≤ owS pl pa kn p d n ∧ owS pl pa kn p d n ≤ 9 * (n : Int)
  | 0, _ => ⟨Int.le_refl _, Int.le_refl _⟩
  | n + 1, h => by
    have a := owS_rng (pl := pl) (pa := pa) (kn := kn) (p := p) (d := d) (n := n) (fun j q => h j (by omega))
    have b := owT_rng (pl := pl) (pa := pa) (p := p) (d := d) (h n (Nat.lt_succ_self _))
    show 0 ≤ owS pl pa kn p d n + owT pl pa kn p d n ∧ owS pl pa kn p d n + owT pl pa kn p d n ≤ 9 * ((n + 1 : Nat) : Int)
    omega
theorem owT_eq {pl pa kn pl2 pa2 kn2 : Nat → Int32} {p d : Int} {t n : Nat} (h : ∀ j : Nat, j < n → pl j = pl2 j ∧ pa j = pa2 j ∧ kn j = kn2 j) (ht : t < n) : owT pl pa kn p d t = owT pl2 pa2 kn2 p d t := by
  have e := icA_eq h ht
  by_cases q : (pa t).toInt = p ∧ (kn t).toInt % 10 ≤ d ∧ ¬ icA pl pa kn t
  · rw [show owT pl pa kn p d t = (kn t).toInt / 10 from ifP_t q]
    rw [(h t ht).2.1, (h t ht).2.2] at q
    rw [show owT pl2 pa2 kn2 p d t = (kn2 t).toInt / 10 from ifP_t ⟨q.1, q.2.1, fun z => q.2.2 (e.mpr z)⟩, (h t ht).2.2]
  · rw [show owT pl pa kn p d t = 0 from ifP_f q]
    rw [(h t ht).2.1, (h t ht).2.2] at q
    exact (ifP_f (fun z => q ⟨z.1, z.2.1, fun w => z.2.2 (e.mp w)⟩)).symm
theorem owS_eq {pl pa kn pl2 pa2 kn2 : Nat → Int32} {p d : Int} {n : Nat} (h : ∀ j : Nat, j < n → pl j = pl2 j ∧ pa j = pa2 j ∧ kn j = kn2 j) : owS pl pa kn p d n = owS pl2 pa2 kn2 p d n := sumI_eq (fun j q => owT_eq h q)
noncomputable def owM (M : Mem) (p d : Int) : Int := owS (plM M) (paM M) (knM M) p d (thM M).toInt.toNat
theorem owM_mk {cl th dy sn : Int32} {kd pl pa kn sp ss : Nat → Int32} {p d : Int} : owM (mkM cl th dy sn kd pl pa kn sp ss) p d = owS pl pa kn p d th.toInt.toNat := owS_eq (fun j q => ⟨msk_in (by have q : j < th.toInt.toNat := q; omega), msk_in (by have q : j < th.toInt.toNat := q; omega), msk_in (by have q : j < th.toInt.toNat := q; omega)⟩)
/-- the knots of a Memory that is well kept -/
theorem wf_kn {cl th dy sn : Int32} {kd pl pa kn sp ss : Nat → Int32} (h : wfM (mkM cl th dy sn kd pl pa kn sp ss)) : ∀ j : Nat, (j : Int) < th.toInt → 0 ≤ (kn j).toInt ∧ (kn j).toInt ≤ 99 := fun j q => by
  have := ((wf_raw h).2.2.1 j q).2.2
  omega
noncomputable def qOwed (a b : Int) (M : Mem) : Int := if ¬ ((0 ≤ a ∧ a / 10 < (clM M).toInt ∧ a % 10 < (clM M).toInt ∧ ¬ a / 10 = a % 10) ∧ 0 ≤ b ∧ b ≤ 1) then -1 else owM M a (if b = 0 then 9 else (dyM M).toInt)
theorem owed_no {a b : Int} {cl th dy sn : Int32} {kd pl pa kn sp ss : Nat → Int32} (h : ¬ ((0 ≤ a ∧ a / 10 < cl.toInt ∧ a % 10 < cl.toInt ∧ ¬ a / 10 = a % 10) ∧ 0 ≤ b ∧ b ≤ 1)) : qOwed a b (mkM cl th dy sn kd pl pa kn sp ss) = -1 := if_pos h
theorem owed_ok {a b d : Int} {cl th dy sn : Int32} {kd pl pa kn sp ss : Nat → Int32} (h : (0 ≤ a ∧ a / 10 < cl.toInt ∧ a % 10 < cl.toInt ∧ ¬ a / 10 = a % 10) ∧ 0 ≤ b ∧ b ≤ 1) (hd : (b = 0 ∧ d = 9) ∨ (¬ b = 0 ∧ d = dy.toInt)) : qOwed a b (mkM cl th dy sn kd pl pa kn sp ss) = owS pl pa kn a d th.toInt.toNat := by
  unfold qOwed
  rw [if_neg (fun z => z h), owM_mk]
  obtain q | q := hd
  · rw [if_pos q.1, q.2]
  · rw [if_neg q.1, q.2]; rfl
theorem wf_tr2 {M N : Mem} (h : wfM M) (e : N = M) : wfM N := e ▸ h
/-- the reference's sums by fours -/
noncomputable def owI (pl pa kn : Nat → Int32) (d : Int) (n : Nat) (f : Nat → Int32) : Prop := ∀ x y : Nat, x < 4 → y < 4 → (f (4 * x + y)).toInt = owS pl pa kn (10 * (x : Int) + (y : Int)) d n
theorem owI_0 {pl pa kn : Nat → Int32} {d m : Int} {f : Nat → Int32} {n : Nat} (h : owz f m) (hm : 16 ≤ m) (hn : n = 0) : owI pl pa kn d n f := fun x y hx hy => by
  rw [h (4 * x + y) (by omega), hn]; rfl
theorem owI_s {pl pa kn : Nat → Int32} {d : Int} {n ix : Nat} {f g : Nat → Int32} {v : Int32} (h : owI pl pa kn d n f) (hk : ∀ j : Nat, j < 10 → 0 ≤ (kn j).toInt ∧ (kn j).toInt ≤ 99) (hp : 0 ≤ (pa n).toInt ∧ (pa n).toInt / 10 ≤ 3 ∧ (pa n).toInt % 10 ≤ 3) (hn : n ≤ 9) (hx : (ix : Int) = 4 * ((pa n).toInt / 10) + (pa n).toInt % 10) (hv : v.toInt = owT pl pa kn (pa n).toInt d n) (e : g = upd f ix (f ix + v)) : owI pl pa kn d (n + 1) g := by
  intro x y h1 h2
  have a := h x y h1 h2
  rw [e]
  show _ = owS pl pa kn (10 * (x : Int) + (y : Int)) d n + owT pl pa kn (10 * (x : Int) + (y : Int)) d n
  by_cases q : 4 * x + y = ix
  · have ep : 10 * (x : Int) + (y : Int) = (pa n).toInt := by omega
    rw [q, upd_same]
    rw [q] at a
    have r1 := owS_rng (pl := pl) (pa := pa) (kn := kn) (p := 10 * (x : Int) + (y : Int)) (d := d) (n := n) (fun j w => hk j (by omega))
    have r2 := owT_rng (pl := pl) (pa := pa) (kn := kn) (p := (pa n).toInt) (d := d) (t := n) (hk n (by omega))
    have s := ti_add (f ix) v (by omega)
    rw [ep] at a r1 ⊢
    omega
  · rw [upd_ne q, a, show owT pl pa kn (10 * (x : Int) + (y : Int)) d n = 0 from ifP_f (fun w => by have w1 := w.1; omega), Int.add_zero]
theorem ow_41 {h g : qm_H} {p d : Int} {n : Nat} (s : ∀ j : Nat, j < 49 → g 41 j = h 40 j) (hn : n ≤ 10) : owS (fun t => g 41 (6 + 3 * t)) (fun t => g 41 (7 + 3 * t)) (fun t => g 41 (8 + 3 * t)) p d n = owS (fun t => h 40 (6 + 3 * t)) (fun t => h 40 (7 + 3 * t)) (fun t => h 40 (8 + 3 * t)) p d n := owS_eq (fun j q => ⟨s _ (by omega), s _ (by omega), s _ (by omega)⟩)
/-! ===== sums of what is owed, nets ===== -/
theorem sumI_rg {f : Nat → Int} {a b : Int} : ∀ {n : Nat}, (∀ j : Nat, j < n → a ≤ f j ∧ f j ≤ b) → a * (n : Int) ≤ sumI f n ∧ sumI f n ≤ b * (n : Int)
  | 0, _ => ⟨by rw [show ((0 : Nat) : Int) = 0 from rfl, Int.mul_zero]; exact Int.le_refl _, by rw [show ((0 : Nat) : Int) = 0 from rfl, Int.mul_zero]; exact Int.le_refl _⟩
  | n + 1, h => by
    have x := sumI_rg (n := n) (fun j q => h j (by omega))
    have y := h n (Nat.lt_succ_self _)
    rw [sumI_s, show ((n + 1 : Nat) : Int) = (n : Int) + 1 from rfl, Int.mul_add, Int.mul_add, Int.mul_one, Int.mul_one]
    omega
theorem sumI_cut {f : Nat → Int} {n : Nat} : ∀ {m : Nat}, n ≤ m → (∀ j : Nat, n ≤ j → j < m → f j = 0) → sumI f m = sumI f n
  | 0, h, _ => by rw [show n = 0 by omega]
  | m + 1, h, z => by
    by_cases q : n = m + 1
    · rw [q]
    · rw [sumI_s, sumI_cut (by omega) (fun j a b => z j a (by omega)), z m (by omega) (Nat.lt_succ_self _), Int.add_zero]
theorem sumI_0 {f : Nat → Int} {n : Nat} (h : ∀ j : Nat, j < n → f j = 0) : sumI f n = 0 := (sumI_cut (n := 0) (Nat.zero_le _) (fun j _ q => h j q)).trans rfl
noncomputable def oaR (pl pa kn : Nat → Int32) (d : Int) (n : Nat) (x : Nat) : Nat → Int := sumI (fun y => owS pl pa kn (10 * (x : Int) + (y : Int)) d n)
noncomputable def oaS (pl pa kn : Nat → Int32) (d : Int) (n c : Nat) : Nat → Int := sumI (fun x => oaR pl pa kn d n x c)
noncomputable def ntS (pl pa kn : Nat → Int32) (n : Nat) (c : Nat) : Nat → Int := sumI (fun k => owS pl pa kn (10 * (k : Int) + (c : Int)) 9 n - owS pl pa kn (10 * (c : Int) + (k : Int)) 9 n)
noncomputable def mx0 (x : Int) : Int := if 0 < x then x else 0
noncomputable def npS (pl pa kn : Nat → Int32) (n c : Nat) : Nat → Int := sumI (fun k => mx0 (ntS pl pa kn n k c))
theorem ow_90 {pl pa kn : Nat → Int32} {p d : Int} {n : Nat} (hn : n ≤ 10) (h : ∀ j : Nat, j < n → 0 ≤ (kn j).toInt ∧ (kn j).toInt ≤ 99) : 0 ≤ owS pl pa kn p d n ∧ owS pl pa kn p d n ≤ 90 := by
  have := owS_rng (pl := pl) (pa := pa) (kn := kn) (p := p) (d := d) (n := n) h
  omega
theorem oaR_rng {pl pa kn : Nat → Int32} {d : Int} {n x c : Nat} (hn : n ≤ 10) (h : ∀ j : Nat, j < n → 0 ≤ (kn j).toInt ∧ (kn j).toInt ≤ 99) : 0 ≤ oaR pl pa kn d n x c ∧ oaR pl pa kn d n x c ≤ 90 * (c : Int) := by
  have := sumI_rg (f := fun y => owS pl pa kn (10 * (x : Int) + (y : Int)) d n) (a := 0) (b := 90) (n := c) (fun j _ => ow_90 hn h)
  rw [Int.zero_mul] at this
  exact this
theorem oaS_rng {pl pa kn : Nat → Int32} {d : Int} {n c m : Nat} (hn : n ≤ 10) (hc : c ≤ 4) (h : ∀ j : Nat, j < n → 0 ≤ (kn j).toInt ∧ (kn j).toInt ≤ 99) : 0 ≤ oaS pl pa kn d n c m ∧ oaS pl pa kn d n c m ≤ 360 * (m : Int) := by
  have := sumI_rg (f := fun x => oaR pl pa kn d n x c) (a := 0) (b := 360) (n := m) (fun j _ => by have := oaR_rng (pl := pl) (pa := pa) (d := d) (x := j) (c := c) hn h; omega)
  rw [Int.zero_mul] at this
  exact this
theorem ntS_rng {pl pa kn : Nat → Int32} {n c m : Nat} (hn : n ≤ 10) (h : ∀ j : Nat, j < n → 0 ≤ (kn j).toInt ∧ (kn j).toInt ≤ 99) : -90 * (m : Int) ≤ ntS pl pa kn n c m ∧ ntS pl pa kn n c m ≤ 90 * (m : Int) := sumI_rg (fun j _ => by
  have a := ow_90 (pl := pl) (pa := pa) (p := 10 * (j : Int) + (c : Int)) (d := 9) hn h
  have b := ow_90 (pl := pl) (pa := pa) (p := 10 * (c : Int) + (j : Int)) (d := 9) hn h
  omega)
theorem mx0_rng {x m : Int} (h : x ≤ m) (hm : 0 ≤ m) : 0 ≤ mx0 x ∧ mx0 x ≤ m := by
  unfold mx0
  split <;> omega
theorem npS_rng {pl pa kn : Nat → Int32} {n c m : Nat} (hn : n ≤ 10) (hc : c ≤ 4) (h : ∀ j : Nat, j < n → 0 ≤ (kn j).toInt ∧ (kn j).toInt ≤ 99) : 0 ≤ npS pl pa kn n c m ∧ npS pl pa kn n c m ≤ 360 * (m : Int) := by
  have := sumI_rg (f := fun k => mx0 (ntS pl pa kn n k c)) (a := 0) (b := 360) (n := m) (fun j _ => by have := ntS_rng (pl := pl) (pa := pa) (c := j) (m := c) hn h; exact mx0_rng (by omega) (by decide))
  rw [Int.zero_mul] at this
  exact this
noncomputable def qSum (b : Int) (M : Mem) : Int := if b = 0 ∨ b = 1 then oaS (plM M) (paM M) (knM M) (if b = 0 then 9 else (dyM M).toInt) (thM M).toInt.toNat (clM M).toInt.toNat (clM M).toInt.toNat else if b = 2 then npS (plM M) (paM M) (knM M) (thM M).toInt.toNat (clM M).toInt.toNat (clM M).toInt.toNat else -1
theorem rows_in {th : Int32} {pl pa kn : Nat → Int32} : ∀ j : Nat, j < th.toInt.toNat → msk th pl j = pl j ∧ msk th pa j = pa j ∧ msk th kn j = kn j := fun j q => ⟨msk_in (by omega), msk_in (by omega), msk_in (by omega)⟩
theorem oaS_eq {pl pa kn pl2 pa2 kn2 : Nat → Int32} {d : Int} {n c m : Nat} (h : ∀ j : Nat, j < n → pl j = pl2 j ∧ pa j = pa2 j ∧ kn j = kn2 j) : oaS pl pa kn d n c m = oaS pl2 pa2 kn2 d n c m := sumI_eq (fun x _ => sumI_eq (fun y _ => owS_eq h))
theorem ntS_eq {pl pa kn pl2 pa2 kn2 : Nat → Int32} {n c m : Nat} (h : ∀ j : Nat, j < n → pl j = pl2 j ∧ pa j = pa2 j ∧ kn j = kn2 j) : ntS pl pa kn n c m = ntS pl2 pa2 kn2 n c m := sumI_eq (fun k _ => by rw [owS_eq h, owS_eq h])
theorem npS_eq {pl pa kn pl2 pa2 kn2 : Nat → Int32} {n c m : Nat} (h : ∀ j : Nat, j < n → pl j = pl2 j ∧ pa j = pa2 j ∧ kn j = kn2 j) : npS pl pa kn n c m = npS pl2 pa2 kn2 n c m := sumI_eq (fun k _ => by rw [ntS_eq h])
theorem sum_01 {b d : Int} {cl th dy sn : Int32} {kd pl pa kn sp ss : Nat → Int32} (hb : (b = 0 ∧ d = 9) ∨ (b = 1 ∧ d = dy.toInt)) : qSum b (mkM cl th dy sn kd pl pa kn sp ss) = oaS pl pa kn d th.toInt.toNat cl.toInt.toNat cl.toInt.toNat := by
  unfold qSum
  rw [if_pos (by omega)]
  obtain q | q := hb
  · rw [if_pos q.1, q.2]; exact oaS_eq rows_in
  · rw [if_neg (by omega), q.2]; exact oaS_eq rows_in
theorem sum_2 {b : Int} {cl th dy sn : Int32} {kd pl pa kn sp ss : Nat → Int32} (hb : b = 2) : qSum b (mkM cl th dy sn kd pl pa kn sp ss) = npS pl pa kn th.toInt.toNat cl.toInt.toNat cl.toInt.toNat := by
  unfold qSum
  rw [if_neg (by omega), if_pos hb]
  exact npS_eq rows_in
theorem sum_d {b : Int} {M : Mem} (hb : ¬ b = 0 ∧ ¬ b = 1 ∧ ¬ b = 2) : qSum b M = -1 := by
  unfold qSum
  rw [if_neg (fun z => z.elim hb.1 hb.2.1), if_neg hb.2.2]
/-! clerk -/
noncomputable def qClerk (a b : Int) (M : Mem) : Int := if ¬ (0 ≤ a ∧ a < (clM M).toInt) then -1 else if b = 0 then (kdM M a.toNat).toInt else if b = 1 then cntR (fun t => plM M t / 10) (thM M).toInt.toNat a else if b = 2 then rmH (kdM M a.toNat).toInt else if b = 3 then 1000 + ntS (plM M) (paM M) (knM M) (thM M).toInt.toNat a.toNat (clM M).toInt.toNat else -1
theorem clerk_no {a b : Int} {M : Mem} (h : ¬ (0 ≤ a ∧ a < (clM M).toInt) ∨ (¬ b = 0 ∧ ¬ b = 1 ∧ ¬ b = 2 ∧ ¬ b = 3)) : qClerk a b M = -1 := by
  unfold qClerk
  by_cases q : 0 ≤ a ∧ a < (clM M).toInt
  · have w := h.resolve_left (fun z => z q)
    rw [if_neg (fun z => z q), if_neg w.1, if_neg w.2.1, if_neg w.2.2.1, if_neg w.2.2.2]
  · rw [if_pos q]
theorem clerk_0 {a b : Int} {cl th dy sn : Int32} {kd pl pa kn sp ss : Nat → Int32} (h : 0 ≤ a ∧ a < cl.toInt) (hb : b = 0) : qClerk a b (mkM cl th dy sn kd pl pa kn sp ss) = (kd a.toNat).toInt := by
  unfold qClerk
  rw [if_neg (fun z => z h), if_pos hb]
  exact congrArg Int32.toInt (msk_in (by omega))
theorem clerk_1 {a b : Int} {cl th dy sn : Int32} {kd pl pa kn sp ss : Nat → Int32} (h : 0 ≤ a ∧ a < cl.toInt) (hb : b = 1) : qClerk a b (mkM cl th dy sn kd pl pa kn sp ss) = cntR (fun t => pl t / 10) th.toInt.toNat a := by
  unfold qClerk
  rw [if_neg (fun z => z h), if_neg (by omega), if_pos hb]
  exact cntR_eq (fun j q => by show msk th pl j / 10 = _; rw [msk_in (by have q : j < th.toInt.toNat := q; omega)])
theorem clerk_2 {a b : Int} {cl th dy sn : Int32} {kd pl pa kn sp ss : Nat → Int32} (h : 0 ≤ a ∧ a < cl.toInt) (hb : b = 2) : qClerk a b (mkM cl th dy sn kd pl pa kn sp ss) = rmH (kd a.toNat).toInt := by
  unfold qClerk
  rw [if_neg (fun z => z h), if_neg (by omega), if_neg (by omega), if_pos hb]
  exact congrArg (fun x : Int32 => rmH x.toInt) (msk_in (by omega))
theorem clerk_3 {a b : Int} {cl th dy sn : Int32} {kd pl pa kn sp ss : Nat → Int32} (h : 0 ≤ a ∧ a < cl.toInt) (hb : b = 3) : qClerk a b (mkM cl th dy sn kd pl pa kn sp ss) = 1000 + ntS pl pa kn th.toInt.toNat a.toNat cl.toInt.toNat := by
  unfold qClerk
  rw [if_neg (fun z => z h), if_neg (by omega), if_neg (by omega), if_neg (by omega), if_pos hb]
  exact congrArg (fun x => 1000 + x) (ntS_eq rows_in)
/-! the reference's nets, of row 45 -/
noncomputable def nt45 (f : Nat → Int32) (c : Nat) : Nat → Int := sumI (fun k => (f (4 * k + c)).toInt - (f (4 * c + k)).toInt)
noncomputable def np45 (f : Nat → Int32) : Nat → Int := sumI (fun c => mx0 (nt45 f c 4))
noncomputable def all45 (f : Nat → Int32) : Nat → Int := sumI (fun k => (f k).toInt)
theorem nt45_rng {f : Nat → Int32} {c m : Nat} (hb : owb f 90) (hc : c < 4) (hm : m ≤ 4) : -90 * (m : Int) ≤ nt45 f c m ∧ nt45 f c m ≤ 90 * (m : Int) := sumI_rg (fun j q => by
  have a := hb (4 * j + c) (by omega)
  have b := hb (4 * c + j) (by omega)
  omega)
theorem np45_rng {f : Nat → Int32} {m : Nat} (hb : owb f 90) (hm : m ≤ 4) : 0 ≤ np45 f m ∧ np45 f m ≤ 360 * (m : Int) := by
  have := sumI_rg (f := fun c => mx0 (nt45 f c 4)) (a := 0) (b := 360) (n := m) (fun j q => by have := nt45_rng (f := f) (c := j) (m := 4) hb (by omega) (by omega); exact mx0_rng (by omega) (by decide))
  rw [Int.zero_mul] at this
  exact this
theorem all45_rng {f : Nat → Int32} {m : Nat} (hb : owb f 90) (hm : m ≤ 16) : 0 ≤ all45 f m ∧ all45 f m ≤ 90 * (m : Int) := by
  have := sumI_rg (f := fun k => (f k).toInt) (a := 0) (b := 90) (n := m) (fun j q => hb j (by omega))
  rw [Int.zero_mul] at this
  exact this
theorem ow_none {pl pa kn : Nat → Int32} {p d : Int} {n : Nat} (h : ∀ t : Nat, t < n → ¬ (pa t).toInt = p) : owS pl pa kn p d n = 0 := sumI_0 (fun t q => ifP_f (fun w => h t q w.1))
theorem owI_b {pl pa kn : Nat → Int32} {d : Int} {n : Nat} {f : Nat → Int32} (h : owI pl pa kn d n f) (hn : n ≤ 10) (hk : ∀ j : Nat, j < n → 0 ≤ (kn j).toInt ∧ (kn j).toInt ≤ 99) : owb f 90 := fun j hj => by
  have e := h (j / 4) (j % 4) (by omega) (by omega)
  rw [show 4 * (j / 4) + j % 4 = j by omega] at e
  rw [e]
  exact ow_90 hn hk
theorem owI_nt {pl pa kn : Nat → Int32} {n c cl : Nat} {f : Nat → Int32} (h : owI pl pa kn 9 n f) (hc : c < 4) (hl : cl ≤ 4) (hw : ∀ t : Nat, t < n → 0 ≤ (pa t).toInt ∧ (pa t).toInt / 10 < (cl : Int) ∧ (pa t).toInt % 10 < (cl : Int)) : nt45 f c 4 = ntS pl pa kn n c cl := by
  have e : nt45 f c 4 = ntS pl pa kn n c 4 := sumI_eq (fun k q => by rw [h k c q hc, h c k hc q])
  rw [e]
  refine sumI_cut hl (fun k a b => ?_)
  rw [ow_none (fun t q => by have := hw t q; omega), ow_none (fun t q => by have := hw t q; omega)]
  rfl
theorem all_by4 {f : Nat → Int32} : all45 f 16 = sumI (fun x => sumI (fun y => (f (4 * x + y)).toInt) 4) 4 := by
  show 0 + (f 0).toInt + (f 1).toInt + (f 2).toInt + (f 3).toInt + (f 4).toInt + (f 5).toInt + (f 6).toInt + (f 7).toInt + (f 8).toInt + (f 9).toInt + (f 10).toInt + (f 11).toInt + (f 12).toInt + (f 13).toInt + (f 14).toInt + (f 15).toInt = 0 + (0 + (f 0).toInt + (f 1).toInt + (f 2).toInt + (f 3).toInt) + (0 + (f 4).toInt + (f 5).toInt + (f 6).toInt + (f 7).toInt) + (0 + (f 8).toInt + (f 9).toInt + (f 10).toInt + (f 11).toInt) + (0 + (f 12).toInt + (f 13).toInt + (f 14).toInt + (f 15).toInt)
  omega
theorem owI_all {pl pa kn : Nat → Int32} {d : Int} {n cl : Nat} {f : Nat → Int32} (h : owI pl pa kn d n f) (hl : cl ≤ 4) (hw : ∀ t : Nat, t < n → 0 ≤ (pa t).toInt ∧ (pa t).toInt / 10 < (cl : Int) ∧ (pa t).toInt % 10 < (cl : Int)) : all45 f 16 = oaS pl pa kn d n cl cl := by
  rw [all_by4]
  have e : sumI (fun x => sumI (fun y => (f (4 * x + y)).toInt) 4) 4 = sumI (fun x => oaR pl pa kn d n x cl) 4 := sumI_eq (fun x qx => by
    have a : sumI (fun y => (f (4 * x + y)).toInt) 4 = oaR pl pa kn d n x 4 := sumI_eq (fun y qy => h x y qx qy)
    rw [a]
    exact sumI_cut hl (fun k u v => ow_none (fun t q => by have := hw t q; omega)))
  rw [e]
  exact sumI_cut hl (fun k u v => sumI_0 (fun y q => ow_none (fun t q => by have := hw t q; omega)))
theorem owI_np {pl pa kn : Nat → Int32} {n cl : Nat} {f : Nat → Int32} (h : owI pl pa kn 9 n f) (hl : cl ≤ 4) (hw : ∀ t : Nat, t < n → 0 ≤ (pa t).toInt ∧ (pa t).toInt / 10 < (cl : Int) ∧ (pa t).toInt % 10 < (cl : Int)) : np45 f cl = npS pl pa kn n cl cl := sumI_eq (fun c q => by rw [owI_nt h (by omega) hl hw])
theorem owI_41 {h g : qm_H} {d : Int} {n : Nat} {f : Nat → Int32} (s : ∀ j : Nat, j < 49 → g 41 j = h 40 j) (hn : n ≤ 10) (o : owI (fun t => g 41 (6 + 3 * t)) (fun t => g 41 (7 + 3 * t)) (fun t => g 41 (8 + 3 * t)) d n f) : owI (fun t => h 40 (6 + 3 * t)) (fun t => h 40 (7 + 3 * t)) (fun t => h 40 (8 + 3 * t)) d n f := fun x y hx hy => (o x y hx hy).trans (ow_41 s hn)
/-- the pairs of a Memory that is well kept -/
theorem wf_pa {cl th dy sn : Int32} {kd pl pa kn sp ss : Nat → Int32} (h : wfM (mkM cl th dy sn kd pl pa kn sp ss)) : ∀ t : Nat, t < th.toInt.toNat → 0 ≤ (pa t).toInt ∧ (pa t).toInt / 10 < (cl.toInt.toNat : Int) ∧ (pa t).toInt % 10 < (cl.toInt.toNat : Int) := fun t q => by
  have := ((wf_raw h).2.2.1 t (by omega)).2.1
  unfold okPr at this
  have := (wf_raw h).1.1
  omega
noncomputable def dSm (a d : Int) : Int := if a = 1 then d else 9
theorem dSm_9 {a d : Int} (h : ¬ a = 1) : dSm a d = 9 := if_neg h
theorem dSm_1 {a d : Int} (h : a = 1) : dSm a d = d := if_pos h
theorem dSm_c {a d : Int} (h : a = 0 ∨ a = 1) : (a = 0 ∧ dSm a d = 9) ∨ (a = 1 ∧ dSm a d = d) := by
  obtain q | q := h
  · exact Or.inl ⟨q, dSm_9 (by omega)⟩
  · exact Or.inr ⟨q, dSm_1 q⟩
noncomputable def c20 : Nat → Int := fun _ => 20
/-! the reference's codes: which are rings, which ring each is -/
noncomputable def vR (cl : Int) (n c m : Nat) : Prop := ∀ i : Nat, i < m → ((dg n c i : Nat) : Int) < cl ∧ (0 < i → dg n c 0 < dg n c i) ∧ ∀ k : Nat, 0 < k → k < i → ¬ dg n c i = dg n c k
noncomputable def v4 (n c : Nat) : Bool := decide (∀ i : Nat, i < n → (0 < i → dg n c 0 < dg n c i) ∧ ∀ k : Nat, k < i → 0 < k → ¬ dg n c i = dg n c k)
