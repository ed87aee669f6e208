/-! ===== copies ===== -/
noncomputable def icF (pl pa kn : Nat → Int32) (t u : Nat) : Prop := (pa t).toInt = (pa u).toInt ∧ (kn t).toInt = (kn u).toInt ∧ ¬ (pl t / 10).toInt = (pl u / 10).toInt
noncomputable def icA (pl pa kn : Nat → Int32) (t : Nat) : Prop := ∃ u : Nat, u < t ∧ icF pl pa kn t u
theorem icF_eq {pl pa kn pl2 pa2 kn2 : Nat → Int32} {t u n : Nat} (h : ∀ j : Nat, j < n → pl j = pl2 j ∧ pa j = pa2 j ∧ kn j = kn2 j) (ht : t < n) (hu : u < n) : icF pl pa kn t u ↔ icF pl2 pa2 kn2 t u := by
  unfold icF
  rw [(h t ht).1, (h t ht).2.1, (h t ht).2.2, (h u hu).1, (h u hu).2.1, (h u hu).2.2]
theorem icA_eq {pl pa kn pl2 pa2 kn2 : Nat → Int32} {t n : Nat} (h : ∀ j : Nat, j < n → pl j = pl2 j ∧ pa j = pa2 j ∧ kn j = kn2 j) (ht : t < n) : icA pl pa kn t ↔ icA pl2 pa2 kn2 t := by
  constructor
  · rintro ⟨u, a, b⟩; exact ⟨u, a, (icF_eq h ht (by omega)).mp b⟩
  · rintro ⟨u, a, b⟩; exact ⟨u, a, (icF_eq h ht (by omega)).mpr b⟩
noncomputable def icM (M : Mem) (t : Nat) : Prop := icA (plM M) (paM M) (knM M) t
theorem icM_mk {cl th dy sn : Int32} {kd pl pa kn sp ss : Nat → Int32} {t : Nat} (ht : (t : Int) < th.toInt) : icM (mkM cl th dy sn kd pl pa kn sp ss) t ↔ icA pl pa kn t := icA_eq (n := th.toInt.toNat) (fun j q => ⟨msk_in (by omega), msk_in (by omega), msk_in (by omega)⟩) (by omega)
/-- a word of bits that is 0 just when nothing was found below n -/
noncomputable def orI (x : Int32) (P : Nat → Prop) (n : Nat) : Prop := (x = 0 ∧ ∀ u : Nat, u < n → ¬ P u) ∨ (¬ x = 0 ∧ ∃ u : Nat, u < n ∧ P u)
theorem orI_0 {P : Nat → Prop} {n : Nat} (hn : n = 0) : orI 0 P n := Or.inl ⟨rfl, fun u h => by omega⟩
theorem orI_n {x : Int32} {P : Nat → Prop} {n : Nat} (h : orI x P n) (hp : ¬ P n) : orI x P (n + 1) := by
  obtain q | q := h
  · refine Or.inl ⟨q.1, fun u hu => ?_⟩
    by_cases e : u = n
    · rw [e]; exact hp
    · exact q.2 u (by omega)
  · obtain ⟨u, a, b⟩ := q.2
    exact Or.inr ⟨q.1, u, by omega, b⟩
theorem or_ne {x l : Int32} {n : Nat} (hl : l = nI n) (hn : n < 10) : ¬ (x ||| (1 <<< (l &&& 31))) = 0 := by
  intro e
  have a : bi (x ||| (1 <<< (l &&& 31))) n = bi 0 n := by rw [e]
  rw [bi_or, bi_0, hl, bi_one ⟨n, hn⟩ ⟨n, hn⟩, decide_eq_true rfl, Bool.or_true] at a
  exact Bool.noConfusion a
theorem orI_y {x y : Int32} {P : Nat → Prop} {n : Nat} (hp : P n) (hy : ¬ y = 0) : orI y P (n + 1) := Or.inr ⟨hy, n, Nat.lt_succ_self _, hp⟩
noncomputable def ifP (p : Prop) (a b : Int) : Int := @ite _ p (Classical.propDecidable _) a b
theorem ifP_t {p : Prop} {a b : Int} (h : p) : ifP p a b = a := if_pos h
theorem ifP_f {p : Prop} {a b : Int} (h : ¬ p) : ifP p a b = b := if_neg h
/-! thread -/
noncomputable def qThread (a b : Int) (M : Mem) : Int := if ¬ (0 ≤ a ∧ a < (thM M).toInt) then -1 else if b = 0 then (plM M a.toNat).toInt else if b = 1 then (paM M a.toNat).toInt else if b = 2 then (knM M a.toNat).toInt else if b = 3 then ifP (icM M a.toNat) 1 0 else -1
theorem thread_no {a b : Int} {M : Mem} (h : ¬ (0 ≤ a ∧ a < (thM M).toInt) ∨ (¬ b = 0 ∧ ¬ b = 1 ∧ ¬ b = 2 ∧ ¬ b = 3)) : qThread a b M = -1 := by
  unfold qThread
  by_cases q : 0 ≤ a ∧ a < (thM M).toInt
  · have w := h.resolve_left (fun z => z q)
    rw [if_neg (fun z => z q), if_neg w.1, if_neg w.2.1, if_neg w.2.2.1, if_neg w.2.2.2]
  · rw [if_pos q]
theorem thread_0 {a b : Int} {cl th dy sn : Int32} {kd pl pa kn sp ss : Nat → Int32} (h : 0 ≤ a ∧ a < th.toInt) (hb : b = 0) : qThread a b (mkM cl th dy sn kd pl pa kn sp ss) = (pl a.toNat).toInt := by
  unfold qThread
  rw [if_neg (fun z => z h), if_pos hb]
  exact congrArg Int32.toInt (msk_in (by omega))
theorem thread_1 {a b : Int} {cl th dy sn : Int32} {kd pl pa kn sp ss : Nat → Int32} (h : 0 ≤ a ∧ a < th.toInt) (hb : b = 1) : qThread a b (mkM cl th dy sn kd pl pa kn sp ss) = (pa a.toNat).toInt := by
  unfold qThread
  rw [if_neg (fun z => z h), if_neg (by omega), if_pos hb]
  exact congrArg Int32.toInt (msk_in (by omega))
theorem thread_2 {a b : Int} {cl th dy sn : Int32} {kd pl pa kn sp ss : Nat → Int32} (h : 0 ≤ a ∧ a < th.toInt) (hb : b = 2) : qThread a b (mkM cl th dy sn kd pl pa kn sp ss) = (kn a.toNat).toInt := by
  unfold qThread
  rw [if_neg (fun z => z h), if_neg (by omega), if_neg (by omega), if_pos hb]
  exact congrArg Int32.toInt (msk_in (by omega))
theorem thread_3 {a b r : Int} {cl th dy sn : Int32} {kd pl pa kn sp ss : Nat → Int32} (h : 0 ≤ a ∧ a < th.toInt) (hb : b = 3) (hr : (r = 1 ∧ icA pl pa kn a.toNat) ∨ (r = 0 ∧ ¬ icA pl pa kn a.toNat)) : qThread a b (mkM cl th dy sn kd pl pa kn sp ss) = r := by
  unfold qThread
  rw [if_neg (fun z => z h), if_neg (by omega), if_neg (by omega), if_neg (by omega), if_pos hb]
  have e := icM_mk (cl := cl) (th := th) (dy := dy) (sn := sn) (kd := kd) (pl := pl) (pa := pa) (kn := kn) (sp := sp) (ss := ss) (t := a.toNat) (by omega)
  obtain q | q := hr
  · rw [ifP_t (e.mpr q.2), q.1]
  · rw [ifP_f (fun z => q.2 (e.mp z)), q.1]
theorem orI_to {x : Int32} {P : Nat → Prop} {n m : Nat} (h : orI x P n) (e : n = m) : orI x P m := e ▸ h
theorem orI_z {x : Int32} {P : Nat → Prop} {n : Nat} (h : orI x P n) (hx : x = 0) : orI 0 P n := hx ▸ h
theorem orI_y1 {x : Int32} {P : Nat → Prop} {n : Nat} (h : orI x P n) (hx : ¬ x = 0) : orI 1 P (n + 1) := by
  obtain q | q := h
  · exact absurd q.1 hx
  · obtain ⟨u, a, b⟩ := q.2
    exact Or.inr ⟨by decide, u, by omega, b⟩
theorem orI_yes {x : Int32} {P : Nat → Prop} {n : Nat} (h : orI x P n) (hx : ¬ x = 0) : ∃ u : Nat, u < n ∧ P u := h.elim (fun q => absurd q.1 hx) (fun q => q.2)
theorem orI_no {x : Int32} {P : Nat → Prop} {n : Nat} (h : orI x P n) (hx : x = 0) : ¬ ∃ u : Nat, u < n ∧ P u := h.elim (fun q w => w.elim fun u z => q.2 u z.1 z.2) (fun q => absurd hx q.1)
theorem orI_two {x : Int32} {P : Nat → Prop} {n : Nat} (h : orI x P n) : (¬ x = 0 ∧ ∃ u : Nat, u < n ∧ P u) ∨ (x = 0 ∧ ¬ ∃ u : Nat, u < n ∧ P u) := h.elim (fun q => Or.inr ⟨q.1, orI_no h q.1⟩) (fun q => Or.inl q)
theorem thread_of {h g : qm_H} {a b r : Int} {A B C : Prop} (s : ∀ j : Nat, j < 49 → g 41 j = h 40 j) (h9 : (h 40 4).toInt ≤ 10) (ha : 0 ≤ a ∧ a < (h 40 4).toInt) (hb : 0 ≤ b ∧ b ≤ 2) (o : ((b = 0 → (r = (g 41 (6 + 3 * a.toNat)).toInt ∧ A)) ∧ (b = 1 → (r = (g 41 (7 + 3 * a.toNat)).toInt ∧ B)) ∧ (b = 2 → (r = (g 41 (8 + 3 * a.toNat)).toInt ∧ C)))) : qThread a b (mR h) = r := by
  have q : b = 0 ∨ b = 1 ∨ b = 2 := by omega
  obtain q | q | q := q
  · rw [show qThread a b (mR h) = _ from thread_0 ha q, (o.1 q).1, s _ (by omega)]
  · rw [show qThread a b (mR h) = _ from thread_1 ha q, (o.2.1 q).1, s _ (by omega)]
  · rw [show qThread a b (mR h) = _ from thread_2 ha q, (o.2.2 q).1, s _ (by omega)]
theorem ic_41 {h g : qm_H} {t : Nat} (s : ∀ j : Nat, j < 49 → g 41 j = h 40 j) (ht : t < 10) : icA (fun t => g 41 (6 + 3 * t)) (fun t => g 41 (7 + 3 * t)) (fun t => g 41 (8 + 3 * t)) t ↔ icA (fun t => h 40 (6 + 3 * t)) (fun t => h 40 (7 + 3 * t)) (fun t => h 40 (8 + 3 * t)) t := icA_eq (n := 10) (fun j q => ⟨s _ (by omega), s _ (by omega), s _ (by omega)⟩) ht
theorem thread_c {h g : qm_H} {a : Int} {x r : Int32} (s : ∀ j : Nat, j < 49 → g 41 j = h 40 j) (h9 : (h 40 4).toInt ≤ 10) (ha : 0 ≤ a ∧ a < (h 40 4).toInt) (o : (¬ x = 0 ∧ icA (fun t => g 41 (6 + 3 * t)) (fun t => g 41 (7 + 3 * t)) (fun t => g 41 (8 + 3 * t)) a.toNat) ∨ (x = 0 ∧ ¬ icA (fun t => g 41 (6 + 3 * t)) (fun t => g 41 (7 + 3 * t)) (fun t => g 41 (8 + 3 * t)) a.toNat)) (f : (x.toInt = 0 ∧ r.toInt = 0) ∨ (¬ x.toInt = 0 ∧ r.toInt = 1)) : (r.toInt = 1 ∧ icA (fun t => h 40 (6 + 3 * t)) (fun t => h 40 (7 + 3 * t)) (fun t => h 40 (8 + 3 * t)) a.toNat) ∨ (r.toInt = 0 ∧ ¬ icA (fun t => h 40 (6 + 3 * t)) (fun t => h 40 (7 + 3 * t)) (fun t => h 40 (8 + 3 * t)) a.toNat) := by
  rw [ic_41 s (by omega)] at o
  obtain q | q := o
  · have : ¬ x.toInt = 0 := fun w => q.1 (Int32.toInt_inj.mp w)
    exact Or.inl ⟨by omega, q.2⟩
  · have : x.toInt = 0 := by rw [q.1]; rfl
    exact Or.inr ⟨by omega, q.2⟩
/-! ===== sums ===== -/
noncomputable def sumI (f : Nat → Int) : Nat → Int
  | 0 => 0
  | n + 1 => sumI f n + f n
theorem sumI_s {f : Nat → Int} {n : Nat} : sumI f (n + 1) = sumI f n + f n := rfl
theorem sumI_eq {f g : Nat → Int} : ∀ {n : Nat}, (∀ j : Nat, j < n → f j = g j) → sumI f n = sumI g n
  | 0, _ => rfl
  | n + 1, h => by rw [sumI_s, sumI_s, sumI_eq (fun j q => h j (by omega)), h n (Nat.lt_succ_self _)]
theorem sumI_rng {f : Nat → Int} {m : Int} (h : ∀ j : Nat, 0 ≤ f j ∧ f j ≤ m) : ∀ n : Nat, 0 ≤ sumI f n ∧ sumI f n ≤ m * (n : Int)
  | 0 => ⟨Int.le_refl _, by rw [show ((0 : Nat) : Int) = 0 from rfl, Int.mul_zero]; exact Int.le_refl _⟩
  | n + 1 => by
    have a := sumI_rng h n
    have b := h n
    rw [sumI_s, show m * ((n + 1 : Nat) : Int) = m * (n : Int) + m from by rw [show ((n + 1 : Nat) : Int) = (n : Int) + 1 from rfl, Int.mul_add, Int.mul_one]]
    omega
/-! rooms -/
noncomputable def rmH (k : Int) : Int := sumI (fun f => rmC k (f : Int)) 5
theorem rmH_rng {k : Int} : 0 ≤ rmH k ∧ rmH k ≤ 15 := by
  have := sumI_rng (f := fun f => rmC k (f : Int)) (m := 3) (fun j => rmC_rng) 5
  unfold rmH
  omega
noncomputable def rmA (kd : Nat → Int32) (n : Nat) : Int := sumI (fun c => rmH (kd c).toInt) n
theorem rmA_rng {kd : Nat → Int32} {n : Nat} : 0 ≤ rmA kd n ∧ rmA kd n ≤ 15 * (n : Int) := sumI_rng (fun j => rmH_rng) n
noncomputable def usF (pl : Nat → Int32) (n : Nat) (x : Int) : Int := if 0 < cntR pl n x then 1 else 0
theorem usF_rng {pl : Nat → Int32} {n : Nat} {x : Int} : 0 ≤ usF pl n x ∧ usF pl n x ≤ 1 := by
  unfold usF
  split <;> omega
noncomputable def usH (pl : Nat → Int32) (n : Nat) (c : Nat) : Nat → Int := sumI (fun f => usF pl n (10 * (c : Int) + (f : Int)))
noncomputable def usA (pl : Nat → Int32) (n : Nat) : Nat → Int := sumI (fun c => usH pl n c 5)
theorem usH_rng {pl : Nat → Int32} {n c k : Nat} : 0 ≤ usH pl n c k ∧ usH pl n c k ≤ 1 * (k : Int) := sumI_rng (fun j => usF_rng) k
theorem usA_rng {pl : Nat → Int32} {n k : Nat} : 0 ≤ usA pl n k ∧ usA pl n k ≤ 5 * (k : Int) := sumI_rng (fun j => by have := usH_rng (pl := pl) (n := n) (c := j) (k := 5); omega) k
noncomputable def qRule (b : Int) (M : Mem) : Int := if b = 0 then (clM M).toInt else if b = 1 then (thM M).toInt else if b = 2 then (dyM M).toInt else if b = 3 then rmA (kdM M) (clM M).toInt.toNat else if b = 4 then usA (plM M) (thM M).toInt.toNat (clM M).toInt.toNat else -1
theorem usF_eq {pl pl2 : Nat → Int32} {n : Nat} {x : Int} (h : ∀ j : Nat, j < n → pl j = pl2 j) : usF pl n x = usF pl2 n x := by
  unfold usF
  rw [cntR_eq h]
theorem rule_3 {b : Int} {cl th dy sn : Int32} {kd pl pa kn sp ss : Nat → Int32} (hb : b = 3) : qRule b (mkM cl th dy sn kd pl pa kn sp ss) = rmA kd cl.toInt.toNat := by
  unfold qRule
  rw [if_neg (by omega), if_neg (by omega), if_neg (by omega), if_pos hb]
  exact sumI_eq (fun j q => by have q : j < cl.toInt.toNat := q; show rmH (msk cl kd j).toInt = _; rw [msk_in (by omega)])
theorem rule_4 {b : Int} {cl th dy sn : Int32} {kd pl pa kn sp ss : Nat → Int32} (hb : b = 4) : qRule b (mkM cl th dy sn kd pl pa kn sp ss) = usA pl th.toInt.toNat cl.toInt.toNat := by
  unfold qRule
  rw [if_neg (by omega), if_neg (by omega), if_neg (by omega), if_neg (by omega), if_pos hb]
  exact sumI_eq (fun j q => sumI_eq (fun i w => usF_eq (fun k z => msk_in (by show (k : Int) < th.toInt; have : k < th.toInt.toNat := z; omega))))
theorem rule_0 {b : Int} {M : Mem} (hb : b = 0) : qRule b M = (clM M).toInt := if_pos hb
theorem rule_1 {b : Int} {M : Mem} (hb : b = 1) : qRule b M = (thM M).toInt := by
  unfold qRule
  rw [if_neg (by omega), if_pos hb]
theorem rule_2 {b : Int} {M : Mem} (hb : b = 2) : qRule b M = (dyM M).toInt := by
  unfold qRule
  rw [if_neg (by omega), if_neg (by omega), if_pos hb]
theorem rule_d {b : Int} {M : Mem} (hb : ¬ b = 0 ∧ ¬ b = 1 ∧ ¬ b = 2 ∧ ¬ b = 3 ∧ ¬ b = 4) : qRule b M = -1 := by
  unfold qRule
  rw [if_neg hb.1, if_neg hb.2.1, if_neg hb.2.2.1, if_neg hb.2.2.2.1, if_neg hb.2.2.2.2]
noncomputable def rfA (kd : Nat → Int32) (n : Nat) : Int := sumI (fun c => sumI (fun f => rmF (kd c).toInt (f : Int)) 5) n
theorem rfA_rng {kd : Nat → Int32} {n : Nat} : 0 ≤ rfA kd n ∧ rfA kd n ≤ 15 * (n : Int) := sumI_rng (fun j => by have := sumI_rng (f := fun f => rmF (kd j).toInt (f : Int)) (m := 3) (fun j => rmF_rng) 5; omega) n
theorem rfA_C {c : Int32} {kd : Nat → Int32} (h : ∀ j : Nat, (j : Int) < c.toInt → 0 ≤ (kd j).toInt ∧ (kd j).toInt ≤ 3) : rfA kd c.toInt.toNat = rmA kd c.toInt.toNat := sumI_eq (fun j q => sumI_eq (fun f w => rmF_C (h j (by omega)) ⟨by omega, by omega⟩))
/-! ===== what is owed ===== -/
noncomputable def wc (h : qm_H) : Prop := wfM (mC h)
noncomputable def wr (h : qm_H) : Prop := wfM (mR h)
noncomputable def owT (pl pa kn : Nat → Int32) (p d : Int) (t : Nat) : Int := ifP ((pa t).toInt = p ∧ (kn t).toInt % 10 ≤ d ∧ ¬ icA pl pa kn t) ((kn t).toInt / 10) 0
noncomputable def owS (pl pa kn : Nat → Int32) (p d : Int) : Nat → Int := sumI (owT pl pa kn p d)
theorem owT_rng {pl pa kn : Nat → Int32} {p d : Int} {t : Nat} (h : 0 ≤ (kn t).toInt ∧ (kn t).toInt ≤ 99) : 0 ≤ owT pl pa kn p d t ∧ owT pl pa kn p d t ≤ 9 := by
  by_cases q : (pa t).toInt = p ∧ (kn t).toInt % 10 ≤ d ∧ ¬ icA pl pa kn t
  · rw [show owT pl pa kn p d t = (kn t).toInt / 10 from ifP_t q]; omega
  · rw [show owT pl pa kn p d t = 0 from ifP_f q]; omega
theorem owS_rng {pl pa kn : Nat → Int32} {p d : Int} : ∀ {n : Nat}, (∀ j : Nat, j < n → 0 ≤ (kn j).toInt ∧ (kn j).toInt ≤ 99) → 0 ≤ owS pl pa kn p d n ∧ owS pl pa kn p d n ≤ 9 * (n : Int)
  | 0, _ => ⟨Int.le_refl _, Int.le_refl _⟩
  | n + 1, h => by
    have a := owS_rng (pl := pl) (pa := pa) (kn := kn) (p := p) (d := d) (n := n) (fun j q => h j (by omega))
    have b := owT_rng (pl := pl) (pa := pa) (p := p) (d := d) (h n (Nat.lt_succ_self _))
    show 0 ≤ owS pl pa kn p d n + owT pl pa kn p d n ∧ owS pl pa kn p d n + owT pl pa kn p d n ≤ 9 * ((n + 1 : Nat) : Int)
    omega
theorem owT_eq {pl pa kn pl2 pa2 kn2 : Nat → Int32} {p d : Int} {t n : Nat} (h : ∀ j : Nat, j < n → pl j = pl2 j ∧ pa j = pa2 j ∧ kn j = kn2 j) (ht : t < n) : owT pl pa kn p d t = owT pl2 pa2 kn2 p d t := by
  have e := icA_eq h ht
  by_cases q : (pa t).toInt = p ∧ (kn t).toInt % 10 ≤ d ∧ ¬ icA pl pa kn t
  · rw [show owT pl pa kn p d t = (kn t).toInt / 10 from ifP_t q]
    rw [(h t ht).2.1, (h t ht).2.2] at q
    rw [show owT pl2 pa2 kn2 p d t = (kn2 t).toInt / 10 from ifP_t ⟨q.1, q.2.1, fun z => q.2.2 (e.mpr z)⟩, (h t ht).2.2]
  · rw [show owT pl pa kn p d t = 0 from ifP_f q]
    rw [(h t ht).2.1, (h t ht).2.2] at q
    exact (ifP_f (fun z => q ⟨z.1, z.2.1, fun w => z.2.2 (e.mp w)⟩)).symm
theorem owS_eq {pl pa kn pl2 pa2 kn2 : Nat → Int32} {p d : Int} {n : Nat} (h : ∀ j : Nat, j < n → pl j = pl2 j ∧ pa j = pa2 j ∧ kn j = kn2 j) : owS pl pa kn p d n = owS pl2 pa2 kn2 p d n := sumI_eq (fun j q => owT_eq h q)
noncomputable def owM (M : Mem) (p d : Int) : Int := owS (plM M) (paM M) (knM M) p d (thM M).toInt.toNat
theorem owM_mk {cl th dy sn : Int32} {kd pl pa kn sp ss : Nat → Int32} {p d : Int} : owM (mkM cl th dy sn kd pl pa kn sp ss) p d = owS pl pa kn p d th.toInt.toNat := owS_eq (fun j q => ⟨msk_in (by have q : j < th.toInt.toNat := q; omega), msk_in (by have q : j < th.toInt.toNat := q; omega), msk_in (by have q : j < th.toInt.toNat := q; omega)⟩)
/-- the knots of a Memory that is well kept -/
theorem wf_kn {cl th dy sn : Int32} {kd pl pa kn sp ss : Nat → Int32} (h : wfM (mkM cl th dy sn kd pl pa kn sp ss)) : ∀ j : Nat, (j : Int) < th.toInt → 0 ≤ (kn j).toInt ∧ (kn j).toInt ≤ 99 := fun j q => by
  have := ((wf_raw h).2.2.1 j q).2.2
  omega
noncomputable def qOwed (a b : Int) (M : Mem) : Int := if ¬ ((0 ≤ a ∧ a / 10 < (clM M).toInt ∧ a % 10 < (clM M).toInt ∧ ¬ a / 10 = a % 10) ∧ 0 ≤ b ∧ b ≤ 1) then -1 else owM M a (if b = 0 then 9 else (dyM M).toInt)
theorem owed_no {a b : Int} {cl th dy sn : Int32} {kd pl pa kn sp ss : Nat → Int32} (h : ¬ ((0 ≤ a ∧ a / 10 < cl.toInt ∧ a % 10 < cl.toInt ∧ ¬ a / 10 = a % 10) ∧ 0 ≤ b ∧ b ≤ 1)) : qOwed a b (mkM cl th dy sn kd pl pa kn sp ss) = -1 := if_pos h
theorem owed_ok {a b d : Int} {cl th dy sn : Int32} {kd pl pa kn sp ss : Nat → Int32} (h : (0 ≤ a ∧ a / 10 < cl.toInt ∧ a % 10 < cl.toInt ∧ ¬ a / 10 = a % 10) ∧ 0 ≤ b ∧ b ≤ 1) (hd : (b = 0 ∧ d = 9) ∨ (¬ b = 0 ∧ d = dy.toInt)) : qOwed a b (mkM cl th dy sn kd pl pa kn sp ss) = owS pl pa kn a d th.toInt.toNat := by
  unfold qOwed
  rw [if_neg (fun z => z h), owM_mk]
  obtain q | q := hd
  · rw [if_pos q.1, q.2]
  · rw [if_neg q.1, q.2]; rfl
theorem wf_tr2 {M N : Mem} (h : wfM M) (e : N = M) : wfM N := e ▸ h
/-- the reference's sums by fours -/
noncomputable def owI (pl pa kn : Nat → Int32) (d : Int) (n : Nat) (f : Nat → Int32) : Prop := ∀ x y : Nat, x < 4 → y < 4 → (f (4 * x + y)).toInt = owS pl pa kn (10 * (x : Int) + (y : Int)) d n
theorem owI_0 {pl pa kn : Nat → Int32} {d m : Int} {f : Nat → Int32} {n : Nat} (h : owz f m) (hm : 16 ≤ m) (hn : n = 0) : owI pl pa kn d n f := fun x y hx hy => by
  rw [h (4 * x + y) (by omega), hn]; rfl
theorem owI_s {pl pa kn : Nat → Int32} {d : Int} {n ix : Nat} {f g : Nat → Int32} {v : Int32} (h : owI pl pa kn d n f) (hk : ∀ j : Nat, j < 10 → 0 ≤ (kn j).toInt ∧ (kn j).toInt ≤ 99) (hp : 0 ≤ (pa n).toInt ∧ (pa n).toInt / 10 ≤ 3 ∧ (pa n).toInt % 10 ≤ 3) (hn : n ≤ 9) (hx : (ix : Int) = 4 * ((pa n).toInt / 10) + (pa n).toInt % 10) (hv : v.toInt = owT pl pa kn (pa n).toInt d n) (e : g = upd f ix (f ix + v)) : owI pl pa kn d (n + 1) g := by
  intro x y h1 h2
  have a := h x y h1 h2
  rw [e]
  show _ = owS pl pa kn (10 * (x : Int) + (y : Int)) d n + owT pl pa kn (10 * (x : Int) + (y : Int)) d n
  by_cases q : 4 * x + y = ix
  · have ep : 10 * (x : Int) + (y : Int) = (pa n).toInt := by omega
    rw [q, upd_same]
    rw [q] at a
    have r1 := owS_rng (pl := pl) (pa := pa) (kn := kn) (p := 10 * (x : Int) + (y : Int)) (d := d) (n := n) (fun j w => hk j (by omega))
    have r2 := owT_rng (pl := pl) (pa := pa) (kn := kn) (p := (pa n).toInt) (d := d) (t := n) (hk n (by omega))
    have s := ti_add (f ix) v (by omega)
    rw [ep] at a r1 ⊢
    omega
  · rw [upd_ne q, a, show owT pl pa kn (10 * (x : Int) + (y : Int)) d n = 0 from ifP_f (fun w => by have w1 := w.1; omega), Int.add_zero]
theorem ow_41 {h g : qm_H} {p d : Int} {n : Nat} (s : ∀ j : Nat, j < 49 → g 41 j = h 40 j) (hn : n ≤ 10) : owS (fun t => g 41 (6 + 3 * t)) (fun t => g 41 (7 + 3 * t)) (fun t => g 41 (8 + 3 * t)) p d n = owS (fun t => h 40 (6 + 3 * t)) (fun t => h 40 (7 + 3 * t)) (fun t => h 40 (8 + 3 * t)) p d n := owS_eq (fun j q => ⟨s _ (by omega), s _ (by omega), s _ (by omega)⟩)
noncomputable def c20 : Nat → Int := fun _ => 20
noncomputable def lfN (kd pl : Nat → Int32) (n c : Nat) : Int := rmH (kd c).toInt - cntR (fun t => pl t / 10) n (c : Int)
theorem lfN_rng {kd pl : Nat → Int32} {n c : Nat} (hn : n ≤ 10) : -10 ≤ lfN kd pl n c ∧ lfN kd pl n c ≤ 15 := by
  have a := rmH_rng (k := (kd c).toInt)
  have b := cntR_rng (f := fun t => pl t / 10) (x := (c : Int)) n
  unfold lfN
  omega
theorem lfN_eq {kd pl kd2 pl2 : Nat → Int32} {n c : Nat} (h : ∀ j : Nat, j < n → pl j = pl2 j) (hk : kd c = kd2 c) : lfN kd pl n c = lfN kd2 pl2 n c := by
  unfold lfN
  rw [hk, cntR_eq (f := fun t => pl t / 10) (g := fun t => pl2 t / 10) (fun j q => by rw [h j q])]
theorem lf_R {h g : qm_H} {c r q : Int32} (s : ∀ j : Nat, j < 49 → g 41 j = h 40 j) (hn : 0 ≤ (h 40 4).toInt ∧ (h 40 4).toInt ≤ 10) (hc : 0 ≤ c.toInt ∧ c.toInt ≤ 3) (hk : 0 ≤ (h 40 c.toInt.toNat).toInt ∧ (h 40 c.toInt.toNat).toInt ≤ 3) (r1 : r.toInt = sumI (fun f => rmF (g 41 c.toInt.toNat).toInt (f : Int)) 5) (r2 : q.toInt = cntR (fun t => (g 41 (6 + 3 * t)) / 10) (g 41 4).toInt.toNat c.toInt) : r.toInt - q.toInt = lfN (h 40) (fun t => h 40 (6 + 3 * t)) (h 40 4).toInt.toNat c.toInt.toNat := by
  rw [s c.toInt.toNat (by omega)] at r1
  have r1 : r.toInt = rmH (h 40 c.toInt.toNat).toInt := r1.trans (sumI_eq (fun f w => rmF_C hk ⟨by omega, by omega⟩))
  rw [s 4 (by omega)] at r2
  have r2 := r2.trans (cntR_eq (f := fun t => (g 41 (6 + 3 * t)) / 10) (g := fun t => h 40 (6 + 3 * t) / 10) (n := (h 40 4).toInt.toNat) (x := c.toInt) (fun j w => by
    show g 41 (6 + 3 * j) / 10 = h 40 (6 + 3 * j) / 10
    rw [s _ (by omega)]))
  have e : lfN (h 40) (fun t => h 40 (6 + 3 * t)) (h 40 4).toInt.toNat c.toInt.toNat = rmH (h 40 c.toInt.toNat).toInt - cntR (fun t => h 40 (6 + 3 * t) / 10) (h 40 4).toInt.toNat ((c.toInt.toNat : Nat) : Int) := rfl
  rw [e, show ((c.toInt.toNat : Nat) : Int) = c.toInt by omega, ← r2, ← r1]
/-! ===== where the next THREAD goes ===== -/
noncomputable def onN (pl : Nat → Int32) (n c : Nat) : Int := cntR (fun t => pl t / 10) n (c : Int)
theorem on_x {pl : Nat → Int32} {n : Nat} {x : Int} (hx : 0 ≤ x) : onN pl n x.toNat = cntR (fun t => pl t / 10) n x := by
  unfold onN
  rw [show ((x.toNat : Nat) : Int) = x by omega]
theorem onN_rng {pl : Nat → Int32} {n c : Nat} : 0 ≤ onN pl n c ∧ onN pl n c ≤ (n : Int) := cntR_rng (f := fun t => pl t / 10) (x := (c : Int)) n
theorem onN_eq {pl pl2 : Nat → Int32} {n c : Nat} (h : ∀ j : Nat, j < n → pl j = pl2 j) : onN pl n c = onN pl2 n c := by
  unfold onN
  exact cntR_eq (f := fun t => pl t / 10) (g := fun t => pl2 t / 10) (fun j q => by rw [h j q])
noncomputable def phH (on lf : Nat → Int) : Nat → Int
  | 0 => -4
  | c + 1 => if 0 < lf c ∧ (phH on lf c = -4 ∨ on c < on (phH on lf c).toNat) then (c : Int) else phH on lf c
theorem phH_t {on lf : Nat → Int} {c : Nat} (h : 0 < lf c ∧ (phH on lf c = -4 ∨ on c < on (phH on lf c).toNat)) : phH on lf (c + 1) = (c : Int) := if_pos h
theorem phH_f {on lf : Nat → Int} {c : Nat} (h : ¬ (0 < lf c ∧ (phH on lf c = -4 ∨ on c < on (phH on lf c).toNat))) : phH on lf (c + 1) = phH on lf c := if_neg h
theorem phH_rng {on lf : Nat → Int} : ∀ k : Nat, phH on lf k = -4 ∨ (0 ≤ phH on lf k ∧ phH on lf k < (k : Int) ∧ 0 < lf (phH on lf k).toNat)
  | 0 => Or.inl rfl
  | k + 1 => by
    have a := phH_rng (on := on) (lf := lf) k
    by_cases w : 0 < lf k ∧ (phH on lf k = -4 ∨ on k < on (phH on lf k).toNat)
    · refine Or.inr ?_
      rw [phH_t w]
      exact ⟨by omega, by omega, by rw [show ((k : Int)).toNat = k by omega]; exact w.1⟩
    · rw [phH_f w]
      obtain q | q := a
      · exact Or.inl q
      · exact Or.inr ⟨q.1, by omega, q.2.2⟩
theorem phH_eq {on lf on2 lf2 : Nat → Int} {n : Nat} (h : ∀ c : Nat, c < n → on c = on2 c ∧ lf c = lf2 c) : ∀ {k : Nat}, k ≤ n → phH on lf k = phH on2 lf2 k
  | 0, _ => rfl
  | k + 1, hk => by
    have e := phH_eq h (k := k) (by omega)
    have r := phH_rng (on := on2) (lf := lf2) k
    show (if 0 < lf k ∧ (phH on lf k = -4 ∨ on k < on (phH on lf k).toNat) then (k : Int) else phH on lf k) = (if 0 < lf2 k ∧ (phH on2 lf2 k = -4 ∨ on2 k < on2 (phH on2 lf2 k).toNat) then (k : Int) else phH on2 lf2 k)
    rw [e, (h k (by omega)).1, (h k (by omega)).2, (h (phH on2 lf2 k).toNat (by omega)).1]
/-! the finger -/
noncomputable def laN (kd pl : Nat → Int32) (n c f : Nat) : Int := rmC (kd c).toInt (f : Int) - cntR pl n (10 * (c : Int) + (f : Int))
theorem la_of {kd pl : Nat → Int32} {n c f : Nat} {x r : Int} (hx : x = 10 * (c : Int) + (f : Int)) (hf : f < 5) (o : r = rmC (kd (x / 10).toNat).toInt (x % 10) - cntR pl n x) : r = laN kd pl n c f := by
  rw [o]
  unfold laN
  rw [show (x / 10).toNat = c by omega, show x % 10 = (f : Int) by omega, hx]
theorem laN_eq {kd pl kd2 pl2 : Nat → Int32} {n c f : Nat} (hk : kd c = kd2 c) (h : ∀ j : Nat, j < n → pl j = pl2 j) : laN kd pl n c f = laN kd2 pl2 n c f := by
  unfold laN
  rw [hk, cntR_eq h]
noncomputable def pfB (la : Nat → Int) : Nat → Nat
  | 0 => 0
  | f + 1 => if la (pfB la f) < la (f + 1) then f + 1 else pfB la f
theorem pfB_t {la : Nat → Int} {f : Nat} (h : la (pfB la f) < la (f + 1)) : pfB la (f + 1) = f + 1 := if_pos h
theorem pfB_f {la : Nat → Int} {f : Nat} (h : ¬ la (pfB la f) < la (f + 1)) : pfB la (f + 1) = pfB la f := if_neg h
theorem pfB_le {la : Nat → Int} : ∀ k : Nat, pfB la k ≤ k
  | 0 => Nat.le_refl 0
  | k + 1 => by
    have a := pfB_le (la := la) k
    by_cases w : la (pfB la k) < la (k + 1)
    · rw [pfB_t w]; omega
    · rw [pfB_f w]; omega
theorem pfB_eq {la lb : Nat → Int} (h : ∀ f : Nat, la f = lb f) {k : Nat} : pfB la k = pfB lb k := by rw [show la = lb from funext h]
theorem ite01 {p : Prop} [Decidable p] : (p ∧ (if p then (1 : Int) else 0) = 1) ∨ (¬ p ∧ (if p then (1 : Int) else 0) = 0) := by
  by_cases h : p
  · exact Or.inl ⟨h, if_pos h⟩
  · exact Or.inr ⟨h, if_neg h⟩
theorem on_sum {pl : Nat → Int32} {c : Nat} : ∀ {n : Nat}, (∀ t : Nat, t < n → 0 ≤ (pl t).toInt ∧ (pl t).toInt % 10 < 5) → onN pl n c = cntR pl n (10 * (c : Int) + ((0 : Nat) : Int)) + cntR pl n (10 * (c : Int) + ((1 : Nat) : Int)) + cntR pl n (10 * (c : Int) + ((2 : Nat) : Int)) + cntR pl n (10 * (c : Int) + ((3 : Nat) : Int)) + cntR pl n (10 * (c : Int) + ((4 : Nat) : Int))
  | 0, _ => rfl
  | n + 1, h => by
    have ih := on_sum (c := c) (n := n) (fun t q => h t (by omega))
    have p := h n (Nat.lt_succ_self _)
    have e := ti_div (10 : Int32) 10 rfl (pl n) (by decide) p.1
    have k := ite01 (p := (pl n / 10).toInt = (c : Int))
    have k0 := ite01 (p := (pl n).toInt = 10 * (c : Int) + ((0 : Nat) : Int))
    have k1 := ite01 (p := (pl n).toInt = 10 * (c : Int) + ((1 : Nat) : Int))
    have k2 := ite01 (p := (pl n).toInt = 10 * (c : Int) + ((2 : Nat) : Int))
    have k3 := ite01 (p := (pl n).toInt = 10 * (c : Int) + ((3 : Nat) : Int))
    have k4 := ite01 (p := (pl n).toInt = 10 * (c : Int) + ((4 : Nat) : Int))
    show onN pl n c + (if (pl n / 10).toInt = (c : Int) then 1 else 0) = (cntR pl n (10 * (c : Int) + ((0 : Nat) : Int)) + (if (pl n).toInt = 10 * (c : Int) + ((0 : Nat) : Int) then 1 else 0)) + (cntR pl n (10 * (c : Int) + ((1 : Nat) : Int)) + (if (pl n).toInt = 10 * (c : Int) + ((1 : Nat) : Int) then 1 else 0)) + (cntR pl n (10 * (c : Int) + ((2 : Nat) : Int)) + (if (pl n).toInt = 10 * (c : Int) + ((2 : Nat) : Int) then 1 else 0)) + (cntR pl n (10 * (c : Int) + ((3 : Nat) : Int)) + (if (pl n).toInt = 10 * (c : Int) + ((3 : Nat) : Int) then 1 else 0)) + (cntR pl n (10 * (c : Int) + ((4 : Nat) : Int)) + (if (pl n).toInt = 10 * (c : Int) + ((4 : Nat) : Int) then 1 else 0))
    generalize (if (pl n / 10).toInt = (c : Int) then (1 : Int) else 0) = z at k ⊢
    generalize (if (pl n).toInt = 10 * (c : Int) + ((0 : Nat) : Int) then (1 : Int) else 0) = z0 at k0 ⊢
    generalize (if (pl n).toInt = 10 * (c : Int) + ((1 : Nat) : Int) then (1 : Int) else 0) = z1 at k1 ⊢
    generalize (if (pl n).toInt = 10 * (c : Int) + ((2 : Nat) : Int) then (1 : Int) else 0) = z2 at k2 ⊢
    generalize (if (pl n).toInt = 10 * (c : Int) + ((3 : Nat) : Int) then (1 : Int) else 0) = z3 at k3 ⊢
    generalize (if (pl n).toInt = 10 * (c : Int) + ((4 : Nat) : Int) then (1 : Int) else 0) = z4 at k4 ⊢
    omega
theorem lf_sum {kd pl : Nat → Int32} {n c : Nat} (h : ∀ t : Nat, t < n → 0 ≤ (pl t).toInt ∧ (pl t).toInt % 10 < 5) : lfN kd pl n c = laN kd pl n c 0 + laN kd pl n c 1 + laN kd pl n c 2 + laN kd pl n c 3 + laN kd pl n c 4 := by
  have a := on_sum (c := c) h
  have b : rmH (kd c).toInt = 0 + rmC (kd c).toInt ((0 : Nat) : Int) + rmC (kd c).toInt ((1 : Nat) : Int) + rmC (kd c).toInt ((2 : Nat) : Int) + rmC (kd c).toInt ((3 : Nat) : Int) + rmC (kd c).toInt ((4 : Nat) : Int) := rfl
  have d : lfN kd pl n c = rmH (kd c).toInt - onN pl n c := rfl
  unfold laN
  omega
/-- the reference's state, hands -/
noncomputable def phR (on lf : Nat → Int) (fw hd : Int) (k : Nat) : Prop := hd = phH on lf k ∧ ((hd = -4 ∧ fw = 1000000) ∨ (0 ≤ hd ∧ fw = on hd.toNat))
theorem phR_0 {on lf : Nat → Int} {fw hd : Int} {k : Nat} (hk : k = 0) (h1 : fw = 1000000) (h2 : hd = -4) : phR on lf fw hd k := by
  subst hk
  exact ⟨h2, Or.inl ⟨h2, h1⟩⟩
theorem phR_y {on lf : Nat → Int} {fw hd fw2 hd2 : Int} {k : Nat} (h : phR on lf fw hd k) (h1 : 0 < lf k) (h2 : on k < fw) (e1 : hd2 = (k : Int)) (e2 : fw2 = on k) : phR on lf fw2 hd2 (k + 1) := by
  obtain ⟨a, b⟩ := h
  have q : 0 < lf k ∧ (phH on lf k = -4 ∨ on k < on (phH on lf k).toNat) := by
    rw [← a]
    obtain b | b := b
    · exact ⟨h1, Or.inl b.1⟩
    · exact ⟨h1, Or.inr (by rw [← b.2]; exact h2)⟩
  refine ⟨by rw [phH_t q]; exact e1, Or.inr ⟨by omega, ?_⟩⟩
  rw [e1, e2, show ((k : Int)).toNat = k by omega]
theorem phR_n {on lf : Nat → Int} {fw hd : Int} {k : Nat} (h : phR on lf fw hd k) (ho : on k < 1000000) (h1 : ¬ (0 < lf k ∧ on k < fw)) : phR on lf fw hd (k + 1) := by
  obtain ⟨a, b⟩ := h
  have q : ¬ (0 < lf k ∧ (phH on lf k = -4 ∨ on k < on (phH on lf k).toNat)) := by
    rw [← a]
    rintro ⟨w1, w2⟩
    obtain b | b := b
    · exact h1 ⟨w1, by omega⟩
    · obtain w2 | w2 := w2
      · omega
      · exact h1 ⟨w1, by rw [b.2]; exact w2⟩
  exact ⟨by rw [phH_f q]; exact a, b⟩
/-- the reference's state, fingers -/
noncomputable def pgR (la : Nat → Int) (hd mo fo : Int) (k : Nat) : Prop := (fo = -4 ∧ mo = 0 ∧ ∀ f : Nat, f < k → la f ≤ 0) ∨ (1 ≤ k ∧ 0 < mo ∧ fo = 10 * hd + (pfB la (k - 1) : Int) ∧ mo = la (pfB la (k - 1)))
theorem pgR_0 {la : Nat → Int} {hd mo fo : Int} {k : Nat} (hk : k = 0) (h1 : fo = -4) (h2 : mo = 0) : pgR la hd mo fo k := Or.inl ⟨h1, h2, fun f q => absurd q (by omega)⟩
theorem pgR_y {la : Nat → Int} {hd mo fo mo2 fo2 : Int} {k : Nat} (h : pgR la hd mo fo k) (h1 : mo < la k) (e1 : fo2 = 10 * hd + (k : Int)) (e2 : mo2 = la k) : pgR la hd mo2 fo2 (k + 1) := by
  have hm : 0 < la k := by
    obtain q | q := h
    · omega
    · omega
  have hp : pfB la k = k := by
    cases k with
    | zero => rfl
    | succ j =>
      obtain q | q := h
      · have b := q.2.2 (pfB la j) (by have := pfB_le (la := la) j; omega)
        exact pfB_t (by omega)
      · have b := q.2.2.2
        rw [Nat.add_sub_cancel] at b
        exact pfB_t (by omega)
  refine Or.inr ⟨by omega, by omega, ?_, ?_⟩
  · rw [Nat.add_sub_cancel, hp]; exact e1
  · rw [Nat.add_sub_cancel, hp]; exact e2
theorem pgR_n {la : Nat → Int} {hd mo fo : Int} {k : Nat} (h : pgR la hd mo fo k) (h1 : ¬ mo < la k) : pgR la hd mo fo (k + 1) := by
  obtain q | q := h
  · exact Or.inl ⟨q.1, q.2.1, fun f w => if z : f < k then q.2.2 f z else by rw [show f = k by omega]; omega⟩
  · obtain ⟨j, rfl⟩ : ∃ j, k = j + 1 := ⟨k - 1, by omega⟩
    rw [Nat.add_sub_cancel] at q
    have e : pfB la (j + 1) = pfB la j := pfB_f (by omega)
    refine Or.inr ⟨by omega, q.2.1, ?_, ?_⟩
    · rw [Nat.add_sub_cancel, e]; exact q.2.2.1
    · rw [Nat.add_sub_cancel, e]; exact q.2.2.2
/-! the question -/
noncomputable def plQ (kd pl : Nat → Int32) (n cl : Nat) : Int := if phH (onN pl n) (lfN kd pl n) cl = -4 then -4 else 10 * phH (onN pl n) (lfN kd pl n) cl + (pfB (laN kd pl n (phH (onN pl n) (lfN kd pl n) cl).toNat) 4 : Int)
noncomputable def qPlace (M : Mem) : Int := plQ (kdM M) (plM M) (thM M).toInt.toNat (clM M).toInt.toNat
theorem plQ_eq {kd pl kd2 pl2 : Nat → Int32} {n cl : Nat} (h : ∀ j : Nat, j < n → pl j = pl2 j) (hk : ∀ c : Nat, c < cl → kd c = kd2 c) : plQ kd pl n cl = plQ kd2 pl2 n cl := by
  have e := phH_eq (on := onN pl n) (lf := lfN kd pl n) (on2 := onN pl2 n) (lf2 := lfN kd2 pl2 n) (n := cl) (fun c q => ⟨onN_eq h, lfN_eq h (hk c q)⟩) (Nat.le_refl cl)
  have r := phH_rng (on := onN pl2 n) (lf := lfN kd2 pl2 n) cl
  unfold plQ
  rw [e]
  by_cases w : phH (onN pl2 n) (lfN kd2 pl2 n) cl = -4
  · rw [if_pos w, if_pos w]
  · rw [if_neg w, if_neg w, pfB_eq (fun f => laN_eq (hk _ (by omega)) h)]
theorem place_mk {cl th dy sn : Int32} {kd pl pa kn sp ss : Nat → Int32} : qPlace (mkM cl th dy sn kd pl pa kn sp ss) = plQ kd pl th.toInt.toNat cl.toInt.toNat := plQ_eq (fun j q => msk_in (by have q : j < th.toInt.toNat := q; omega)) (fun c q => msk_in (by have q : c < cl.toInt.toNat := q; omega))
theorem plQ_no {kd pl : Nat → Int32} {n cl : Nat} {x : Int} (e : x = phH (onN pl n) (lfN kd pl n) cl) (h : x = -4) : plQ kd pl n cl = -4 := if_pos (by omega)
theorem plQ_ok {kd pl : Nat → Int32} {n cl : Nat} {x r : Int} (e : x = phH (onN pl n) (lfN kd pl n) cl) (h : ¬ x = -4) (hr : r = 10 * x + (pfB (laN kd pl n x.toNat) 4 : Int)) : r = plQ kd pl n cl := by
  rw [hr]
  unfold plQ
  rw [← e, if_neg h]
theorem pg_end {kd pl : Nat → Int32} {n cl : Nat} {x mo fo : Int} (e : x = phH (onN pl n) (lfN kd pl n) cl) (h : ¬ x = -4) (w : ∀ t : Nat, t < n → 0 ≤ (pl t).toInt ∧ (pl t).toInt % 10 < 5) (g : pgR (laN kd pl n x.toNat) x mo fo 5) : fo = plQ kd pl n cl := by
  have r := phH_rng (on := onN pl n) (lf := lfN kd pl n) cl
  rw [← e] at r
  have r := r.resolve_left h
  obtain q | q := g
  · have s := lf_sum (kd := kd) (c := x.toNat) w
    have a0 := q.2.2 0 (by decide)
    have a1 := q.2.2 1 (by decide)
    have a2 := q.2.2 2 (by decide)
    have a3 := q.2.2 3 (by decide)
    have a4 := q.2.2 4 (by decide)
    omega
  · exact plQ_ok e h q.2.2.1
theorem wf_fg {cl th dy sn : Int32} {kd pl pa kn sp ss : Nat → Int32} (h : wfM (mkM cl th dy sn kd pl pa kn sp ss)) : ∀ t : Nat, t < th.toInt.toNat → 0 ≤ (pl t).toInt ∧ (pl t).toInt % 10 < 5 := fun t q => by
  have a := ((wf_raw h).2.2.1 t (by omega)).1
  unfold okPl at a
  omega
theorem on_R {h g : qm_H} {c r : Int32} (s : ∀ j : Nat, j < 49 → g 41 j = h 40 j) (hn : 0 ≤ (h 40 4).toInt ∧ (h 40 4).toInt ≤ 10) (hc : 0 ≤ c.toInt) (r2 : r.toInt = cntR (fun t => (g 41 (6 + 3 * t)) / 10) (g 41 4).toInt.toNat c.toInt) : r.toInt = onN (fun t => h 40 (6 + 3 * t)) (h 40 4).toInt.toNat c.toInt.toNat := by
  rw [s 4 (by omega)] at r2
  have r2 := r2.trans (cntR_eq (f := fun t => (g 41 (6 + 3 * t)) / 10) (g := fun t => h 40 (6 + 3 * t) / 10) (n := (h 40 4).toInt.toNat) (x := c.toInt) (fun j w => by
    show g 41 (6 + 3 * j) / 10 = h 40 (6 + 3 * j) / 10
    rw [s _ (by omega)]))
  rw [on_x hc]
  exact r2
/-! the reference's codes: which are rings, which ring each is -/
noncomputable def vR (cl : Int) (n c m : Nat) : Prop := ∀ i : Nat, i < m → ((dg n c i : Nat) : Int) < cl ∧ (0 < i → dg n c 0 < dg n c i) ∧ ∀ k : Nat, 0 < k → k < i → ¬ dg n c i = dg n c k
noncomputable def v4 (n c : Nat) : Bool := decide (∀ i : Nat, i < n → (0 < i → dg n c 0 < dg n c i) ∧ ∀ k : Nat, k < i → 0 < k → ¬ dg n c i = dg n c k)
