/-! ===== copies ===== -/
noncomputable def icF (pl pa kn : Nat → Int32) (t u : Nat) : Prop := (pa t).toInt = (pa u).toInt ∧ (kn t).toInt = (kn u).toInt ∧ ¬ (pl t / 10).toInt = (pl u / 10).toInt
noncomputable def icA (pl pa kn : Nat → Int32) (t : Nat) : Prop := ∃ u : Nat, u < t ∧ icF pl pa kn t u
theorem icF_eq {pl pa kn pl2 pa2 kn2 : Nat → Int32} {t u n : Nat} (h : ∀ j : Nat, j < n → pl j = pl2 j ∧ pa j = pa2 j ∧ kn j = kn2 j) (ht : t < n) (hu : u < n) : icF pl pa kn t u ↔ icF pl2 pa2 kn2 t u := by
  unfold icF
  rw [(h t ht).1, (h t ht).2.1, (h t ht).2.2, (h u hu).1, (h u hu).2.1, (h u hu).2.2]
theorem icA_eq {pl pa kn pl2 pa2 kn2 : Nat → Int32} {t n : Nat} (h : ∀ j : Nat, j < n → pl j = pl2 j ∧ pa j = pa2 j ∧ kn j = kn2 j) (ht : t < n) : icA pl pa kn t ↔ icA pl2 pa2 kn2 t := by
  constructor
  · rintro ⟨u, a, b⟩; exact ⟨u, a, (icF_eq h ht (by omega)).mp b⟩
  · rintro ⟨u, a, b⟩; exact ⟨u, a, (icF_eq h ht (by omega)).mpr b⟩
noncomputable def icM (M : Mem) (t : Nat) : Prop := icA (plM M) (paM M) (knM M) t
theorem icM_mk {cl th dy sn : Int32} {kd pl pa kn sp ss : Nat → Int32} {t : Nat} (ht : (t : Int) < th.toInt) : icM (mkM cl th dy sn kd pl pa kn sp ss) t ↔ icA pl pa kn t := icA_eq (n := th.toInt.toNat) (fun j q => ⟨msk_in (by omega), msk_in (by omega), msk_in (by omega)⟩) (by omega)
/-- a word of bits that is 0 just when nothing was found below n -/
noncomputable def orI (x : Int32) (P : Nat → Prop) (n : Nat) : Prop := (x = 0 ∧ ∀ u : Nat, u < n → ¬ P u) ∨ (¬ x = 0 ∧ ∃ u : Nat, u < n ∧ P u)
theorem orI_0 {P : Nat → Prop} {n : Nat} (hn : n = 0) : orI 0 P n := Or.inl ⟨rfl, fun u h => by omega⟩
theorem orI_n {x : Int32} {P : Nat → Prop} {n : Nat} (h : orI x P n) (hp : ¬ P n) : orI x P (n + 1) := by
  obtain q | q := h
  · refine Or.inl ⟨q.1, fun u hu => ?_⟩
    by_cases e : u = n
    · rw [e]; exact hp
    · exact q.2 u (by omega)
  · obtain ⟨u, a, b⟩ := q.2
    exact Or.inr ⟨q.1, u, by omega, b⟩
theorem or_ne {x l : Int32} {n : Nat} (hl : l = nI n) (hn : n < 10) : ¬ (x ||| (1 <<< (l &&& 31))) = 0 := by
  intro e
  have a : bi (x ||| (1 <<< (l &&& 31))) n = bi 0 n := by rw [e]
  rw [bi_or, bi_0, hl, bi_one ⟨n, hn⟩ ⟨n, hn⟩, decide_eq_true rfl, Bool.or_true] at a
  exact Bool.noConfusion a
theorem orI_y {x y : Int32} {P : Nat → Prop} {n : Nat} (hp : P n) (hy : ¬ y = 0) : orI y P (n + 1) := Or.inr ⟨hy, n, Nat.lt_succ_self _, hp⟩
noncomputable def ifP (p : Prop) (a b : Int) : Int := @ite _ p (Classical.propDecidable _) a b
theorem ifP_t {p : Prop} {a b : Int} (h : p) : ifP p a b = a := if_pos h
theorem ifP_f {p : Prop} {a b : Int} (h : ¬ p) : ifP p a b = b := if_neg h
/-! thread -/
noncomputable def qThread (a b : Int) (M : Mem) : Int := if ¬ (0 ≤ a ∧ a < (thM M).toInt) then -1 else if b = 0 then (plM M a.toNat).toInt else if b = 1 then (paM M a.toNat).toInt else if b = 2 then (knM M a.toNat).toInt else if b = 3 then ifP (icM M a.toNat) 1 0 else -1
theorem thread_no {a b : Int} {M : Mem} (h : ¬ (0 ≤ a ∧ a < (thM M).toInt) ∨ (¬ b = 0 ∧ ¬ b = 1 ∧ ¬ b = 2 ∧ ¬ b = 3)) : qThread a b M = -1 := by
  unfold qThread
  by_cases q : 0 ≤ a ∧ a < (thM M).toInt
  · have w := h.resolve_left (fun z => z q)
    rw [if_neg (fun z => z q), if_neg w.1, if_neg w.2.1, if_neg w.2.2.1, if_neg w.2.2.2]
  · rw [if_pos q]
theorem thread_0 {a b : Int} {cl th dy sn : Int32} {kd pl pa kn sp ss : Nat → Int32} (h : 0 ≤ a ∧ a < th.toInt) (hb : b = 0) : qThread a b (mkM cl th dy sn kd pl pa kn sp ss) = (pl a.toNat).toInt := by
  unfold qThread
  rw [if_neg (fun z => z h), if_pos hb]
  exact congrArg Int32.toInt (msk_in (by omega))
theorem thread_1 {a b : Int} {cl th dy sn : Int32} {kd pl pa kn sp ss : Nat → Int32} (h : 0 ≤ a ∧ a < th.toInt) (hb : b = 1) : qThread a b (mkM cl th dy sn kd pl pa kn sp ss) = (pa a.toNat).toInt := by
  unfold qThread
  rw [if_neg (fun z => z h), if_neg (by omega), if_pos hb]
  exact congrArg Int32.toInt (msk_in (by omega))
theorem thread_2 {a b : Int} {cl th dy sn : Int32} {kd pl pa kn sp ss : Nat → Int32} (h : 0 ≤ a ∧ a < th.toInt) (hb : b = 2) : qThread a b (mkM cl th dy sn kd pl pa kn sp ss) = (kn a.toNat).toInt := by
  unfold qThread
  rw [if_neg (fun z => z h), if_neg (by omega), if_neg (by omega), if_pos hb]
  exact congrArg Int32.toInt (msk_in (by omega))
theorem thread_3 {a b r : Int} {cl th dy sn : Int32} {kd pl pa kn sp ss : Nat → Int32} (h : 0 ≤ a ∧ a < th.toInt) (hb : b = 3) (hr : (r = 1 ∧ icA pl pa kn a.toNat) ∨ (r = 0 ∧ ¬ icA pl pa kn a.toNat)) : qThread a b (mkM cl th dy sn kd pl pa kn sp ss) = r := by
  unfold qThread
  rw [if_neg (fun z => z h), if_neg (by omega), if_neg (by omega), if_neg (by omega), if_pos hb]
  have e := icM_mk (cl := cl) (th := th) (dy := dy) (sn := sn) (kd := kd) (pl := pl) (pa := pa) (kn := kn) (sp := sp) (ss := ss) (t := a.toNat) (by omega)
  obtain q | q := hr
  · rw [ifP_t (e.mpr q.2), q.1]
  · rw [ifP_f (fun z => q.2 (e.mp z)), q.1]
theorem orI_to {x : Int32} {P : Nat → Prop} {n m : Nat} (h : orI x P n) (e : n = m) : orI x P m := e ▸ h
theorem orI_z {x : Int32} {P : Nat → Prop} {n : Nat} (h : orI x P n) (hx : x = 0) : orI 0 P n := hx ▸ h
theorem orI_y1 {x : Int32} {P : Nat → Prop} {n : Nat} (h : orI x P n) (hx : ¬ x = 0) : orI 1 P (n + 1) := by
  obtain q | q := h
  · exact absurd q.1 hx
  · obtain ⟨u, a, b⟩ := q.2
    exact Or.inr ⟨by decide, u, by omega, b⟩
theorem orI_yes {x : Int32} {P : Nat → Prop} {n : Nat} (h : orI x P n) (hx : ¬ x = 0) : ∃ u : Nat, u < n ∧ P u := h.elim (fun q => absurd q.1 hx) (fun q => q.2)
theorem orI_no {x : Int32} {P : Nat → Prop} {n : Nat} (h : orI x P n) (hx : x = 0) : ¬ ∃ u : Nat, u < n ∧ P u := h.elim (fun q w => w.elim fun u z => q.2 u z.1 z.2) (fun q => absurd hx q.1)
theorem orI_two {x : Int32} {P : Nat → Prop} {n : Nat} (h : orI x P n) : (¬ x = 0 ∧ ∃ u : Nat, u < n ∧ P u) ∨ (x = 0 ∧ ¬ ∃ u : Nat, u < n ∧ P u) := h.elim (fun q => Or.inr ⟨q.1, orI_no h q.1⟩) (fun q => Or.inl q)
theorem thread_of {h g : qm_H} {a b r : Int} {A B C : Prop} (s : ∀ j : Nat, j < 49 → g 41 j = h 40 j) (h9 : (h 40 4).toInt ≤ 10) (ha : 0 ≤ a ∧ a < (h 40 4).toInt) (hb : 0 ≤ b ∧ b ≤ 2) (o : ((b = 0 → (r = (g 41 (6 + 3 * a.toNat)).toInt ∧ A)) ∧ (b = 1 → (r = (g 41 (7 + 3 * a.toNat)).toInt ∧ B)) ∧ (b = 2 → (r = (g 41 (8 + 3 * a.toNat)).toInt ∧ C)))) : qThread a b (mR h) = r := by
  have q : b = 0 ∨ b = 1 ∨ b = 2 := by omega
  obtain q | q | q := q
  · rw [show qThread a b (mR h) = _ from thread_0 ha q, (o.1 q).1, s _ (by omega)]
  · rw [show qThread a b (mR h) = _ from thread_1 ha q, (o.2.1 q).1, s _ (by omega)]
  · rw [show qThread a b (mR h) = _ from thread_2 ha q, (o.2.2 q).1, s _ (by omega)]
theorem ic_41 {h g : qm_H} {t : Nat} (s : ∀ j : Nat, j < 49 → g 41 j = h 40 j) (ht : t < 10) : icA (fun t => g 41 (6 + 3 * t)) (fun t => g 41 (7 + 3 * t)) (fun t => g 41 (8 + 3 * t)) t ↔ icA (fun t => h 40 (6 + 3 * t)) (fun t => h 40 (7 + 3 * t)) (fun t => h 40 (8 + 3 * t)) t := icA_eq (n := 10) (fun j q => ⟨s _ (by omega), s _ (by omega), s _ (by omega)⟩) ht
theorem thread_c {h g : qm_H} {a : Int} {x r : Int32} (s : ∀ j : Nat, j < 49 → g 41 j = h 40 j) (h9 : (h 40 4).toInt ≤ 10) (ha : 0 ≤ a ∧ a < (h 40 4).toInt) (o : (¬ x = 0 ∧ icA (fun t => g 41 (6 + 3 * t)) (fun t => g 41 (7 + 3 * t)) (fun t => g 41 (8 + 3 * t)) a.toNat) ∨ (x = 0 ∧ ¬ icA (fun t => g 41 (6 + 3 * t)) (fun t => g 41 (7 + 3 * t)) (fun t => g 41 (8 + 3 * t)) a.toNat)) (f : (x.toInt = 0 ∧ r.toInt = 0) ∨ (¬ x.toInt = 0 ∧ r.toInt = 1)) : (r.toInt = 1 ∧ icA (fun t => h 40 (6 + 3 * t)) (fun t => h 40 (7 + 3 * t)) (fun t => h 40 (8 + 3 * t)) a.toNat) ∨ (r.toInt = 0 ∧ ¬ icA (fun t => h 40 (6 + 3 * t)) (fun t => h 40 (7 + 3 * t)) (fun t => h 40 (8 + 3 * t)) a.toNat) := by
  rw [ic_41 s (by omega)] at o
  obtain q | q := o
  · have : ¬ x.toInt = 0 := fun w => q.1 (Int32.toInt_inj.mp w)
    exact Or.inl ⟨by omega, q.2⟩
  · have : x.toInt = 0 := by rw [q.1]; rfl
    exact Or.inr ⟨by omega, q.2⟩
/-! ===== sums ===== -/
noncomputable def sumI (f : Nat → Int) : Nat → Int
  | 0 => 0
  | n + 1 => sumI f n + f n
theorem sumI_s {f : Nat → Int} {n : Nat} : sumI f (n + 1) = sumI f n + f n := rfl
theorem sumI_eq {f g : Nat → Int} : ∀ {n : Nat}, (∀ j : Nat, j < n → f j = g j) → sumI f n = sumI g n
  | 0, _ => rfl
  | n + 1, h => by rw [sumI_s, sumI_s, sumI_eq (fun j q => h j (by omega)), h n (Nat.lt_succ_self _)]
/-! ===== what is owed ===== -/
noncomputable def wc (h : qm_H) : Prop := wfM (mC h)
noncomputable def wr (h : qm_H) : Prop := wfM (mR h)
noncomputable def owT (pl pa kn : Nat → Int32) (p d : Int) (t : Nat) : Int := ifP ((pa t).toInt = p ∧ (kn t).toInt % 10 ≤ d ∧ ¬ icA pl pa kn t) ((kn t).toInt / 10) 0
noncomputable def owS (pl pa kn : Nat → Int32) (p d : Int) : Nat → Int := sumI (owT pl pa kn p d)
theorem owT_rng {pl pa kn : Nat → Int32} {p d : Int} {t : Nat} (h : 0 ≤ (kn t).toInt ∧ (kn t).toInt ≤ 99) : 0 ≤ owT pl pa kn p d t ∧ owT pl pa kn p d t ≤ 9 := by
  by_cases q : (pa t).toInt = p ∧ (kn t).toInt % 10 ≤ d ∧ ¬ icA pl pa kn t
  · rw [show owT pl pa kn p d t = (kn t).toInt / 10 from ifP_t q]; omega
  · rw [show owT pl pa kn p d t = 0 from ifP_f q]; omega
theorem owS_rng {pl pa kn : Nat → Int32} {p d : Int} : ∀ {n : Nat}, (∀ j : Nat, j < n → 0 ≤ (kn j).toInt ∧ (kn j).toInt ≤ 99) → 0 ≤ owS pl pa kn p d n ∧ owS pl pa kn p d n ≤ 9 * (n : Int)
  | 0, _ => ⟨Int.le_refl _, Int.le_refl _⟩
  | n + 1, h => by
    have a := owS_rng (pl := pl) (pa := pa) (kn := kn) (p := p) (d := d) (n := n) (fun j q => h j (by omega))
    have b := owT_rng (pl := pl) (pa := pa) (p := p) (d := d) (h n (Nat.lt_succ_self _))
    show 0 ≤ owS pl pa kn p d n + owT pl pa kn p d n ∧ owS pl pa kn p d n + owT pl pa kn p d n ≤ 9 * ((n + 1 : Nat) : Int)
    omega
theorem owT_eq {pl pa kn pl2 pa2 kn2 : Nat → Int32} {p d : Int} {t n : Nat} (h : ∀ j : Nat, j < n → pl j = pl2 j ∧ pa j = pa2 j ∧ kn j = kn2 j) (ht : t < n) : owT pl pa kn p d t = owT pl2 pa2 kn2 p d t := by
  have e := icA_eq h ht
  by_cases q : (pa t).toInt = p ∧ (kn t).toInt % 10 ≤ d ∧ ¬ icA pl pa kn t
  · rw [show owT pl pa kn p d t = (kn t).toInt / 10 from ifP_t q]
    rw [(h t ht).2.1, (h t ht).2.2] at q
    rw [show owT pl2 pa2 kn2 p d t = (kn2 t).toInt / 10 from ifP_t ⟨q.1, q.2.1, fun z => q.2.2 (e.mpr z)⟩, (h t ht).2.2]
  · rw [show owT pl pa kn p d t = 0 from ifP_f q]
    rw [(h t ht).2.1, (h t ht).2.2] at q
    exact (ifP_f (fun z => q ⟨z.1, z.2.1, fun w => z.2.2 (e.mp w)⟩)).symm
theorem owS_eq {pl pa kn pl2 pa2 kn2 : Nat → Int32} {p d : Int} {n : Nat} (h : ∀ j : Nat, j < n → pl j = pl2 j ∧ pa j = pa2 j ∧ kn j = kn2 j) : owS pl pa kn p d n = owS pl2 pa2 kn2 p d n := sumI_eq (fun j q => owT_eq h q)
noncomputable def owM (M : Mem) (p d : Int) : Int := owS (plM M) (paM M) (knM M) p d (thM M).toInt.toNat
theorem owM_mk {cl th dy sn : Int32} {kd pl pa kn sp ss : Nat → Int32} {p d : Int} : owM (mkM cl th dy sn kd pl pa kn sp ss) p d = owS pl pa kn p d th.toInt.toNat := owS_eq (fun j q => ⟨msk_in (by have q : j < th.toInt.toNat := q; omega), msk_in (by have q : j < th.toInt.toNat := q; omega), msk_in (by have q : j < th.toInt.toNat := q; omega)⟩)
/-- the knots of a Memory that is well kept -/
theorem wf_kn {cl th dy sn : Int32} {kd pl pa kn sp ss : Nat → Int32} (h : wfM (mkM cl th dy sn kd pl pa kn sp ss)) : ∀ j : Nat, (j : Int) < th.toInt → 0 ≤ (kn j).toInt ∧ (kn j).toInt ≤ 99 := fun j q => by
  have := ((wf_raw h).2.2.1 j q).2.2
  omega
noncomputable def qOwed (a b : Int) (M : Mem) : Int := if ¬ ((0 ≤ a ∧ a / 10 < (clM M).toInt ∧ a % 10 < (clM M).toInt ∧ ¬ a / 10 = a % 10) ∧ 0 ≤ b ∧ b ≤ 1) then -1 else owM M a (if b = 0 then 9 else (dyM M).toInt)
theorem owed_no {a b : Int} {cl th dy sn : Int32} {kd pl pa kn sp ss : Nat → Int32} (h : ¬ ((0 ≤ a ∧ a / 10 < cl.toInt ∧ a % 10 < cl.toInt ∧ ¬ a / 10 = a % 10) ∧ 0 ≤ b ∧ b ≤ 1)) : qOwed a b (mkM cl th dy sn kd pl pa kn sp ss) = -1 := if_pos h
theorem owed_ok {a b d : Int} {cl th dy sn : Int32} {kd pl pa kn sp ss : Nat → Int32} (h : (0 ≤ a ∧ a / 10 < cl.toInt ∧ a % 10 < cl.toInt ∧ ¬ a / 10 = a % 10) ∧ 0 ≤ b ∧ b ≤ 1) (hd : (b = 0 ∧ d = 9) ∨ (¬ b = 0 ∧ d = dy.toInt)) : qOwed a b (mkM cl th dy sn kd pl pa kn sp ss) = owS pl pa kn a d th.toInt.toNat := by
  unfold qOwed
  rw [if_neg (fun z => z h), owM_mk]
  obtain q | q := hd
  · rw [if_pos q.1, q.2]
  · rw [if_neg q.1, q.2]; rfl
theorem wf_tr2 {M N : Mem} (h : wfM M) (e : N = M) : wfM N := e ▸ h
/-- the reference's sums by fours -/
noncomputable def owI (pl pa kn : Nat → Int32) (d : Int) (n : Nat) (f : Nat → Int32) : Prop := ∀ x y : Nat, x < 4 → y < 4 → (f (4 * x + y)).toInt = owS pl pa kn (10 * (x : Int) + (y : Int)) d n
theorem owI_0 {pl pa kn : Nat → Int32} {d m : Int} {f : Nat → Int32} {n : Nat} (h : owz f m) (hm : 16 ≤ m) (hn : n = 0) : owI pl pa kn d n f := fun x y hx hy => by
  rw [h (4 * x + y) (by omega), hn]; rfl
theorem owI_s {pl pa kn : Nat → Int32} {d : Int} {n ix : Nat} {f g : Nat → Int32} {v : Int32} (h : owI pl pa kn d n f) (hk : ∀ j : Nat, j < 10 → 0 ≤ (kn j).toInt ∧ (kn j).toInt ≤ 99) (hp : 0 ≤ (pa n).toInt ∧ (pa n).toInt / 10 ≤ 3 ∧ (pa n).toInt % 10 ≤ 3) (hn : n ≤ 9) (hx : (ix : Int) = 4 * ((pa n).toInt / 10) + (pa n).toInt % 10) (hv : v.toInt = owT pl pa kn (pa n).toInt d n) (e : g = upd f ix (f ix + v)) : owI pl pa kn d (n + 1) g := by
  intro x y h1 h2
  have a := h x y h1 h2
  rw [e]
  show _ = owS pl pa kn (10 * (x : Int) + (y : Int)) d n + owT pl pa kn (10 * (x : Int) + (y : Int)) d n
  by_cases q : 4 * x + y = ix
  · have ep : 10 * (x : Int) + (y : Int) = (pa n).toInt := by omega
    rw [q, upd_same]
    rw [q] at a
    have r1 := owS_rng (pl := pl) (pa := pa) (kn := kn) (p := 10 * (x : Int) + (y : Int)) (d := d) (n := n) (fun j w => hk j (by omega))
    have r2 := owT_rng (pl := pl) (pa := pa) (kn := kn) (p := (pa n).toInt) (d := d) (t := n) (hk n (by omega))
    have s := ti_add (f ix) v (by omega)
    rw [ep] at a r1 ⊢
    omega
  · rw [upd_ne q, a, show owT pl pa kn (10 * (x : Int) + (y : Int)) d n = 0 from ifP_f (fun w => by have w1 := w.1; omega), Int.add_zero]
theorem ow_41 {h g : qm_H} {p d : Int} {n : Nat} (s : ∀ j : Nat, j < 49 → g 41 j = h 40 j) (hn : n ≤ 10) : owS (fun t => g 41 (6 + 3 * t)) (fun t => g 41 (7 + 3 * t)) (fun t => g 41 (8 + 3 * t)) p d n = owS (fun t => h 40 (6 + 3 * t)) (fun t => h 40 (7 + 3 * t)) (fun t => h 40 (8 + 3 * t)) p d n := owS_eq (fun j q => ⟨s _ (by omega), s _ (by omega), s _ (by omega)⟩)
noncomputable def c20 : Nat → Int := fun _ => 20
/-! the reference's codes: which are rings, which ring each is -/
noncomputable def vR (cl : Int) (n c m : Nat) : Prop := ∀ i : Nat, i < m → ((dg n c i : Nat) : Int) < cl ∧ (0 < i → dg n c 0 < dg n c i) ∧ ∀ k : Nat, 0 < k → k < i → ¬ dg n c i = dg n c k
noncomputable def v4 (n c : Nat) : Bool := decide (∀ i : Nat, i < n → (0 < i → dg n c 0 < dg n c i) ∧ ∀ k : Nat, k < i → 0 < k → ¬ dg n c i = dg n c k)
