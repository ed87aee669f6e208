/-! ===== hands that are LOST ===== -/
noncomputable def kvF (pl pa kn : Nat → Int32) (t : Nat) (b : Int32) (u : Nat) : Prop := sdF pa kn t u ∧ bi b (pl u / 10).toInt.toNat = false
noncomputable def kwA (pl pa kn : Nat → Int32) (n t : Nat) (b : Int32) : Prop := ∃ u : Nat, u < n ∧ kvF pl pa kn t b u
noncomputable def rkA (pl pa kn : Nat → Int32) (n : Nat) (b : Int32) (t : Nat) : Prop := fsA pa kn t ∧ ¬ kwA pl pa kn n t b
noncomputable def eq3 (pl pa kn pl2 pa2 kn2 : Nat → Int32) (n : Nat) : Prop := ∀ j : Nat, j < n → pl j = pl2 j ∧ pa j = pa2 j ∧ kn j = kn2 j
theorem eq3_s {pl pa kn pl2 pa2 kn2 : Nat → Int32} {n : Nat} (h : eq3 pl pa kn pl2 pa2 kn2 n) : eq3 pl2 pa2 kn2 pl pa kn n := fun j q => ⟨(h j q).1.symm, (h j q).2.1.symm, (h j q).2.2.symm⟩
theorem kwA_1 {pl pa kn pl2 pa2 kn2 : Nat → Int32} {n t : Nat} {b : Int32} (h : eq3 pl pa kn pl2 pa2 kn2 n) (ht : t < n) (w : kwA pl pa kn n t b) : kwA pl2 pa2 kn2 n t b := by
  obtain ⟨u, hu, s, k⟩ := w
  have a := h t ht
  have c := h u hu
  refine ⟨u, hu, ?_, ?_⟩
  · unfold sdF at s ⊢
    rw [← a.2.1, ← a.2.2, ← c.2.1, ← c.2.2]
    exact s
  · rw [← c.1]
    exact k
theorem kwA_eq {pl pa kn pl2 pa2 kn2 : Nat → Int32} {n t : Nat} {b : Int32} (h : eq3 pl pa kn pl2 pa2 kn2 n) (ht : t < n) : kwA pl pa kn n t b ↔ kwA pl2 pa2 kn2 n t b := ⟨kwA_1 h ht, kwA_1 (eq3_s h) ht⟩
theorem rkA_eq {pl pa kn pl2 pa2 kn2 : Nat → Int32} {n t : Nat} {b : Int32} (h : eq3 pl pa kn pl2 pa2 kn2 n) (ht : t < n) : rkA pl pa kn n b t ↔ rkA pl2 pa2 kn2 n b t := by
  have a := fsA_eq (pa := pa) (kn := kn) (pa2 := pa2) (kn2 := kn2) (n := n) (fun j q => (h j q).2) ht
  have c := kwA_eq (b := b) h ht
  unfold rkA
  rw [a, c]
noncomputable def rkN (pl pa kn : Nat → Int32) (n c : Nat) : Int := cntP (rkA pl pa kn n (1 <<< (nI c &&& 31))) n
theorem rkN_eq {pl pa kn pl2 pa2 kn2 : Nat → Int32} {n c : Nat} (h : eq3 pl pa kn pl2 pa2 kn2 n) : rkN pl pa kn n c = rkN pl2 pa2 kn2 n c := cntP_eq (fun j q => rkA_eq h q)
theorem eq3_41 {h g : qm_H} {n : Nat} (s : ∀ j : Nat, j < 49 → g 41 j = h 40 j) (hn : n ≤ 10) : eq3 (fun t => g 41 (6 + 3 * t)) (fun t => g 41 (7 + 3 * t)) (fun t => g 41 (8 + 3 * t)) (fun t => h 40 (6 + 3 * t)) (fun t => h 40 (7 + 3 * t)) (fun t => h 40 (8 + 3 * t)) n := fun j q => ⟨s _ (by omega), s _ (by omega), s _ (by omega)⟩
theorem eq3_msk {pl pa kn : Nat → Int32} {th : Int32} : eq3 (msk th pl) (msk th pa) (msk th kn) pl pa kn th.toInt.toNat := fun j q => ⟨msk_in (by omega), msk_in (by omega), msk_in (by omega)⟩
/-! bits and hands -/
theorem hb_bi {b l : Int32} {k : Nat} (hl : l.toInt = (k : Int)) (hk : k < 10) : (hbQ b l → bi b k = true) ∧ (¬ hbQ b l → bi b k = false) := by
  have e : l = nI k := by
    have q := i32_nI (x := l) (by omega)
    rw [show l.toInt.toNat = k by omega] at q
    exact q
  have p := bP_k b k hk
  unfold hbQ
  rw [e]
  refine ⟨fun w => ?_, fun w => p.mp (Decidable.of_not_not w)⟩
  cases z : bi b k
  · exact absurd (p.mpr z) w
  · rfl
theorem sdF_refl {pa kn : Nat → Int32} {t : Nat} : sdF pa kn t t := ⟨rfl, rfl⟩
/-- the bits of the hands on which a debt is -/
noncomputable def hoQ (pl pa kn : Nat → Int32) (n t : Nat) (x : Int32) : Prop := ∀ c : Nat, c < 4 → (bi x c = true ↔ ∃ u : Nat, u < n ∧ sdF pa kn t u ∧ (pl u / 10).toInt.toNat = c)
theorem hoQ_0 {pl pa kn : Nat → Int32} {n t : Nat} (hn : n = 0) : hoQ pl pa kn n t 0 := fun c _ => by
  rw [bi_0]
  constructor
  · intro w; exact Bool.noConfusion w
  · rintro ⟨u, hu, _⟩; omega
theorem hoQ_s {pl pa kn : Nat → Int32} {n t : Nat} {x f l : Int32} (h : hoQ pl pa kn n t x) (hl : l.toInt = (pl n / 10).toInt) (h4 : 0 ≤ l.toInt ∧ l.toInt ≤ 3) (hf : (f.toInt = 1 ∧ sdF pa kn t n) ∨ (f.toInt = 0 ∧ ¬ sdF pa kn t n)) : hoQ pl pa kn (n + 1) t (x ||| (f <<< (l &&& 31))) := by
  have el := i32_nI h4.1
  intro c hc
  rw [bi_or, el]
  obtain q | q := hf
  · have ef : f = 1 := Int32.toInt_inj.mp (q.1.trans rfl)
    have b := bi_one ⟨l.toInt.toNat, by omega⟩ ⟨c, by omega⟩
    rw [ef, show bi (1 <<< (nI l.toInt.toNat &&& 31)) c = decide (c = l.toInt.toNat) from b]
    constructor
    · intro w
      obtain w | w := (Bool.or_eq_true _ _).mp w
      · obtain ⟨u, a, s, e⟩ := (h c hc).mp w
        exact ⟨u, by omega, s, e⟩
      · have w := of_decide_eq_true w
        exact ⟨n, by omega, q.2, by omega⟩
    · rintro ⟨u, a, s, e⟩
      refine (Bool.or_eq_true _ _).mpr ?_
      by_cases z : u = n
      · subst z
        exact Or.inr (decide_eq_true (by omega))
      · exact Or.inl ((h c hc).mpr ⟨u, by omega, s, e⟩)
  · have ef : f = 0 := Int32.toInt_inj.mp (q.1.trans rfl)
    have b := bi_zer ⟨l.toInt.toNat, by omega⟩ ⟨c, by omega⟩
    rw [ef, show bi (0 <<< (nI l.toInt.toNat &&& 31)) c = false from b, Bool.or_false]
    constructor
    · intro w
      obtain ⟨u, a, s, e⟩ := (h c hc).mp w
      exact ⟨u, by omega, s, e⟩
    · rintro ⟨u, a, s, e⟩
      by_cases z : u = n
      · subst z
        exact absurd s q.2
      · exact (h c hc).mpr ⟨u, by omega, s, e⟩
theorem ho_tab : ∀ k : Fin 16, ∀ c : Fin 4, (nI k.val = 1 <<< (nI c.val &&& 31)) ↔ (∀ d : Fin 4, bi (nI k.val) d.val = decide (d.val = c.val)) := by decide +kernel
theorem hn_tab : ∀ k : Fin 16, ∀ s : Fin 16, ((nI k.val &&& (nI s.val ^^^ (-1 : Int32))) = 0) ↔ (∀ d : Fin 4, bi (nI k.val) d.val = true → bi (nI s.val) d.val = true) := by decide +kernel
noncomputable def hdB (pl : Nat → Int32) (n : Nat) : Prop := ∀ u : Nat, u < n → 0 ≤ (pl u / 10).toInt ∧ (pl u / 10).toInt ≤ 3
theorem rk_iff {pl pa kn : Nat → Int32} {n t c : Nat} {x : Int32} (h : hoQ pl pa kn n t x) (hx : 0 ≤ x.toInt ∧ x.toInt ≤ 15) (ht : t < n) (hp : hdB pl n) (hc : c < 4) : (x = 1 <<< (nI c &&& 31)) ↔ ¬ kwA pl pa kn n t (1 <<< (nI c &&& 31)) := by
  have e := i32_nI hx.1
  have T : (x = 1 <<< (nI c &&& 31)) ↔ (∀ d : Fin 4, bi x d.val = decide (d.val = c)) := by
    have T := ho_tab ⟨x.toInt.toNat, by omega⟩ ⟨c, hc⟩
    have T : (nI x.toInt.toNat = 1 <<< (nI c &&& 31)) ↔ (∀ d : Fin 4, bi (nI x.toInt.toNat) d.val = decide (d.val = c)) := T
    rw [← e] at T
    exact T
  have one : ∀ d : Nat, d < 4 → bi (1 <<< (nI c &&& 31)) d = decide (d = c) := fun d hd => bi_one ⟨c, by omega⟩ ⟨d, by omega⟩
  constructor
  · rintro q ⟨u, hu, s, b⟩
    have p := hp u hu
    have w := (h _ (by omega)).mpr ⟨u, hu, s, rfl⟩
    rw [q, b] at w
    exact Bool.noConfusion w
  · intro w
    have on : ∀ u : Nat, u < n → sdF pa kn t u → (pl u / 10).toInt.toNat = c := fun u hu s => by
      have p := hp u hu
      by_cases z : (pl u / 10).toInt.toNat = c
      · exact z
      · exact absurd ⟨u, hu, s, by rw [one _ (by omega)]; exact decide_eq_false z⟩ w
    refine T.mpr (fun d => ?_)
    cases z : bi x d.val
    · by_cases y : d.val = c
      · have v := (h d.val d.isLt).mpr ⟨t, ht, sdF_refl, by rw [on t ht sdF_refl, y]⟩
        rw [z] at v
        exact Bool.noConfusion v
      · exact (decide_eq_false y).symm
    · obtain ⟨u, hu, s, v⟩ := (h d.val d.isLt).mp z
      exact (decide_eq_true (by rw [← v]; exact on u hu s)).symm
theorem kw_iff {pl pa kn : Nat → Int32} {n t : Nat} {x s : Int32} (h : hoQ pl pa kn n t x) (hx : 0 ≤ x.toInt ∧ x.toInt ≤ 15) (hs : 0 ≤ s.toInt ∧ s.toInt ≤ 15) (hp : hdB pl n) : ¬ (x &&& (s ^^^ (-1 : Int32))) = 0 ↔ kwA pl pa kn n t s := by
  have e := i32_nI hx.1
  have e2 := i32_nI hs.1
  have T : ((x &&& (s ^^^ (-1 : Int32))) = 0) ↔ (∀ d : Fin 4, bi x d.val = true → bi s d.val = true) := by
    have T := hn_tab ⟨x.toInt.toNat, by omega⟩ ⟨s.toInt.toNat, by omega⟩
    have T : ((nI x.toInt.toNat &&& (nI s.toInt.toNat ^^^ (-1 : Int32))) = 0) ↔ (∀ d : Fin 4, bi (nI x.toInt.toNat) d.val = true → bi (nI s.toInt.toNat) d.val = true) := T
    rw [← e, ← e2] at T
    exact T
  constructor
  · intro w
    refine Classical.byContradiction (fun z => w (T.mpr (fun d y => ?_)))
    obtain ⟨u, hu, q, v⟩ := (h d.val d.isLt).mp y
    cases k : bi s d.val
    · exact absurd ⟨u, hu, q, by rw [v]; exact k⟩ z
    · rfl
  · rintro ⟨u, hu, q, b⟩ z
    have p := hp u hu
    have y := T.mp z ⟨(pl u / 10).toInt.toNat, by omega⟩ ((h _ (by omega)).mpr ⟨u, hu, q, rfl⟩)
    rw [show bi s (pl u / 10).toInt.toNat = false from b] at y
    exact Bool.noConfusion y
/-! risk -/
noncomputable def qRisk (c : Int) (M : Mem) : Int := ifP (0 ≤ c ∧ c < (clM M).toInt) (rkN (plM M) (paM M) (knM M) (thM M).toInt.toNat c.toNat) (-1)
theorem risk_no {c : Int} {M : Mem} (h : ¬ (0 ≤ c ∧ c < (clM M).toInt)) : qRisk c M = -1 := ifP_f h
theorem risk_ok {c : Int} {cl th dy sn : Int32} {kd pl pa kn sp ss : Nat → Int32} (h : 0 ≤ c ∧ c < cl.toInt) : qRisk c (mkM cl th dy sn kd pl pa kn sp ss) = rkN pl pa kn th.toInt.toNat c.toNat := (ifP_t h).trans (rkN_eq eq3_msk)
theorem rk_sh {pl pa kn : Nat → Int32} {n k : Nat} {c : Int32} {r : Int} (hc : c.toInt = (k : Int)) (e : r = cntP (rkA pl pa kn n (1 <<< (c &&& 31))) n) : r = rkN pl pa kn n k := by
  have q := i32_nI (x := c) (by omega)
  rw [show c.toInt.toNat = k by omega] at q
  rw [e, q]
  rfl
/-- a truth that is held in a number: A, and P of all below n -/
noncomputable def acI (x : Int32) (A : Prop) (P : Nat → Prop) (n : Nat) : Prop := (¬ x = 0 ∧ A ∧ ∀ u : Nat, u < n → P u) ∨ (x = 0 ∧ ¬ (A ∧ ∀ u : Nat, u < n → P u))
theorem acI_1 {A : Prop} {P : Nat → Prop} {n : Nat} (hn : n = 0) (a : A) : acI 1 A P n := Or.inl ⟨by decide, a, fun u h => absurd h (by omega)⟩
theorem acI_0 {A : Prop} {P : Nat → Prop} {n : Nat} (a : ¬ A) : acI 0 A P n := Or.inr ⟨rfl, fun w => a w.1⟩
theorem acI_k {x : Int32} {A : Prop} {P : Nat → Prop} {n : Nat} (h : acI x A P n) (hx : x = 0) : acI 0 A P (n + 1) := by
  obtain q | q := h
  · exact absurd hx q.1
  · exact Or.inr ⟨rfl, fun w => q.2 ⟨w.1, fun u hu => w.2 u (by omega)⟩⟩
theorem acI_y {x : Int32} {A : Prop} {P : Nat → Prop} {n : Nat} (h : acI x A P n) (hx : ¬ x = 0) (hp : P n) : acI 1 A P (n + 1) := by
  obtain q | q := h
  · exact Or.inl ⟨by decide, q.2.1, fun u hu => if w : u < n then q.2.2 u w else by rw [show u = n by omega]; exact hp⟩
  · exact absurd q.1 hx
theorem acI_n {A : Prop} {P : Nat → Prop} {n : Nat} (hp : ¬ P n) : acI 0 A P (n + 1) := Or.inr ⟨rfl, fun w => hp (w.2 n (Nat.lt_succ_self _))⟩
theorem acI_t {x : Int32} {A : Prop} {P : Nat → Prop} {n : Nat} (h : acI x A P n) (hx : ¬ x = 0) : A ∧ ∀ u : Nat, u < n → P u := h.elim (fun q => q.2) (fun q => absurd q.1 hx)
theorem acI_f {x : Int32} {A : Prop} {P : Nat → Prop} {n : Nat} (h : acI x A P n) (hx : x = 0) : ¬ (A ∧ ∀ u : Nat, u < n → P u) := h.elim (fun q => absurd hx q.1) (fun q => q.2)
/-! spare -/
noncomputable def pbF (a : Int32) (i : Nat) : Int := ((a >>> (nI i &&& 31)) &&& 1).toInt
theorem pbF_rng {a : Int32} {i : Nat} : 0 ≤ pbF a i ∧ pbF a i ≤ 1 := by
  unfold pbF
  obtain q | q := an1 (y := a >>> (nI i &&& 31))
  · rw [q]; decide
  · rw [q]; decide
noncomputable def popI (a : Int32) : Int := sumI (pbF a) 10
theorem popI_rng {a : Int32} {n : Nat} : 0 ≤ sumI (pbF a) n ∧ sumI (pbF a) n ≤ 1 * (n : Int) := sumI_rng (fun j => pbF_rng) n
noncomputable def spK (pl pa kn : Nat → Int32) (n : Nat) (s : Int32) : Prop := ∀ t : Nat, t < n → kwA pl pa kn n t s
noncomputable def spB (P : Int32 → Prop) : Nat → Int32
  | 0 => 0
  | k + 1 => @ite _ (popI (spB P k) < popI (nI k) ∧ P (nI k)) (Classical.propDecidable _) (nI k) (spB P k)
theorem spB_t {P : Int32 → Prop} {k : Nat} (h : popI (spB P k) < popI (nI k) ∧ P (nI k)) : spB P (k + 1) = nI k := if_pos h
theorem spB_f {P : Int32 → Prop} {k : Nat} (h : ¬ (popI (spB P k) < popI (nI k) ∧ P (nI k))) : spB P (k + 1) = spB P k := if_neg h
theorem spB_1 {P : Int32 → Prop} : spB P 1 = 0 := spB_f (fun w => absurd w.1 (by show ¬ popI 0 < popI 0; omega))
theorem spB_eq {P Q : Int32 → Prop} (h : ∀ s : Int32, P s ↔ Q s) : ∀ {k : Nat}, spB P k = spB Q k
  | 0 => rfl
  | k + 1 => by
    have e := spB_eq h (k := k)
    by_cases w : popI (spB P k) < popI (nI k) ∧ P (nI k)
    · rw [spB_t w, spB_t (by rw [← e, ← h]; exact w)]
    · rw [spB_f w, spB_f (by rw [← e, ← h]; exact w), e]
theorem spK_eq {pl pa kn pl2 pa2 kn2 : Nat → Int32} {n : Nat} (h : eq3 pl pa kn pl2 pa2 kn2 n) (s : Int32) : spK pl pa kn n s ↔ spK pl2 pa2 kn2 n s := ⟨fun w t q => (kwA_eq h q).mp (w t q), fun w t q => (kwA_eq h q).mpr (w t q)⟩
noncomputable def qSpare (a : Int) (M : Mem) : Int := ifP (0 ≤ a ∧ a ≤ 1) (ifP (a = 0) (popI (spB (spK (plM M) (paM M) (knM M) (thM M).toInt.toNat) (1 <<< (clM M &&& 31)).toInt.toNat)) (spB (spK (plM M) (paM M) (knM M) (thM M).toInt.toNat) (1 <<< (clM M &&& 31)).toInt.toNat).toInt) (-1)
theorem spare_no {a : Int} {M : Mem} (h : ¬ (0 ≤ a ∧ a ≤ 1)) : qSpare a M = -1 := ifP_f h
theorem spare_ok {a r : Int} {x : Int32} {k : Nat} {cl th dy sn : Int32} {kd pl pa kn sp ss : Nat → Int32} (h : 0 ≤ a ∧ a ≤ 1) (hk : k = (1 <<< (cl &&& 31)).toInt.toNat) (e : x = spB (spK pl pa kn th.toInt.toNat) k) (hr : (a = 0 ∧ r = popI x) ∨ (¬ a = 0 ∧ r = x.toInt)) : r = qSpare a (mkM cl th dy sn kd pl pa kn sp ss) := by
  have q : spB (spK (msk th pl) (msk th pa) (msk th kn) th.toInt.toNat) (1 <<< (cl &&& 31)).toInt.toNat = x := by rw [e, hk]; exact spB_eq (fun s => spK_eq eq3_msk s)
  refine Eq.symm ((ifP_t h).trans ?_)
  show ifP (a = 0) (popI (spB (spK (msk th pl) (msk th pa) (msk th kn) th.toInt.toNat) (1 <<< (cl &&& 31)).toInt.toNat)) (spB (spK (msk th pl) (msk th pa) (msk th kn) th.toInt.toNat) (1 <<< (cl &&& 31)).toInt.toNat).toInt = r
  rw [q]
  obtain w | w := hr
  · rw [ifP_t w.1, w.2]
  · rw [ifP_f w.1, w.2]
/-- the first of a debt -/
theorem fs_ex {pa kn : Nat → Int32} : ∀ (m t : Nat), t ≤ m → ∃ f : Nat, f ≤ t ∧ fsA pa kn f ∧ sdF pa kn f t
  | 0, t, h => ⟨t, Nat.le_refl _, fun w => w.elim fun u z => by omega, sdF_refl⟩
  | m + 1, t, h => by
    by_cases w : fsA pa kn t
    · exact ⟨t, Nat.le_refl _, w, sdF_refl⟩
    · obtain ⟨u, hu, s⟩ := Classical.byContradiction w
      obtain ⟨f, a, b, c⟩ := fs_ex m u (by omega)
      unfold sdF at s c ⊢
      exact ⟨f, by omega, b, by omega, by omega⟩
theorem cntP_z {P : Nat → Prop} : ∀ {n : Nat}, cntP P n = 0 → ∀ j : Nat, j < n → ¬ P j
  | 0, _, j, q => absurd q (Nat.not_lt_zero _)
  | n + 1, h, j, q => by
    have a := cntP_rng (P := P) (n := n)
    by_cases w : P n
    · rw [cntP_t w] at h
      omega
    · rw [cntP_f w] at h
      by_cases z : j = n
      · rw [z]; exact w
      · exact cntP_z h j (by omega)
theorem cntP_o {P : Nat → Prop} : ∀ {n : Nat}, (∀ j : Nat, j < n → ¬ P j) → cntP P n = 0
  | 0, _ => rfl
  | n + 1, h => by rw [cntP_f (h n (Nat.lt_succ_self _)), cntP_o (fun j q => h j (by omega))]
theorem sp_iff {pl pa kn : Nat → Int32} {n : Nat} {s : Int32} : cntP (rkA pl pa kn n s) n = 0 ↔ spK pl pa kn n s := by
  constructor
  · intro h t ht
    obtain ⟨f, a, b, c⟩ := fs_ex (pa := pa) (kn := kn) t t (Nat.le_refl _)
    have z := cntP_z h f (by omega)
    have k : kwA pl pa kn n f s := Classical.byContradiction (fun w => z ⟨b, w⟩)
    obtain ⟨u, hu, q, v⟩ := k
    refine ⟨u, hu, ?_, v⟩
    unfold sdF at c q ⊢
    exact ⟨by omega, by omega⟩
  · intro h
    exact cntP_o (fun j q w => w.2 (h j q))
theorem kwA_0 {pl pa kn : Nat → Int32} {n t : Nat} (ht : t < n) : kwA pl pa kn n t 0 := ⟨t, ht, sdF_refl, bi_0⟩
/-- how many bits, as the machine counts them -/
noncomputable def bcF (a : Int32) : Int32 :=
  let i1 := a - ((((Int32.toUInt32 a) >>> ((Int32.toUInt32 1) &&& Int32.toUInt32 31)).toInt32) &&& 1431655765)
  let i2 := (i1 &&& 858993459) + ((((Int32.toUInt32 i1) >>> ((Int32.toUInt32 2) &&& Int32.toUInt32 31)).toInt32) &&& 858993459)
  let i3 := (i2 + (((Int32.toUInt32 i2) >>> ((Int32.toUInt32 4) &&& Int32.toUInt32 31)).toInt32)) &&& 252645135
  let i4 := i3 + (((Int32.toUInt32 i3) >>> ((Int32.toUInt32 8) &&& Int32.toUInt32 31)).toInt32)
  let i5 := i4 + (((Int32.toUInt32 i4) >>> ((Int32.toUInt32 16) &&& Int32.toUInt32 31)).toInt32)
  i5 &&& 63
theorem bc_tab : ∀ k : Fin 1024, (bcF (nI k.val)).toInt = popI (nI k.val) := by decide +kernel
theorem bc_pop {a : Int32} (h : 0 ≤ a.toInt ∧ a.toInt ≤ 1023) : (bcF a).toInt = popI a := by
  have e := i32_nI h.1
  have t := bc_tab ⟨a.toInt.toNat, by omega⟩
  have t : (bcF (nI a.toInt.toNat)).toInt = popI (nI a.toInt.toNat) := t
  rw [← e] at t
  exact t
theorem am_hd {h : qm_H} (a : am h) : hdB (fun t => h 41 (6 + 3 * t)) 10 := fun u hu => by
  have p := a.2.2.1 u hu
  have e := ti_div (10 : Int32) 10 rfl (h 41 (6 + 3 * u)) (by decide) (by omega)
  show 0 ≤ (h 41 (6 + 3 * u) / 10).toInt ∧ (h 41 (6 + 3 * u) / 10).toInt ≤ 3
  omega
theorem hdB_le {pl : Nat → Int32} {n m : Nat} (h : hdB pl n) (hm : m ≤ n) : hdB pl m := fun u hu => h u (by omega)
noncomputable def kwS (pl pa kn : Nat → Int32) (n : Nat) (s : Int32) (t : Nat) : Prop := kwA pl pa kn n t s
noncomputable def spR (P : Int32 → Prop) (m f : Int32) (k : Nat) : Prop := (k = 0 ∧ m.toInt = -1 ∧ f = 0) ∨ (1 ≤ k ∧ f = spB P k ∧ m.toInt = popI f ∧ 0 ≤ f.toInt ∧ f.toInt ≤ 15)
theorem spR_0 {P : Int32 → Prop} {m : Int32} {k : Nat} (hk : k = 0) (hm : m.toInt = -1) : spR P m 0 k := Or.inl ⟨hk, hm, rfl⟩
theorem spR_y {P : Int32 → Prop} {m f m2 s : Int32} {k : Nat} (h : spR P m f k) (hs : s = nI k) (hr : 0 ≤ s.toInt ∧ s.toInt ≤ 15) (a : m.toInt < popI s) (hp : P s) (hm : m2.toInt = popI s) : spR P m2 s (k + 1) := by
  refine Or.inr ⟨by omega, ?_, hm, hr⟩
  obtain ⟨h1, h2, h3⟩ | ⟨h1, h2, h3, h4⟩ := h
  · subst h1
    rw [spB_1, hs]
    rfl
  · rw [hs] at a hp ⊢
    exact (spB_t ⟨by rw [← h2, ← h3]; exact a, hp⟩).symm
theorem spR_n {P : Int32 → Prop} {m f s : Int32} {k : Nat} (h : spR P m f k) (hs : s = nI k) (h0 : P 0) (hn : ¬ (m.toInt < popI s ∧ P s)) : spR P m f (k + 1) := by
  obtain ⟨h1, h2, h3⟩ | ⟨h1, h2, h3, h4⟩ := h
  · subst h1
    have e : s = 0 := hs.trans rfl
    have z : popI (0 : Int32) = 0 := by decide
    rw [e] at hn
    exact absurd ⟨by omega, h0⟩ hn
  · rw [hs] at hn
    exact Or.inr ⟨by omega, h2.trans (spB_f (fun w => hn ⟨by rw [h3, h2]; exact w.1, w.2⟩)).symm, h3, h4⟩
theorem spR_e {P : Int32 → Prop} {m f : Int32} {k : Nat} (h : spR P m f k) (hk : 1 ≤ k) : f = spB P k ∧ m.toInt = popI f := by
  obtain ⟨h1, h2, h3⟩ | ⟨h1, h2, h3, h4⟩ := h
  · omega
  · exact ⟨h2, h3⟩
theorem spK_0 {pl pa kn : Nat → Int32} {n : Nat} : spK pl pa kn n 0 := fun t q => kwA_0 q
