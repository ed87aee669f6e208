/-! ===== hands that are LOST ===== -/
def kvF (pl pa kn : Nat → Int32) (t : Nat) (b : Int32) (u : Nat) : Prop := sdF pa kn t u ∧ bi b (pl u / 10).toInt.toNat = false
def kwA (pl pa kn : Nat → Int32) (n t : Nat) (b : Int32) : Prop := ∃ u : Nat, u < n ∧ kvF pl pa kn t b u
def rkA (pl pa kn : Nat → Int32) (n : Nat) (b : Int32) (t : Nat) : Prop := fsA pa kn t ∧ ¬ kwA pl pa kn n t b
def eq3 (pl pa kn pl2 pa2 kn2 : Nat → Int32) (n : Nat) : Prop := ∀ j : Nat, j < n → pl j = pl2 j ∧ pa j = pa2 j ∧ kn j = kn2 j
theorem eq3_s {pl pa kn pl2 pa2 kn2 : Nat → Int32} {n : Nat} (h : eq3 pl pa kn pl2 pa2 kn2 n) : eq3 pl2 pa2 kn2 pl pa kn n := fun j q => ⟨(h j q).1.symm, (h j q).2.1.symm, (h j q).2.2.symm⟩
theorem kwA_1 {pl pa kn pl2 pa2 kn2 : Nat → Int32} {n t : Nat} {b : Int32} (h : eq3 pl pa kn pl2 pa2 kn2 n) (ht : t < n) (w : kwA pl pa kn n t b) : kwA pl2 pa2 kn2 n t b := by
  obtain ⟨u, hu, s, k⟩ := w
  have a := h t ht
  have c := h u hu
  refine ⟨u, hu, ?_, ?_⟩
  · unfold sdF at s ⊢
    rw [← a.2.1, ← a.2.2, ← c.2.1, ← c.2.2]
    exact s
  · rw [← c.1]
    exact k
theorem kwA_eq {pl pa kn pl2 pa2 kn2 : Nat → Int32} {n t : Nat} {b : Int32} (h : eq3 pl pa kn pl2 pa2 kn2 n) (ht : t < n) : kwA pl pa kn n t b ↔ kwA pl2 pa2 kn2 n t b := ⟨kwA_1 h ht, kwA_1 (eq3_s h) ht⟩
theorem rkA_eq {pl pa kn pl2 pa2 kn2 : Nat → Int32} {n t : Nat} {b : Int32} (h : eq3 pl pa kn pl2 pa2 kn2 n) (ht : t < n) : rkA pl pa kn n b t ↔ rkA pl2 pa2 kn2 n b t := by
  have a := fsA_eq (pa := pa) (kn := kn) (pa2 := pa2) (kn2 := kn2) (n := n) (fun j q => (h j q).2) ht
  have c := kwA_eq (b := b) h ht
  unfold rkA
  rw [a, c]
noncomputable def rkN (pl pa kn : Nat → Int32) (n c : Nat) : Int := cntP (rkA pl pa kn n (1 <<< (nI c &&& 31))) n
theorem rkN_eq {pl pa kn pl2 pa2 kn2 : Nat → Int32} {n c : Nat} (h : eq3 pl pa kn pl2 pa2 kn2 n) : rkN pl pa kn n c = rkN pl2 pa2 kn2 n c := cntP_eq (fun j q => rkA_eq h q)
theorem eq3_41 {h g : qm_H} {n : Nat} (s : ∀ j : Nat, j < 49 → g 41 j = h 40 j) (hn : n ≤ 10) : eq3 (fun t => g 41 (6 + 3 * t)) (fun t => g 41 (7 + 3 * t)) (fun t => g 41 (8 + 3 * t)) (fun t => h 40 (6 + 3 * t)) (fun t => h 40 (7 + 3 * t)) (fun t => h 40 (8 + 3 * t)) n := fun j q => ⟨s _ (by omega), s _ (by omega), s _ (by omega)⟩
theorem eq3_msk {pl pa kn : Nat → Int32} {th : Int32} : eq3 (msk th pl) (msk th pa) (msk th kn) pl pa kn th.toInt.toNat := fun j q => ⟨msk_in (by omega), msk_in (by omega), msk_in (by omega)⟩
/-! bits and hands -/
theorem hb_bi {b l : Int32} {k : Nat} (hl : l.toInt = (k : Int)) (hk : k < 10) : (hbQ b l → bi b k = true) ∧ (¬ hbQ b l → bi b k = false) := by
  have e : l = nI k := by
    have q := i32_nI (x := l) (by omega)
    rw [show l.toInt.toNat = k by omega] at q
    exact q
  have p := bP_k b k hk
  unfold hbQ
  rw [e]
  refine ⟨fun w => ?_, fun w => p.mp (Decidable.of_not_not w)⟩
  cases z : bi b k
  · exact absurd (p.mpr z) w
  · rfl
theorem sdF_refl {pa kn : Nat → Int32} {t : Nat} : sdF pa kn t t := ⟨rfl, rfl⟩
/-- the bits of the hands on which a debt is -/
def hoQ (pl pa kn : Nat → Int32) (n t : Nat) (x : Int32) : Prop := ∀ c : Nat, c < 4 → (bi x c = true ↔ ∃ u : Nat, u < n ∧ sdF pa kn t u ∧ (pl u / 10).toInt.toNat = c)
theorem hoQ_0 {pl pa kn : Nat → Int32} {n t : Nat} (hn : n = 0) : hoQ pl pa kn n t 0 := fun c _ => by
  rw [bi_0]
  constructor
  · intro w; exact Bool.noConfusion w
  · rintro ⟨u, hu, _⟩; omega
theorem hoQ_s {pl pa kn : Nat → Int32} {n t : Nat} {x f l : Int32} (h : hoQ pl pa kn n t x) (hl : l.toInt = (pl n / 10).toInt) (h4 : 0 ≤ l.toInt ∧ l.toInt ≤ 3) (hf : (f.toInt = 1 ∧ sdF pa kn t n) ∨ (f.toInt = 0 ∧ ¬ sdF pa kn t n)) : hoQ pl pa kn (n + 1) t (x ||| (f <<< (l &&& 31))) := by
  have el := i32_nI h4.1
  intro c hc
  rw [bi_or, el]
  obtain q | q := hf
  · have ef : f = 1 := Int32.toInt_inj.mp (q.1.trans rfl)
    have b := bi_one ⟨l.toInt.toNat, by omega⟩ ⟨c, by omega⟩
    rw [ef, show bi (1 <<< (nI l.toInt.toNat &&& 31)) c = decide (c = l.toInt.toNat) from b]
    constructor
    · intro w
      obtain w | w := (Bool.or_eq_true _ _).mp w
      · obtain ⟨u, a, s, e⟩ := (h c hc).mp w
        exact ⟨u, by omega, s, e⟩
      · have w := of_decide_eq_true w
        exact ⟨n, by omega, q.2, by omega⟩
    · rintro ⟨u, a, s, e⟩
      refine (Bool.or_eq_true _ _).mpr ?_
      by_cases z : u = n
      · subst z
        exact Or.inr (decide_eq_true (by omega))
      · exact Or.inl ((h c hc).mpr ⟨u, by omega, s, e⟩)
  · have ef : f = 0 := Int32.toInt_inj.mp (q.1.trans rfl)
    have b := bi_zer ⟨l.toInt.toNat, by omega⟩ ⟨c, by omega⟩
    rw [ef, show bi (0 <<< (nI l.toInt.toNat &&& 31)) c = false from b, Bool.or_false]
    constructor
    · intro w
      obtain ⟨u, a, s, e⟩ := (h c hc).mp w
      exact ⟨u, by omega, s, e⟩
    · rintro ⟨u, a, s, e⟩
      by_cases z : u = n
      · subst z
        exact absurd s q.2
      · exact (h c hc).mpr ⟨u, by omega, s, e⟩
theorem ho_tab : ∀ k : Fin 16, ∀ c : Fin 4, (nI k.val = 1 <<< (nI c.val &&& 31)) ↔ (∀ d : Fin 4, bi (nI k.val) d.val = decide (d.val = c.val)) := by decide +kernel
def hdB (pl : Nat → Int32) (n : Nat) : Prop := ∀ u : Nat, u < n → 0 ≤ (pl u / 10).toInt ∧ (pl u / 10).toInt ≤ 3
theorem rk_iff {pl pa kn : Nat → Int32} {n t c : Nat} {x : Int32} (h : hoQ pl pa kn n t x) (hx : 0 ≤ x.toInt ∧ x.toInt ≤ 15) (ht : t < n) (hp : hdB pl n) (hc : c < 4) : (x = 1 <<< (nI c &&& 31)) ↔ ¬ kwA pl pa kn n t (1 <<< (nI c &&& 31)) := by
  have e := i32_nI hx.1
  have T : (x = 1 <<< (nI c &&& 31)) ↔ (∀ d : Fin 4, bi x d.val = decide (d.val = c)) := by
    have T := ho_tab ⟨x.toInt.toNat, by omega⟩ ⟨c, hc⟩
    have T : (nI x.toInt.toNat = 1 <<< (nI c &&& 31)) ↔ (∀ d : Fin 4, bi (nI x.toInt.toNat) d.val = decide (d.val = c)) := T
    rw [← e] at T
    exact T
  have one : ∀ d : Nat, d < 4 → bi (1 <<< (nI c &&& 31)) d = decide (d = c) := fun d hd => bi_one ⟨c, by omega⟩ ⟨d, by omega⟩
  constructor
  · rintro q ⟨u, hu, s, b⟩
    have p := hp u hu
    have w := (h _ (by omega)).mpr ⟨u, hu, s, rfl⟩
    rw [q, b] at w
    exact Bool.noConfusion w
  · intro w
    have on : ∀ u : Nat, u < n → sdF pa kn t u → (pl u / 10).toInt.toNat = c := fun u hu s => by
      have p := hp u hu
      by_cases z : (pl u / 10).toInt.toNat = c
      · exact z
      · exact absurd ⟨u, hu, s, by rw [one _ (by omega)]; exact decide_eq_false z⟩ w
    refine T.mpr (fun d => ?_)
    cases z : bi x d.val
    · by_cases y : d.val = c
      · have v := (h d.val d.isLt).mpr ⟨t, ht, sdF_refl, by rw [on t ht sdF_refl, y]⟩
        rw [z] at v
        exact Bool.noConfusion v
      · exact (decide_eq_false y).symm
    · obtain ⟨u, hu, s, v⟩ := (h d.val d.isLt).mp z
      exact (decide_eq_true (by rw [← v]; exact on u hu s)).symm
/-! risk -/
noncomputable def qRisk (c : Int) (M : Mem) : Int := ifP (0 ≤ c ∧ c < (clM M).toInt) (rkN (plM M) (paM M) (knM M) (thM M).toInt.toNat c.toNat) (-1)
theorem risk_no {c : Int} {M : Mem} (h : ¬ (0 ≤ c ∧ c < (clM M).toInt)) : qRisk c M = -1 := ifP_f h
theorem risk_ok {c : Int} {cl th dy sn : Int32} {kd pl pa kn sp ss : Nat → Int32} (h : 0 ≤ c ∧ c < cl.toInt) : qRisk c (mkM cl th dy sn kd pl pa kn sp ss) = rkN pl pa kn th.toInt.toNat c.toNat := (ifP_t h).trans (rkN_eq eq3_msk)
theorem rk_sh {pl pa kn : Nat → Int32} {n k : Nat} {c : Int32} {r : Int} (hc : c.toInt = (k : Int)) (e : r = cntP (rkA pl pa kn n (1 <<< (c &&& 31))) n) : r = rkN pl pa kn n k := by
  have q := i32_nI (x := c) (by omega)
  rw [show c.toInt.toNat = k by omega] at q
  rw [e, q]
  rfl
theorem am_hd {h : qm_H} (a : am h) : hdB (fun t => h 41 (6 + 3 * t)) 10 := fun u hu => by
  have p := a.2.2.1 u hu
  have e := ti_div (10 : Int32) 10 rfl (h 41 (6 + 3 * u)) (by decide) (by omega)
  show 0 ≤ (h 41 (6 + 3 * u) / 10).toInt ∧ (h 41 (6 + 3 * u) / 10).toInt ≤ 3
  omega
theorem hdB_le {pl : Nat → Int32} {n m : Nat} (h : hdB pl n) (hm : m ≤ n) : hdB pl m := fun u hu => h u (by omega)
