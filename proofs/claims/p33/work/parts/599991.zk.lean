/-! ===== what was cut ===== -/
/-- an original of t that stays -/
noncomputable def ogF (pl pa kn : Nat → Int32) (c : Int32) (t u : Nat) : Prop := icF pl pa kn t u ∧ bP c u = true
noncomputable def ogA (pl pa kn : Nat → Int32) (c : Int32) (t : Nat) : Prop := ∃ u : Nat, u < t ∧ ogF pl pa kn c t u
noncomputable def owC (pl pa kn : Nat → Int32) (c : Int32) (p : Int) (t : Nat) : Prop := (pa t).toInt = p ∧ bP c t = true ∧ ¬ ogA pl pa kn c t
noncomputable def owZ (pl pa kn : Nat → Int32) (c : Int32) (p : Int) (t : Nat) : Int := ifP (owC pl pa kn c p t) ((kn t).toInt / 10) 0
noncomputable def owW (pl pa kn : Nat → Int32) (c : Int32) (p : Int) : Nat → Int := sumI (owZ pl pa kn c p)
theorem ogA_1 {pl pa kn pl2 pa2 kn2 : Nat → Int32} {n t : Nat} {c : Int32} (h : eq3 pl pa kn pl2 pa2 kn2 n) (ht : t < n) (w : ogA pl pa kn c t) : ogA pl2 pa2 kn2 c t := by
  obtain ⟨u, hu, a, b⟩ := w
  exact ⟨u, hu, (icF_eq h ht (by omega)).mp a, b⟩
theorem owC_1 {pl pa kn pl2 pa2 kn2 : Nat → Int32} {n t : Nat} {c : Int32} {p : Int} (h : eq3 pl pa kn pl2 pa2 kn2 n) (ht : t < n) (w : owC pl pa kn c p t) : owC pl2 pa2 kn2 c p t := ⟨by rw [← (h t ht).2.1]; exact w.1, w.2.1, fun z => w.2.2 (ogA_1 (eq3_s h) ht z)⟩
theorem owZ_eq {pl pa kn pl2 pa2 kn2 : Nat → Int32} {n t : Nat} {c : Int32} {p : Int} (h : eq3 pl pa kn pl2 pa2 kn2 n) (ht : t < n) : owZ pl pa kn c p t = owZ pl2 pa2 kn2 c p t := by
  unfold owZ
  by_cases w : owC pl pa kn c p t
  · rw [ifP_t w, ifP_t (owC_1 h ht w), (h t ht).2.2]
  · rw [ifP_f w, ifP_f (fun z => w (owC_1 (eq3_s h) ht z))]
theorem owW_eq {pl pa kn pl2 pa2 kn2 : Nat → Int32} {n : Nat} {c : Int32} {p : Int} (h : eq3 pl pa kn pl2 pa2 kn2 n) : owW pl pa kn c p n = owW pl2 pa2 kn2 c p n := sumI_eq (fun t q => owZ_eq h q)
theorem owZ_rng {pl pa kn : Nat → Int32} {c : Int32} {p : Int} {t : Nat} (h : 0 ≤ (kn t).toInt ∧ (kn t).toInt ≤ 99) : 0 ≤ owZ pl pa kn c p t ∧ owZ pl pa kn c p t ≤ 9 := by
  unfold owZ
  by_cases w : owC pl pa kn c p t
  · rw [ifP_t w]; omega
  · rw [ifP_f w]; omega
theorem owW_rng {pl pa kn : Nat → Int32} {c : Int32} {p : Int} {n : Nat} (h : ∀ j : Nat, j < n → 0 ≤ (kn j).toInt ∧ (kn j).toInt ≤ 99) : 0 ≤ owW pl pa kn c p n ∧ owW pl pa kn c p n ≤ 9 * (n : Int) := by
  have a := sumI_rg (f := owZ pl pa kn c p) (a := 0) (b := 9) (n := n) (fun j q => owZ_rng (h j q))
  rw [Int.zero_mul] at a
  exact a
/-- the reference's way: what is owed of the rows that stay -/
noncomputable def selQ (b : Nat → Bool) (pl pa kn pl2 pa2 kn2 : Nat → Int32) (n : Nat) : Prop := ∀ u : Nat, u < n → b u = true → pl2 (rnk b u) = pl u ∧ pa2 (rnk b u) = pa u ∧ kn2 (rnk b u) = kn u
theorem ic_sel {pl pa kn pl2 pa2 kn2 : Nat → Int32} {c : Int32} {n m : Nat} (h : selQ (bP c) pl pa kn pl2 pa2 kn2 n) (hm : m < n) (w : bP c m = true) : icA pl2 pa2 kn2 (rnk (bP c) m) ↔ ogA pl pa kn c m := by
  have e := h m hm w
  constructor
  · rintro ⟨j, hj, q⟩
    obtain ⟨u, hu, pu, ru⟩ := rnk_ex hj
    have eu := h u (by omega) pu
    refine ⟨u, hu, ?_, pu⟩
    unfold icF at q ⊢
    rw [← ru, e.1, e.2.1, e.2.2, eu.1, eu.2.1, eu.2.2] at q
    exact q
  · rintro ⟨u, hu, q, pu⟩
    have eu := h u (by omega) pu
    refine ⟨rnk (bP c) u, rnk_lt hu pu, ?_⟩
    unfold icF at q ⊢
    rw [e.1, e.2.1, e.2.2, eu.1, eu.2.1, eu.2.2]
    exact q
theorem mod_9 {x : Int} : x % 10 ≤ 9 := by omega
theorem owT_sel {pl pa kn pl2 pa2 kn2 : Nat → Int32} {c : Int32} {p : Int} {n m : Nat} (h : selQ (bP c) pl pa kn pl2 pa2 kn2 n) (hm : m < n) (w : bP c m = true) : owT pl2 pa2 kn2 p 9 (rnk (bP c) m) = owZ pl pa kn c p m := by
  have e := h m hm w
  have ic := ic_sel h hm w
  by_cases q : owC pl pa kn c p m
  · have a : owT pl2 pa2 kn2 p 9 (rnk (bP c) m) = (kn2 (rnk (bP c) m)).toInt / 10 := ifP_t ⟨by rw [e.2.1]; exact q.1, mod_9, fun z => q.2.2 (ic.mp z)⟩
    have b : owZ pl pa kn c p m = (kn m).toInt / 10 := ifP_t q
    rw [a, b, e.2.2]
  · have a : owT pl2 pa2 kn2 p 9 (rnk (bP c) m) = 0 := ifP_f (fun z => q ⟨by rw [← e.2.1]; exact z.1, w, fun y => z.2.2 (ic.mpr y)⟩)
    have b : owZ pl pa kn c p m = 0 := ifP_f q
    rw [a, b]
theorem owS_1 {pl pa kn : Nat → Int32} {p d : Int} {k : Nat} : owS pl pa kn p d (k + 1) = owS pl pa kn p d k + owT pl pa kn p d k := rfl
theorem owW_1 {pl pa kn : Nat → Int32} {c : Int32} {p : Int} {k : Nat} : owW pl pa kn c p (k + 1) = owW pl pa kn c p k + owZ pl pa kn c p k := rfl
theorem owZ_0 {pl pa kn : Nat → Int32} {c : Int32} {p : Int} {k : Nat} (w : ¬ bP c k = true) : owZ pl pa kn c p k = 0 := ifP_f (fun z => w z.2.1)
theorem owW_s0 {pl pa kn pl2 pa2 kn2 : Nat → Int32} {c : Int32} {p : Int} : owS pl2 pa2 kn2 p 9 (rnk (bP c) 0) = owW pl pa kn c p 0 := by
  rw [show rnk (bP c) 0 = 0 from rfl]
  exact (show owS pl2 pa2 kn2 p 9 0 = 0 from rfl).trans (show owW pl pa kn c p 0 = 0 from rfl).symm
theorem owW_s1 {pl pa kn pl2 pa2 kn2 : Nat → Int32} {c : Int32} {p : Int} {n m : Nat} (h : selQ (bP c) pl pa kn pl2 pa2 kn2 n) (hm : m < n) (ih : owS pl2 pa2 kn2 p 9 (rnk (bP c) m) = owW pl pa kn c p m) : owS pl2 pa2 kn2 p 9 (rnk (bP c) (m + 1)) = owW pl pa kn c p (m + 1) := by
  rw [owW_1]
  by_cases w : bP c m = true
  · rw [rnk_t w, owS_1, ih, owT_sel h hm w]
  · rw [rnk_f w, ih, owZ_0 w, Int.add_zero]
theorem owW_sel {pl pa kn pl2 pa2 kn2 : Nat → Int32} {c : Int32} {p : Int} {n : Nat} (h : selQ (bP c) pl pa kn pl2 pa2 kn2 n) (m : Nat) (hm : m ≤ n) : owS pl2 pa2 kn2 p 9 (rnk (bP c) m) = owW pl pa kn c p m := by
  induction m with
  | zero => exact owW_s0
  | succ m ih => exact owW_s1 h (by omega) (ih (by omega))
theorem bi_0all {x : Int32} : x = 0 ↔ ∀ i : Nat, i < 32 → bi x i = false := by
  constructor
  · intro h i _
    rw [h, bi_0]
  · intro h
    apply Int32.toBitVec_inj.mp
    apply BitVec.eq_of_getLsbD_eq
    intro i hi
    have a : x.toBitVec.getLsbD i = false := h i hi
    rw [a]
    show false = (0#32).getLsbD i
    simp
theorem bi_not {x : Int32} {i : Nat} (h : i < 32) : bi (x ^^^ (-1 : Int32)) i = !(bi x i) := by
  show (x.toBitVec ^^^ (-1 : Int32).toBitVec).getLsbD i = _
  have z : ∀ j : Fin 32, (-1 : Int32).toBitVec.getLsbD j.val = true := by decide
  rw [BitVec.getLsbD_xor, z ⟨i, h⟩, Bool.xor_true]
  rfl
theorem bi_one32 : ∀ t : Fin 10, ∀ u : Fin 32, bi (1 <<< (nI t.val &&& 31)) u.val = decide (u.val = t.val) := by decide +kernel
noncomputable def oiQ (pl pa kn : Nat → Int32) (t n : Nat) (x : Int32) : Prop := ∀ i : Nat, i < 32 → (bi x i = true ↔ i < n ∧ icF pl pa kn t i)
theorem oiQ_0 {pl pa kn : Nat → Int32} {t n : Nat} (hn : n = 0) : oiQ pl pa kn t n 0 := fun i _ => by
  rw [bi_0]
  constructor
  · intro w; exact Bool.noConfusion w
  · rintro ⟨w, _⟩; omega
theorem oiQ_y {pl pa kn : Nat → Int32} {t n : Nat} {x l : Int32} (h : oiQ pl pa kn t n x) (hl : l = nI n) (hn : n < 10) (hp : icF pl pa kn t n) : oiQ pl pa kn t (n + 1) (x ||| (1 <<< (l &&& 31))) := fun i hi => by
  have b : bi (1 <<< (nI n &&& 31)) i = decide (i = n) := bi_one32 ⟨n, hn⟩ ⟨i, hi⟩
  rw [bi_or, hl, b]
  constructor
  · intro w
    obtain w | w := (Bool.or_eq_true _ _).mp w
    · have z := (h i hi).mp w
      exact ⟨by omega, z.2⟩
    · have w := of_decide_eq_true w
      exact ⟨by omega, by rw [w]; exact hp⟩
  · rintro ⟨a, q⟩
    refine (Bool.or_eq_true _ _).mpr ?_
    by_cases z : i = n
    · exact Or.inr (decide_eq_true z)
    · exact Or.inl ((h i hi).mpr ⟨by omega, q⟩)
theorem oiQ_n {pl pa kn : Nat → Int32} {t n : Nat} {x : Int32} (h : oiQ pl pa kn t n x) (hp : ¬ icF pl pa kn t n) : oiQ pl pa kn t (n + 1) x := fun i hi => by
  constructor
  · intro w
    have z := (h i hi).mp w
    exact ⟨by omega, z.2⟩
  · rintro ⟨a, q⟩
    by_cases z : i = n
    · rw [z] at q; exact absurd q hp
    · exact (h i hi).mpr ⟨by omega, q⟩
theorem og_iff {pl pa kn : Nat → Int32} {t : Nat} {x c : Int32} (h : oiQ pl pa kn t t x) (ht : t < 10) : ((x &&& (c ^^^ (-1 : Int32))) = 0) ↔ ¬ ogA pl pa kn c t := by
  rw [bi_0all]
  constructor
  · rintro w ⟨u, hu, q, b⟩
    have z := w u (by omega)
    rw [bP_i (by omega)] at b
    rw [bi_and, bi_not (by omega), (h u (by omega)).mpr ⟨hu, q⟩, b] at z
    exact Bool.noConfusion z
  · intro w i hi
    rw [bi_and, bi_not hi]
    cases k : bi x i
    · rfl
    · have z := (h i hi).mp k
      cases b : bi c i
      · exact absurd ⟨i, z.1, z.2, by rw [bP_i (by omega), b]; rfl⟩ w
      · rfl
/-- all notes of a store -/
noncomputable def nqQ (h : qm_H) (f : Nat → Int32) (n : Nat) : Prop := ∀ t : Nat, t < n → oiQ (h 3) (h 4) (h 5) t t (f t)
theorem nqQ_s {h : qm_H} {f f2 : Nat → Int32} {n : Nat} {x : Int32} (k : nqQ h f n) (e : f2 = upd f n x) (q : oiQ (h 3) (h 4) (h 5) n n x) : nqQ h f2 (n + 1) := fun t ht => by
  by_cases z : t = n
  · rw [z, e, upd_same]; exact q
  · rw [e, upd_ne z]; exact k t (by omega)
/-! as SEEN -/
noncomputable def seQ (pl pa kn sp ss : Nat → Int32) (n : Nat) (c : Int32) (i : Nat) : Prop := owW pl pa kn c (sp i).toInt n = (ss i).toInt
noncomputable def seA (pl pa kn sp ss : Nat → Int32) (n m : Nat) (c : Int32) : Prop := ∀ i : Nat, i < m → seQ pl pa kn sp ss n c i
theorem seA_eq {pl pa kn sp ss pl2 pa2 kn2 sp2 ss2 : Nat → Int32} {n m : Nat} (h : eq3 pl pa kn pl2 pa2 kn2 n) (hs : ∀ i : Nat, i < m → sp i = sp2 i ∧ ss i = ss2 i) (c : Int32) : seA pl pa kn sp ss n m c ↔ seA pl2 pa2 kn2 sp2 ss2 n m c := by
  constructor
  · intro w i q
    have z := w i q
    unfold seQ at z ⊢
    rw [← (hs i q).1, ← (hs i q).2, ← owW_eq h]
    exact z
  · intro w i q
    have z := w i q
    unfold seQ at z ⊢
    rw [(hs i q).1, (hs i q).2, owW_eq h]
    exact z
/-! the sets that fit, by one pass -/
noncomputable def ffF (P : Int32 → Prop) (d : Int) : Nat → Int
  | 0 => d
  | k + 1 => ifP (P (nI k) ∧ cntP (fun j => P (nI j)) k = 0) (nI k).toInt (ffF P d k)
noncomputable def fxC {α : Type} (p : Prop) (a b : α) : α := @ite _ p (Classical.propDecidable _) a b
theorem fxC_t {α : Type} {p : Prop} {a b : α} (h : p) : fxC p a b = a := if_pos h
theorem fxC_f {α : Type} {p : Prop} {a b : α} (h : ¬ p) : fxC p a b = b := if_neg h
noncomputable def faF (P : Int32 → Prop) (a : Int32) : Nat → Int32
  | 0 => a
  | k + 1 => fxC (P (nI k)) (faF P a k &&& nI k) (faF P a k)
noncomputable def foF (P : Int32 → Prop) : Nat → Int32
  | 0 => 0
  | k + 1 => fxC (P (nI k)) (foF P k ||| nI k) (foF P k)
noncomputable def fmF (P : Int32 → Prop) (d : Int) : Nat → Int
  | 0 => d
  | k + 1 => ifP (P (nI k) ∧ popI (nI k) < fmF P d k) (popI (nI k)) (fmF P d k)
noncomputable def fnF (P : Int32 → Prop) (k : Nat) : Int := cntP (fun j => P (nI j)) k
/-- what the loop holds: how many, the least, in all, in any, the fewest -/
noncomputable def fyI (P : Int32 → Prop) (a : Int32) (d e : Int) (k : Nat) (n f : Int) (x y : Int32) (m : Int) : Prop := n = fnF P k ∧ f = ffF P d k ∧ x = faF P a k ∧ y = foF P k ∧ m = fmF P e k
theorem fyI_0 {P : Int32 → Prop} {a : Int32} {d e n f m : Int} {k : Nat} {x y : Int32} (hk : k = 0) (h1 : n = 0) (h2 : f = d) (h3 : x = a) (h4 : y = 0) (h5 : m = e) : fyI P a d e k n f x y m := by
  subst hk
  exact ⟨h1, h2, h3, h4, h5⟩
theorem fyI_n {P : Int32 → Prop} {a c : Int32} {d e n f m : Int} {k : Nat} {x y : Int32} (h : fyI P a d e k n f x y m) (hc : c = nI k) (hp : ¬ P c) : fyI P a d e (k + 1) n f x y m := by
  obtain ⟨h1, h2, h3, h4, h5⟩ := h
  rw [hc] at hp
  refine ⟨h1.trans (cntP_f (P := fun j => P (nI j)) hp).symm, h2.trans (ifP_f (fun w => hp w.1)).symm, h3.trans (fxC_f hp).symm, h4.trans (fxC_f hp).symm, h5.trans (ifP_f (fun w => hp w.1)).symm⟩
theorem fyI_y {P : Int32 → Prop} {a c : Int32} {d e n f m n2 f2 m2 : Int} {k : Nat} {x y x2 y2 : Int32} (h : fyI P a d e k n f x y m) (hc : c = nI k) (hp : P c) (e1 : n2 = n + 1) (e2 : (n = 0 ∧ f2 = c.toInt) ∨ (¬ n = 0 ∧ f2 = f)) (e3 : x2 = x &&& c) (e4 : y2 = y ||| c) (e5 : (popI c < m ∧ m2 = popI c) ∨ (¬ popI c < m ∧ m2 = m)) : fyI P a d e (k + 1) n2 f2 x2 y2 m2 := by
  obtain ⟨h1, h2, h3, h4, h5⟩ := h
  rw [hc] at hp e2 e3 e4 e5
  refine ⟨?_, ?_, ?_, ?_, ?_⟩
  · rw [e1, h1]
    exact (cntP_t (P := fun j => P (nI j)) hp).symm
  · obtain q | q := e2
    · rw [q.2]
      exact (ifP_t ⟨hp, by rw [← q.1]; exact h1.symm⟩).symm
    · rw [q.2, h2]
      exact (ifP_f (fun w => q.1 (by rw [h1]; exact w.2))).symm
  · rw [e3, h3]
    exact (fxC_t hp).symm
  · rw [e4, h4]
    exact (fxC_t hp).symm
  · obtain q | q := e5
    · rw [q.2]
      exact (ifP_t ⟨hp, by rw [← h5]; exact q.1⟩).symm
    · rw [q.2, h5]
      exact (ifP_f (fun w => q.1 (by rw [h5]; exact w.2))).symm
theorem ft_two {P : Int32 → Prop} (hb : ∀ j : Nat, j < 1024 → popI (nI j) ≤ 10) : ∀ {k : Nat}, k ≤ 1024 → (fnF P k = 0 ∧ fmF P 10 k = 10 ∧ fmF P 1000000 k = 1000000) ∨ (0 < fnF P k ∧ ffF P 0 k = ffF P (-4) k ∧ fmF P 10 k = fmF P 1000000 k ∧ fmF P 10 k ≤ 10)
  | 0, _ => Or.inl ⟨rfl, rfl, rfl⟩
  | k + 1, hk => by
    have ih := ft_two (P := P) hb (k := k) (by omega)
    have b := hb k (by omega)
    by_cases hp : P (nI k)
    · have e1 : fnF P (k + 1) = fnF P k + 1 := cntP_t (P := fun j => P (nI j)) hp
      have r := cntP_rng (P := fun j => P (nI j)) (n := k)
      have r : 0 ≤ fnF P k := r.1
      refine Or.inr ⟨by omega, ?_, ?_⟩
      · show ifP (P (nI k) ∧ fnF P k = 0) (nI k).toInt (ffF P 0 k) = ifP (P (nI k) ∧ fnF P k = 0) (nI k).toInt (ffF P (-4) k)
        obtain q | q := ih
        · rw [ifP_t ⟨hp, q.1⟩, ifP_t ⟨hp, q.1⟩]
        · rw [q.2.1]
      · show ifP (P (nI k) ∧ popI (nI k) < fmF P 10 k) (popI (nI k)) (fmF P 10 k) = ifP (P (nI k) ∧ popI (nI k) < fmF P 1000000 k) (popI (nI k)) (fmF P 1000000 k) ∧ ifP (P (nI k) ∧ popI (nI k) < fmF P 10 k) (popI (nI k)) (fmF P 10 k) ≤ 10
        obtain q | q := ih
        · rw [ifP_t (show P (nI k) ∧ popI (nI k) < fmF P 1000000 k from ⟨hp, by omega⟩)]
          by_cases z : popI (nI k) < fmF P 10 k
          · rw [ifP_t ⟨hp, z⟩]; exact ⟨rfl, b⟩
          · rw [ifP_f (fun w => z w.2)]; exact ⟨by omega, by omega⟩
        · rw [← q.2.2.1]
          by_cases z : popI (nI k) < fmF P 10 k
          · rw [ifP_t ⟨hp, z⟩]; exact ⟨rfl, b⟩
          · rw [ifP_f (fun w => z w.2)]; exact ⟨rfl, q.2.2.2⟩
    · have e1 : fnF P (k + 1) = fnF P k := cntP_f (P := fun j => P (nI j)) hp
      have e2 : ∀ d : Int, ffF P d (k + 1) = ffF P d k := fun d => ifP_f (fun w => hp w.1)
      have e3 : ∀ d : Int, fmF P d (k + 1) = fmF P d k := fun d => ifP_f (fun w => hp w.1)
      rw [e1, e2, e2, e3, e3]
      exact ih
/-! the question -/
noncomputable def fitQ (P : Int32 → Prop) (a : Int32) (w : Int) (k : Nat) : Int := ifP (w = 0) (fnF P k) (ifP (fnF P k = 0) (-4) (ifP (w = 1) (ffF P 0 k) (ifP (w = 2) (faF P a k).toInt (ifP (w = 3) (a &&& (foF P k ^^^ (-1 : Int32))).toInt (fmF P 10 k)))))
noncomputable def qFits (w : Int) (M : Mem) : Int := ifP (0 ≤ w ∧ w ≤ 4) (fitQ (seA (plM M) (paM M) (knM M) (spM M) (ssM M) (thM M).toInt.toNat (snM M).toInt.toNat) (drB0 (thM M)) w ((drB0 (thM M)).toInt.toNat + 1)) (-1)
theorem fn_eq {P Q : Int32 → Prop} (h : ∀ c : Int32, P c ↔ Q c) : P = Q := funext fun c => propext (h c)
theorem fits_no {w : Int} {M : Mem} (h : ¬ (0 ≤ w ∧ w ≤ 4)) : qFits w M = -1 := ifP_f h
theorem fits_ok {w : Int} {k : Nat} {cl th dy sn : Int32} {kd pl pa kn sp ss : Nat → Int32} (h : 0 ≤ w ∧ w ≤ 4) (hk : k = (drB0 th).toInt.toNat + 1) : qFits w (mkM cl th dy sn kd pl pa kn sp ss) = fitQ (seA pl pa kn sp ss th.toInt.toNat sn.toInt.toNat) (drB0 th) w k := by
  have e : seA (msk th pl) (msk th pa) (msk th kn) (msk sn sp) (msk sn ss) th.toInt.toNat sn.toInt.toNat = seA pl pa kn sp ss th.toInt.toNat sn.toInt.toNat := fn_eq (fun c => seA_eq eq3_msk (fun i q => ⟨msk_in (by omega), msk_in (by omega)⟩) c)
  refine (ifP_t h).trans ?_
  show fitQ (seA (msk th pl) (msk th pa) (msk th kn) (msk sn sp) (msk sn ss) th.toInt.toNat sn.toInt.toNat) (drB0 th) w ((drB0 th).toInt.toNat + 1) = _
  rw [e, hk]
theorem pop_10 : ∀ j : Nat, j < 1024 → popI (nI j) ≤ 10 := fun j _ => by
  have a := popI_rng (a := nI j) (n := 10)
  unfold popI
  omega
theorem ft_0 {P : Int32 → Prop} {a : Int32} {d e n f m w : Int} {k : Nat} {x y : Int32} (h : fyI P a d e k n f x y m) (hw : w = 0) : n = fitQ P a w k := h.1.trans (ifP_t hw).symm
theorem ft_4 {P : Int32 → Prop} {a : Int32} {d e n f m w : Int} {k : Nat} {x y : Int32} (h : fyI P a d e k n f x y m) (hw : ¬ w = 0) (hn : n = 0) : (-4 : Int) = fitQ P a w k := ((ifP_f hw).trans (ifP_t (by rw [← h.1]; exact hn))).symm
theorem ft_w {P : Int32 → Prop} {a : Int32} {d e n f m w r : Int} {k : Nat} {x y : Int32} (h : fyI P a d e k n f x y m) (hd : d = 0 ∨ d = -4) (he : e = 10 ∨ e = 1000000) (hk : k ≤ 1024) (hw : 1 ≤ w ∧ w ≤ 4) (hn : ¬ n = 0) (hr : (w = 1 ∧ r = f) ∨ (w = 2 ∧ r = x.toInt) ∨ (w = 3 ∧ r = (a &&& (y ^^^ (-1 : Int32))).toInt) ∨ (w = 4 ∧ r = m)) : r = fitQ P a w k := by
  obtain ⟨h1, h2, h3, h4, h5⟩ := h
  have t := (ft_two (P := P) pop_10 hk).resolve_left (fun q => hn (h1.trans q.1))
  have b : ¬ fnF P k = 0 := fun q => hn (h1.trans q)
  unfold fitQ
  rw [ifP_f (by omega), ifP_f b]
  obtain q | q | q | q := hr
  · rw [ifP_t q.1, q.2, h2]
    obtain z | z := hd
    · rw [z]
    · rw [z]; exact t.2.1.symm
  · rw [ifP_f (by omega), ifP_t q.1, q.2, h3]
  · rw [ifP_f (by omega), ifP_f (by omega), ifP_t q.1, q.2, h4]
  · rw [ifP_f (by omega), ifP_f (by omega), ifP_f (by omega), q.2, h5]
    obtain z | z := he
    · rw [z]
    · rw [z]; exact t.2.2.1.symm
theorem nqQ_h {h g : qm_H} {f : Nat → Int32} {n m : Nat} (k : nqQ h f n) (w3 : g 3 = h 3) (w4 : g 4 = h 4) (w5 : g 5 = h 5) (hn : m = n) : nqQ g f m := fun t ht => by
  rw [w3, w4, w5]
  exact k t (by omega)
/-- the reference's sums behind its cuts -/
noncomputable def owJ (pl pa kn : Nat → Int32) (c : Int32) (n : Nat) (f : Nat → Int32) : Prop := ∀ x y : Nat, x < 4 → y < 4 → (f (4 * x + y)).toInt = owW pl pa kn c (10 * (x : Int) + (y : Int)) n
theorem iso_R {h g1 g2 : qm_H} {f : Nat → Int32} {c : Int32} (s1 : ∀ j : Nat, j < 49 → g1 41 j = h 40 j) (k : cuR (bP c) (g1 41) (g2 41)) (hn : 0 ≤ (h 40 4).toInt ∧ (h 40 4).toInt ≤ 10) (o : owI (fun t => (g2 41 (6 + 3 * t))) (fun t => (g2 41 (7 + 3 * t))) (fun t => (g2 41 (8 + 3 * t))) 9 (g2 41 4).toInt.toNat f) : owJ (fun t => h 40 (6 + 3 * t)) (fun t => h 40 (7 + 3 * t)) (fun t => h 40 (8 + 3 * t)) c (h 40 4).toInt.toNat f := fun x y hx hy => by
  have e4 : g1 41 4 = h 40 4 := s1 4 (by decide)
  obtain ⟨k1, k2, k3⟩ := k
  rw [e4] at k1 k2
  have en : (g2 41 4).toInt.toNat = rnk (bP c) (h 40 4).toInt.toNat := by omega
  rw [o x y hx hy, en]
  refine owW_sel (n := (h 40 4).toInt.toNat) (fun u hu pu => ?_) _ (Nat.le_refl _)
  have z := k2 u hu pu
  have b := rnk_le (p := bP c) (n := u)
  exact ⟨z.1.trans (s1 _ (by omega)), z.2.1.trans (s1 _ (by omega)), z.2.2.trans (s1 _ (by omega))⟩
theorem owJ_at {pl pa kn : Nat → Int32} {c : Int32} {n : Nat} {f : Nat → Int32} {p : Int} (h : owJ pl pa kn c n f) (hp : 0 ≤ p ∧ p / 10 ≤ 3 ∧ p % 10 ≤ 3) : (f (4 * (p / 10).toNat + (p % 10).toNat)).toInt = owW pl pa kn c p n := by
  have z := h (p / 10).toNat (p % 10).toNat (by omega) (by omega)
  rw [show 10 * (((p / 10).toNat : Nat) : Int) + (((p % 10).toNat : Nat) : Int) = p by omega] at z
  exact z
theorem fn_rng {P : Int32 → Prop} {k : Nat} : 0 ≤ fnF P k ∧ fnF P k ≤ 1 * (k : Int) := cntP_rng (P := fun j => P (nI j)) (n := k)
