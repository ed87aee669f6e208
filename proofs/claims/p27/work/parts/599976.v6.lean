/-! ===== the reference's rows as a Memory ===== -/
theorem cnt_41 {f g : Nat → Int32} {x : Int} (s : ∀ j : Nat, j < 49 → g j = f j) (h : (f 4).toInt ≤ 10) : cntD g (g 4).toInt.toNat x = cntR (fun t => f (6 + 3 * t)) (f 4).toInt.toNat x := by
  rw [s 4 (by omega), cntD_R]
  exact cntR_eq (fun j q => s _ (by omega))
theorem mG_tie {c : Int32} {f g : Nat → Int32} {a b d m : Int32} {n : Nat} (hc : c.toInt ≤ 4) (hs : (f 36).toInt ≤ 6) (hn : n ≤ 9) (hm : m.toInt = (n : Int) + 1) (e : g = upd (upd (upd (upd f (6 + 3 * n) a) (7 + 3 * n) b) (8 + 3 * n) d) 4 m) : mG c g = mkM c m (f 5) (f 36) f (upd (fun t => f (6 + 3 * t)) n a) (upd (fun t => f (7 + 3 * t)) n b) (upd (fun t => f (8 + 3 * t)) n d) (fun i => f (37 + 2 * i)) (fun i => f (38 + 2 * i)) := by
  have o : ∀ j : Nat, ¬ j = 4 → ¬ j = 6 + 3 * n → ¬ j = 7 + 3 * n → ¬ j = 8 + 3 * n → g j = f j := fun j h1 h2 h3 h4 => by
    rw [e, upd_ne h1, upd_ne h4, upd_ne h3, upd_ne h2]
  have e4 : g 4 = m := by rw [e, upd_same]
  unfold mG
  rw [e4, o 5 (by omega) (by omega) (by omega) (by omega), o 36 (by omega) (by omega) (by omega) (by omega)]
  refine mkM_eq (fun j w => o j (by omega) (by omega) (by omega) (by omega)) (fun j w => ?_) (fun j w => ⟨o _ (by omega) (by omega) (by omega) (by omega), o _ (by omega) (by omega) (by omega) (by omega)⟩)
  by_cases q : j = n
  · subst q
    rw [upd_same, upd_same, upd_same]
    refine ⟨?_, ?_, ?_⟩
    · show g (6 + 3 * j) = a
      rw [e, upd_ne (by omega), upd_ne (by omega), upd_ne (by omega), upd_same]
    · show g (7 + 3 * j) = b
      rw [e, upd_ne (by omega), upd_ne (by omega), upd_same]
    · show g (8 + 3 * j) = d
      rw [e, upd_ne (by omega), upd_same]
  · rw [upd_ne q, upd_ne q, upd_ne q]
    exact ⟨o _ (by omega) (by omega) (by omega) (by omega), o _ (by omega) (by omega) (by omega) (by omega), o _ (by omega) (by omega) (by omega) (by omega)⟩
theorem mG_kind {c : Int32} {f : Nat → Int32} {b : Int32} {n : Nat} (hn : (n : Int) < c.toInt) (hc : c.toInt ≤ 4) : mG c (upd f n b) = mkM c (f 4) (f 5) (f 36) (upd f n b) (fun t => f (6 + 3 * t)) (fun t => f (7 + 3 * t)) (fun t => f (8 + 3 * t)) (fun i => f (37 + 2 * i)) (fun i => f (38 + 2 * i)) := by
  unfold mG
  rw [upd_ne (show ¬ 4 = n by omega), upd_ne (show ¬ 5 = n by omega), upd_ne (show ¬ 36 = n by omega)]
  exact mkM_eq (fun j w => rfl) (fun j w => ⟨upd_ne (by omega), upd_ne (by omega), upd_ne (by omega)⟩) (fun j w => ⟨upd_ne (by omega), upd_ne (by omega)⟩)
theorem mG_place {c : Int32} {f : Nat → Int32} {b : Int32} {n : Nat} (hn : (n : Int) < (f 4).toInt) (ht : (f 4).toInt ≤ 10) (hc : c.toInt ≤ 4) : mG c (upd f (6 + 3 * n) b) = mkM c (f 4) (f 5) (f 36) f (upd (fun t => f (6 + 3 * t)) n b) (fun t => f (7 + 3 * t)) (fun t => f (8 + 3 * t)) (fun i => f (37 + 2 * i)) (fun i => f (38 + 2 * i)) := by
  unfold mG
  rw [upd_ne (show ¬ 4 = 6 + 3 * n by omega), upd_ne (show ¬ 5 = 6 + 3 * n by omega), upd_ne (show ¬ 36 = 6 + 3 * n by omega)]
  refine mkM_eq (fun j w => upd_ne (by omega)) (fun j w => ⟨?_, upd_ne (by omega), upd_ne (by omega)⟩) (fun j w => ⟨upd_ne (by omega), upd_ne (by omega)⟩)
  by_cases q : j = n
  · subst q; rw [upd_same, upd_same]
  · rw [upd_ne q]; exact upd_ne (by omega)
theorem mG_day {c : Int32} {f : Nat → Int32} {b : Int32} (hc : c.toInt ≤ 4) : mG c (upd f 5 b) = mkM c (f 4) b (f 36) f (fun t => f (6 + 3 * t)) (fun t => f (7 + 3 * t)) (fun t => f (8 + 3 * t)) (fun i => f (37 + 2 * i)) (fun i => f (38 + 2 * i)) := by
  unfold mG
  rw [upd_ne (show ¬ 4 = 5 by omega), upd_same, upd_ne (show ¬ 36 = 5 by omega)]
  exact mkM_eq (fun j w => upd_ne (by omega)) (fun j w => ⟨upd_ne (by omega), upd_ne (by omega), upd_ne (by omega)⟩) (fun j w => ⟨upd_ne (by omega), upd_ne (by omega)⟩)
theorem mG_sn {c : Int32} {f : Nat → Int32} {b : Int32} (hc : c.toInt ≤ 4) (ht : (f 4).toInt ≤ 10) : mG c (upd f 36 b) = mkM c (f 4) (f 5) b f (fun t => f (6 + 3 * t)) (fun t => f (7 + 3 * t)) (fun t => f (8 + 3 * t)) (fun i => f (37 + 2 * i)) (fun i => f (38 + 2 * i)) := by
  unfold mG
  rw [upd_ne (show ¬ 4 = 36 by omega), upd_ne (show ¬ 5 = 36 by omega), upd_same]
  exact mkM_eq (fun j w => upd_ne (by omega)) (fun j w => ⟨upd_ne (by omega), upd_ne (by omega), upd_ne (by omega)⟩) (fun j w => ⟨upd_ne (by omega), upd_ne (by omega)⟩)
theorem mG_see {c : Int32} {f g : Nat → Int32} {a b m : Int32} {n : Nat} (hc : c.toInt ≤ 4) (ht : (f 4).toInt ≤ 10) (hn : n ≤ 5) (hm : m.toInt = (n : Int) + 1) (e : g = upd (upd (upd f (37 + 2 * n) a) (38 + 2 * n) b) 36 m) : mG c g = mkM c (f 4) (f 5) m f (fun t => f (6 + 3 * t)) (fun t => f (7 + 3 * t)) (fun t => f (8 + 3 * t)) (upd (fun i => f (37 + 2 * i)) n a) (upd (fun i => f (38 + 2 * i)) n b) := by
  have o : ∀ j : Nat, ¬ j = 36 → ¬ j = 37 + 2 * n → ¬ j = 38 + 2 * n → g j = f j := fun j h1 h2 h3 => by
    rw [e, upd_ne h1, upd_ne h3, upd_ne h2]
  have e6 : g 36 = m := by rw [e, upd_same]
  unfold mG
  rw [e6, o 4 (by omega) (by omega) (by omega), o 5 (by omega) (by omega) (by omega)]
  refine mkM_eq (fun j w => o j (by omega) (by omega) (by omega)) (fun j w => ⟨o _ (by omega) (by omega) (by omega), o _ (by omega) (by omega) (by omega), o _ (by omega) (by omega) (by omega)⟩) (fun j w => ?_)
  by_cases q : j = n
  · subst q
    rw [upd_same, upd_same]
    refine ⟨?_, ?_⟩
    · show g (37 + 2 * j) = a
      rw [e, upd_ne (by omega), upd_ne (by omega), upd_same]
    · show g (38 + 2 * j) = b
      rw [e, upd_ne (by omega), upd_same]
  · rw [upd_ne q, upd_ne q]
    exact ⟨o _ (by omega) (by omega) (by omega), o _ (by omega) (by omega) (by omega)⟩
theorem tieR_row {k f g : Nat → Int32} {a b c : Int32} (e : k = upd (upd (upd (upd g (6 + 3 * (g 4).toInt.toNat) a) (7 + 3 * (g 4).toInt.toNat) b) (8 + 3 * (g 4).toInt.toNat) c) (4 : Int32).toInt.toNat ((upd (upd (upd g (6 + 3 * (g 4).toInt.toNat) a) (7 + 3 * (g 4).toInt.toNat) b) (8 + 3 * (g 4).toInt.toNat) c) 4 + 1)) (w : g = f) : k = upd (upd (upd (upd f (6 + 3 * (f 4).toInt.toNat) a) (7 + 3 * (f 4).toInt.toNat) b) (8 + 3 * (f 4).toInt.toNat) c) 4 (f 4 + 1) := by
  subst w
  rw [e]
  have e4 : (upd (upd (upd g (6 + 3 * (g 4).toInt.toNat) a) (7 + 3 * (g 4).toInt.toNat) b) (8 + 3 * (g 4).toInt.toNat) c) 4 = g 4 := by
    rw [upd_ne (by omega), upd_ne (by omega), upd_ne (by omega)]
  rw [e4]
  rfl
theorem tieR_r {f g : Nat → Int32} {a b c : Int32} {n : Nat} {x : Int} (e : x = ((upd (upd (upd g (6 + 3 * n) a) (7 + 3 * n) b) (8 + 3 * n) c) (4 : Int32).toInt.toNat).toInt) (w : g = f) : x = (f 4).toInt := by
  subst w
  rw [e, show (4 : Int32).toInt.toNat = 4 from rfl, upd_ne (by omega), upd_ne (by omega), upd_ne (by omega)]
theorem tieR_m {h g : qm_H} {a b c : Int32} (e : g 40 = upd (upd (upd (upd (h 40) (6 + 3 * (h 40 4).toInt.toNat) a) (7 + 3 * (h 40 4).toInt.toNat) b) (8 + 3 * (h 40 4).toInt.toNat) c) 4 (h 40 4 + 1)) (e39 : g 39 = h 39) (hc : (h 39 3).toInt ≤ 4) (hs : (h 40 36).toInt ≤ 6) (h0 : 0 ≤ (h 40 4).toInt) (h9 : (h 40 4).toInt ≤ 9) : mR g = mkM (h 39 3) (h 40 4 + 1) (h 40 5) (h 40 36) (h 40) (upd (fun t => h 40 (6 + 3 * t)) (h 40 4).toInt.toNat a) (upd (fun t => h 40 (7 + 3 * t)) (h 40 4).toInt.toNat b) (upd (fun t => h 40 (8 + 3 * t)) (h 40 4).toInt.toNat c) (fun i => h 40 (37 + 2 * i)) (fun i => h 40 (38 + 2 * i)) := by
  unfold mR
  rw [e39]
  have e1 := ti_addK (h 40 4) (1 : Int32) 1 rfl (by omega)
  exact mG_tie hc hs (by omega) (by omega) e
theorem tieR_hi {h g : qm_H} {a b c x : Int32} {n : Nat} (e : g 40 = upd (upd (upd (upd (h 40) (6 + 3 * n) a) (7 + 3 * n) b) (8 + 3 * n) c) 4 x) (hn : n ≤ 9) : ∀ j : Nat, 49 ≤ j → (g 40) j = (h 40) j := fun j hj => by
  rw [e, upd_ne (by omega), upd_ne (by omega), upd_ne (by omega), upd_ne (by omega)]
theorem mR_row {h g : qm_H} {f : Nat → Int32} (e39 : g 39 = h 39) (e : g 40 = f) : mR g = mG (h 39 3) f := by
  unfold mR
  rw [e39, e]
theorem hi_upd {f g : Nat → Int32} {i : Nat} {x : Int32} (e : g = upd f i x) (hi : i < 49) : ∀ j : Nat, 49 ≤ j → g j = f j := fun j hj => by
  rw [e, upd_ne (by omega)]
theorem hi_set {f g k : Nat → Int32} (a : ∀ j : Nat, 49 ≤ j → g j = k j) (e : k = f) : ∀ j : Nat, 49 ≤ j → g j = f j := fun j hj => by
  rw [a j hj, e]
theorem see_row {f g : Nat → Int32} {a b : Int32} (h0 : 0 ≤ (f 36).toInt) (h1 : (f 36).toInt ≤ 5) (e : g = upd (upd (upd f (37 + (2 * (f 36))).toInt.toNat a) ((37 + (2 * ((upd f (37 + (2 * (f 36))).toInt.toNat a) 36))) + 1).toInt.toNat b) 36 (((upd (upd f (37 + (2 * (f 36))).toInt.toNat a) ((37 + (2 * ((upd f (37 + (2 * (f 36))).toInt.toNat a) 36))) + 1).toInt.toNat b) 36) + 1)) : g = upd (upd (upd f (37 + 2 * (f 36).toInt.toNat) a) (38 + 2 * (f 36).toInt.toNat) b) 36 (f 36 + 1) := by
  have ix := saw_ix h0 h1
  rw [see_eq h0 h1] at e
  rw [ix.1, ix.2] at e
  rw [e]
  have e4 : (upd (upd f (37 + 2 * (f 36).toInt.toNat) a) (38 + 2 * (f 36).toInt.toNat) b) 36 = f 36 := by
    rw [upd_ne (by omega), upd_ne (by omega)]
  rw [e4]
/-! the reference's cuts -/
noncomputable def bP (a : Int32) : Nat → Bool := fun u => decide ((a >>> (nI u &&& 31)) &&& 1 = 0)
noncomputable def cuR (p : Nat → Bool) (f g : Nat → Int32) : Prop := (g 4).toInt = (rnk p (f 4).toInt.toNat : Int) ∧ (∀ u : Nat, u < (f 4).toInt.toNat → p u = true → g (6 + 3 * rnk p u) = f (6 + 3 * u) ∧ g (7 + 3 * rnk p u) = f (7 + 3 * u) ∧ g (8 + 3 * rnk p u) = f (8 + 3 * u)) ∧ ∀ j : Nat, (j < 4 ∨ j = 5 ∨ 35 < j) → g j = f j
theorem cu_sel {p : Nat → Bool} {c : Int32} {f g : Nat → Int32} (hc : c.toInt ≤ 4) (ht : (f 4).toInt ≤ 10) (k : cuR p f g) : wSel p (mG c f) = mG c g := by
  obtain ⟨k1, k2, k3⟩ := k
  have e : mG c g = mkM c (g 4) (f 5) (f 36) f (fun t => g (6 + 3 * t)) (fun t => g (7 + 3 * t)) (fun t => g (8 + 3 * t)) (fun i => f (37 + 2 * i)) (fun i => f (38 + 2 * i)) := by
    unfold mG
    rw [k3 5 (by omega), k3 36 (by omega)]
    exact mkM_eq (fun j w => k3 j (by omega)) (fun j w => ⟨rfl, rfl, rfl⟩) (fun j w => ⟨k3 _ (by omega), k3 _ (by omega)⟩)
  rw [e]
  exact wSel_mk k1 k2 ht
/-- the loop of cuts -/
noncomputable def cuI (p : Nat → Bool) (t : Nat) (l : Int) (f g : Nat → Int32) : Prop := l = (rnk p t : Int) ∧ (∀ u : Nat, u < t → p u = true → g (6 + 3 * rnk p u) = f (6 + 3 * u) ∧ g (7 + 3 * rnk p u) = f (7 + 3 * u) ∧ g (8 + 3 * rnk p u) = f (8 + 3 * u)) ∧ ∀ j : Nat, (j < 6 ∨ 6 + 3 * t ≤ j) → g j = f j
theorem cuI_0 {p : Nat → Bool} {l : Int} {f : Nat → Int32} (hl : l = 0) : cuI p 0 l f f := ⟨hl, fun u h => absurd h (Nat.not_lt_zero _), fun _ _ => rfl⟩
theorem cuI_n {p : Nat → Bool} {t : Nat} {l : Int} {f g : Nat → Int32} (h : cuI p t l f g) (hp : ¬ p t = true) : cuI p (t + 1) l f g := by
  obtain ⟨h1, h2, h3⟩ := h
  refine ⟨by rw [rnk_f hp]; exact h1, fun u a b => ?_, fun j hj => h3 j (by omega)⟩
  have : ¬ u = t := fun e => hp (e ▸ b)
  exact h2 u (by omega) b
theorem cuI_y {p : Nat → Bool} {t k : Nat} {l l2 : Int} {f g g2 : Nat → Int32} {x y z : Int32} (h : cuI p t l f g) (hp : p t = true) (hk : (k : Int) = l) (h2 : l2 = l + 1) (hx : x = f (6 + 3 * t)) (hy : y = f (7 + 3 * t)) (hz : z = f (8 + 3 * t)) (e : g2 = upd (upd (upd g (6 + 3 * k) x) (7 + 3 * k) y) (8 + 3 * k) z) : cuI p (t + 1) l2 f g2 := by
  obtain ⟨h1, h3, h4⟩ := h
  have hr : k = rnk p t := by omega
  have hle := rnk_le (p := p) (n := t)
  have o : ∀ j : Nat, ¬ j = 6 + 3 * k → ¬ j = 7 + 3 * k → ¬ j = 8 + 3 * k → g2 j = g j := fun j a b c => by rw [e, upd_ne c, upd_ne b, upd_ne a]
  refine ⟨by rw [rnk_t hp]; omega, fun u a b => ?_, fun j hj => ?_⟩
  · by_cases q : u = t
    · subst q
      rw [← hr, ← hx, ← hy, ← hz]
      refine ⟨?_, ?_, ?_⟩
      · rw [e, upd_ne (by omega), upd_ne (by omega), upd_same]
      · rw [e, upd_ne (by omega), upd_same]
      · rw [e, upd_same]
    · have w := h3 u (by omega) b
      have v := rnk_lt (show u < t by omega) b
      rw [o _ (by omega) (by omega) (by omega), o _ (by omega) (by omega) (by omega), o _ (by omega) (by omega) (by omega)]
      exact w
  · rw [o j (by omega) (by omega) (by omega)]
    exact h4 j (by omega)
theorem cuR_mk {p : Nat → Bool} {t : Nat} {l : Int32} {f g g2 : Nat → Int32} (h : cuI p t l.toInt f g) (ht : (t : Int) = (f 4).toInt) (h10 : t ≤ 10) (e : g2 = upd g 4 l) : cuR p f g2 := by
  obtain ⟨h1, h2, h3⟩ := h
  have et : (f 4).toInt.toNat = t := by omega
  unfold cuR
  rw [et]
  refine ⟨by rw [e, upd_same]; exact h1, fun u a b => ?_, fun j hj => ?_⟩
  · rw [e, upd_ne (by omega), upd_ne (by omega), upd_ne (by omega)]; exact h2 u a b
  · rw [e, upd_ne (by omega)]; exact h3 j (by omega)
/-! bits -/
theorem and1 {y : BitVec 32} : (y &&& 1#32 = 0#32) ↔ y.getLsbD 0 = false := by
  constructor
  · intro h
    have e := congrArg (fun z : BitVec 32 => z.getLsbD 0) h
    simp at e
    simpa using e
  · intro h
    apply BitVec.eq_of_getLsbD_eq
    intro i hi
    rw [BitVec.getLsbD_and]
    by_cases q : i = 0
    · subst q; rw [h]; rfl
    · have : (1#32).getLsbD i = false := by
        rw [BitVec.getLsbD_one]
        simp [q]
      rw [this, Bool.and_false]
      simp
noncomputable def bi (x : Int32) (u : Nat) : Bool := x.toBitVec.getLsbD u
theorem and1_i {y : Int32} : (y &&& 1 = 0) ↔ y.toBitVec.getLsbD 0 = false := by
  rw [← and1]
  constructor
  · intro h; exact congrArg Int32.toBitVec h
  · intro h; exact Int32.toBitVec_inj.mp h
theorem bP_k (x : Int32) (u : Nat) (hu : u < 10) : ((x >>> (nI u &&& 31)) &&& 1 = 0) ↔ bi x u = false := by
  rw [and1_i]
  have key : (x >>> (nI u &&& 31)).toBitVec.getLsbD 0 = x.toBitVec.getLsbD u := by
    have h : u = 0 ∨ u = 1 ∨ u = 2 ∨ u = 3 ∨ u = 4 ∨ u = 5 ∨ u = 6 ∨ u = 7 ∨ u = 8 ∨ u = 9 := by omega
    obtain q | q | q | q | q | q | q | q | q | q := h
    all_goals
      subst q
    · show (x.toBitVec.sshiftRight 0).getLsbD 0 = _
      rw [BitVec.getLsbD_sshiftRight]; simp
    · show (x.toBitVec.sshiftRight 1).getLsbD 0 = _
      rw [BitVec.getLsbD_sshiftRight]; simp
    · show (x.toBitVec.sshiftRight 2).getLsbD 0 = _
      rw [BitVec.getLsbD_sshiftRight]; simp
    · show (x.toBitVec.sshiftRight 3).getLsbD 0 = _
      rw [BitVec.getLsbD_sshiftRight]; simp
    · show (x.toBitVec.sshiftRight 4).getLsbD 0 = _
      rw [BitVec.getLsbD_sshiftRight]; simp
    · show (x.toBitVec.sshiftRight 5).getLsbD 0 = _
      rw [BitVec.getLsbD_sshiftRight]; simp
    · show (x.toBitVec.sshiftRight 6).getLsbD 0 = _
      rw [BitVec.getLsbD_sshiftRight]; simp
    · show (x.toBitVec.sshiftRight 7).getLsbD 0 = _
      rw [BitVec.getLsbD_sshiftRight]; simp
    · show (x.toBitVec.sshiftRight 8).getLsbD 0 = _
      rw [BitVec.getLsbD_sshiftRight]; simp
    · show (x.toBitVec.sshiftRight 9).getLsbD 0 = _
      rw [BitVec.getLsbD_sshiftRight]; simp
  rw [key]
  exact Iff.rfl
theorem bP_i {x : Int32} {u : Nat} (hu : u < 10) : bP x u = !(bi x u) := by
  unfold bP
  cases h : bi x u
  · exact decide_eq_true ((bP_k x u hu).mpr h)
  · exact decide_eq_false (fun z => by rw [(bP_k x u hu).mp z] at h; exact Bool.noConfusion h)
theorem bi_or {x y : Int32} {u : Nat} : bi (x ||| y) u = (bi x u || bi y u) := by
  show (x.toBitVec ||| y.toBitVec).getLsbD u = _
  rw [BitVec.getLsbD_or]
  rfl
theorem bi_one : ∀ t : Fin 10, ∀ u : Fin 10, bi (1 <<< (nI t.val &&& 31)) u.val = decide (u.val = t.val) := by decide +kernel
theorem bi_zer : ∀ t : Fin 10, ∀ u : Fin 10, bi (0 <<< (nI t.val &&& 31)) u.val = false := by decide +kernel
theorem bi_0 {u : Nat} : bi 0 u = false := by
  show (0#32).getLsbD u = false
  simp
theorem see_hi {f g : Nat → Int32} {a b x : Int32} {n : Nat} (e : g = upd (upd (upd f (37 + 2 * n) a) (38 + 2 * n) b) 36 x) (hn : n ≤ 5) : ∀ j : Nat, 49 ≤ j → g j = f j := fun j hj => by
  rw [e, upd_ne (by omega), upd_ne (by omega), upd_ne (by omega)]
theorem bP_yes {a l : Int32} {n : Nat} (e : l = nI n) (h : (a >>> (l &&& 31)) &&& 1 = 0) : bP a n = true := decide_eq_true (by rw [← e]; exact h)
theorem bP_no {a l : Int32} {n : Nat} (e : l = nI n) (h : ¬ (a >>> (l &&& 31)) &&& 1 = 0) : ¬ bP a n = true := fun q => h (by have q := of_decide_eq_true q; rw [← e] at q; exact q)
noncomputable def cuE (k t : Nat) (f f0 : Nat → Int32) : Nat → Nat → Int32
  | 0 => f0
  | e + 1 => upd (cuE k t f f0 e) (6 + 3 * k + e) (f (6 + 3 * t + e))
noncomputable def cuX (p : Nat → Bool) (t : Nat) (l : Int) (e : Nat) (f g : Nat → Int32) : Prop := ∃ f0 : Nat → Int32, cuI p t l f f0 ∧ g = cuE l.toNat t f f0 e
theorem cuX_0 {p : Nat → Bool} {t : Nat} {l : Int} {e : Nat} {f g : Nat → Int32} (h : cuI p t l f g) (he : e = 0) : cuX p t l e f g := ⟨g, h, by rw [he]; rfl⟩
theorem cuE_rd {k t : Nat} {f f0 : Nat → Int32} (hk : k ≤ t) {d : Nat} : ∀ {e : Nat}, e ≤ d → d < 3 → cuE k t f f0 e (6 + 3 * t + d) = f0 (6 + 3 * t + d)
  | 0, _, _ => rfl
  | e + 1, h, h3 => by
    show upd (cuE k t f f0 e) (6 + 3 * k + e) (f (6 + 3 * t + e)) (6 + 3 * t + d) = _
    rw [upd_ne (by omega)]
    exact cuE_rd hk (by omega) h3
theorem cuX_s {p : Nat → Bool} {t : Nat} {l : Int} {e : Nat} {f g g2 : Nat → Int32} {x : Int32} (h : cuX p t l e f g) (he : e < 3) (hl : 0 ≤ l ∧ l ≤ (t : Int)) (ht : t ≤ 9) (hx : x = g (6 + 3 * t + e)) (hg : g2 = upd g (6 + 3 * l.toNat + e) x) : cuX p t l (e + 1) f g2 := by
  obtain ⟨f0, h1, h2⟩ := h
  refine ⟨f0, h1, ?_⟩
  have hr : x = f (6 + 3 * t + e) := by
    rw [hx, h2, cuE_rd (by omega) (Nat.le_refl _) he]
    exact h1.2.2 _ (by omega)
  rw [hg, hr, h2]
  rfl
theorem cuX_e {p : Nat → Bool} {t : Nat} {l l2 : Int} {e : Nat} {f g : Nat → Int32} (h : cuX p t l e f g) (he : e = 3) (hp : p t = true) (hl : 0 ≤ l) (h2 : l2 = l + 1) (ht : t ≤ 9) : cuI p (t + 1) l2 f g := by
  obtain ⟨f0, h1, hg⟩ := h
  subst he
  refine cuI_y (k := l.toNat) (x := f (6 + 3 * t + 0)) (y := f (6 + 3 * t + 1)) (z := f (6 + 3 * t + 2)) h1 hp (by omega) h2 rfl (by rw [show 7 + 3 * t = 6 + 3 * t + 1 by omega]) (by rw [show 8 + 3 * t = 6 + 3 * t + 2 by omega]) ?_
  rw [hg, show 7 + 3 * l.toNat = 6 + 3 * l.toNat + 1 by omega, show 8 + 3 * l.toNat = 6 + 3 * l.toNat + 2 by omega]
  rfl
theorem of3 {x e : Int} {g : Nat → Int32} {t : Nat} {A B C : Prop} (h : ((e = 0 → (x = (g (6 + 3 * t)).toInt ∧ A)) ∧ (e = 1 → (x = (g (7 + 3 * t)).toInt ∧ B)) ∧ (e = 2 → (x = (g (8 + 3 * t)).toInt ∧ C)))) (he : 0 ≤ e ∧ e ≤ 2) : x = (g (6 + 3 * t + e.toNat)).toInt := by
  have q : e = 0 ∨ e = 1 ∨ e = 2 := by omega
  obtain q | q | q := q
  · rw [(h.1 q).1, q]; rfl
  · rw [(h.2.1 q).1, q, show 7 + 3 * t = 6 + 3 * t + Int.toNat 1 from by rw [show Int.toNat 1 = 1 from rfl]; omega]
  · rw [(h.2.2 q).1, q, show 8 + 3 * t = 6 + 3 * t + Int.toNat 2 from by rw [show Int.toNat 2 = 2 from rfl]; omega]
/-- the threads of a hand, as bits -/
noncomputable def ohI (p : Nat → Bool) (n : Nat) (x : Int32) : Prop := (∀ u : Nat, u < n → bP x u = p u) ∧ ∀ u : Nat, n ≤ u → u < 10 → bP x u = true
theorem ohI_0 {p : Nat → Bool} : ohI p (0 : Int32).toInt.toNat 0 := ⟨fun u h => absurd h (Nat.not_lt_zero _), fun u _ h => by rw [bP_i h, bi_0]; rfl⟩
theorem ohI_y {f : Nat → Int32} {c : Int} {n : Nat} {x l : Int32} (h : ohI (onP f c) n x) (hl : l = nI n) (hn : n < 10) (hc : (f n / 10).toInt = c) : ohI (onP f c) (n + 1) (x ||| (1 <<< (l &&& 31))) := by
  have b : ∀ u : Nat, u < 10 → bi (1 <<< (l &&& 31)) u = decide (u = n) := fun u hu => by rw [hl]; exact bi_one ⟨n, hn⟩ ⟨u, hu⟩
  refine ⟨fun u hu => ?_, fun u h1 h2 => ?_⟩
  · rw [bP_i (by omega), bi_or, b u (by omega)]
    by_cases q : u = n
    · rw [q, decide_eq_true rfl, Bool.or_true]
      show (false : Bool) = _
      cases w : onP f c n
      · rfl
      · exact absurd w (onP_f hc)
    · have z := h.1 u (by omega)
      rw [bP_i (by omega)] at z
      rw [decide_eq_false q, Bool.or_false]
      exact z
  · have z := h.2 u (by omega) h2
    rw [bP_i h2] at z
    rw [bP_i h2, bi_or, b u h2, decide_eq_false (by omega), Bool.or_false]
    exact z
theorem ohI_n {f : Nat → Int32} {c : Int} {n : Nat} {x l : Int32} (h : ohI (onP f c) n x) (hl : l = nI n) (hn : n < 10) (hc : ¬ (f n / 10).toInt = c) : ohI (onP f c) (n + 1) (x ||| (0 <<< (l &&& 31))) := by
  have b : ∀ u : Nat, u < 10 → bi (0 <<< (l &&& 31)) u = false := fun u hu => by rw [hl]; exact bi_zer ⟨n, hn⟩ ⟨u, hu⟩
  refine ⟨fun u hu => ?_, fun u h1 h2 => ?_⟩
  · by_cases q : u = n
    · have z := h.2 u (by omega) (by omega)
      rw [bP_i (by omega)] at z
      rw [bP_i (by omega), bi_or, b u (by omega), Bool.or_false, z, q, onP_t hc]
    · have z := h.1 u (by omega)
      rw [bP_i (by omega)] at z
      rw [bP_i (by omega), bi_or, b u (by omega), Bool.or_false]
      exact z
  · have z := h.2 u (by omega) h2
    rw [bP_i h2] at z
    rw [bP_i h2, bi_or, b u h2, Bool.or_false]
    exact z
theorem bP_one {a : Int32} {u : Nat} (ha : 0 ≤ a.toInt ∧ a.toInt < 10) (hu : u < 10) : decide (¬ (u : Int) = a.toInt) = bP (1 <<< (a &&& 31)) u := by
  have e : a = nI a.toInt.toNat := nI_is (by omega) (by omega)
  have b := bi_one ⟨a.toInt.toNat, by omega⟩ ⟨u, hu⟩
  rw [bP_i hu, e, b]
  have e2 : (nI a.toInt.toNat).toInt = (a.toInt.toNat : Int) := nI_toInt (by omega)
  by_cases q : u = a.toInt.toNat
  · rw [decide_eq_false (show ¬ ¬ (u : Int) = (nI a.toInt.toNat).toInt from fun z => z (by omega))]
    show false = !decide (u = a.toInt.toNat)
    rw [decide_eq_true q]; rfl
  · rw [decide_eq_true (show ¬ (u : Int) = (nI a.toInt.toNat).toInt from by omega)]
    show true = !decide (u = a.toInt.toNat)
    rw [decide_eq_false q]; rfl
theorem on_eq {f g : Nat → Int32} {r : Int32} {c : Int} {u : Nat} (s : ∀ j : Nat, j < 49 → g j = f j) (b : ∀ u : Nat, u < (g 4).toInt.toNat → bP r u = onP (fun t => g (6 + 3 * t)) c u) (hu : u < (f 4).toInt.toNat) (ht : (f 4).toInt ≤ 10) : bP r u = onP (msk (f 4) (fun t => f (6 + 3 * t))) c u := by
  have e := b u (by rw [s 4 (by omega)]; exact hu)
  rw [e]
  show decide (¬ (g (6 + 3 * u) / 10).toInt = c) = decide (¬ (msk (f 4) (fun t => f (6 + 3 * t)) u / 10).toInt = c)
  rw [msk_in (by omega), s _ (by omega)]
/-- starts, cuts, settles -/
theorem cut_seq {h g3 : qm_H} {g1 g2 : qm_H} {p : Nat → Bool} (e39 : g3 39 = h 39) (s1 : ∀ j : Nat, j < 49 → g1 41 j = h 40 j) (c : cuR p (g1 41) (g2 41)) (s2 : ∀ j : Nat, j < 49 → (g3 40) j = (g2 41) j) (hc : (h 39 3).toInt ≤ 4) (ht : (h 40 4).toInt ≤ 10) (hs : (h 40 36).toInt ≤ 6) : wSel p (mR h) = mR g3 := by
  have a1 : mG (h 39 3) (g1 41) = mR h := mG_eq hc ht hs s1
  have hr := rnk_le (p := p) (n := (g1 41 4).toInt.toNat)
  have e4 := congrArg Int32.toInt (s1 4 (by omega))
  have e6 := congrArg Int32.toInt ((c.2.2 36 (by omega)).trans (s1 36 (by omega)))
  have k1 := c.1
  have a2 : mG (h 39 3) (g3 40) = mG (h 39 3) (g2 41) := mG_eq hc (by omega) (by omega) s2
  rw [← a1, cu_sel hc (by omega) c, ← a2]
  unfold mR
  rw [e39]
theorem cut_th {p : Nat → Bool} {h g : qm_H} (m : wSel p (mR h) = mR g) (ht : 0 ≤ (h 40 4).toInt ∧ (h 40 4).toInt ≤ 10) : 0 ≤ (g 40 4).toInt ∧ (g 40 4).toInt ≤ (h 40 4).toInt := by
  have e : nI (rnk p (h 40 4).toInt.toNat) = g 40 4 := congrArg thM m
  have hr := rnk_le (p := p) (n := (h 40 4).toInt.toNat)
  rw [← e, nI_toInt (by omega)]
  omega
/-- settles(): all of row 40 -/
theorem ty_170 (X : qm_X) (h : qm_H) (hp : sm h ∧ am h) (Q : qm_Q) (hq : ∀ h' : qm_H, (sm h' ∧ (∀ k, (k < 40 ∨ 40 < k) → h' k = h k) ∧ ((∀ j : Nat, j < 49 → (h' 40) j = (h 41) j) ∧ ∀ j : Nat, 49 ≤ j → (h' 40) j = (h 40) j)) → Q none h') : qm_PW X 170 [.ref 39] h Q := by
  refine qm_seg_ok (C := qc_170) (rt := none) rfl rfl (cuts := [(2, [0, 1])]) 400 _ _ _ _ ?_
  show qm_PA X 170 2 [(0, .ref 39), (1, .int 0)] [] h Q
  refine cp_170 X h Q (fun h' q => hq h' ⟨?_, fun k hk => q.1 k (by omega), q.2.1, fun j hj => q.2.2 j hj⟩) _ 0 h (by decide) (fun _ _ => rfl) (fun j hj => absurd hj (by have : (0 : Int32).toInt = 0 := rfl; omega)) (fun _ _ => rfl) (Nat.lt_succ_self _)
  refine sm_pk (pk_of (pk_am hp.2) (fun j hj => ?_)) (pk_of hp.1.2.2.1 (fun j hj => q.2.2 _ (by omega))) (pk_of hp.1.2.2.2 (fun j hj => q.2.2 _ (by omega)))
  rw [Nat.zero_add]
  exact q.2.1 j hj
