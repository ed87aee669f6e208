/-! ===== a thread is cut: those behind it move up ===== -/
noncomputable def shf (k t : Nat) (f : Nat → Int32) : Nat → Int32 := fun j => if k ≤ j ∧ j < t then f (j + 1) else f j
theorem shf_0 {k : Nat} {f : Nat → Int32} : shf k k f = f := by
  funext j
  exact if_neg (by omega)
theorem shf_s {k t : Nat} {f : Nat → Int32} (h : k ≤ t) : upd (shf k t f) t (shf k t f (t + 1)) = shf k (t + 1) f := by
  funext j
  show (if j = t then shf k t f (t + 1) else shf k t f j) = _
  unfold shf
  by_cases q : j = t
  · rw [if_pos q, if_neg (by omega), if_pos (by omega), q]
  · rw [if_neg q]
    by_cases w : k ≤ j ∧ j < t
    · rw [if_pos w, if_pos (by omega)]
    · rw [if_neg w, if_neg (by omega)]
noncomputable def ctI (k t : Nat) (h g : qm_H) : Prop := (g 1 = h 1 ∧ g 2 = h 2 ∧ g 6 = h 6 ∧ g 7 = h 7) ∧ g 3 = shf k t (h 3) ∧ g 4 = shf k t (h 4) ∧ g 5 = shf k t (h 5)
theorem ctI_0 {k : Nat} {h : qm_H} : ctI k k h h := ⟨⟨rfl, rfl, rfl, rfl⟩, shf_0.symm, shf_0.symm, shf_0.symm⟩
theorem ctI_s {k t : Nat} {h g g2 : qm_H} (c : ctI k t h g) (hk : k ≤ t) (r : g2 1 = g 1 ∧ g2 2 = g 2 ∧ g2 6 = g 6 ∧ g2 7 = g 7) (e3 : g2 3 = upd (g 3) t (g 3 (t + 1))) (e4 : g2 4 = upd (g 4) t (g 4 (t + 1))) (e5 : g2 5 = upd (g 5) t (g 5 (t + 1))) : ctI k (t + 1) h g2 := by
  obtain ⟨⟨a, b, d, e⟩, c3, c4, c5⟩ := c
  refine ⟨⟨r.1.trans a, r.2.1.trans b, r.2.2.1.trans d, r.2.2.2.trans e⟩, ?_, ?_, ?_⟩
  · rw [e3, c3]; exact shf_s hk
  · rw [e4, c4]; exact shf_s hk
  · rw [e5, c5]; exact shf_s hk
/-- the class's rows behind cutThread(k) of n + 1 threads -/
noncomputable def ctR (k n : Nat) (h g : qm_H) : Prop := ((g 1 6 = h 1 6 ∧ g 1 8 = h 1 8 ∧ g 1 9 = h 1 9) ∧ g 2 = h 2 ∧ g 6 = h 6 ∧ g 7 = h 7) ∧ g 3 = shf k n (h 3) ∧ g 4 = shf k n (h 4) ∧ g 5 = shf k n (h 5)
theorem ctR_mk {k n : Nat} {h g g2 : qm_H} {x : Int32} (c : ctI k n h g) (e1 : g2 1 = upd (g 1) 7 x) (r : g2 2 = g 2 ∧ g2 6 = g 6 ∧ g2 7 = g 7 ∧ g2 3 = g 3 ∧ g2 4 = g 4 ∧ g2 5 = g 5) : ctR k n h g2 := by
  obtain ⟨⟨a, b, d, e⟩, c3, c4, c5⟩ := c
  refine ⟨⟨⟨?_, ?_, ?_⟩, r.1.trans b, r.2.1.trans d, r.2.2.1.trans e⟩, r.2.2.2.1.trans c3, r.2.2.2.2.1.trans c4, r.2.2.2.2.2.trans c5⟩
  · rw [e1, a]; rfl
  · rw [e1, a]; rfl
  · rw [e1, a]; rfl
theorem rnk_ne {a : Int} (ha : 0 ≤ a) : ∀ {n : Nat}, rnk (fun u => decide (¬ (u : Int) = a)) n = if (n : Int) ≤ a then n else n - 1
  | 0 => by rw [if_pos (by omega)]; rfl
  | n + 1 => by
    have ih := rnk_ne (a := a) ha (n := n)
    by_cases q : (n : Int) = a
    · rw [rnk_f (by rw [decide_eq_true_iff]; omega), ih, if_pos (by omega), if_neg (by omega)]; omega
    · rw [rnk_t (decide_eq_true q), ih]
      by_cases w : (n : Int) ≤ a
      · rw [if_pos w, if_pos (by omega)]
      · rw [if_neg w, if_neg (by omega)]; omega
theorem shf_rnk {a : Int} {n u : Nat} {f : Nat → Int32} (ha : 0 ≤ a) (hu : u < n) (hp : decide (¬ (u : Int) = a) = true) : shf a.toNat (n - 1) f (rnk (fun u => decide (¬ (u : Int) = a)) u) = f u := by
  have hp := of_decide_eq_true hp
  rw [rnk_ne ha]
  unfold shf
  by_cases w : (u : Int) ≤ a
  · rw [if_pos w, if_neg (by omega)]
  · rw [if_neg w, if_pos (by omega), show u - 1 + 1 = u by omega]
theorem mC_mk {h g : qm_H} (r : (g 1 6 = h 1 6 ∧ g 1 8 = h 1 8 ∧ g 1 9 = h 1 9) ∧ g 2 = h 2 ∧ g 6 = h 6 ∧ g 7 = h 7) : mC g = mkM (h 1 6) (g 1 7) (h 1 8) (h 1 9) (h 2) (g 3) (g 4) (g 5) (h 6) (h 7) := by
  unfold mC
  rw [r.1.1, r.1.2.1, r.1.2.2, r.2.1, r.2.2.1, r.2.2.2]
theorem ct_sel {a : Int32} {h g : qm_H} (ha : 0 ≤ a.toInt ∧ a.toInt < (h 1 7).toInt) (ht : (h 1 7).toInt ≤ 10) (e7 : (g 1 7).toInt = (h 1 7).toInt - 1) (c : ctR a.toInt.toNat ((h 1 7).toInt - 1).toNat h g) : wSel (fun u => decide (¬ (u : Int) = a.toInt)) (mC h) = mC g := by
  rw [mC_mk c.1]
  refine wSel_mk ?_ (fun u hu hp => ?_) ht
  · rw [rnk_ne ha.1, if_neg (by omega)]; omega
  · have e : ((h 1 7).toInt - 1).toNat = (h 1 7).toInt.toNat - 1 := by omega
    rw [c.2.1, c.2.2.1, c.2.2.2, e]
    exact ⟨shf_rnk ha.1 hu hp, shf_rnk ha.1 hu hp, shf_rnk ha.1 hu hp⟩
/-! a hand is lost: from the last thread on -/
noncomputable def lsI (p : Nat → Bool) (n t : Nat) (m : Int) (f g : Nat → Int32) : Prop := m = (t : Int) + (rnk p n : Int) - (rnk p t : Int) ∧ (∀ j : Nat, j < t → g j = f j) ∧ ∀ u : Nat, t ≤ u → u < n → p u = true → g (t + (rnk p u - rnk p t)) = f u
theorem lsI_0 {p : Nat → Bool} {n : Nat} {m : Int} {f : Nat → Int32} (hm : m = (n : Int)) : lsI p n n m f f := ⟨by omega, fun _ _ => rfl, fun u h1 h2 => by omega⟩
theorem lsI_k {p : Nat → Bool} {n t : Nat} {m : Int} {f g : Nat → Int32} (h : lsI p n (t + 1) m f g) (hp : p t = true) : lsI p n t m f g := by
  obtain ⟨h1, h2, h3⟩ := h
  rw [rnk_t hp] at h1 h3
  refine ⟨by omega, fun j hj => h2 j (by omega), fun u a b c => ?_⟩
  by_cases q : u = t
  · rw [q, Nat.sub_self]; exact h2 t (by omega)
  · have w := h3 u (by omega) b c
    have z := rnk_lt (show t < u by omega) hp
    rw [show t + (rnk p u - rnk p t) = t + 1 + (rnk p u - (rnk p t + 1)) by omega]
    exact w
theorem lsI_c {p : Nat → Bool} {n t : Nat} {m m2 : Int} {k : Nat} {f g g2 : Nat → Int32} (h : lsI p n (t + 1) m f g) (hp : ¬ p t = true) (hm : m2 = m - 1) (hk : (k : Int) = m - 1) (e : g2 = shf t k g) : lsI p n t m2 f g2 := by
  obtain ⟨h1, h2, h3⟩ := h
  rw [rnk_f hp] at h1 h3
  refine ⟨by omega, fun j hj => ?_, fun u a b c => ?_⟩
  · rw [e]
    unfold shf
    rw [if_neg (by omega)]
    exact h2 j (by omega)
  · have q : ¬ u = t := fun q => hp (q ▸ c)
    have w := h3 u (by omega) b c
    have z := rnk_lt b c
    have y := rnk_mono (p := p) (m := t) (n := u) a
    rw [e]
    unfold shf
    rw [if_pos (by omega), show t + (rnk p u - rnk p t) + 1 = t + 1 + (rnk p u - rnk p t) by omega]
    exact w
theorem lsI_m {p : Nat → Bool} {n t : Nat} {m : Int} {f g : Nat → Int32} (h : lsI p n t m f g) (ht : t ≤ n) : (t : Int) ≤ m := by
  have := rnk_mono (p := p) ht
  have := h.1
  omega
noncomputable def lsA (p : Nat → Bool) (n t : Nat) (h g : qm_H) : Prop := ((g 1 6 = h 1 6 ∧ g 1 8 = h 1 8 ∧ g 1 9 = h 1 9) ∧ g 2 = h 2 ∧ g 6 = h 6 ∧ g 7 = h 7) ∧ lsI p n t (g 1 7).toInt (h 3) (g 3) ∧ lsI p n t (g 1 7).toInt (h 4) (g 4) ∧ lsI p n t (g 1 7).toInt (h 5) (g 5)
theorem lsA_0 {p : Nat → Bool} {n : Nat} {h : qm_H} (hn : (h 1 7).toInt = (n : Int)) : lsA p n n h h := ⟨⟨⟨rfl, rfl, rfl⟩, rfl, rfl, rfl⟩, lsI_0 hn, lsI_0 hn, lsI_0 hn⟩
theorem lsA_k {p : Nat → Bool} {n t : Nat} {h g : qm_H} (c : lsA p n (t + 1) h g) (hp : p t = true) : lsA p n t h g := ⟨c.1, lsI_k c.2.1 hp, lsI_k c.2.2.1 hp, lsI_k c.2.2.2 hp⟩
theorem lsA_c {p : Nat → Bool} {n t k : Nat} {h g g2 : qm_H} (c : lsA p n (t + 1) h g) (hp : ¬ p t = true) (e7 : (g2 1 7).toInt = (g 1 7).toInt - 1) (hk : (k : Int) = (g 1 7).toInt - 1) (d : ctR t k g g2) : lsA p n t h g2 := by
  obtain ⟨⟨⟨d1, d2, d3⟩, d4, d5, d6⟩, d7, d8, d9⟩ := d
  obtain ⟨⟨⟨c1, c2, c3⟩, c4, c5, c6⟩, c7, c8, c9⟩ := c
  exact ⟨⟨⟨d1.trans c1, d2.trans c2, d3.trans c3⟩, d4.trans c4, d5.trans c5, d6.trans c6⟩, lsI_c c7 hp e7 hk d7, lsI_c c8 hp e7 hk d8, lsI_c c9 hp e7 hk d9⟩
theorem ls_sel {p q : Nat → Bool} {h g : qm_H} (hq : ∀ u : Nat, u < (h 1 7).toInt.toNat → q u = p u) (ht : (h 1 7).toInt ≤ 10) (c : lsA p (h 1 7).toInt.toNat 0 h g) : wSel q (mC h) = mC g := by
  rw [wSel_eq (M := mC h) (p := q) (q := p) hq, mC_mk c.1]
  refine wSel_mk ?_ (fun u hu hp => ?_) ht
  · have := c.2.1.1
    rw [show rnk p 0 = 0 from rfl] at this
    omega
  · have a := c.2.1.2.2 u (by omega) hu hp
    have b := c.2.2.1.2.2 u (by omega) hu hp
    have d := c.2.2.2.2.2 u (by omega) hu hp
    rw [show rnk p 0 = 0 from rfl, Nat.sub_zero, Nat.zero_add] at a b d
    exact ⟨a, b, d⟩
theorem onP_msk {h : qm_H} {c : Int} {u : Nat} (hu : u < (h 1 7).toInt.toNat) : onP (plM (mC h)) c u = onP (h 3) c u := by
  show decide (¬ (msk (h 1 7) (h 3) u / 10).toInt = c) = _
  rw [msk_in (by omega)]
  rfl
theorem onP_t {f : Nat → Int32} {c : Int} {u : Nat} (h : ¬ (f u / 10).toInt = c) : onP f c u = true := decide_eq_true h
theorem onP_f {f : Nat → Int32} {c : Int} {u : Nat} (h : (f u / 10).toInt = c) : ¬ onP f c u = true := fun q => of_decide_eq_true q h
