/-! ===== images ===== -/
noncomputable def kmC (a : Int32) (h g : qm_H) : Prop := (a.toInt = 0 ∧ mC8 g = mC h ∧ mC15 g = mC15 h) ∨ (a.toInt = 1 ∧ mC15 g = mC h ∧ mC8 g = mC8 h) ∨ (¬ (0 ≤ a.toInt ∧ a.toInt ≤ 1) ∧ mC8 g = mC8 h ∧ mC15 g = mC15 h)
noncomputable def kmR (a : Int32) (h g : qm_H) : Prop := (a.toInt = 0 ∧ mR49 g = mR h ∧ mR98 g = mR98 h) ∨ (a.toInt = 1 ∧ mR98 g = mR h ∧ mR49 g = mR49 h) ∨ (¬ (0 ≤ a.toInt ∧ a.toInt ≤ 1) ∧ mR49 g = mR49 h ∧ mR98 g = mR98 h)
noncomputable def bkC (a : Int32) (r : Int) (h g : qm_H) : Prop := (¬ (0 ≤ a.toInt ∧ a.toInt ≤ 1) ∧ r = -1 ∧ mC g = mC h) ∨ ((0 ≤ a.toInt ∧ a.toInt ≤ 1) ∧ h 22 a.toInt.toNat = 0 ∧ r = -2 ∧ mC g = mC h) ∨ (a.toInt = 0 ∧ ¬ h 22 0 = 0 ∧ r = (thM (mC g)).toInt ∧ mC g = mC8 h) ∨ (a.toInt = 1 ∧ ¬ h 22 1 = 0 ∧ r = (thM (mC g)).toInt ∧ mC g = mC15 h)
noncomputable def bkR (a : Int32) (r : Int) (h g : qm_H) : Prop := (¬ (0 ≤ a.toInt ∧ a.toInt ≤ 1) ∧ r = -1 ∧ mR g = mR h) ∨ ((0 ≤ a.toInt ∧ a.toInt ≤ 1) ∧ h 42 a.toInt.toNat = 0 ∧ r = -2 ∧ mR g = mR h) ∨ (a.toInt = 0 ∧ ¬ h 42 0 = 0 ∧ r = (thM (mR g)).toInt ∧ mR g = mR49 h) ∨ (a.toInt = 1 ∧ ¬ h 42 1 = 0 ∧ r = (thM (mR g)).toInt ∧ mR g = mR98 h)
theorem mR49_to {h g : qm_H} (e39 : g 39 = h 39) (c : ∀ j : Nat, j < 49 → g 40 (49 + j) = h 40 j) (hc : (h 39 3).toInt ≤ 4) (ht : (h 40 4).toInt ≤ 10) (hs : (h 40 36).toInt ≤ 6) : mR49 g = mR h := by
  unfold mR49 mR
  rw [e39]
  exact mG_eq hc ht hs c
theorem mR98_to {h g : qm_H} (e39 : g 39 = h 39) (c : ∀ j : Nat, j < 49 → g 40 (98 + j) = h 40 j) (hc : (h 39 3).toInt ≤ 4) (ht : (h 40 4).toInt ≤ 10) (hs : (h 40 36).toInt ≤ 6) : mR98 g = mR h := by
  unfold mR98 mR
  rw [e39]
  exact mG_eq hc ht hs c
theorem mR_lo {h g : qm_H} (e39 : g 39 = h 39) (c : ∀ j : Nat, j < 49 → g 40 j = h 40 j) (hc : (h 39 3).toInt ≤ 4) (ht : (h 40 4).toInt ≤ 10) (hs : (h 40 36).toInt ≤ 6) : mR g = mR h := by
  unfold mR
  rw [e39]
  exact mG_eq hc ht hs c
theorem mR49_lo {h g : qm_H} (e39 : g 39 = h 39) (c : ∀ j : Nat, 49 ≤ j → j < 98 → g 40 j = h 40 j) (hc : (h 39 3).toInt ≤ 4) (hp : pk (h 40) 49) : mR49 g = mR49 h := by
  unfold mR49
  rw [e39]
  exact mG_eq hc hp.1.2 hp.2.1.2 (fun j hj => c _ (by omega) (by omega))
theorem mR98_lo {h g : qm_H} (e39 : g 39 = h 39) (c : ∀ j : Nat, 98 ≤ j → g 40 j = h 40 j) : mR98 g = mR98 h := by
  unfold mR98
  rw [e39, show (fun j => g 40 (98 + j)) = fun j => h 40 (98 + j) from funext fun j => c _ (by omega)]
theorem km_of {h g : qm_H} {a to fr : Int32} (e39 : g 39 = h 39) (c : (∀ j : Nat, j < 49 → (g 40) (to.toInt.toNat + j) = (h 40) (fr.toInt.toNat + j)) ∧ ∀ j : Nat, (j < to.toInt.toNat ∨ to.toInt.toNat + 49 ≤ j) → (g 40) j = (h 40) j) (ha : 0 ≤ a.toInt ∧ a.toInt ≤ 1) (et : to.toInt = 49 * (a.toInt + 1)) (ef : fr.toInt = 0) (hc : (h 39 3).toInt ≤ 4) (ht : (h 40 4).toInt ≤ 10) (hs : (h 40 36).toInt ≤ 6) (hp : pk (h 40) 49) : kmR a h g ∧ mR g = mR h := by
  have ef2 : fr.toInt.toNat = 0 := by omega
  rw [ef2] at c
  have lo : mR g = mR h := mR_lo e39 (fun j hj => c.2 j (by omega)) hc ht hs
  have q : a.toInt = 0 ∨ a.toInt = 1 := by omega
  obtain q | q := q
  · have et2 : to.toInt.toNat = 49 := by omega
    rw [et2] at c
    exact ⟨Or.inl ⟨q, mR49_to e39 (fun j hj => by rw [c.1 j hj, Nat.zero_add]) hc ht hs, mR98_lo e39 (fun j hj => c.2 j (by omega))⟩, lo⟩
  · have et2 : to.toInt.toNat = 98 := by omega
    rw [et2] at c
    exact ⟨Or.inr (Or.inl ⟨q, mR98_to e39 (fun j hj => by rw [c.1 j hj, Nat.zero_add]) hc ht hs, mR49_lo e39 (fun j h1 h2 => c.2 j (by omega)) hc hp⟩), lo⟩
theorem bk_of {h g : qm_H} {a to fr : Int32} (e39 : g 39 = h 39) (c : (∀ j : Nat, j < 49 → (g 40) (to.toInt.toNat + j) = (h 40) (fr.toInt.toNat + j)) ∧ ∀ j : Nat, (j < to.toInt.toNat ∨ to.toInt.toNat + 49 ≤ j) → (g 40) j = (h 40) j) (ha : 0 ≤ a.toInt ∧ a.toInt ≤ 1) (ef : fr.toInt = 49 * (a.toInt + 1)) (et : to.toInt = 0) (hc : (h 39 3).toInt ≤ 4) (hp : sm h) (hf : ¬ h 42 a.toInt.toNat = 0) : bkR a (g 40 4).toInt h g ∧ ∀ j : Nat, 49 ≤ j → (g 40) j = (h 40) j := by
  have et2 : to.toInt.toNat = 0 := by omega
  rw [et2] at c
  refine ⟨?_, fun j hj => c.2 j (by omega)⟩
  have q : a.toInt = 0 ∨ a.toInt = 1 := by omega
  obtain q | q := q
  · have ef2 : fr.toInt.toNat = 49 := by omega
    rw [ef2] at c
    refine Or.inr (Or.inr (Or.inl ⟨q, ?_, rfl, ?_⟩))
    · rw [show 0 = a.toInt.toNat by omega]; exact hf
    · unfold mR49 mR
      rw [e39]
      exact mG_eq hc hp.2.2.1.1.2 hp.2.2.1.2.1.2 (fun j hj => by rw [← c.1 j hj, Nat.zero_add])
  · have ef2 : fr.toInt.toNat = 98 := by omega
    rw [ef2] at c
    refine Or.inr (Or.inr (Or.inr ⟨q, ?_, rfl, ?_⟩))
    · rw [show 1 = a.toInt.toNat by omega]; exact hf
    · unfold mR98 mR
      rw [e39]
      exact mG_eq hc hp.2.2.2.1.2 hp.2.2.2.2.1.2 (fun j hj => by rw [← c.1 j hj, Nat.zero_add])
