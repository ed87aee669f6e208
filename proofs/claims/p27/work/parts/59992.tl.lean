/-- firstDraft(), and what it leaves -/
theorem tx_143 (X : qm_X) (h : qm_H) (hp : mi h ∧ sm h ∧ ((0 ≤ (h 39 10).toInt ∧ (h 39 10).toInt ≤ 160) ∧ (0 ≤ (h 39 14).toInt ∧ (h 39 14).toInt ≤ 7))) (Q : qm_Q) (hq : ∀ h' : qm_H, (mi h' ∧ pp h' ∧ dd h' ∧ dp h' ∧ sm h' ∧ (h' 39 3 = h 39 3) ∧ (∀ k, (k < 39 ∨ 43 < k ∨ k = 40 ∨ k = 41 ∨ k = 42) → h' k = h k) ∧ (((h' 39 14).toInt = (h 39 14).toInt) ∧ ((h' 39 10).toInt = (h 39 10).toInt) ∧ ((h' 39 9).toInt = (h 39 9).toInt) ∧ ((h' 39 15).toInt = (h 39 15).toInt) ∧ (h' 39 5).toInt = 0 ∧ (h' 39 6).toInt = 0 ∧ (h' 39 7).toInt = -4 ∧ (h' 43 4).toInt = 0 ∧ (h' 43 5).toInt = 0)) → Q none h') : qm_PW X 143 [.ref 39] h Q := by
  refine ex_143 X h Q (hq _ ⟨hp.1, ⟨by show 0 ≤ (0 : Int32).toInt ∧ (0 : Int32).toInt ≤ 4; decide, hp.2.2.1, hp.2.2.2⟩, ?_, ?_, hp.2.1, rfl, ?_, rfl, rfl, rfl, rfl, rfl, rfl, by show (-4 : Int32).toInt = -4; exact ti_n4, rfl, rfl⟩)
  · refine ⟨by show 0 ≤ (0 : Int32).toInt ∧ (0 : Int32).toInt ≤ 10; decide, by show 0 ≤ (0 : Int32).toInt ∧ (0 : Int32).toInt ≤ 0; decide, fun t ht => ?_, fun k hk => ?_, fun t ht => ?_⟩
    · show 0 ≤ (if 6 + 3 * t < 49 then (0 : Int32) else h 43 (6 + 3 * t)).toInt ∧ (if 6 + 3 * t < 49 then (0 : Int32) else h 43 (6 + 3 * t)).toInt ≤ 39
      rw [if_pos (by omega)]; decide
    · show pr (if 37 + 2 * k < 49 then (0 : Int32) else h 43 (37 + 2 * k))
      rw [if_pos (by omega)]; unfold pr; decide
    · show 0 ≤ (if 8 + 3 * t < 49 then (0 : Int32) else h 43 (8 + 3 * t)).toInt ∧ (if 8 + 3 * t < 49 then (0 : Int32) else h 43 (8 + 3 * t)).toInt ≤ 99
      rw [if_pos (by omega)]; decide
  · intro _ t ht
    show pr (if 7 + 3 * t < 49 then (0 : Int32) else h 43 (7 + 3 * t))
    rw [if_pos (by omega)]; unfold pr; decide
  · intro k hk
    unfold S143
    simp only [qm_row]
    rw [if_neg (by omega), if_neg (by omega)]
/-- keepDraft(): the fault's number stays -/
theorem tx_144 (X : qm_X) (h : qm_H) (hp : mi h ∧ pp h ∧ dd h ∧ dp h ∧ sm h ∧ (h 39 14).toInt = 0) (Q : qm_Q) (hq : ∀ h' : qm_H, (mi h' ∧ sm h' ∧ (∀ k, (k < 39 ∨ 42 < k) → h' k = h k) ∧ ((h' 39 9).toInt = (h 39 9).toInt ∧ (h' 39 14).toInt = (h 39 14).toInt ∧ h' 42 = upd (upd (h 42) 0 0) 1 0 ∧ mR h' = mG (h 39 5) (h 43))) → Q none h') : qm_PW X 144 [.ref 39] h Q := by
  obtain ⟨h1, h2, h3, h4, h5, hf⟩ := hp
  refine ex_144 X h Q (hq _ ⟨⟨h2.1, h1.2⟩, ?_, ?_, rfl, rfl, rfl, mG_eq (c := h 39 5) (f := h 43) (g := fun j => if j < 49 then h 43 j else h 40 j) h2.1.2 h3.1.2 (Int.le_trans h3.2.1.2 (by decide)) (fun j hj => if_pos hj)⟩)
  · have hk := pk_draft h3 h4 hf
    have key : ∀ o, o = 49 ∨ o = 98 → pk (h 40) o → pk ((S144 h) 40) o := by
      intro o ho hk
      refine pk_of hk (fun j hj => ?_)
      show (if o + j < 49 then h 43 (o + j) else h 40 (o + j)) = h 40 (o + j)
      rw [if_neg (by omega)]
    have k0 : pk ((S144 h) 40) 0 := pk_of hk (fun j hj => by
      show (if 0 + j < 49 then h 43 (0 + j) else h 40 (0 + j)) = h 43 (0 + j)
      rw [if_pos (by omega)])
    refine ⟨⟨?_, ?_⟩, k0, key 49 (Or.inl rfl) h5.2.2.1, key 98 (Or.inr rfl) h5.2.2.2⟩
    · exact h3.1
    · exact ⟨h3.2.1.1, Int.le_trans h3.2.1.2 (by decide)⟩
  · intro k hk
    unfold S144
    simp only [qm_row]
    rw [if_neg (by omega), if_neg (by omega), if_neg (by omega)]
/-- the images' flags behind a text -/
noncomputable def ikQ (fk : Int) (f g : Nat → Int32) : Prop := (fk = 0 ∧ g = upd (upd f 0 0) 1 0) ∨ (¬ fk = 0 ∧ g = f)
