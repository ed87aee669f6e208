/-! a number looked at: its fault, the fault's place, the number -/
noncomputable def lkF (F so va lo hi : Int) : Int := if ¬ F = 0 then F else if ¬ so = 2 then 2 else if lo ≤ va ∧ va ≤ hi then 0 else 3
noncomputable def lkW (F W so va fr lo hi : Int) : Int := if ¬ F = 0 then W else if so = 2 ∧ lo ≤ va ∧ va ≤ hi then W else fr
noncomputable def lkR (F so va lo hi : Int) : Int := if F = 0 ∧ so = 2 ∧ lo ≤ va ∧ va ≤ hi then va else 0
noncomputable def lkQ (F W so va fr lo hi F1 W1 r : Int) : Prop := F1 = lkF F so va lo hi ∧ W1 = lkW F W so va fr lo hi ∧ r = lkR F so va lo hi
theorem lk_of {F W so va fr lo hi F1 W1 r : Int} (h : (¬ F = 0 ∧ F1 = F ∧ W1 = W ∧ r = 0) ∨ (F = 0 ∧ ¬ so = 2 ∧ F1 = 2 ∧ W1 = fr ∧ r = 0) ∨ (F = 0 ∧ so = 2 ∧ ¬ (lo ≤ va ∧ va ≤ hi) ∧ F1 = 3 ∧ W1 = fr ∧ r = 0) ∨ (F = 0 ∧ so = 2 ∧ (lo ≤ va ∧ va ≤ hi) ∧ F1 = 0 ∧ W1 = W ∧ r = va)) : lkQ F W so va fr lo hi F1 W1 r := by
  unfold lkQ lkF lkW lkR
  obtain q | q | q | q := h
  · rw [if_pos q.1, if_pos q.1, if_neg (fun z => q.1 z.1)]; exact ⟨q.2.1, q.2.2.1, q.2.2.2⟩
  · rw [if_neg (fun z => z q.1), if_pos q.2.1, if_neg (fun z => z q.1), if_neg (fun z => q.2.1 z.1), if_neg (fun z => q.2.1 z.2.1)]; exact q.2.2
  · rw [if_neg (fun z => z q.1), if_neg (fun z => z q.2.1), if_neg q.2.2.1, if_neg (fun z => z q.1), if_neg (fun z => q.2.2.1 z.2), if_neg (fun z => q.2.2.1 z.2.2)]; exact q.2.2.2
  · rw [if_neg (fun z => z q.1), if_neg (fun z => z q.2.1), if_pos q.2.2.1, if_neg (fun z => z q.1), if_pos ⟨q.2.1, q.2.2.1⟩, if_pos ⟨q.1, q.2.1, q.2.2.1⟩]; exact q.2.2.2
theorem lk_to {F W so va fr lo hi F1 W1 r : Int} (h : lkQ F W so va fr lo hi F1 W1 r) : (¬ F = 0 ∧ F1 = F ∧ W1 = W ∧ r = 0) ∨ (F = 0 ∧ ¬ so = 2 ∧ F1 = 2 ∧ W1 = fr ∧ r = 0) ∨ (F = 0 ∧ so = 2 ∧ ¬ (lo ≤ va ∧ va ≤ hi) ∧ F1 = 3 ∧ W1 = fr ∧ r = 0) ∨ (F = 0 ∧ so = 2 ∧ (lo ≤ va ∧ va ≤ hi) ∧ F1 = 0 ∧ W1 = W ∧ r = va) := by
  obtain ⟨h1, h2, h3⟩ := h
  unfold lkF at h1
  unfold lkW at h2
  unfold lkR at h3
  by_cases a : F = 0
  · by_cases b : so = 2
    · by_cases c : lo ≤ va ∧ va ≤ hi
      · rw [if_neg (fun z => z a), if_neg (fun z => z b), if_pos c] at h1
        rw [if_neg (fun z => z a), if_pos ⟨b, c⟩] at h2
        rw [if_pos ⟨a, b, c⟩] at h3
        exact Or.inr (Or.inr (Or.inr ⟨a, b, c, h1, h2, h3⟩))
      · rw [if_neg (fun z => z a), if_neg (fun z => z b), if_neg c] at h1
        rw [if_neg (fun z => z a), if_neg (fun z => c z.2)] at h2
        rw [if_neg (fun z => c z.2.2)] at h3
        exact Or.inr (Or.inr (Or.inl ⟨a, b, c, h1, h2, h3⟩))
    · rw [if_neg (fun z => z a), if_pos b] at h1
      rw [if_neg (fun z => z a), if_neg (fun z => b z.1)] at h2
      rw [if_neg (fun z => b z.2.1)] at h3
      exact Or.inr (Or.inl ⟨a, b, h1, h2, h3⟩)
  · rw [if_pos a] at h1
    rw [if_pos a] at h2
    rw [if_neg (fun z => a z.1)] at h3
    exact Or.inl ⟨a, h1, h2, h3⟩
theorem lk_lin {F W so va fr lo hi F1 W1 r : Int} (h : lkQ F W so va fr lo hi F1 W1 r) (hF : 0 ≤ F) (hlo : 0 ≤ lo) (hhi : 0 ≤ hi) : F ≤ F1 ∧ (F1 = 0 ∨ r = 0) ∧ (0 ≤ r ∧ r ≤ hi) := by
  obtain q | q | q | q := lk_to h
  · omega
  · omega
  · omega
  · omega
