/-! ===== the Memory that a text tells ===== -/
noncomputable def memT (S : tS) : Mem := mkM (Int32.ofInt (S.1 : Int)) (Int32.ofInt (S.2.1 : Int)) (Int32.ofInt S.2.2.2.1) 0 (fun j => Int32.ofInt (S.2.2.2.2.1 j)) (fun j => Int32.ofInt (S.2.2.2.2.2.1 j)) (fun j => Int32.ofInt (S.2.2.2.2.2.2.1 j)) (fun j => Int32.ofInt (S.2.2.2.2.2.2.2 j)) (fun _ => 0) (fun _ => 0)
theorem of_i {x : Int32} {z : Int} (h : x.toInt = z) : x = Int32.ofInt z := by rw [← h, Int32.ofInt_toInt]
theorem memT_c {S : tS} {g : qm_H} (c : cT S g) (z : (g 25 9).toInt = 0) : mCt g = memT S := by
  obtain ⟨⟨c1, c2, _, c4⟩, c5, c6⟩ := c
  have e0 : g 25 9 = 0 := Int32.toInt_inj.mp z
  unfold mCt memT
  rw [← of_i c1, ← of_i c2, ← of_i c4, e0]
  exact mkM_eq (fun j w => of_i (c5 j (by omega))) (fun j w => ⟨of_i (c6 j (by omega)).1, of_i (c6 j (by omega)).2.1, of_i (c6 j (by omega)).2.2⟩) (fun j w => by have : (0 : Int32).toInt = 0 := rfl; omega)
theorem memT_r {S : tS} {g : qm_H} (c : rP S g) (z : (g 43 36).toInt = 0) : mG (g 39 5) (g 43) = memT S := by
  obtain ⟨⟨c1, c2, c4, _⟩, c5, c6⟩ := c
  have e0 : g 43 36 = 0 := Int32.toInt_inj.mp z
  unfold mG memT
  rw [← of_i c1, ← of_i c2, ← of_i c4, e0]
  exact mkM_eq (fun j w => of_i (c5 j (by omega))) (fun j w => ⟨of_i (c6 j (by omega)).1, of_i (c6 j (by omega)).2.1, of_i (c6 j (by omega)).2.2⟩) (fun j w => by have : (0 : Int32).toInt = 0 := rfl; omega)
/-- behind a text: taken, or all stays -/
noncomputable def txM (fk : Int) (R : tR) (M0 M1 : Mem) : Prop := (fk = 0 ∧ M1 = memT R.2.2.2) ∨ (¬ fk = 0 ∧ M1 = M0)
/-- a text that is not taken leaves the reference's rows -/
noncomputable def txE (fk : Int) (h g : qm_H) : Prop := ¬ fk = 0 → g 39 3 = h 39 3 ∧ g 40 = h 40
theorem txM_ok {fk : Int} {R : tR} {M0 M1 : Mem} {S : tS} {i : Nat} (hf : fk = 0) (h : R = (0, 0, i, S)) (e : M1 = memT S) : txM fk R M0 M1 := Or.inl ⟨hf, by rw [e, h]⟩
theorem i_of {z : Int} (h : -2147483648 ≤ z ∧ z ≤ 2147483647) : (Int32.ofInt z).toInt = z := Int32.toInt_ofInt_of_le (by omega) (by omega)
theorem wf_text {S : tS} (w : wfS S) (c : ck6 S) : wfM (memT S) := by
  obtain ⟨⟨w1, w2, _, w3, w4⟩, w5, w6⟩ := w
  have e1 := i_of (z := (S.1 : Int)) (by omega)
  have e2 := i_of (z := (S.2.1 : Int)) (by omega)
  have e3 := i_of (z := S.2.2.2.1) (by omega)
  have e0 : (0 : Int32).toInt = 0 := rfl
  refine wf_mk ⟨by omega, by omega, by omega, by omega⟩ (fun j q => ?_) (fun j q => ?_) (fun j q => by omega)
  · have v := w5 j (by omega)
    rw [i_of (by omega)]; exact v
  · have v := w6 j (by omega)
    have u := c j (by omega)
    rw [i_of (z := S.2.2.2.2.2.1 j) (by omega), i_of (z := S.2.2.2.2.2.2.1 j) (by omega), i_of (z := S.2.2.2.2.2.2.2 j) (by omega), e1]
    exact ⟨by unfold okPl; omega, by unfold okPr; omega, by omega⟩
