-- ThreadBankModel.byteAt(I)I
set_option maxRecDepth 100000 in
set_option maxHeartbeats 4000000 in
theorem sf_148_39 (X : qm_X) (h : qm_H) (a : Int32) (hp : mi h ∧ (0 ≤ a.toInt)) (Q : qm_Q) (hq : ∀ r : Int32, ((0 ≤ r.toInt → a.toInt < (h 39 9).toInt) ∧ (a.toInt < (h 39 9).toInt → r.toInt = (h 44 a.toInt.toNat).toInt)) → Q (some (.int r)) h) : qm_PW X 148 [.ref 39, .int a] h Q := by
  have hmmi : mi h := hp.1
  have ⟨⟨_, _⟩, ⟨_, _⟩, ⟨_, _⟩, ⟨_, _⟩, _, _⟩ := hmmi
  have hp0 : 0 ≤ a.toInt := hp.2
  refine qm_seg_ok (C := qc_148) (rt := some .int) rfl rfl (cuts := []) 400 _ _ _ _ ?_
  show ((h 39 9).toInt ≤ a.toInt → (Q (some (.int (-1 : Int32))) h)) ∧ (a.toInt < (h 39 9).toInt → ((0 ≤ a.toInt ∧ a.toInt < 160) ∧ (Q (some (.int (h 44 a.toInt.toNat))) h)))
  refine ⟨fun c1 => ?_, fun c2 => ?_⟩
  · exact hq (-1 : Int32) (by show (0 ≤ (-1 : Int32).toInt → a.toInt < (h 39 9).toInt) ∧ (a.toInt < (h 39 9).toInt → (-1 : Int32).toInt = (h 44 a.toInt.toNat).toInt); rw [ti_n1]; omega)
  · refine ⟨(by omega), ?_⟩
    exact hq (h 44 a.toInt.toNat) (by show (0 ≤ (h 44 a.toInt.toNat).toInt → a.toInt < (h 39 9).toInt) ∧ (a.toInt < (h 39 9).toInt → (h 44 a.toInt.toNat).toInt = (h 44 a.toInt.toNat).toInt); omega)
-- ThreadBankModel.is(IIII)Z
set_option maxRecDepth 100000 in
set_option maxHeartbeats 4000000 in
theorem sf_149_39 (X : qm_X) (h : qm_H) (a : Int32) (b : Int32) (c : Int32) (d : Int32) (hp : mi h ∧ pp h) (Q : qm_Q) (hq : ∀ r : Int32, (r = 0 ∨ r = 1) → Q (some (.int r)) h) : qm_PW X 149 [.ref 39, .int a, .int b, .int c, .int d] h Q := by
  have hmmi : mi h := hp.1
  have ⟨⟨_, _⟩, ⟨_, _⟩, ⟨_, _⟩, ⟨_, _⟩, _, _⟩ := hmmi
  have hmpp : pp h := hp.2
  have ⟨⟨_, _⟩, ⟨_, _⟩, _, _⟩ := hmpp
  refine qm_seg_ok (C := qc_149) (rt := some .boolean) rfl rfl (cuts := []) 400 _ _ _ _ ?_
  show (¬ ((h 39 10) - (h 39 11)) = a → (((0 : Int32) = 0 ∨ (0 : Int32) = 1) ∧ Q (some (.int 0)) h)) ∧ (((h 39 10) - (h 39 11)) = a → (qm_PW X 148 [.ref 39, .int (h 39 11)] h _))
  refine ⟨fun c1 => ?_, fun c2 => ?_⟩
  · exact ⟨Or.inl rfl, hq 0 (Or.inl rfl)⟩
  · refine sf_148_39 X h (h 39 11) ⟨hmmi, (by show 0 ≤ (h 39 11).toInt; omega)⟩ _ (fun r3 p4 => ?_)
    have o5 : (0 ≤ r3.toInt → (h 39 11).toInt < (h 39 9).toInt) ∧ ((h 39 11).toInt < (h 39 9).toInt → r3.toInt = (h 44 (h 39 11).toInt.toNat).toInt) := p4
    show (¬ r3 = b → (((0 : Int32) = 0 ∨ (0 : Int32) = 1) ∧ Q (some (.int 0)) h)) ∧ (r3 = b → (qm_PW X 148 [.ref 39, .int ((h 39 11) + 1)] h _))
    refine ⟨fun c6 => ?_, fun c7 => ?_⟩
    · exact ⟨Or.inl rfl, hq 0 (Or.inl rfl)⟩
    · refine sf_148_39 X h ((h 39 11) + 1) ⟨hmmi, (by have := ti_addK (h 39 11) (1 : Int32) 1 rfl; show 0 ≤ ((h 39 11) + 1).toInt; omega)⟩ _ (fun r8 p9 => ?_)
      have o10 : (0 ≤ r8.toInt → ((h 39 11) + 1).toInt < (h 39 9).toInt) ∧ (((h 39 11) + 1).toInt < (h 39 9).toInt → r8.toInt = (h 44 ((h 39 11) + 1).toInt.toNat).toInt) := p9
      show (¬ r8 = c → (((0 : Int32) = 0 ∨ (0 : Int32) = 1) ∧ Q (some (.int 0)) h)) ∧ (r8 = c → (qm_PW X 148 [.ref 39, .int ((h 39 11) + 2)] h _))
      refine ⟨fun c11 => ?_, fun c12 => ?_⟩
      · exact ⟨Or.inl rfl, hq 0 (Or.inl rfl)⟩
      · refine sf_148_39 X h ((h 39 11) + 2) ⟨hmmi, (by have := ti_addK (h 39 11) (2 : Int32) 2 rfl; have := ti_addK (h 39 11) (1 : Int32) 1 rfl; show 0 ≤ ((h 39 11) + 2).toInt; omega)⟩ _ (fun r13 p14 => ?_)
        have o15 : (0 ≤ r13.toInt → ((h 39 11) + 2).toInt < (h 39 9).toInt) ∧ (((h 39 11) + 2).toInt < (h 39 9).toInt → r13.toInt = (h 44 ((h 39 11) + 2).toInt.toNat).toInt) := p14
        show (¬ r13 = d → (((0 : Int32) = 0 ∨ (0 : Int32) = 1) ∧ Q (some (.int 0)) h)) ∧ (r13 = d → (((1 : Int32) = 0 ∨ (1 : Int32) = 1) ∧ Q (some (.int 1)) h))
        refine ⟨fun c16 => ?_, fun c17 => ?_⟩
        · exact ⟨Or.inl rfl, hq 0 (Or.inl rfl)⟩
        · exact ⟨Or.inr rfl, hq 1 (Or.inr rfl)⟩
-- ThreadBankModel.ends(IIII)Z
set_option maxRecDepth 100000 in
set_option maxHeartbeats 4000000 in
theorem sf_150_39 (X : qm_X) (h : qm_H) (a : Int32) (b : Int32) (c : Int32) (d : Int32) (hp : mi h ∧ pp h) (Q : qm_Q) (hq : ∀ r : Int32, (r = 0 ∨ r = 1) → Q (some (.int r)) h) : qm_PW X 150 [.ref 39, .int a, .int b, .int c, .int d] h Q := by
  have hmmi : mi h := hp.1
  have ⟨⟨_, _⟩, ⟨_, _⟩, ⟨_, _⟩, ⟨_, _⟩, _, _⟩ := hmmi
  have hmpp : pp h := hp.2
  have ⟨⟨_, _⟩, ⟨_, _⟩, _, _⟩ := hmpp
  refine qm_seg_ok (C := qc_150) (rt := some .boolean) rfl rfl (cuts := []) 400 _ _ _ _ ?_
  show qm_PW X 148 [.ref 39, .int ((h 39 11) + 3)] h _
  refine sf_148_39 X h ((h 39 11) + 3) ⟨hmmi, (by have := ti_addK (h 39 11) (3 : Int32) 3 rfl; show 0 ≤ ((h 39 11) + 3).toInt; omega)⟩ _ (fun r1 p2 => ?_)
  have o3 : (0 ≤ r1.toInt → ((h 39 11) + 3).toInt < (h 39 9).toInt) ∧ (((h 39 11) + 3).toInt < (h 39 9).toInt → r1.toInt = (h 44 ((h 39 11) + 3).toInt.toNat).toInt) := p2
  show (¬ r1 = a → (((0 : Int32) = 0 ∨ (0 : Int32) = 1) ∧ Q (some (.int 0)) h)) ∧ (r1 = a → ((b = 0 → ((c = 0 → ((d = 0 → (((1 : Int32) = 0 ∨ (1 : Int32) = 1) ∧ Q (some (.int 1)) h)) ∧ (¬ d = 0 → (qm_PW X 148 [.ref 39, .int ((h 39 11) + 6)] h _)))) ∧ (¬ c = 0 → (qm_PW X 148 [.ref 39, .int ((h 39 11) + 5)] h _)))) ∧ (¬ b = 0 → (qm_PW X 148 [.ref 39, .int ((h 39 11) + 4)] h _))))
  refine ⟨fun c4 => ?_, fun c5 => ?_⟩
  · exact ⟨Or.inl rfl, hq 0 (Or.inl rfl)⟩
  · refine ⟨fun c6 => ?_, fun c7 => ?_⟩
    · refine ⟨fun c8 => ?_, fun c9 => ?_⟩
      · refine ⟨fun c10 => ?_, fun c11 => ?_⟩
        · exact ⟨Or.inr rfl, hq 1 (Or.inr rfl)⟩
        · refine sf_148_39 X h ((h 39 11) + 6) ⟨hmmi, (by have := ti_addK (h 39 11) (6 : Int32) 6 rfl; have := ti_addK (h 39 11) (3 : Int32) 3 rfl; show 0 ≤ ((h 39 11) + 6).toInt; omega)⟩ _ (fun r12 p13 => ?_)
          have o14 : (0 ≤ r12.toInt → ((h 39 11) + 6).toInt < (h 39 9).toInt) ∧ (((h 39 11) + 6).toInt < (h 39 9).toInt → r12.toInt = (h 44 ((h 39 11) + 6).toInt.toNat).toInt) := p13
          show (¬ r12 = d → (((0 : Int32) = 0 ∨ (0 : Int32) = 1) ∧ Q (some (.int 0)) h)) ∧ (r12 = d → (((1 : Int32) = 0 ∨ (1 : Int32) = 1) ∧ Q (some (.int 1)) h))
          refine ⟨fun c15 => ?_, fun c16 => ?_⟩
          · exact ⟨Or.inl rfl, hq 0 (Or.inl rfl)⟩
          · exact ⟨Or.inr rfl, hq 1 (Or.inr rfl)⟩
      · refine sf_148_39 X h ((h 39 11) + 5) ⟨hmmi, (by have := ti_addK (h 39 11) (5 : Int32) 5 rfl; have := ti_addK (h 39 11) (3 : Int32) 3 rfl; show 0 ≤ ((h 39 11) + 5).toInt; omega)⟩ _ (fun r17 p18 => ?_)
        have o19 : (0 ≤ r17.toInt → ((h 39 11) + 5).toInt < (h 39 9).toInt) ∧ (((h 39 11) + 5).toInt < (h 39 9).toInt → r17.toInt = (h 44 ((h 39 11) + 5).toInt.toNat).toInt) := p18
        show (¬ r17 = c → (((0 : Int32) = 0 ∨ (0 : Int32) = 1) ∧ Q (some (.int 0)) h)) ∧ (r17 = c → ((d = 0 → (((1 : Int32) = 0 ∨ (1 : Int32) = 1) ∧ Q (some (.int 1)) h)) ∧ (¬ d = 0 → (qm_PW X 148 [.ref 39, .int ((h 39 11) + 6)] h _))))
        refine ⟨fun c20 => ?_, fun c21 => ?_⟩
        · exact ⟨Or.inl rfl, hq 0 (Or.inl rfl)⟩
        · refine ⟨fun c22 => ?_, fun c23 => ?_⟩
          · exact ⟨Or.inr rfl, hq 1 (Or.inr rfl)⟩
          · refine sf_148_39 X h ((h 39 11) + 6) ⟨hmmi, (by have := ti_addK (h 39 11) (6 : Int32) 6 rfl; have := ti_addK (h 39 11) (3 : Int32) 3 rfl; have := ti_addK (h 39 11) (5 : Int32) 5 rfl; show 0 ≤ ((h 39 11) + 6).toInt; omega)⟩ _ (fun r24 p25 => ?_)
            have o26 : (0 ≤ r24.toInt → ((h 39 11) + 6).toInt < (h 39 9).toInt) ∧ (((h 39 11) + 6).toInt < (h 39 9).toInt → r24.toInt = (h 44 ((h 39 11) + 6).toInt.toNat).toInt) := p25
            show (¬ r24 = d → (((0 : Int32) = 0 ∨ (0 : Int32) = 1) ∧ Q (some (.int 0)) h)) ∧ (r24 = d → (((1 : Int32) = 0 ∨ (1 : Int32) = 1) ∧ Q (some (.int 1)) h))
            refine ⟨fun c27 => ?_, fun c28 => ?_⟩
            · exact ⟨Or.inl rfl, hq 0 (Or.inl rfl)⟩
            · exact ⟨Or.inr rfl, hq 1 (Or.inr rfl)⟩
    · refine sf_148_39 X h ((h 39 11) + 4) ⟨hmmi, (by have := ti_addK (h 39 11) (4 : Int32) 4 rfl; have := ti_addK (h 39 11) (3 : Int32) 3 rfl; show 0 ≤ ((h 39 11) + 4).toInt; omega)⟩ _ (fun r29 p30 => ?_)
      have o31 : (0 ≤ r29.toInt → ((h 39 11) + 4).toInt < (h 39 9).toInt) ∧ (((h 39 11) + 4).toInt < (h 39 9).toInt → r29.toInt = (h 44 ((h 39 11) + 4).toInt.toNat).toInt) := p30
      show (¬ r29 = b → (((0 : Int32) = 0 ∨ (0 : Int32) = 1) ∧ Q (some (.int 0)) h)) ∧ (r29 = b → ((c = 0 → ((d = 0 → (((1 : Int32) = 0 ∨ (1 : Int32) = 1) ∧ Q (some (.int 1)) h)) ∧ (¬ d = 0 → (qm_PW X 148 [.ref 39, .int ((h 39 11) + 6)] h _)))) ∧ (¬ c = 0 → (qm_PW X 148 [.ref 39, .int ((h 39 11) + 5)] h _))))
      refine ⟨fun c32 => ?_, fun c33 => ?_⟩
      · exact ⟨Or.inl rfl, hq 0 (Or.inl rfl)⟩
      · refine ⟨fun c34 => ?_, fun c35 => ?_⟩
        · refine ⟨fun c36 => ?_, fun c37 => ?_⟩
          · exact ⟨Or.inr rfl, hq 1 (Or.inr rfl)⟩
          · refine sf_148_39 X h ((h 39 11) + 6) ⟨hmmi, (by have := ti_addK (h 39 11) (6 : Int32) 6 rfl; have := ti_addK (h 39 11) (3 : Int32) 3 rfl; have := ti_addK (h 39 11) (4 : Int32) 4 rfl; show 0 ≤ ((h 39 11) + 6).toInt; omega)⟩ _ (fun r38 p39 => ?_)
            have o40 : (0 ≤ r38.toInt → ((h 39 11) + 6).toInt < (h 39 9).toInt) ∧ (((h 39 11) + 6).toInt < (h 39 9).toInt → r38.toInt = (h 44 ((h 39 11) + 6).toInt.toNat).toInt) := p39
            show (¬ r38 = d → (((0 : Int32) = 0 ∨ (0 : Int32) = 1) ∧ Q (some (.int 0)) h)) ∧ (r38 = d → (((1 : Int32) = 0 ∨ (1 : Int32) = 1) ∧ Q (some (.int 1)) h))
            refine ⟨fun c41 => ?_, fun c42 => ?_⟩
            · exact ⟨Or.inl rfl, hq 0 (Or.inl rfl)⟩
            · exact ⟨Or.inr rfl, hq 1 (Or.inr rfl)⟩
        · refine sf_148_39 X h ((h 39 11) + 5) ⟨hmmi, (by have := ti_addK (h 39 11) (5 : Int32) 5 rfl; have := ti_addK (h 39 11) (3 : Int32) 3 rfl; have := ti_addK (h 39 11) (4 : Int32) 4 rfl; show 0 ≤ ((h 39 11) + 5).toInt; omega)⟩ _ (fun r43 p44 => ?_)
          have o45 : (0 ≤ r43.toInt → ((h 39 11) + 5).toInt < (h 39 9).toInt) ∧ (((h 39 11) + 5).toInt < (h 39 9).toInt → r43.toInt = (h 44 ((h 39 11) + 5).toInt.toNat).toInt) := p44
          show (¬ r43 = c → (((0 : Int32) = 0 ∨ (0 : Int32) = 1) ∧ Q (some (.int 0)) h)) ∧ (r43 = c → ((d = 0 → (((1 : Int32) = 0 ∨ (1 : Int32) = 1) ∧ Q (some (.int 1)) h)) ∧ (¬ d = 0 → (qm_PW X 148 [.ref 39, .int ((h 39 11) + 6)] h _))))
          refine ⟨fun c46 => ?_, fun c47 => ?_⟩
          · exact ⟨Or.inl rfl, hq 0 (Or.inl rfl)⟩
          · refine ⟨fun c48 => ?_, fun c49 => ?_⟩
            · exact ⟨Or.inr rfl, hq 1 (Or.inr rfl)⟩
            · refine sf_148_39 X h ((h 39 11) + 6) ⟨hmmi, (by have := ti_addK (h 39 11) (6 : Int32) 6 rfl; have := ti_addK (h 39 11) (3 : Int32) 3 rfl; have := ti_addK (h 39 11) (4 : Int32) 4 rfl; have := ti_addK (h 39 11) (5 : Int32) 5 rfl; show 0 ≤ ((h 39 11) + 6).toInt; omega)⟩ _ (fun r50 p51 => ?_)
              have o52 : (0 ≤ r50.toInt → ((h 39 11) + 6).toInt < (h 39 9).toInt) ∧ (((h 39 11) + 6).toInt < (h 39 9).toInt → r50.toInt = (h 44 ((h 39 11) + 6).toInt.toNat).toInt) := p51
              show (¬ r50 = d → (((0 : Int32) = 0 ∨ (0 : Int32) = 1) ∧ Q (some (.int 0)) h)) ∧ (r50 = d → (((1 : Int32) = 0 ∨ (1 : Int32) = 1) ∧ Q (some (.int 1)) h))
              refine ⟨fun c53 => ?_, fun c54 => ?_⟩
              · exact ⟨Or.inl rfl, hq 0 (Or.inl rfl)⟩
              · exact ⟨Or.inr rfl, hq 1 (Or.inr rfl)⟩
-- ThreadBankModel.lineNow()I
set_option maxRecDepth 100000 in
set_option maxHeartbeats 4000000 in
theorem sf_151_39 (X : qm_X) (h : qm_H) (hp : mi h ∧ pp h) (Q : qm_Q) (hq : ∀ r : Int32, (True) → Q (some (.int r)) h) : qm_PW X 151 [.ref 39] h Q := by
  have hmmi : mi h := hp.1
  have ⟨⟨_, _⟩, ⟨_, _⟩, ⟨_, _⟩, ⟨_, _⟩, _, _⟩ := hmmi
  have hmpp : pp h := hp.2
  have ⟨⟨_, _⟩, ⟨_, _⟩, _, _⟩ := hmpp
  refine qm_seg_ok (C := qc_151) (rt := some .int) rfl rfl (cuts := []) 400 _ _ _ _ ?_
  show qm_PW X 149 [.ref 39, .int 5, .int 112, .int 108, .int 97] h _
  refine sf_149_39 X h (5 : Int32) (112 : Int32) (108 : Int32) (97 : Int32) ⟨hmmi, hmpp⟩ _ (fun r1 p2 => ?_)
  show (r1 = 0 → (qm_PW X 149 [.ref 39, .int 4, .int 108, .int 101, .int 102] h _)) ∧ (¬ r1 = 0 → (qm_PW X 150 [.ref 39, .int 105, .int 110, .int 0, .int 0] h _))
  refine ⟨fun c3 => ?_, fun c4 => ?_⟩
  · refine sf_149_39 X h (4 : Int32) (108 : Int32) (101 : Int32) (102 : Int32) ⟨hmmi, hmpp⟩ _ (fun r5 p6 => ?_)
    show (r5 = 0 → (qm_PW X 149 [.ref 39, .int 3, .int 111, .int 108, .int 100] h _)) ∧ (¬ r5 = 0 → (qm_PW X 150 [.ref 39, .int 116, .int 0, .int 0, .int 0] h _))
    refine ⟨fun c7 => ?_, fun c8 => ?_⟩
    · refine sf_149_39 X h (3 : Int32) (111 : Int32) (108 : Int32) (100 : Int32) ⟨hmmi, hmpp⟩ _ (fun r9 p10 => ?_)
      show (r9 = 0 → (qm_PW X 149 [.ref 39, .int 7, .int 102, .int 111, .int 117] h _)) ∧ (¬ r9 = 0 → (Q (some (.int 2)) h))
      refine ⟨fun c11 => ?_, fun c12 => ?_⟩
      · refine sf_149_39 X h (7 : Int32) (102 : Int32) (111 : Int32) (117 : Int32) ⟨hmmi, hmpp⟩ _ (fun r13 p14 => ?_)
        show (r13 = 0 → (qm_PW X 149 [.ref 39, .int 3, .int 100, .int 97, .int 121] h _)) ∧ (¬ r13 = 0 → (qm_PW X 150 [.ref 39, .int 110, .int 100, .int 101, .int 114] h _))
        refine ⟨fun c15 => ?_, fun c16 => ?_⟩
        · refine sf_149_39 X h (3 : Int32) (100 : Int32) (97 : Int32) (121 : Int32) ⟨hmmi, hmpp⟩ _ (fun r17 p18 => ?_)
          show (r17 = 0 → (qm_PW X 149 [.ref 39, .int 3, .int 116, .int 105, .int 101] h _)) ∧ (¬ r17 = 0 → (Q (some (.int 4)) h))
          refine ⟨fun c19 => ?_, fun c20 => ?_⟩
          · refine sf_149_39 X h (3 : Int32) (116 : Int32) (105 : Int32) (101 : Int32) ⟨hmmi, hmpp⟩ _ (fun r21 p22 => ?_)
            show (r21 = 0 → (Q (some (.int (-4 : Int32))) h)) ∧ (¬ r21 = 0 → (Q (some (.int 5)) h))
            refine ⟨fun c23 => ?_, fun c24 => ?_⟩
            · exact hq (-4 : Int32) trivial
            · exact hq 5 trivial
          · exact hq 4 trivial
        · refine sf_150_39 X h (110 : Int32) (100 : Int32) (101 : Int32) (114 : Int32) ⟨hmmi, hmpp⟩ _ (fun r25 p26 => ?_)
          show (r25 = 0 → (qm_PW X 149 [.ref 39, .int 3, .int 100, .int 97, .int 121] h _)) ∧ (¬ r25 = 0 → (Q (some (.int 3)) h))
          refine ⟨fun c27 => ?_, fun c28 => ?_⟩
          · refine sf_149_39 X h (3 : Int32) (100 : Int32) (97 : Int32) (121 : Int32) ⟨hmmi, hmpp⟩ _ (fun r29 p30 => ?_)
            show (r29 = 0 → (qm_PW X 149 [.ref 39, .int 3, .int 116, .int 105, .int 101] h _)) ∧ (¬ r29 = 0 → (Q (some (.int 4)) h))
            refine ⟨fun c31 => ?_, fun c32 => ?_⟩
            · refine sf_149_39 X h (3 : Int32) (116 : Int32) (105 : Int32) (101 : Int32) ⟨hmmi, hmpp⟩ _ (fun r33 p34 => ?_)
              show (r33 = 0 → (Q (some (.int (-4 : Int32))) h)) ∧ (¬ r33 = 0 → (Q (some (.int 5)) h))
              refine ⟨fun c35 => ?_, fun c36 => ?_⟩
              · exact hq (-4 : Int32) trivial
              · exact hq 5 trivial
            · exact hq 4 trivial
          · exact hq 3 trivial
      · exact hq 2 trivial
    · refine sf_150_39 X h (116 : Int32) (0 : Int32) (0 : Int32) (0 : Int32) ⟨hmmi, hmpp⟩ _ (fun r37 p38 => ?_)
      show (r37 = 0 → (qm_PW X 149 [.ref 39, .int 3, .int 111, .int 108, .int 100] h _)) ∧ (¬ r37 = 0 → (Q (some (.int 1)) h))
      refine ⟨fun c39 => ?_, fun c40 => ?_⟩
      · refine sf_149_39 X h (3 : Int32) (111 : Int32) (108 : Int32) (100 : Int32) ⟨hmmi, hmpp⟩ _ (fun r41 p42 => ?_)
        show (r41 = 0 → (qm_PW X 149 [.ref 39, .int 7, .int 102, .int 111, .int 117] h _)) ∧ (¬ r41 = 0 → (Q (some (.int 2)) h))
        refine ⟨fun c43 => ?_, fun c44 => ?_⟩
        · refine sf_149_39 X h (7 : Int32) (102 : Int32) (111 : Int32) (117 : Int32) ⟨hmmi, hmpp⟩ _ (fun r45 p46 => ?_)
          show (r45 = 0 → (qm_PW X 149 [.ref 39, .int 3, .int 100, .int 97, .int 121] h _)) ∧ (¬ r45 = 0 → (qm_PW X 150 [.ref 39, .int 110, .int 100, .int 101, .int 114] h _))
          refine ⟨fun c47 => ?_, fun c48 => ?_⟩
          · refine sf_149_39 X h (3 : Int32) (100 : Int32) (97 : Int32) (121 : Int32) ⟨hmmi, hmpp⟩ _ (fun r49 p50 => ?_)
            show (r49 = 0 → (qm_PW X 149 [.ref 39, .int 3, .int 116, .int 105, .int 101] h _)) ∧ (¬ r49 = 0 → (Q (some (.int 4)) h))
            refine ⟨fun c51 => ?_, fun c52 => ?_⟩
            · refine sf_149_39 X h (3 : Int32) (116 : Int32) (105 : Int32) (101 : Int32) ⟨hmmi, hmpp⟩ _ (fun r53 p54 => ?_)
              show (r53 = 0 → (Q (some (.int (-4 : Int32))) h)) ∧ (¬ r53 = 0 → (Q (some (.int 5)) h))
              refine ⟨fun c55 => ?_, fun c56 => ?_⟩
              · exact hq (-4 : Int32) trivial
              · exact hq 5 trivial
            · exact hq 4 trivial
          · refine sf_150_39 X h (110 : Int32) (100 : Int32) (101 : Int32) (114 : Int32) ⟨hmmi, hmpp⟩ _ (fun r57 p58 => ?_)
            show (r57 = 0 → (qm_PW X 149 [.ref 39, .int 3, .int 100, .int 97, .int 121] h _)) ∧ (¬ r57 = 0 → (Q (some (.int 3)) h))
            refine ⟨fun c59 => ?_, fun c60 => ?_⟩
            · refine sf_149_39 X h (3 : Int32) (100 : Int32) (97 : Int32) (121 : Int32) ⟨hmmi, hmpp⟩ _ (fun r61 p62 => ?_)
              show (r61 = 0 → (qm_PW X 149 [.ref 39, .int 3, .int 116, .int 105, .int 101] h _)) ∧ (¬ r61 = 0 → (Q (some (.int 4)) h))
              refine ⟨fun c63 => ?_, fun c64 => ?_⟩
              · refine sf_149_39 X h (3 : Int32) (116 : Int32) (105 : Int32) (101 : Int32) ⟨hmmi, hmpp⟩ _ (fun r65 p66 => ?_)
                show (r65 = 0 → (Q (some (.int (-4 : Int32))) h)) ∧ (¬ r65 = 0 → (Q (some (.int 5)) h))
                refine ⟨fun c67 => ?_, fun c68 => ?_⟩
                · exact hq (-4 : Int32) trivial
                · exact hq 5 trivial
              · exact hq 4 trivial
            · exact hq 3 trivial
        · exact hq 2 trivial
      · exact hq 1 trivial
  · refine sf_150_39 X h (105 : Int32) (110 : Int32) (0 : Int32) (0 : Int32) ⟨hmmi, hmpp⟩ _ (fun r69 p70 => ?_)
    show (r69 = 0 → (qm_PW X 149 [.ref 39, .int 4, .int 108, .int 101, .int 102] h _)) ∧ (¬ r69 = 0 → (Q (some (.int 0)) h))
    refine ⟨fun c71 => ?_, fun c72 => ?_⟩
    · refine sf_149_39 X h (4 : Int32) (108 : Int32) (101 : Int32) (102 : Int32) ⟨hmmi, hmpp⟩ _ (fun r73 p74 => ?_)
      show (r73 = 0 → (qm_PW X 149 [.ref 39, .int 3, .int 111, .int 108, .int 100] h _)) ∧ (¬ r73 = 0 → (qm_PW X 150 [.ref 39, .int 116, .int 0, .int 0, .int 0] h _))
      refine ⟨fun c75 => ?_, fun c76 => ?_⟩
      · refine sf_149_39 X h (3 : Int32) (111 : Int32) (108 : Int32) (100 : Int32) ⟨hmmi, hmpp⟩ _ (fun r77 p78 => ?_)
        show (r77 = 0 → (qm_PW X 149 [.ref 39, .int 7, .int 102, .int 111, .int 117] h _)) ∧ (¬ r77 = 0 → (Q (some (.int 2)) h))
        refine ⟨fun c79 => ?_, fun c80 => ?_⟩
        · refine sf_149_39 X h (7 : Int32) (102 : Int32) (111 : Int32) (117 : Int32) ⟨hmmi, hmpp⟩ _ (fun r81 p82 => ?_)
          show (r81 = 0 → (qm_PW X 149 [.ref 39, .int 3, .int 100, .int 97, .int 121] h _)) ∧ (¬ r81 = 0 → (qm_PW X 150 [.ref 39, .int 110, .int 100, .int 101, .int 114] h _))
          refine ⟨fun c83 => ?_, fun c84 => ?_⟩
          · refine sf_149_39 X h (3 : Int32) (100 : Int32) (97 : Int32) (121 : Int32) ⟨hmmi, hmpp⟩ _ (fun r85 p86 => ?_)
            show (r85 = 0 → (qm_PW X 149 [.ref 39, .int 3, .int 116, .int 105, .int 101] h _)) ∧ (¬ r85 = 0 → (Q (some (.int 4)) h))
            refine ⟨fun c87 => ?_, fun c88 => ?_⟩
            · refine sf_149_39 X h (3 : Int32) (116 : Int32) (105 : Int32) (101 : Int32) ⟨hmmi, hmpp⟩ _ (fun r89 p90 => ?_)
              show (r89 = 0 → (Q (some (.int (-4 : Int32))) h)) ∧ (¬ r89 = 0 → (Q (some (.int 5)) h))
              refine ⟨fun c91 => ?_, fun c92 => ?_⟩
              · exact hq (-4 : Int32) trivial
              · exact hq 5 trivial
            · exact hq 4 trivial
          · refine sf_150_39 X h (110 : Int32) (100 : Int32) (101 : Int32) (114 : Int32) ⟨hmmi, hmpp⟩ _ (fun r93 p94 => ?_)
            show (r93 = 0 → (qm_PW X 149 [.ref 39, .int 3, .int 100, .int 97, .int 121] h _)) ∧ (¬ r93 = 0 → (Q (some (.int 3)) h))
            refine ⟨fun c95 => ?_, fun c96 => ?_⟩
            · refine sf_149_39 X h (3 : Int32) (100 : Int32) (97 : Int32) (121 : Int32) ⟨hmmi, hmpp⟩ _ (fun r97 p98 => ?_)
              show (r97 = 0 → (qm_PW X 149 [.ref 39, .int 3, .int 116, .int 105, .int 101] h _)) ∧ (¬ r97 = 0 → (Q (some (.int 4)) h))
              refine ⟨fun c99 => ?_, fun c100 => ?_⟩
              · refine sf_149_39 X h (3 : Int32) (116 : Int32) (105 : Int32) (101 : Int32) ⟨hmmi, hmpp⟩ _ (fun r101 p102 => ?_)
                show (r101 = 0 → (Q (some (.int (-4 : Int32))) h)) ∧ (¬ r101 = 0 → (Q (some (.int 5)) h))
                refine ⟨fun c103 => ?_, fun c104 => ?_⟩
                · exact hq (-4 : Int32) trivial
                · exact hq 5 trivial
              · exact hq 4 trivial
            · exact hq 3 trivial
        · exact hq 2 trivial
      · refine sf_150_39 X h (116 : Int32) (0 : Int32) (0 : Int32) (0 : Int32) ⟨hmmi, hmpp⟩ _ (fun r105 p106 => ?_)
        show (r105 = 0 → (qm_PW X 149 [.ref 39, .int 3, .int 111, .int 108, .int 100] h _)) ∧ (¬ r105 = 0 → (Q (some (.int 1)) h))
        refine ⟨fun c107 => ?_, fun c108 => ?_⟩
        · refine sf_149_39 X h (3 : Int32) (111 : Int32) (108 : Int32) (100 : Int32) ⟨hmmi, hmpp⟩ _ (fun r109 p110 => ?_)
          show (r109 = 0 → (qm_PW X 149 [.ref 39, .int 7, .int 102, .int 111, .int 117] h _)) ∧ (¬ r109 = 0 → (Q (some (.int 2)) h))
          refine ⟨fun c111 => ?_, fun c112 => ?_⟩
          · refine sf_149_39 X h (7 : Int32) (102 : Int32) (111 : Int32) (117 : Int32) ⟨hmmi, hmpp⟩ _ (fun r113 p114 => ?_)
            show (r113 = 0 → (qm_PW X 149 [.ref 39, .int 3, .int 100, .int 97, .int 121] h _)) ∧ (¬ r113 = 0 → (qm_PW X 150 [.ref 39, .int 110, .int 100, .int 101, .int 114] h _))
            refine ⟨fun c115 => ?_, fun c116 => ?_⟩
            · refine sf_149_39 X h (3 : Int32) (100 : Int32) (97 : Int32) (121 : Int32) ⟨hmmi, hmpp⟩ _ (fun r117 p118 => ?_)
              show (r117 = 0 → (qm_PW X 149 [.ref 39, .int 3, .int 116, .int 105, .int 101] h _)) ∧ (¬ r117 = 0 → (Q (some (.int 4)) h))
              refine ⟨fun c119 => ?_, fun c120 => ?_⟩
              · refine sf_149_39 X h (3 : Int32) (116 : Int32) (105 : Int32) (101 : Int32) ⟨hmmi, hmpp⟩ _ (fun r121 p122 => ?_)
                show (r121 = 0 → (Q (some (.int (-4 : Int32))) h)) ∧ (¬ r121 = 0 → (Q (some (.int 5)) h))
                refine ⟨fun c123 => ?_, fun c124 => ?_⟩
                · exact hq (-4 : Int32) trivial
                · exact hq 5 trivial
              · exact hq 4 trivial
            · refine sf_150_39 X h (110 : Int32) (100 : Int32) (101 : Int32) (114 : Int32) ⟨hmmi, hmpp⟩ _ (fun r125 p126 => ?_)
              show (r125 = 0 → (qm_PW X 149 [.ref 39, .int 3, .int 100, .int 97, .int 121] h _)) ∧ (¬ r125 = 0 → (Q (some (.int 3)) h))
              refine ⟨fun c127 => ?_, fun c128 => ?_⟩
              · refine sf_149_39 X h (3 : Int32) (100 : Int32) (97 : Int32) (121 : Int32) ⟨hmmi, hmpp⟩ _ (fun r129 p130 => ?_)
                show (r129 = 0 → (qm_PW X 149 [.ref 39, .int 3, .int 116, .int 105, .int 101] h _)) ∧ (¬ r129 = 0 → (Q (some (.int 4)) h))
                refine ⟨fun c131 => ?_, fun c132 => ?_⟩
                · refine sf_149_39 X h (3 : Int32) (116 : Int32) (105 : Int32) (101 : Int32) ⟨hmmi, hmpp⟩ _ (fun r133 p134 => ?_)
                  show (r133 = 0 → (Q (some (.int (-4 : Int32))) h)) ∧ (¬ r133 = 0 → (Q (some (.int 5)) h))
                  refine ⟨fun c135 => ?_, fun c136 => ?_⟩
                  · exact hq (-4 : Int32) trivial
                  · exact hq 5 trivial
                · exact hq 4 trivial
              · exact hq 3 trivial
          · exact hq 2 trivial
        · exact hq 1 trivial
    · exact hq 0 trivial
-- ThreadBankModel.needs(ZI)V
set_option maxRecDepth 100000 in
set_option maxHeartbeats 4000000 in
theorem sf_147_39 (X : qm_X) (h : qm_H) (a : Int32) (b : Int32) (hp : mi h ∧ pp h ∧ (1 ≤ b.toInt ∧ b.toInt ≤ 7)) (Q : qm_Q) (hq : ∀ h' : qm_H, (mi h' ∧ pp h' ∧ (∀ k, (k < 39 ∨ 39 < k) → h' k = h k) ∧ (((h 39 14).toInt ≤ (h' 39 14).toInt) ∧ (a.toInt = 0 → 1 ≤ (h' 39 14).toInt) ∧ ((h' 39 10).toInt = (h 39 10).toInt) ∧ ((h' 39 12).toInt = (h 39 12).toInt) ∧ ((h' 39 13).toInt = (h 39 13).toInt) ∧ ((h' 39 5).toInt = (h 39 5).toInt))) → Q none h') : qm_PW X 147 [.ref 39, .int a, .int b] h Q := by
  have hmmi : mi h := hp.1
  have ⟨⟨_, _⟩, ⟨_, _⟩, ⟨_, _⟩, ⟨_, _⟩, _, _⟩ := hmmi
  have hmpp : pp h := hp.2.1
  have ⟨⟨_, _⟩, ⟨_, _⟩, _, _⟩ := hmpp
  have hp0 : 1 ≤ b.toInt ∧ b.toInt ≤ 7 := hp.2.2
  refine qm_seg_ok (C := qc_147) (rt := none) rfl rfl (cuts := []) 400 _ _ _ _ ?_
  show (¬ a = 0 → (Q none h)) ∧ (a = 0 → ((¬ (h 39 14) = 0 → (Q none h)) ∧ ((h 39 14) = 0 → (Q none (qm_row (qm_row h 39 (upd (h 39) 14 b)) 39 (upd (upd (h 39) 14 b) 15 (h 39 11)))))))
  refine ⟨fun c1 => ?_, fun c2 => ?_⟩
  · have := ti_neK 0 rfl c1
    exact hq h ⟨hmmi, hmpp, (fun k hk => rfl), (by show ((h 39 14).toInt ≤ (h 39 14).toInt) ∧ (a.toInt = 0 → 1 ≤ (h 39 14).toInt) ∧ ((h 39 10).toInt = (h 39 10).toInt) ∧ ((h 39 12).toInt = (h 39 12).toInt) ∧ ((h 39 13).toInt = (h 39 13).toInt) ∧ ((h 39 5).toInt = (h 39 5).toInt); omega)⟩
  · have := ti_eqK 0 rfl c2
    refine ⟨fun c3 => ?_, fun c4 => ?_⟩
    · have := ti_neK 0 rfl c3
      exact hq h ⟨hmmi, hmpp, (fun k hk => rfl), (by show ((h 39 14).toInt ≤ (h 39 14).toInt) ∧ (a.toInt = 0 → 1 ≤ (h 39 14).toInt) ∧ ((h 39 10).toInt = (h 39 10).toInt) ∧ ((h 39 12).toInt = (h 39 12).toInt) ∧ ((h 39 13).toInt = (h 39 13).toInt) ∧ ((h 39 5).toInt = (h 39 5).toInt); omega)⟩
    · have := ti_eqK 0 rfl c4
      exact hq (qm_row (qm_row h 39 (upd (h 39) 14 b)) 39 (upd (upd (h 39) 14 b) 15 (h 39 11))) ⟨(by have ⟨⟨_, _⟩, ⟨_, _⟩, ⟨_, _⟩, ⟨_, _⟩, _, _⟩ := hmmi; have ⟨⟨_, _⟩, ⟨_, _⟩, _, _⟩ := hmpp; show (0 ≤ (h 39 3).toInt ∧ (h 39 3).toInt ≤ 4) ∧ (0 ≤ (h 39 9).toInt ∧ (h 39 9).toInt ≤ 160) ∧ (0 ≤ (h 39 19).toInt ∧ (h 39 19).toInt ≤ 4) ∧ (0 ≤ (h 39 20).toInt ∧ (h 39 20).toInt ≤ 255) ∧ (0 ≤ (h 39 11).toInt ∧ (h 39 11).toInt ≤ 160); omega), (by have ⟨⟨_, _⟩, ⟨_, _⟩, ⟨_, _⟩, ⟨_, _⟩, _, _⟩ := hmmi; have ⟨⟨_, _⟩, ⟨_, _⟩, _, _⟩ := hmpp; show (0 ≤ (h 39 5).toInt ∧ (h 39 5).toInt ≤ 4) ∧ (0 ≤ (h 39 10).toInt ∧ (h 39 10).toInt ≤ 160) ∧ (0 ≤ b.toInt ∧ b.toInt ≤ 7); omega), (fun k hk => by simp only [qm_row]; rw [if_neg (by omega)]; rw [if_neg (by omega)]), (by show ((h 39 14).toInt ≤ b.toInt) ∧ (a.toInt = 0 → 1 ≤ b.toInt) ∧ ((h 39 10).toInt = (h 39 10).toInt) ∧ ((h 39 12).toInt = (h 39 12).toInt) ∧ ((h 39 13).toInt = (h 39 13).toInt) ∧ ((h 39 5).toInt = (h 39 5).toInt); omega)⟩
-- ThreadBankModel.mentions(I)V
set_option maxRecDepth 100000 in
set_option maxHeartbeats 4000000 in
theorem sf_155_39 (X : qm_X) (h : qm_H) (a : Int32) (hp : mi h ∧ pp h) (Q : qm_Q) (hq : ∀ h' : qm_H, (mi h' ∧ pp h' ∧ (∀ k, (k < 39 ∨ 39 < k) → h' k = h k) ∧ (((h' 39 14).toInt = (h 39 14).toInt) ∧ ((h' 39 10).toInt = (h 39 10).toInt) ∧ ((h' 39 12).toInt = (h 39 12).toInt) ∧ ((h' 39 13).toInt = (h 39 13).toInt) ∧ ((h' 39 5).toInt = (h 39 5).toInt))) → Q none h') : qm_PW X 155 [.ref 39, .int a] h Q := by
  have hmmi : mi h := hp.1
  have ⟨⟨_, _⟩, ⟨_, _⟩, ⟨_, _⟩, ⟨_, _⟩, _, _⟩ := hmmi
  have hmpp : pp h := hp.2
  have ⟨⟨_, _⟩, ⟨_, _⟩, _, _⟩ := hmpp
  refine qm_seg_ok (C := qc_155) (rt := none) rfl rfl (cuts := []) 400 _ _ _ _ ?_
  show (¬ (h 39 14) = 0 → (Q none (qm_row h 39 (upd (h 39) 7 (h 39 7))))) ∧ ((h 39 14) = 0 → ((a.toInt ≤ (h 39 7).toInt → (Q none (qm_row h 39 (upd (h 39) 7 (h 39 7))))) ∧ ((h 39 7).toInt < a.toInt → (Q none (qm_row h 39 (upd (h 39) 7 a))))))
  refine ⟨fun c1 => ?_, fun c2 => ?_⟩
  · have := ti_neK 0 rfl c1
    exact hq (qm_row h 39 (upd (h 39) 7 (h 39 7))) ⟨(by have ⟨⟨_, _⟩, ⟨_, _⟩, ⟨_, _⟩, ⟨_, _⟩, _, _⟩ := hmmi; have ⟨⟨_, _⟩, ⟨_, _⟩, _, _⟩ := hmpp; show (0 ≤ (h 39 3).toInt ∧ (h 39 3).toInt ≤ 4) ∧ (0 ≤ (h 39 9).toInt ∧ (h 39 9).toInt ≤ 160) ∧ (0 ≤ (h 39 19).toInt ∧ (h 39 19).toInt ≤ 4) ∧ (0 ≤ (h 39 20).toInt ∧ (h 39 20).toInt ≤ 255) ∧ (0 ≤ (h 39 11).toInt ∧ (h 39 11).toInt ≤ 160); omega), (by have ⟨⟨_, _⟩, ⟨_, _⟩, ⟨_, _⟩, ⟨_, _⟩, _, _⟩ := hmmi; have ⟨⟨_, _⟩, ⟨_, _⟩, _, _⟩ := hmpp; show (0 ≤ (h 39 5).toInt ∧ (h 39 5).toInt ≤ 4) ∧ (0 ≤ (h 39 10).toInt ∧ (h 39 10).toInt ≤ 160) ∧ (0 ≤ (h 39 14).toInt ∧ (h 39 14).toInt ≤ 7); omega), (fun k hk => by simp only [qm_row]; rw [if_neg (by omega)]), (by show ((h 39 14).toInt = (h 39 14).toInt) ∧ ((h 39 10).toInt = (h 39 10).toInt) ∧ ((h 39 12).toInt = (h 39 12).toInt) ∧ ((h 39 13).toInt = (h 39 13).toInt) ∧ ((h 39 5).toInt = (h 39 5).toInt); omega)⟩
  · have := ti_eqK 0 rfl c2
    refine ⟨fun c3 => ?_, fun c4 => ?_⟩
    · exact hq (qm_row h 39 (upd (h 39) 7 (h 39 7))) ⟨(by have ⟨⟨_, _⟩, ⟨_, _⟩, ⟨_, _⟩, ⟨_, _⟩, _, _⟩ := hmmi; have ⟨⟨_, _⟩, ⟨_, _⟩, _, _⟩ := hmpp; show (0 ≤ (h 39 3).toInt ∧ (h 39 3).toInt ≤ 4) ∧ (0 ≤ (h 39 9).toInt ∧ (h 39 9).toInt ≤ 160) ∧ (0 ≤ (h 39 19).toInt ∧ (h 39 19).toInt ≤ 4) ∧ (0 ≤ (h 39 20).toInt ∧ (h 39 20).toInt ≤ 255) ∧ (0 ≤ (h 39 11).toInt ∧ (h 39 11).toInt ≤ 160); omega), (by have ⟨⟨_, _⟩, ⟨_, _⟩, ⟨_, _⟩, ⟨_, _⟩, _, _⟩ := hmmi; have ⟨⟨_, _⟩, ⟨_, _⟩, _, _⟩ := hmpp; show (0 ≤ (h 39 5).toInt ∧ (h 39 5).toInt ≤ 4) ∧ (0 ≤ (h 39 10).toInt ∧ (h 39 10).toInt ≤ 160) ∧ (0 ≤ (h 39 14).toInt ∧ (h 39 14).toInt ≤ 7); omega), (fun k hk => by simp only [qm_row]; rw [if_neg (by omega)]), (by show ((h 39 14).toInt = (h 39 14).toInt) ∧ ((h 39 10).toInt = (h 39 10).toInt) ∧ ((h 39 12).toInt = (h 39 12).toInt) ∧ ((h 39 13).toInt = (h 39 13).toInt) ∧ ((h 39 5).toInt = (h 39 5).toInt); omega)⟩
    · exact hq (qm_row h 39 (upd (h 39) 7 a)) ⟨(by have ⟨⟨_, _⟩, ⟨_, _⟩, ⟨_, _⟩, ⟨_, _⟩, _, _⟩ := hmmi; have ⟨⟨_, _⟩, ⟨_, _⟩, _, _⟩ := hmpp; show (0 ≤ (h 39 3).toInt ∧ (h 39 3).toInt ≤ 4) ∧ (0 ≤ (h 39 9).toInt ∧ (h 39 9).toInt ≤ 160) ∧ (0 ≤ (h 39 19).toInt ∧ (h 39 19).toInt ≤ 4) ∧ (0 ≤ (h 39 20).toInt ∧ (h 39 20).toInt ≤ 255) ∧ (0 ≤ (h 39 11).toInt ∧ (h 39 11).toInt ≤ 160); omega), (by have ⟨⟨_, _⟩, ⟨_, _⟩, ⟨_, _⟩, ⟨_, _⟩, _, _⟩ := hmmi; have ⟨⟨_, _⟩, ⟨_, _⟩, _, _⟩ := hmpp; show (0 ≤ (h 39 5).toInt ∧ (h 39 5).toInt ≤ 4) ∧ (0 ≤ (h 39 10).toInt ∧ (h 39 10).toInt ≤ 160) ∧ (0 ≤ (h 39 14).toInt ∧ (h 39 14).toInt ≤ 7); omega), (fun k hk => by simp only [qm_row]; rw [if_neg (by omega)]), (by show ((h 39 14).toInt = (h 39 14).toInt) ∧ ((h 39 10).toInt = (h 39 10).toInt) ∧ ((h 39 12).toInt = (h 39 12).toInt) ∧ ((h 39 13).toInt = (h 39 13).toInt) ∧ ((h 39 5).toInt = (h 39 5).toInt); omega)⟩
