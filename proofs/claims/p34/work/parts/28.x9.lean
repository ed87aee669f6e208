-- ThreadBank.quarrel(I)I
set_option maxRecDepth 100000 in
set_option maxHeartbeats 4000000 in
theorem sf_115_0_c (X : qm_X) (h : qm_H) (a : Int32) (hp : mq 1 h) (Q : qm_Q) (hq : ∀ r : Int32, (True) → Q (some (.int r)) h) : ∀ n : Nat, (∀ (l2 : Int32) (l3 : Int32) (l4 : Int32), (0 ≤ l4.toInt ∧ l4.toInt ≤ 10) → ((10 - l4.toInt) * 100 + 50).toNat < n → qm_PA X 115 19 [(0, .ref 0), (1, .int a), (2, .int l2), (3, .int l3), (4, .int l4)] [] h Q) ∧ (∀ (l2 : Int32) (l3 : Int32) (l4 : Int32) (l5 : Int32), (0 ≤ l4.toInt ∧ l4.toInt ≤ 9 ∧ 0 ≤ l5.toInt ∧ l5.toInt ≤ 10) → ((10 - l4.toInt) * 100 + 40 - l5.toInt).toNat < n → qm_PA X 115 37 [(0, .ref 0), (1, .int a), (2, .int l2), (3, .int l3), (4, .int l4), (5, .int l5)] [] h Q) := by
  have hm1 : mq 1 h := hp
  have ⟨⟨_, _⟩, ⟨_, _⟩, _, _⟩ := hm1
  intro n
  induction n with
  | zero => exact ⟨fun _ _ _ _ h0 => absurd h0 (Nat.not_lt_zero _), fun _ _ _ _ _ h0 => absurd h0 (Nat.not_lt_zero _)⟩
  | succ n ih =>
    refine ⟨?_, ?_⟩
    · intro l2 l3 l4 hi hr
      refine qm_seg_ok (C := qc_115) (rt := some .int) rfl rfl (cuts := [(19, [0, 1, 2, 3, 4]), (37, [0, 1, 2, 3, 4, 5])]) 400 _ _ _ _ ?_
      show ((h 1 7).toInt ≤ l4.toInt → ((¬ a = 0 → (Q (some (.int l3)) h)) ∧ (a = 0 → (Q (some (.int l2)) h)))) ∧ (l4.toInt < (h 1 7).toInt → (qm_PA X 115 37 [(0, .ref 0), (1, .int a), (2, .int l2), (3, .int l3), (4, .int l4), (5, .int (l4 + 1))] [] h Q))
      refine ⟨fun c1 => ?_, fun c2 => ?_⟩
      · refine ⟨fun c3 => ?_, fun c4 => ?_⟩
        · exact hq l3 trivial
        · exact hq l2 trivial
      · exact ih.2 l2 l3 l4 (l4 + 1) (by have := ti_addK l4 (1 : Int32) 1 rfl; omega) (by have := ti_addK l4 (1 : Int32) 1 rfl; omega)
    · intro l2 l3 l4 l5 hi hr
      refine qm_seg_ok (C := qc_115) (rt := some .int) rfl rfl (cuts := [(19, [0, 1, 2, 3, 4]), (37, [0, 1, 2, 3, 4, 5])]) 400 _ _ _ _ ?_
      show ((h 1 7).toInt ≤ l5.toInt → (qm_PA X 115 19 [(0, .ref 0), (1, .int a), (2, .int l2), (3, .int l3), (4, .int (l4 + 1))] [] h Q)) ∧ (l5.toInt < (h 1 7).toInt → (qm_PW X 63 [.ref 1, .int l4, .int l5] h _))
      refine ⟨fun c1 => ?_, fun c2 => ?_⟩
      · exact ih.1 l2 l3 (l4 + 1) (by have := ti_addK l4 (1 : Int32) 1 rfl; omega) (by have := ti_addK l4 (1 : Int32) 1 rfl; omega)
      · refine sf_63_1 X h l4 l5 hm1 _ (fun r3 p4 => ?_)
        show (r3 = 0 → (qm_PA X 115 37 [(0, .ref 0), (1, .int a), (2, .int l2), (3, .int l3), (4, .int l4), (5, .int (l5 + 1))] [] h Q)) ∧ (¬ r3 = 0 → ((¬ l2 = 0 → (qm_PA X 115 37 [(0, .ref 0), (1, .int a), (2, .int (l2 + 1)), (3, .int l3), (4, .int l4), (5, .int (l5 + 1))] [] h Q)) ∧ (l2 = 0 → (qm_PA X 115 37 [(0, .ref 0), (1, .int a), (2, .int (l2 + 1)), (3, .int ((10 * l4) + l5)), (4, .int l4), (5, .int (l5 + 1))] [] h Q))))
        refine ⟨fun c5 => ?_, fun c6 => ?_⟩
        · exact ih.2 l2 l3 l4 (l5 + 1) (by have := ti_addK l5 (1 : Int32) 1 rfl; omega) (by have := ti_addK l5 (1 : Int32) 1 rfl; omega)
        · refine ⟨fun c7 => ?_, fun c8 => ?_⟩
          · exact ih.2 (l2 + 1) l3 l4 (l5 + 1) (by have := ti_addK l5 (1 : Int32) 1 rfl; omega) (by have := ti_addK l5 (1 : Int32) 1 rfl; omega)
          · exact ih.2 (l2 + 1) ((10 * l4) + l5) l4 (l5 + 1) (by have := ti_addK l5 (1 : Int32) 1 rfl; omega) (by have := ti_addK l5 (1 : Int32) 1 rfl; omega)
set_option maxRecDepth 100000 in
set_option maxHeartbeats 4000000 in
theorem sf_115_0 (X : qm_X) (h : qm_H) (a : Int32) (hp : mq 1 h) (Q : qm_Q) (hq : ∀ r : Int32, (True) → Q (some (.int r)) h) : qm_PW X 115 [.ref 0, .int a] h Q := by
  have hm1 : mq 1 h := hp
  have ⟨⟨_, _⟩, ⟨_, _⟩, _, _⟩ := hm1
  refine qm_seg_ok (C := qc_115) (rt := some .int) rfl rfl (cuts := [(19, [0, 1, 2, 3, 4]), (37, [0, 1, 2, 3, 4, 5])]) 400 _ _ _ _ ?_
  show (a.toInt < 0 → (Q (some (.int (-1 : Int32))) h)) ∧ (0 ≤ a.toInt → ((a.toInt ≤ 1 → (qm_PA X 115 19 [(0, .ref 0), (1, .int a), (2, .int 0), (3, .int (-4 : Int32)), (4, .int 0)] [] h Q)) ∧ (1 < a.toInt → (Q (some (.int (-1 : Int32))) h))))
  refine ⟨fun c1 => ?_, fun c2 => ?_⟩
  · exact hq (-1 : Int32) trivial
  · refine ⟨fun c3 => ?_, fun c4 => ?_⟩
    · exact (sf_115_0_c X h a hp Q hq _).1 (0 : Int32) (-4 : Int32) (0 : Int32) (by have : (0 : Int32).toInt = 0 := rfl; omega) (Nat.lt_succ_self _)
    · exact hq (-1 : Int32) trivial
-- ThreadBank.torn()I
set_option maxRecDepth 100000 in
set_option maxHeartbeats 4000000 in
theorem sf_128_0 (X : qm_X) (h : qm_H) (hp : True) (Q : qm_Q) (hq : ∀ r : Int32, (True) → Q (some (.int r)) h) : qm_PW X 128 [.ref 0] h Q := by
  refine qm_seg_ok (C := qc_128) (rt := some .int) rfl rfl (cuts := []) 400 _ _ _ _ ?_
  show Q (some (.int (h 0 8))) h
  exact hq (h 0 8) trivial
-- ThreadBank.count(I)I
set_option maxRecDepth 100000 in
set_option maxHeartbeats 4000000 in
theorem sf_129_0 (X : qm_X) (h : qm_H) (a : Int32) (hp : mq 1 h) (Q : qm_Q) (hq : ∀ r : Int32, (True) → Q (some (.int r)) h) : qm_PW X 129 [.ref 0, .int a] h Q := by
  have hm1 : mq 1 h := hp
  have ⟨⟨_, _⟩, ⟨_, _⟩, _, _⟩ := hm1
  refine qm_seg_ok (C := qc_129) (rt := some .int) rfl rfl (cuts := []) 400 _ _ _ _ ?_
  show ((a = 0 → (qm_PW X 60 [.ref 1] h _)) ∧ (¬ a = 0 → ((a = 1 → (qm_PW X 52 [.ref 1] h _)) ∧ (¬ a = 1 → ((a = 2 → (Q (some (.int (h 1 9))) h)) ∧ (¬ a = 2 → ((a = 3 → ((0 ≤ (0 : Int) ∧ (0 : Int) < 2) ∧ (((h 22 0) = 0 → ((0 ≤ (1 : Int) ∧ (1 : Int) < 2) ∧ (((h 22 1) = 0 → (Q (some (.int (0 + 0))) h)) ∧ (¬ (h 22 1) = 0 → (Q (some (.int (0 + 1))) h))))) ∧ (¬ (h 22 0) = 0 → ((0 ≤ (1 : Int) ∧ (1 : Int) < 2) ∧ (((h 22 1) = 0 → (Q (some (.int (1 + 0))) h)) ∧ (¬ (h 22 1) = 0 → (Q (some (.int (1 + 1))) h)))))))) ∧ (¬ a = 3 → ((a = 4 → (Q (some (.int (h 23 2))) h)) ∧ (¬ a = 4 → ((a = 5 → (qm_PW X 67 [.ref 34, .int 0] h _)) ∧ (¬ a = 5 → (Q (some (.int (-1 : Int32))) h)))))))))))))
  refine ⟨fun c1 => ?_, fun c2 => ?_⟩
  · refine sf_60_1 X h  hm1 _ (fun r3 p4 => ?_)
    show Q (some (.int r3)) h
    exact hq r3 trivial
  · refine ⟨fun c5 => ?_, fun c6 => ?_⟩
    · refine sf_52_1 X h  hm1 _ (fun r7 p8 => ?_)
      show Q (some (.int r7)) h
      exact hq r7 trivial
    · refine ⟨fun c9 => ?_, fun c10 => ?_⟩
      · exact hq (h 1 9) trivial
      · refine ⟨fun c11 => ?_, fun c12 => ?_⟩
        · refine ⟨by decide, ?_⟩
          refine ⟨fun c13 => ?_, fun c14 => ?_⟩
          · refine ⟨by decide, ?_⟩
            refine ⟨fun c15 => ?_, fun c16 => ?_⟩
            · exact hq (0 + 0) trivial
            · exact hq (0 + 1) trivial
          · refine ⟨by decide, ?_⟩
            refine ⟨fun c17 => ?_, fun c18 => ?_⟩
            · exact hq (1 + 0) trivial
            · exact hq (1 + 1) trivial
        · refine ⟨fun c19 => ?_, fun c20 => ?_⟩
          · exact hq (h 23 2) trivial
          · refine ⟨fun c21 => ?_, fun c22 => ?_⟩
            · refine sf_67_34 X h (0 : Int32) trivial _ (fun r23 p24 => ?_)
              show (r23 = 0 → ((0 ≤ (0 : Int) ∧ (0 : Int) < 4) ∧ (Q (some (.int (h 37 0))) h))) ∧ (¬ r23 = 0 → (Q (some (.int (-4 : Int32))) h))
              refine ⟨fun c25 => ?_, fun c26 => ?_⟩
              · have := p24.2 c25
                refine ⟨by decide, ?_⟩
                exact hq (h 37 0) trivial
              · exact hq (-4 : Int32) trivial
            · exact hq (-1 : Int32) trivial
