-- ThreadBank.fewest()I
set_option maxRecDepth 100000 in
set_option maxHeartbeats 4000000 in
theorem sf_110_0_c (X : qm_X) (h : qm_H) (hp : mq 1 h) (Q : qm_Q) (hq : ∀ r : Int32, (True) → Q (some (.int r)) h) : ∀ n : Nat, (∀ (l1 : Int32) (l2 : Int32) (l3 : Int32), (0 ≤ l3.toInt ∧ l3.toInt ≤ 3) → (l3.toInt * 8589934592 + 4294967296).toNat < n → qm_PA X 110 12 [(0, .ref 0), (1, .int l1), (2, .int l2), (3, .int l3)] [] h Q) ∧ (∀ (l1 : Int32) (l2 : Int32) (l3 : Int32) (l4 : Int32), (1 ≤ l3.toInt ∧ l3.toInt ≤ 3) → (l3.toInt * 8589934592 + l4.toInt).toNat < n → qm_PA X 110 27 [(0, .ref 0), (1, .int l1), (2, .int l2), (3, .int l3), (4, .int l4)] [] h Q) := by
  have hm1 : mq 1 h := hp
  have ⟨⟨_, _⟩, ⟨_, _⟩, _, _⟩ := hm1
  intro n
  induction n with
  | zero => exact ⟨fun _ _ _ _ h0 => absurd h0 (Nat.not_lt_zero _), fun _ _ _ _ _ h0 => absurd h0 (Nat.not_lt_zero _)⟩
  | succ n ih =>
    refine ⟨?_, ?_⟩
    · intro l1 l2 l3 hi hr
      refine qm_seg_ok (C := qc_110) (rt := some .int) rfl rfl (cuts := [(12, [0, 1, 2, 3]), (27, [0, 1, 2, 3, 4])]) 400 _ _ _ _ ?_
      show (l3.toInt < 1 → (Q (some (.int l1)) h)) ∧ (1 ≤ l3.toInt → (qm_PW X 42 [.ref 1, .int l3] h _))
      refine ⟨fun c1 => ?_, fun c2 => ?_⟩
      · exact hq l1 trivial
      · refine sf_42_1 X h l3 hm1 _ (fun r3 p4 => ?_)
        show qm_PA X 110 27 [(0, .ref 0), (1, .int l1), (2, .int l2), (3, .int l3), (4, .int r3)] [] h Q
        have := ti_rng r3
        exact ih.2 l1 l2 l3 r3 (by omega) (by omega)
    · intro l1 l2 l3 l4 hi hr
      have := ti_rng l4
      refine qm_seg_ok (C := qc_110) (rt := some .int) rfl rfl (cuts := [(12, [0, 1, 2, 3]), (27, [0, 1, 2, 3, 4])]) 400 _ _ _ _ ?_
      show (l4.toInt ≤ 0 → (qm_PA X 110 12 [(0, .ref 0), (1, .int l1), (2, .int l2), (3, .int (l3 + (-1 : Int32)))] [] h Q)) ∧ (0 < l4.toInt → ((l2.toInt ≤ 0 → (qm_PA X 110 12 [(0, .ref 0), (1, .int l1), (2, .int l2), (3, .int (l3 + (-1 : Int32)))] [] h Q)) ∧ (0 < l2.toInt → (qm_PA X 110 27 [(0, .ref 0), (1, .int (l1 + 1)), (2, .int (l2 - l3)), (3, .int l3), (4, .int (l4 + (-1 : Int32)))] [] h Q))))
      refine ⟨fun c1 => ?_, fun c2 => ?_⟩
      · have hz3 := ti_addK l3 (-1 : Int32) (-1) ti_n1 (by have := ti_rng l3; omega)
        revert hz3
        generalize l3 + (-1 : Int32) = z3
        intro hz3
        exact ih.1 l1 l2 z3 (by omega) (by omega)
      · refine ⟨fun c4 => ?_, fun c5 => ?_⟩
        · have hz6 := ti_addK l3 (-1 : Int32) (-1) ti_n1 (by have := ti_rng l3; omega)
          revert hz6
          generalize l3 + (-1 : Int32) = z6
          intro hz6
          exact ih.1 l1 l2 z6 (by omega) (by omega)
        · have hz7 := ti_addK l4 (-1 : Int32) (-1) ti_n1 (by have := ti_rng l4; omega)
          revert hz7
          generalize l4 + (-1 : Int32) = z7
          intro hz7
          have := ti_rng z7
          exact ih.2 (l1 + 1) (l2 - l3) l3 z7 (by omega) (by omega)
set_option maxRecDepth 100000 in
set_option maxHeartbeats 4000000 in
theorem sf_110_0 (X : qm_X) (h : qm_H) (hp : mq 1 h) (Q : qm_Q) (hq : ∀ r : Int32, (True) → Q (some (.int r)) h) : qm_PW X 110 [.ref 0] h Q := by
  have hm1 : mq 1 h := hp
  have ⟨⟨_, _⟩, ⟨_, _⟩, _, _⟩ := hm1
  refine qm_seg_ok (C := qc_110) (rt := some .int) rfl rfl (cuts := [(12, [0, 1, 2, 3]), (27, [0, 1, 2, 3, 4])]) 400 _ _ _ _ ?_
  show qm_PA X 110 12 [(0, .ref 0), (1, .int 0), (2, .int (h 1 7)), (3, .int 3)] [] h Q
  exact (sf_110_0_c X h hp Q hq _).1 (0 : Int32) (h 1 7) (3 : Int32) (by have : (3 : Int32).toInt = 3 := rfl; omega) (Nat.lt_succ_self _)
