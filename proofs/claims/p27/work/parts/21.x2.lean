-- ThreadBank.hasBit(II)Z
set_option maxRecDepth 100000 in
set_option maxHeartbeats 4000000 in
theorem sf_138 (X : qm_X) (h : qm_H) (a : Int32) (b : Int32) (hp : True) (Q : qm_Q) (hq : ∀ r : Int32, (r = 0 ∨ r = 1) → Q (some (.int r)) h) : qm_PW X 138 [.int a, .int b] h Q := by
  refine qm_seg_ok (C := qc_138) (rt := some .boolean) rfl rfl (cuts := []) 400 _ _ _ _ ?_
  show (((a >>> (b &&& 31)) &&& 1) = 0 → (((0 : Int32) = 0 ∨ (0 : Int32) = 1) ∧ Q (some (.int 0)) h)) ∧ (¬ ((a >>> (b &&& 31)) &&& 1) = 0 → (((1 : Int32) = 0 ∨ (1 : Int32) = 1) ∧ Q (some (.int 1)) h))
  refine ⟨fun c1 => ?_, fun c2 => ?_⟩
  · exact ⟨Or.inl rfl, hq 0 (Or.inl rfl)⟩
  · exact ⟨Or.inr rfl, hq 1 (Or.inr rfl)⟩
-- ThreadBank$Memory.fingersOfRoom(I)I
set_option maxRecDepth 100000 in
set_option maxHeartbeats 4000000 in
theorem sf_42_1_c (X : qm_X) (h : qm_H) (a : Int32) (hp : mq 1 h) (Q : qm_Q) (hq : ∀ r : Int32, (True) → Q (some (.int r)) h) : ∀ n : Nat, (∀ (l2 : Int32) (l3 : Int32), (0 ≤ l3.toInt ∧ l3.toInt ≤ 4) → ((4 - l3.toInt) * 100 + 50).toNat < n → qm_PA X 42 4 [(0, .ref 1), (1, .int a), (2, .int l2), (3, .int l3)] [] h Q) ∧ (∀ (l2 : Int32) (l3 : Int32) (l4 : Int32), (0 ≤ l3.toInt ∧ l3.toInt ≤ 3 ∧ 0 ≤ l4.toInt ∧ l4.toInt ≤ 5) → ((4 - l3.toInt) * 100 + 40 - l4.toInt).toNat < n → qm_PA X 42 15 [(0, .ref 1), (1, .int a), (2, .int l2), (3, .int l3), (4, .int l4)] [] h Q) := by
  have hm1 : mq 1 h := hp
  have ⟨⟨_, _⟩, ⟨_, _⟩, _, _⟩ := hm1
  intro n
  induction n with
  | zero => exact ⟨fun _ _ _ h0 => absurd h0 (Nat.not_lt_zero _), fun _ _ _ _ h0 => absurd h0 (Nat.not_lt_zero _)⟩
  | succ n ih =>
    refine ⟨?_, ?_⟩
    · intro l2 l3 hi hr
      refine qm_seg_ok (C := qc_42) (rt := some .int) rfl rfl (cuts := [(4, [0, 1, 2, 3]), (15, [0, 1, 2, 3, 4])]) 400 _ _ _ _ ?_
      show ((h 1 6).toInt ≤ l3.toInt → (Q (some (.int l2)) h)) ∧ (l3.toInt < (h 1 6).toInt → (qm_PA X 42 15 [(0, .ref 1), (1, .int a), (2, .int l2), (3, .int l3), (4, .int 0)] [] h Q))
      refine ⟨fun c1 => ?_, fun c2 => ?_⟩
      · exact hq l2 trivial
      · exact ih.2 l2 l3 (0 : Int32) (by have : (0 : Int32).toInt = 0 := rfl; omega) (by have : (0 : Int32).toInt = 0 := rfl; omega)
    · intro l2 l3 l4 hi hr
      refine qm_seg_ok (C := qc_42) (rt := some .int) rfl rfl (cuts := [(4, [0, 1, 2, 3]), (15, [0, 1, 2, 3, 4])]) 400 _ _ _ _ ?_
      show (5 ≤ l4.toInt → (qm_PA X 42 4 [(0, .ref 1), (1, .int a), (2, .int l2), (3, .int (l3 + 1))] [] h Q)) ∧ (l4.toInt < 5 → (qm_PW X 37 [.ref 1, .int ((10 * l3) + l4)] h _))
      refine ⟨fun c1 => ?_, fun c2 => ?_⟩
      · exact ih.1 l2 (l3 + 1) (by have := ti_addK l3 (1 : Int32) 1 rfl; omega) (by have := ti_addK l3 (1 : Int32) 1 rfl; omega)
      · refine sf_37_1 X h ((10 * l3) + l4) hm1 _ (fun r3 p4 => ?_)
        show (¬ r3 = a → (qm_PA X 42 15 [(0, .ref 1), (1, .int a), (2, .int l2), (3, .int l3), (4, .int (l4 + 1))] [] h Q)) ∧ (r3 = a → (qm_PA X 42 15 [(0, .ref 1), (1, .int a), (2, .int (l2 + 1)), (3, .int l3), (4, .int (l4 + 1))] [] h Q))
        refine ⟨fun c5 => ?_, fun c6 => ?_⟩
        · exact ih.2 l2 l3 (l4 + 1) (by have := ti_addK l4 (1 : Int32) 1 rfl; omega) (by have := ti_addK l4 (1 : Int32) 1 rfl; omega)
        · exact ih.2 (l2 + 1) l3 (l4 + 1) (by have := ti_addK l4 (1 : Int32) 1 rfl; omega) (by have := ti_addK l4 (1 : Int32) 1 rfl; omega)
set_option maxRecDepth 100000 in
set_option maxHeartbeats 4000000 in
theorem sf_42_1 (X : qm_X) (h : qm_H) (a : Int32) (hp : mq 1 h) (Q : qm_Q) (hq : ∀ r : Int32, (True) → Q (some (.int r)) h) : qm_PW X 42 [.ref 1, .int a] h Q := by
  have hm1 : mq 1 h := hp
  have ⟨⟨_, _⟩, ⟨_, _⟩, _, _⟩ := hm1
  refine qm_seg_ok (C := qc_42) (rt := some .int) rfl rfl (cuts := [(4, [0, 1, 2, 3]), (15, [0, 1, 2, 3, 4])]) 400 _ _ _ _ ?_
  show qm_PA X 42 4 [(0, .ref 1), (1, .int a), (2, .int 0), (3, .int 0)] [] h Q
  exact (sf_42_1_c X h a hp Q hq _).1 (0 : Int32) (0 : Int32) (by have : (0 : Int32).toInt = 0 := rfl; omega) (Nat.lt_succ_self _)
-- ThreadBank$Memory.fingersInUse()I
set_option maxRecDepth 100000 in
set_option maxHeartbeats 4000000 in
theorem sf_43_1_c (X : qm_X) (h : qm_H) (hp : mq 1 h) (Q : qm_Q) (hq : ∀ r : Int32, (True) → Q (some (.int r)) h) : ∀ n : Nat, (∀ (l1 : Int32) (l2 : Int32), (0 ≤ l2.toInt ∧ l2.toInt ≤ 4) → ((4 - l2.toInt) * 100 + 50).toNat < n → qm_PA X 43 4 [(0, .ref 1), (1, .int l1), (2, .int l2)] [] h Q) ∧ (∀ (l1 : Int32) (l2 : Int32) (l3 : Int32), (0 ≤ l2.toInt ∧ l2.toInt ≤ 3 ∧ 0 ≤ l3.toInt ∧ l3.toInt ≤ 5) → ((4 - l2.toInt) * 100 + 40 - l3.toInt).toNat < n → qm_PA X 43 14 [(0, .ref 1), (1, .int l1), (2, .int l2), (3, .int l3)] [] h Q) := by
  have hm1 : mq 1 h := hp
  have ⟨⟨_, _⟩, ⟨_, _⟩, _, _⟩ := hm1
  intro n
  induction n with
  | zero => exact ⟨fun _ _ _ h0 => absurd h0 (Nat.not_lt_zero _), fun _ _ _ _ h0 => absurd h0 (Nat.not_lt_zero _)⟩
  | succ n ih =>
    refine ⟨?_, ?_⟩
    · intro l1 l2 hi hr
      refine qm_seg_ok (C := qc_43) (rt := some .int) rfl rfl (cuts := [(4, [0, 1, 2]), (14, [0, 1, 2, 3])]) 400 _ _ _ _ ?_
      show ((h 1 6).toInt ≤ l2.toInt → (Q (some (.int l1)) h)) ∧ (l2.toInt < (h 1 6).toInt → (qm_PA X 43 14 [(0, .ref 1), (1, .int l1), (2, .int l2), (3, .int 0)] [] h Q))
      refine ⟨fun c1 => ?_, fun c2 => ?_⟩
      · exact hq l1 trivial
      · exact ih.2 l1 l2 (0 : Int32) (by have : (0 : Int32).toInt = 0 := rfl; omega) (by have : (0 : Int32).toInt = 0 := rfl; omega)
    · intro l1 l2 l3 hi hr
      refine qm_seg_ok (C := qc_43) (rt := some .int) rfl rfl (cuts := [(4, [0, 1, 2]), (14, [0, 1, 2, 3])]) 400 _ _ _ _ ?_
      show (5 ≤ l3.toInt → (qm_PA X 43 4 [(0, .ref 1), (1, .int l1), (2, .int (l2 + 1))] [] h Q)) ∧ (l3.toInt < 5 → (qm_PW X 35 [.ref 1, .int ((10 * l2) + l3)] h _))
      refine ⟨fun c1 => ?_, fun c2 => ?_⟩
      · exact ih.1 l1 (l2 + 1) (by have := ti_addK l2 (1 : Int32) 1 rfl; omega) (by have := ti_addK l2 (1 : Int32) 1 rfl; omega)
      · refine sf_35_1 X h ((10 * l2) + l3) hm1 _ (fun r3 p4 => ?_)
        show (r3.toInt ≤ 0 → (qm_PA X 43 14 [(0, .ref 1), (1, .int l1), (2, .int l2), (3, .int (l3 + 1))] [] h Q)) ∧ (0 < r3.toInt → (qm_PA X 43 14 [(0, .ref 1), (1, .int (l1 + 1)), (2, .int l2), (3, .int (l3 + 1))] [] h Q))
        refine ⟨fun c5 => ?_, fun c6 => ?_⟩
        · exact ih.2 l1 l2 (l3 + 1) (by have := ti_addK l3 (1 : Int32) 1 rfl; omega) (by have := ti_addK l3 (1 : Int32) 1 rfl; omega)
        · exact ih.2 (l1 + 1) l2 (l3 + 1) (by have := ti_addK l3 (1 : Int32) 1 rfl; omega) (by have := ti_addK l3 (1 : Int32) 1 rfl; omega)
set_option maxRecDepth 100000 in
set_option maxHeartbeats 4000000 in
theorem sf_43_1 (X : qm_X) (h : qm_H) (hp : mq 1 h) (Q : qm_Q) (hq : ∀ r : Int32, (True) → Q (some (.int r)) h) : qm_PW X 43 [.ref 1] h Q := by
  have hm1 : mq 1 h := hp
  have ⟨⟨_, _⟩, ⟨_, _⟩, _, _⟩ := hm1
  refine qm_seg_ok (C := qc_43) (rt := some .int) rfl rfl (cuts := [(4, [0, 1, 2]), (14, [0, 1, 2, 3])]) 400 _ _ _ _ ?_
  show qm_PA X 43 4 [(0, .ref 1), (1, .int 0), (2, .int 0)] [] h Q
  exact (sf_43_1_c X h hp Q hq _).1 (0 : Int32) (0 : Int32) (by have : (0 : Int32).toInt = 0 := rfl; omega) (Nat.lt_succ_self _)
-- ThreadBank$Memory.sameDebt(II)Z
set_option maxRecDepth 100000 in
set_option maxHeartbeats 4000000 in
theorem sf_49_1 (X : qm_X) (h : qm_H) (a : Int32) (b : Int32) (hp : mq 1 h) (Q : qm_Q) (hq : ∀ r : Int32, (r = 0 ∨ r = 1) → Q (some (.int r)) h) : qm_PW X 49 [.ref 1, .int a, .int b] h Q := by
  have hm1 : mq 1 h := hp
  have ⟨⟨_, _⟩, ⟨_, _⟩, _, _⟩ := hm1
  refine qm_seg_ok (C := qc_49) (rt := some .boolean) rfl rfl (cuts := []) 400 _ _ _ _ ?_
  show qm_PW X 29 [.ref 1, .int a] h _
  refine sf_29_1 X h a trivial _ (fun r1 p2 => ?_)
  show (r1 = 0 → (((0 : Int32) = 0 ∨ (0 : Int32) = 1) ∧ Q (some (.int 0)) h)) ∧ (¬ r1 = 0 → (qm_PW X 29 [.ref 1, .int b] h _))
  refine ⟨fun c3 => ?_, fun c4 => ?_⟩
  · exact ⟨Or.inl rfl, hq 0 (Or.inl rfl)⟩
  · have := p2.2 c4
    refine sf_29_1 X h b trivial _ (fun r5 p6 => ?_)
    show (r5 = 0 → (((0 : Int32) = 0 ∨ (0 : Int32) = 1) ∧ Q (some (.int 0)) h)) ∧ (¬ r5 = 0 → ((0 ≤ a.toInt ∧ a.toInt < 10) ∧ ((0 ≤ b.toInt ∧ b.toInt < 10) ∧ ((¬ (h 4 a.toInt.toNat) = (h 4 b.toInt.toNat) → (((0 : Int32) = 0 ∨ (0 : Int32) = 1) ∧ Q (some (.int 0)) h)) ∧ ((h 4 a.toInt.toNat) = (h 4 b.toInt.toNat) → ((0 ≤ a.toInt ∧ a.toInt < 10) ∧ ((0 ≤ b.toInt ∧ b.toInt < 10) ∧ ((¬ (h 5 a.toInt.toNat) = (h 5 b.toInt.toNat) → (((0 : Int32) = 0 ∨ (0 : Int32) = 1) ∧ Q (some (.int 0)) h)) ∧ ((h 5 a.toInt.toNat) = (h 5 b.toInt.toNat) → (((1 : Int32) = 0 ∨ (1 : Int32) = 1) ∧ Q (some (.int 1)) h))))))))))
    refine ⟨fun c7 => ?_, fun c8 => ?_⟩
    · exact ⟨Or.inl rfl, hq 0 (Or.inl rfl)⟩
    · have := p6.2 c8
      refine ⟨(by omega), ?_⟩
      refine ⟨(by omega), ?_⟩
      refine ⟨fun c9 => ?_, fun c10 => ?_⟩
      · exact ⟨Or.inl rfl, hq 0 (Or.inl rfl)⟩
      · refine ⟨(by omega), ?_⟩
        refine ⟨(by omega), ?_⟩
        refine ⟨fun c11 => ?_, fun c12 => ?_⟩
        · exact ⟨Or.inl rfl, hq 0 (Or.inl rfl)⟩
        · exact ⟨Or.inr rfl, hq 1 (Or.inr rfl)⟩
-- ThreadBank$Memory.originalsOf(I)I
set_option maxRecDepth 100000 in
set_option maxHeartbeats 4000000 in
theorem sf_50_1_c (X : qm_X) (h : qm_H) (a : Int32) (hp : mq 1 h) (Q : qm_Q) (hq : ∀ r : Int32, (True) → Q (some (.int r)) h) : ∀ n : Nat, (∀ (l2 : Int32) (l3 : Int32), (0 ≤ l3.toInt) → (a.toInt - l3.toInt).toNat < n → qm_PA X 50 4 [(0, .ref 1), (1, .int a), (2, .int l2), (3, .int l3)] [] h Q) := by
  have hm1 : mq 1 h := hp
  have ⟨⟨_, _⟩, ⟨_, _⟩, _, _⟩ := hm1
  intro n
  induction n with
  | zero => exact fun _ _ _ h0 => absurd h0 (Nat.not_lt_zero _)
  | succ n ih =>
    intro l2 l3 hi hr
    have := ti_rng a
    refine qm_seg_ok (C := qc_50) (rt := some .int) rfl rfl (cuts := [(4, [0, 1, 2, 3])]) 400 _ _ _ _ ?_
    show (a.toInt ≤ l3.toInt → (Q (some (.int l2)) h)) ∧ (l3.toInt < a.toInt → (qm_PW X 49 [.ref 1, .int a, .int l3] h _))
    refine ⟨fun c1 => ?_, fun c2 => ?_⟩
    · exact hq l2 trivial
    · refine sf_49_1 X h a l3 hm1 _ (fun r3 p4 => ?_)
      show (r3 = 0 → (qm_PA X 50 4 [(0, .ref 1), (1, .int a), (2, .int l2), (3, .int (l3 + 1))] [] h Q)) ∧ (¬ r3 = 0 → (qm_PW X 33 [.ref 1, .int a] h _))
      refine ⟨fun c5 => ?_, fun c6 => ?_⟩
      · exact ih l2 (l3 + 1) (by have := ti_addK l3 (1 : Int32) 1 rfl; omega) (by have := ti_addK l3 (1 : Int32) 1 rfl; omega)
      · refine sf_33_1 X h a hm1 _ (fun r7 p8 => ?_)
        show qm_PW X 33 [.ref 1, .int l3] h _
        refine sf_33_1 X h l3 hm1 _ (fun r9 p10 => ?_)
        show (r7 = r9 → (qm_PA X 50 4 [(0, .ref 1), (1, .int a), (2, .int l2), (3, .int (l3 + 1))] [] h Q)) ∧ (¬ r7 = r9 → (qm_PA X 50 4 [(0, .ref 1), (1, .int a), (2, .int (l2 ||| (1 <<< (l3 &&& 31)))), (3, .int (l3 + 1))] [] h Q))
        refine ⟨fun c11 => ?_, fun c12 => ?_⟩
        · exact ih l2 (l3 + 1) (by have := ti_addK l3 (1 : Int32) 1 rfl; omega) (by have := ti_addK l3 (1 : Int32) 1 rfl; omega)
        · exact ih (l2 ||| (1 <<< (l3 &&& 31))) (l3 + 1) (by have := ti_addK l3 (1 : Int32) 1 rfl; omega) (by have := ti_addK l3 (1 : Int32) 1 rfl; omega)
set_option maxRecDepth 100000 in
set_option maxHeartbeats 4000000 in
theorem sf_50_1 (X : qm_X) (h : qm_H) (a : Int32) (hp : mq 1 h) (Q : qm_Q) (hq : ∀ r : Int32, (True) → Q (some (.int r)) h) : qm_PW X 50 [.ref 1, .int a] h Q := by
  have hm1 : mq 1 h := hp
  have ⟨⟨_, _⟩, ⟨_, _⟩, _, _⟩ := hm1
  refine qm_seg_ok (C := qc_50) (rt := some .int) rfl rfl (cuts := [(4, [0, 1, 2, 3])]) 400 _ _ _ _ ?_
  show qm_PA X 50 4 [(0, .ref 1), (1, .int a), (2, .int 0), (3, .int 0)] [] h Q
  exact (sf_50_1_c X h a hp Q hq _) (0 : Int32) (0 : Int32) (by have : (0 : Int32).toInt = 0 := rfl; omega) (Nat.lt_succ_self _)
-- ThreadBank$Memory.isCopy(I)Z
set_option maxRecDepth 100000 in
set_option maxHeartbeats 4000000 in
theorem sf_51_1 (X : qm_X) (h : qm_H) (a : Int32) (hp : mq 1 h) (Q : qm_Q) (hq : ∀ r : Int32, (r = 0 ∨ r = 1) → Q (some (.int r)) h) : qm_PW X 51 [.ref 1, .int a] h Q := by
  have hm1 : mq 1 h := hp
  have ⟨⟨_, _⟩, ⟨_, _⟩, _, _⟩ := hm1
  refine qm_seg_ok (C := qc_51) (rt := some .boolean) rfl rfl (cuts := []) 400 _ _ _ _ ?_
  show qm_PW X 50 [.ref 1, .int a] h _
  refine sf_50_1 X h a hm1 _ (fun r1 p2 => ?_)
  show (r1 = 0 → (((0 : Int32) = 0 ∨ (0 : Int32) = 1) ∧ Q (some (.int 0)) h)) ∧ (¬ r1 = 0 → (((1 : Int32) = 0 ∨ (1 : Int32) = 1) ∧ Q (some (.int 1)) h))
  refine ⟨fun c3 => ?_, fun c4 => ?_⟩
  · exact ⟨Or.inl rfl, hq 0 (Or.inl rfl)⟩
  · exact ⟨Or.inr rfl, hq 1 (Or.inr rfl)⟩
-- ThreadBank$Memory.copiesTied()I
set_option maxRecDepth 100000 in
set_option maxHeartbeats 4000000 in
theorem sf_52_1_c (X : qm_X) (h : qm_H) (hp : mq 1 h) (Q : qm_Q) (hq : ∀ r : Int32, (True) → Q (some (.int r)) h) : ∀ n : Nat, (∀ (l1 : Int32) (l2 : Int32), (0 ≤ l2.toInt ∧ l2.toInt ≤ 10) → (10 - l2.toInt).toNat < n → qm_PA X 52 4 [(0, .ref 1), (1, .int l1), (2, .int l2)] [] h Q) := by
  have hm1 : mq 1 h := hp
  have ⟨⟨_, _⟩, ⟨_, _⟩, _, _⟩ := hm1
  intro n
  induction n with
  | zero => exact fun _ _ _ h0 => absurd h0 (Nat.not_lt_zero _)
  | succ n ih =>
    intro l1 l2 hi hr
    have ti_l2 := ti_rng l2
    refine qm_seg_ok (C := qc_52) (rt := some .int) rfl rfl (cuts := [(4, [0, 1, 2])]) 400 _ _ _ _ ?_
    show ((h 1 7).toInt ≤ l2.toInt → (Q (some (.int l1)) h)) ∧ (l2.toInt < (h 1 7).toInt → (qm_PW X 51 [.ref 1, .int l2] h _))
    refine ⟨fun c1 => ?_, fun c2 => ?_⟩
    · exact hq l1 trivial
    · refine sf_51_1 X h l2 hm1 _ (fun r3 p4 => ?_)
      show (r3 = 0 → (qm_PA X 52 4 [(0, .ref 1), (1, .int l1), (2, .int (l2 + 1))] [] h Q)) ∧ (¬ r3 = 0 → (qm_PA X 52 4 [(0, .ref 1), (1, .int (l1 + 1)), (2, .int (l2 + 1))] [] h Q))
      refine ⟨fun c5 => ?_, fun c6 => ?_⟩
      · exact ih l1 (l2 + 1) (by have := ti_addK l2 (1 : Int32) 1 rfl; omega) (by have := ti_addK l2 (1 : Int32) 1 rfl; omega)
      · exact ih (l1 + 1) (l2 + 1) (by have := ti_addK l2 (1 : Int32) 1 rfl; omega) (by have := ti_addK l2 (1 : Int32) 1 rfl; omega)
set_option maxRecDepth 100000 in
set_option maxHeartbeats 4000000 in
theorem sf_52_1 (X : qm_X) (h : qm_H) (hp : mq 1 h) (Q : qm_Q) (hq : ∀ r : Int32, (True) → Q (some (.int r)) h) : qm_PW X 52 [.ref 1] h Q := by
  have hm1 : mq 1 h := hp
  have ⟨⟨_, _⟩, ⟨_, _⟩, _, _⟩ := hm1
  refine qm_seg_ok (C := qc_52) (rt := some .int) rfl rfl (cuts := [(4, [0, 1, 2])]) 400 _ _ _ _ ?_
  show qm_PA X 52 4 [(0, .ref 1), (1, .int 0), (2, .int 0)] [] h Q
  exact (sf_52_1_c X h hp Q hq _) (0 : Int32) (0 : Int32) (by have : (0 : Int32).toInt = 0 := rfl; omega) (Nat.lt_succ_self _)
-- ThreadBank$Memory.owedBy(II)I
set_option maxRecDepth 100000 in
set_option maxHeartbeats 4000000 in
theorem sf_53_1_c (X : qm_X) (h : qm_H) (a : Int32) (b : Int32) (hp : mq 1 h) (Q : qm_Q) (hq : ∀ r : Int32, (True) → Q (some (.int r)) h) : ∀ n : Nat, (∀ (l3 : Int32) (l4 : Int32), (0 ≤ l4.toInt ∧ l4.toInt ≤ 10) → (10 - l4.toInt).toNat < n → qm_PA X 53 5 [(0, .ref 1), (1, .int a), (2, .int b), (3, .int l3), (4, .int l4)] [] h Q) := by
  have hm1 : mq 1 h := hp
  have ⟨⟨_, _⟩, ⟨_, _⟩, _, _⟩ := hm1
  intro n
  induction n with
  | zero => exact fun _ _ _ h0 => absurd h0 (Nat.not_lt_zero _)
  | succ n ih =>
    intro l3 l4 hi hr
    have ti_l4 := ti_rng l4
    refine qm_seg_ok (C := qc_53) (rt := some .int) rfl rfl (cuts := [(5, [0, 1, 2, 3, 4])]) 400 _ _ _ _ ?_
    show ((h 1 7).toInt ≤ l4.toInt → (Q (some (.int l3)) h)) ∧ (l4.toInt < (h 1 7).toInt → ((0 ≤ l4.toInt ∧ l4.toInt < 10) ∧ ((¬ (h 4 l4.toInt.toNat) = a → (qm_PA X 53 5 [(0, .ref 1), (1, .int a), (2, .int b), (3, .int l3), (4, .int (l4 + 1))] [] h Q)) ∧ ((h 4 l4.toInt.toNat) = a → ((0 ≤ l4.toInt ∧ l4.toInt < 10) ∧ (¬ (10 : Int32) = 0 ∧ ((b.toInt < ((h 5 l4.toInt.toNat) - (h 5 l4.toInt.toNat) / 10 * 10).toInt → (qm_PA X 53 5 [(0, .ref 1), (1, .int a), (2, .int b), (3, .int l3), (4, .int (l4 + 1))] [] h Q)) ∧ (((h 5 l4.toInt.toNat) - (h 5 l4.toInt.toNat) / 10 * 10).toInt ≤ b.toInt → (qm_PW X 51 [.ref 1, .int l4] h _)))))))))
    refine ⟨fun c1 => ?_, fun c2 => ?_⟩
    · exact hq l3 trivial
    · refine ⟨(by omega), ?_⟩
      refine ⟨fun c3 => ?_, fun c4 => ?_⟩
      · exact ih l3 (l4 + 1) (by have := ti_addK l4 (1 : Int32) 1 rfl; omega) (by have := ti_addK l4 (1 : Int32) 1 rfl; omega)
      · refine ⟨(by omega), ?_⟩
        refine ⟨by decide, ?_⟩
        refine ⟨fun c5 => ?_, fun c6 => ?_⟩
        · exact ih l3 (l4 + 1) (by have := ti_addK l4 (1 : Int32) 1 rfl; have := ti_rem (10 : Int32) 10 rfl (h 5 l4.toInt.toNat) (by decide); omega) (by have := ti_addK l4 (1 : Int32) 1 rfl; have := ti_rem (10 : Int32) 10 rfl (h 5 l4.toInt.toNat) (by decide); omega)
        · refine sf_51_1 X h l4 hm1 _ (fun r7 p8 => ?_)
          show (¬ r7 = 0 → (qm_PA X 53 5 [(0, .ref 1), (1, .int a), (2, .int b), (3, .int l3), (4, .int (l4 + 1))] [] h Q)) ∧ (r7 = 0 → ((0 ≤ l4.toInt ∧ l4.toInt < 10) ∧ (¬ (10 : Int32) = 0 ∧ (qm_PA X 53 5 [(0, .ref 1), (1, .int a), (2, .int b), (3, .int (l3 + ((h 5 l4.toInt.toNat) / 10))), (4, .int (l4 + 1))] [] h Q))))
          refine ⟨fun c9 => ?_, fun c10 => ?_⟩
          · exact ih l3 (l4 + 1) (by have := ti_addK l4 (1 : Int32) 1 rfl; have := ti_rem (10 : Int32) 10 rfl (h 5 l4.toInt.toNat) (by decide); omega) (by have := ti_addK l4 (1 : Int32) 1 rfl; have := ti_rem (10 : Int32) 10 rfl (h 5 l4.toInt.toNat) (by decide); omega)
          · refine ⟨(by have := ti_rem (10 : Int32) 10 rfl (h 5 l4.toInt.toNat) (by decide); omega), ?_⟩
            refine ⟨by decide, ?_⟩
            exact ih (l3 + ((h 5 l4.toInt.toNat) / 10)) (l4 + 1) (by have := ti_addK l4 (1 : Int32) 1 rfl; have := ti_rem (10 : Int32) 10 rfl (h 5 l4.toInt.toNat) (by decide); omega) (by have := ti_addK l4 (1 : Int32) 1 rfl; have := ti_rem (10 : Int32) 10 rfl (h 5 l4.toInt.toNat) (by decide); omega)
set_option maxRecDepth 100000 in
set_option maxHeartbeats 4000000 in
theorem sf_53_1 (X : qm_X) (h : qm_H) (a : Int32) (b : Int32) (hp : mq 1 h) (Q : qm_Q) (hq : ∀ r : Int32, (True) → Q (some (.int r)) h) : qm_PW X 53 [.ref 1, .int a, .int b] h Q := by
  have hm1 : mq 1 h := hp
  have ⟨⟨_, _⟩, ⟨_, _⟩, _, _⟩ := hm1
  refine qm_seg_ok (C := qc_53) (rt := some .int) rfl rfl (cuts := [(5, [0, 1, 2, 3, 4])]) 400 _ _ _ _ ?_
  show qm_PA X 53 5 [(0, .ref 1), (1, .int a), (2, .int b), (3, .int 0), (4, .int 0)] [] h Q
  exact (sf_53_1_c X h a b hp Q hq _) (0 : Int32) (0 : Int32) (by have : (0 : Int32).toInt = 0 := rfl; omega) (Nat.lt_succ_self _)
-- ThreadBank$Memory.owedInAll(I)I
set_option maxRecDepth 100000 in
set_option maxHeartbeats 4000000 in
theorem sf_54_1_c (X : qm_X) (h : qm_H) (a : Int32) (hp : mq 1 h) (Q : qm_Q) (hq : ∀ r : Int32, (True) → Q (some (.int r)) h) : ∀ n : Nat, (∀ (l2 : Int32) (l3 : Int32), (0 ≤ l3.toInt ∧ l3.toInt ≤ 4) → ((4 - l3.toInt) * 100 + 50).toNat < n → qm_PA X 54 4 [(0, .ref 1), (1, .int a), (2, .int l2), (3, .int l3)] [] h Q) ∧ (∀ (l2 : Int32) (l3 : Int32) (l4 : Int32), (0 ≤ l3.toInt ∧ l3.toInt ≤ 3 ∧ 0 ≤ l4.toInt ∧ l4.toInt ≤ 4) → ((4 - l3.toInt) * 100 + 40 - l4.toInt).toNat < n → qm_PA X 54 15 [(0, .ref 1), (1, .int a), (2, .int l2), (3, .int l3), (4, .int l4)] [] h Q) := by
  have hm1 : mq 1 h := hp
  have ⟨⟨_, _⟩, ⟨_, _⟩, _, _⟩ := hm1
  intro n
  induction n with
  | zero => exact ⟨fun _ _ _ h0 => absurd h0 (Nat.not_lt_zero _), fun _ _ _ _ h0 => absurd h0 (Nat.not_lt_zero _)⟩
  | succ n ih =>
    refine ⟨?_, ?_⟩
    · intro l2 l3 hi hr
      refine qm_seg_ok (C := qc_54) (rt := some .int) rfl rfl (cuts := [(4, [0, 1, 2, 3]), (15, [0, 1, 2, 3, 4])]) 400 _ _ _ _ ?_
      show ((h 1 6).toInt ≤ l3.toInt → (Q (some (.int l2)) h)) ∧ (l3.toInt < (h 1 6).toInt → (qm_PA X 54 15 [(0, .ref 1), (1, .int a), (2, .int l2), (3, .int l3), (4, .int 0)] [] h Q))
      refine ⟨fun c1 => ?_, fun c2 => ?_⟩
      · exact hq l2 trivial
      · exact ih.2 l2 l3 (0 : Int32) (by have : (0 : Int32).toInt = 0 := rfl; omega) (by have : (0 : Int32).toInt = 0 := rfl; omega)
    · intro l2 l3 l4 hi hr
      refine qm_seg_ok (C := qc_54) (rt := some .int) rfl rfl (cuts := [(4, [0, 1, 2, 3]), (15, [0, 1, 2, 3, 4])]) 400 _ _ _ _ ?_
      show ((h 1 6).toInt ≤ l4.toInt → (qm_PA X 54 4 [(0, .ref 1), (1, .int a), (2, .int l2), (3, .int (l3 + 1))] [] h Q)) ∧ (l4.toInt < (h 1 6).toInt → (qm_PW X 53 [.ref 1, .int ((10 * l3) + l4), .int a] h _))
      refine ⟨fun c1 => ?_, fun c2 => ?_⟩
      · exact ih.1 l2 (l3 + 1) (by have := ti_addK l3 (1 : Int32) 1 rfl; omega) (by have := ti_addK l3 (1 : Int32) 1 rfl; omega)
      · refine sf_53_1 X h ((10 * l3) + l4) a hm1 _ (fun r3 p4 => ?_)
        show qm_PA X 54 15 [(0, .ref 1), (1, .int a), (2, .int (l2 + r3)), (3, .int l3), (4, .int (l4 + 1))] [] h Q
        exact ih.2 (l2 + r3) l3 (l4 + 1) (by have := ti_addK l4 (1 : Int32) 1 rfl; omega) (by have := ti_addK l4 (1 : Int32) 1 rfl; omega)
set_option maxRecDepth 100000 in
set_option maxHeartbeats 4000000 in
theorem sf_54_1 (X : qm_X) (h : qm_H) (a : Int32) (hp : mq 1 h) (Q : qm_Q) (hq : ∀ r : Int32, (True) → Q (some (.int r)) h) : qm_PW X 54 [.ref 1, .int a] h Q := by
  have hm1 : mq 1 h := hp
  have ⟨⟨_, _⟩, ⟨_, _⟩, _, _⟩ := hm1
  refine qm_seg_ok (C := qc_54) (rt := some .int) rfl rfl (cuts := [(4, [0, 1, 2, 3]), (15, [0, 1, 2, 3, 4])]) 400 _ _ _ _ ?_
  show qm_PA X 54 4 [(0, .ref 1), (1, .int a), (2, .int 0), (3, .int 0)] [] h Q
  exact (sf_54_1_c X h a hp Q hq _).1 (0 : Int32) (0 : Int32) (by have : (0 : Int32).toInt = 0 := rfl; omega) (Nat.lt_succ_self _)
-- ThreadBank$Memory.netOf(I)I
set_option maxRecDepth 100000 in
set_option maxHeartbeats 4000000 in
theorem sf_55_1_c (X : qm_X) (h : qm_H) (a : Int32) (hp : mq 1 h) (Q : qm_Q) (hq : ∀ r : Int32, (True) → Q (some (.int r)) h) : ∀ n : Nat, (∀ (l2 : Int32) (l3 : Int32), (0 ≤ l3.toInt ∧ l3.toInt ≤ 4) → (4 - l3.toInt).toNat < n → qm_PA X 55 4 [(0, .ref 1), (1, .int a), (2, .int l2), (3, .int l3)] [] h Q) := by
  have hm1 : mq 1 h := hp
  have ⟨⟨_, _⟩, ⟨_, _⟩, _, _⟩ := hm1
  intro n
  induction n with
  | zero => exact fun _ _ _ h0 => absurd h0 (Nat.not_lt_zero _)
  | succ n ih =>
    intro l2 l3 hi hr
    have ti_l3 := ti_rng l3
    refine qm_seg_ok (C := qc_55) (rt := some .int) rfl rfl (cuts := [(4, [0, 1, 2, 3])]) 400 _ _ _ _ ?_
    show ((h 1 6).toInt ≤ l3.toInt → (Q (some (.int l2)) h)) ∧ (l3.toInt < (h 1 6).toInt → (qm_PW X 53 [.ref 1, .int ((10 * l3) + a), .int 9] h _))
    refine ⟨fun c1 => ?_, fun c2 => ?_⟩
    · exact hq l2 trivial
    · refine sf_53_1 X h ((10 * l3) + a) (9 : Int32) hm1 _ (fun r3 p4 => ?_)
      show qm_PW X 53 [.ref 1, .int ((10 * a) + l3), .int 9] h _
      refine sf_53_1 X h ((10 * a) + l3) (9 : Int32) hm1 _ (fun r5 p6 => ?_)
      show qm_PA X 55 4 [(0, .ref 1), (1, .int a), (2, .int ((l2 + r3) - r5)), (3, .int (l3 + 1))] [] h Q
      exact ih ((l2 + r3) - r5) (l3 + 1) (by have := ti_addK l3 (1 : Int32) 1 rfl; omega) (by have := ti_addK l3 (1 : Int32) 1 rfl; omega)
set_option maxRecDepth 100000 in
set_option maxHeartbeats 4000000 in
theorem sf_55_1 (X : qm_X) (h : qm_H) (a : Int32) (hp : mq 1 h) (Q : qm_Q) (hq : ∀ r : Int32, (True) → Q (some (.int r)) h) : qm_PW X 55 [.ref 1, .int a] h Q := by
  have hm1 : mq 1 h := hp
  have ⟨⟨_, _⟩, ⟨_, _⟩, _, _⟩ := hm1
  refine qm_seg_ok (C := qc_55) (rt := some .int) rfl rfl (cuts := [(4, [0, 1, 2, 3])]) 400 _ _ _ _ ?_
  show qm_PA X 55 4 [(0, .ref 1), (1, .int a), (2, .int 0), (3, .int 0)] [] h Q
  exact (sf_55_1_c X h a hp Q hq _) (0 : Int32) (0 : Int32) (by have : (0 : Int32).toInt = 0 := rfl; omega) (Nat.lt_succ_self _)
-- ThreadBank$Memory.noteOriginals([I)V
set_option maxRecDepth 100000 in
set_option maxHeartbeats 4000000 in
theorem sf_56_1_38_c (X : qm_X) (h : qm_H) (hp : mq 1 h) (Q : qm_Q) (hq : ∀ h' : qm_H, ((∀ k, (k < 38 ∨ 38 < k) → h' k = h k)) → Q none h') : ∀ n : Nat, (∀ (l2 : Int32) (g : qm_H), ((0 ≤ l2.toInt ∧ l2.toInt ≤ 10) ∧ mq 1 g ∧ ∀ k, (k < 38 ∨ 38 < k) → g k = h k) → (10 - l2.toInt).toNat < n → qm_PA X 56 2 [(0, .ref 1), (1, .ref 38), (2, .int l2)] [] g Q) := by
  have hm1 : mq 1 h := hp
  have ⟨⟨_, _⟩, ⟨_, _⟩, _, _⟩ := hm1
  intro n
  induction n with
  | zero => exact fun _ _ _ h0 => absurd h0 (Nat.not_lt_zero _)
  | succ n ih =>
    intro l2 g hi hr
    obtain ⟨hi0, hg1, hgf⟩ := hi
    have ⟨⟨_, _⟩, ⟨_, _⟩, _, _⟩ := hg1
    refine qm_seg_ok (C := qc_56) (rt := none) rfl rfl (cuts := [(2, [0, 1, 2])]) 400 _ _ _ _ ?_
    show ((g 1 7).toInt ≤ l2.toInt → (Q none g)) ∧ (l2.toInt < (g 1 7).toInt → ((10 ≤ l2.toInt → (Q none g)) ∧ (l2.toInt < 10 → (qm_PW X 50 [.ref 1, .int l2] g _))))
    refine ⟨fun c1 => ?_, fun c2 => ?_⟩
    · exact hq g (fun k hk => hgf k hk)
    · refine ⟨fun c3 => ?_, fun c4 => ?_⟩
      · exact hq g (fun k hk => hgf k hk)
      · refine sf_50_1 X g l2 hg1 _ (fun r5 p6 => ?_)
        show (0 ≤ l2.toInt ∧ l2.toInt < 10) ∧ (qm_PA X 56 2 [(0, .ref 1), (1, .ref 38), (2, .int (l2 + 1))] [] (qm_row g 38 (upd (g 38) l2.toInt.toNat r5)) Q)
        refine ⟨(by omega), ?_⟩
        exact ih (l2 + 1) (qm_row g 38 (upd (g 38) l2.toInt.toNat r5)) ⟨(by have := ti_addK l2 (1 : Int32) 1 rfl; show 0 ≤ (l2 + 1).toInt ∧ (l2 + 1).toInt ≤ 10; omega), (by exact hg1), (fun k hk => by simp only [qm_row]; rw [if_neg (by omega)]; exact hgf k hk)⟩ (by have := ti_addK l2 (1 : Int32) 1 rfl; show (10 - (l2 + 1).toInt).toNat < n; omega)
set_option maxRecDepth 100000 in
set_option maxHeartbeats 4000000 in
theorem sf_56_1_38 (X : qm_X) (h : qm_H) (hp : mq 1 h) (Q : qm_Q) (hq : ∀ h' : qm_H, ((∀ k, (k < 38 ∨ 38 < k) → h' k = h k)) → Q none h') : qm_PW X 56 [.ref 1, .ref 38] h Q := by
  have hm1 : mq 1 h := hp
  have ⟨⟨_, _⟩, ⟨_, _⟩, _, _⟩ := hm1
  refine qm_seg_ok (C := qc_56) (rt := none) rfl rfl (cuts := [(2, [0, 1, 2])]) 400 _ _ _ _ ?_
  show qm_PA X 56 2 [(0, .ref 1), (1, .ref 38), (2, .int 0)] [] h Q
  exact (sf_56_1_38_c X h hp Q hq _) (0 : Int32) h ⟨(by have : (0 : Int32).toInt = 0 := rfl; show 0 ≤ (0 : Int32).toInt ∧ (0 : Int32).toInt ≤ 10; omega), hm1, (fun k hk => rfl)⟩ (Nat.lt_succ_self _)
-- ThreadBank$Memory.owedWithout(II[I)I
set_option maxRecDepth 100000 in
set_option maxHeartbeats 4000000 in
theorem sf_57_1_38_c (X : qm_X) (h : qm_H) (a : Int32) (b : Int32) (hp : mq 1 h) (Q : qm_Q) (hq : ∀ r : Int32, (True) → Q (some (.int r)) h) : ∀ n : Nat, (∀ (l4 : Int32) (l5 : Int32), (0 ≤ l5.toInt ∧ l5.toInt ≤ 10) → (10 - l5.toInt).toNat < n → qm_PA X 57 6 [(0, .ref 1), (1, .int a), (2, .int b), (3, .ref 38), (4, .int l4), (5, .int l5)] [] h Q) := by
  have hm1 : mq 1 h := hp
  have ⟨⟨_, _⟩, ⟨_, _⟩, _, _⟩ := hm1
  intro n
  induction n with
  | zero => exact fun _ _ _ h0 => absurd h0 (Nat.not_lt_zero _)
  | succ n ih =>
    intro l4 l5 hi hr
    have ti_l5 := ti_rng l5
    refine qm_seg_ok (C := qc_57) (rt := some .int) rfl rfl (cuts := [(6, [0, 1, 2, 3, 4, 5])]) 400 _ _ _ _ ?_
    show ((h 1 7).toInt ≤ l5.toInt → (Q (some (.int l4)) h)) ∧ (l5.toInt < (h 1 7).toInt → ((10 ≤ l5.toInt → (Q (some (.int l4)) h)) ∧ (l5.toInt < 10 → ((0 ≤ l5.toInt ∧ l5.toInt < 10) ∧ ((¬ (h 4 l5.toInt.toNat) = b → (qm_PA X 57 6 [(0, .ref 1), (1, .int a), (2, .int b), (3, .ref 38), (4, .int l4), (5, .int (l5 + 1))] [] h Q)) ∧ ((h 4 l5.toInt.toNat) = b → (qm_PW X 138 [.int a, .int l5] h _)))))))
    refine ⟨fun c1 => ?_, fun c2 => ?_⟩
    · exact hq l4 trivial
    · refine ⟨fun c3 => ?_, fun c4 => ?_⟩
      · exact hq l4 trivial
      · refine ⟨(by omega), ?_⟩
        refine ⟨fun c5 => ?_, fun c6 => ?_⟩
        · exact ih l4 (l5 + 1) (by have := ti_addK l5 (1 : Int32) 1 rfl; omega) (by have := ti_addK l5 (1 : Int32) 1 rfl; omega)
        · refine sf_138 X h a l5 trivial _ (fun r7 p8 => ?_)
          show (¬ r7 = 0 → (qm_PA X 57 6 [(0, .ref 1), (1, .int a), (2, .int b), (3, .ref 38), (4, .int l4), (5, .int (l5 + 1))] [] h Q)) ∧ (r7 = 0 → ((0 ≤ l5.toInt ∧ l5.toInt < 10) ∧ ((¬ ((h 38 l5.toInt.toNat) &&& (a ^^^ (-1 : Int32))) = 0 → (qm_PA X 57 6 [(0, .ref 1), (1, .int a), (2, .int b), (3, .ref 38), (4, .int l4), (5, .int (l5 + 1))] [] h Q)) ∧ (((h 38 l5.toInt.toNat) &&& (a ^^^ (-1 : Int32))) = 0 → ((0 ≤ l5.toInt ∧ l5.toInt < 10) ∧ (¬ (10 : Int32) = 0 ∧ (qm_PA X 57 6 [(0, .ref 1), (1, .int a), (2, .int b), (3, .ref 38), (4, .int (l4 + ((h 5 l5.toInt.toNat) / 10))), (5, .int (l5 + 1))] [] h Q)))))))
          refine ⟨fun c9 => ?_, fun c10 => ?_⟩
          · exact ih l4 (l5 + 1) (by have := ti_addK l5 (1 : Int32) 1 rfl; omega) (by have := ti_addK l5 (1 : Int32) 1 rfl; omega)
          · refine ⟨(by omega), ?_⟩
            refine ⟨fun c11 => ?_, fun c12 => ?_⟩
            · exact ih l4 (l5 + 1) (by have := ti_addK l5 (1 : Int32) 1 rfl; omega) (by have := ti_addK l5 (1 : Int32) 1 rfl; omega)
            · refine ⟨(by omega), ?_⟩
              refine ⟨by decide, ?_⟩
              exact ih (l4 + ((h 5 l5.toInt.toNat) / 10)) (l5 + 1) (by have := ti_addK l5 (1 : Int32) 1 rfl; omega) (by have := ti_addK l5 (1 : Int32) 1 rfl; omega)
set_option maxRecDepth 100000 in
set_option maxHeartbeats 4000000 in
theorem sf_57_1_38 (X : qm_X) (h : qm_H) (a : Int32) (b : Int32) (hp : mq 1 h) (Q : qm_Q) (hq : ∀ r : Int32, (True) → Q (some (.int r)) h) : qm_PW X 57 [.ref 1, .int a, .int b, .ref 38] h Q := by
  have hm1 : mq 1 h := hp
  have ⟨⟨_, _⟩, ⟨_, _⟩, _, _⟩ := hm1
  refine qm_seg_ok (C := qc_57) (rt := some .int) rfl rfl (cuts := [(6, [0, 1, 2, 3, 4, 5])]) 400 _ _ _ _ ?_
  show qm_PA X 57 6 [(0, .ref 1), (1, .int a), (2, .int b), (3, .ref 38), (4, .int 0), (5, .int 0)] [] h Q
  exact (sf_57_1_38_c X h a b hp Q hq _) (0 : Int32) (0 : Int32) (by have : (0 : Int32).toInt = 0 := rfl; omega) (Nat.lt_succ_self _)
-- ThreadBank$Memory.isAsSeen(I[I)Z
set_option maxRecDepth 100000 in
set_option maxHeartbeats 4000000 in
theorem sf_58_1_38_c (X : qm_X) (h : qm_H) (a : Int32) (hp : mq 1 h) (Q : qm_Q) (hq : ∀ r : Int32, (r = 0 ∨ r = 1) → Q (some (.int r)) h) : ∀ n : Nat, (∀ (l3 : Int32), (0 ≤ l3.toInt ∧ l3.toInt ≤ 6) → (6 - l3.toInt).toNat < n → qm_PA X 58 2 [(0, .ref 1), (1, .int a), (2, .ref 38), (3, .int l3)] [] h Q) := by
  have hm1 : mq 1 h := hp
  have ⟨⟨_, _⟩, ⟨_, _⟩, _, _⟩ := hm1
  intro n
  induction n with
  | zero => exact fun _ _ h0 => absurd h0 (Nat.not_lt_zero _)
  | succ n ih =>
    intro l3 hi hr
    have ti_l3 := ti_rng l3
    refine qm_seg_ok (C := qc_58) (rt := some .boolean) rfl rfl (cuts := [(2, [0, 1, 2, 3])]) 400 _ _ _ _ ?_
    show ((h 1 9).toInt ≤ l3.toInt → (((1 : Int32) = 0 ∨ (1 : Int32) = 1) ∧ Q (some (.int 1)) h)) ∧ (l3.toInt < (h 1 9).toInt → ((0 ≤ l3.toInt ∧ l3.toInt < 6) ∧ (qm_PW X 57 [.ref 1, .int a, .int (h 6 l3.toInt.toNat), .ref 38] h _)))
    refine ⟨fun c1 => ?_, fun c2 => ?_⟩
    · exact ⟨Or.inr rfl, hq 1 (Or.inr rfl)⟩
    · refine ⟨(by omega), ?_⟩
      refine sf_57_1_38 X h a (h 6 l3.toInt.toNat) hm1 _ (fun r3 p4 => ?_)
      show (0 ≤ l3.toInt ∧ l3.toInt < 6) ∧ ((r3 = (h 7 l3.toInt.toNat) → (qm_PA X 58 2 [(0, .ref 1), (1, .int a), (2, .ref 38), (3, .int (l3 + 1))] [] h Q)) ∧ (¬ r3 = (h 7 l3.toInt.toNat) → (((0 : Int32) = 0 ∨ (0 : Int32) = 1) ∧ Q (some (.int 0)) h)))
      refine ⟨(by omega), ?_⟩
      refine ⟨fun c5 => ?_, fun c6 => ?_⟩
      · exact ih (l3 + 1) (by have := ti_addK l3 (1 : Int32) 1 rfl; omega) (by have := ti_addK l3 (1 : Int32) 1 rfl; omega)
      · exact ⟨Or.inl rfl, hq 0 (Or.inl rfl)⟩
set_option maxRecDepth 100000 in
set_option maxHeartbeats 4000000 in
theorem sf_58_1_38 (X : qm_X) (h : qm_H) (a : Int32) (hp : mq 1 h) (Q : qm_Q) (hq : ∀ r : Int32, (r = 0 ∨ r = 1) → Q (some (.int r)) h) : qm_PW X 58 [.ref 1, .int a, .ref 38] h Q := by
  have hm1 : mq 1 h := hp
  have ⟨⟨_, _⟩, ⟨_, _⟩, _, _⟩ := hm1
  refine qm_seg_ok (C := qc_58) (rt := some .boolean) rfl rfl (cuts := [(2, [0, 1, 2, 3])]) 400 _ _ _ _ ?_
  show qm_PA X 58 2 [(0, .ref 1), (1, .int a), (2, .ref 38), (3, .int 0)] [] h Q
  exact (sf_58_1_38_c X h a hp Q hq _) (0 : Int32) (by have : (0 : Int32).toInt = 0 := rfl; omega) (Nat.lt_succ_self _)
-- ThreadBank$Memory.isFirstOfDebt(I)Z
set_option maxRecDepth 100000 in
set_option maxHeartbeats 4000000 in
theorem sf_59_1_c (X : qm_X) (h : qm_H) (a : Int32) (hp : mq 1 h) (Q : qm_Q) (hq : ∀ r : Int32, (r = 0 ∨ r = 1) → Q (some (.int r)) h) : ∀ n : Nat, (∀ (l2 : Int32), (0 ≤ l2.toInt) → (a.toInt - l2.toInt).toNat < n → qm_PA X 59 2 [(0, .ref 1), (1, .int a), (2, .int l2)] [] h Q) := by
  have hm1 : mq 1 h := hp
  have ⟨⟨_, _⟩, ⟨_, _⟩, _, _⟩ := hm1
  intro n
  induction n with
  | zero => exact fun _ _ h0 => absurd h0 (Nat.not_lt_zero _)
  | succ n ih =>
    intro l2 hi hr
    have := ti_rng a
    refine qm_seg_ok (C := qc_59) (rt := some .boolean) rfl rfl (cuts := [(2, [0, 1, 2])]) 400 _ _ _ _ ?_
    show (a.toInt ≤ l2.toInt → (((1 : Int32) = 0 ∨ (1 : Int32) = 1) ∧ Q (some (.int 1)) h)) ∧ (l2.toInt < a.toInt → (qm_PW X 49 [.ref 1, .int a, .int l2] h _))
    refine ⟨fun c1 => ?_, fun c2 => ?_⟩
    · exact ⟨Or.inr rfl, hq 1 (Or.inr rfl)⟩
    · refine sf_49_1 X h a l2 hm1 _ (fun r3 p4 => ?_)
      show (r3 = 0 → (qm_PA X 59 2 [(0, .ref 1), (1, .int a), (2, .int (l2 + 1))] [] h Q)) ∧ (¬ r3 = 0 → (((0 : Int32) = 0 ∨ (0 : Int32) = 1) ∧ Q (some (.int 0)) h))
      refine ⟨fun c5 => ?_, fun c6 => ?_⟩
      · exact ih (l2 + 1) (by have := ti_addK l2 (1 : Int32) 1 rfl; omega) (by have := ti_addK l2 (1 : Int32) 1 rfl; omega)
      · exact ⟨Or.inl rfl, hq 0 (Or.inl rfl)⟩
set_option maxRecDepth 100000 in
set_option maxHeartbeats 4000000 in
theorem sf_59_1 (X : qm_X) (h : qm_H) (a : Int32) (hp : mq 1 h) (Q : qm_Q) (hq : ∀ r : Int32, (r = 0 ∨ r = 1) → Q (some (.int r)) h) : qm_PW X 59 [.ref 1, .int a] h Q := by
  have hm1 : mq 1 h := hp
  have ⟨⟨_, _⟩, ⟨_, _⟩, _, _⟩ := hm1
  refine qm_seg_ok (C := qc_59) (rt := some .boolean) rfl rfl (cuts := [(2, [0, 1, 2])]) 400 _ _ _ _ ?_
  show qm_PA X 59 2 [(0, .ref 1), (1, .int a), (2, .int 0)] [] h Q
  exact (sf_59_1_c X h a hp Q hq _) (0 : Int32) (by have : (0 : Int32).toInt = 0 := rfl; omega) (Nat.lt_succ_self _)
-- ThreadBank$Memory.debts()I
set_option maxRecDepth 100000 in
set_option maxHeartbeats 4000000 in
theorem sf_60_1_c (X : qm_X) (h : qm_H) (hp : mq 1 h) (Q : qm_Q) (hq : ∀ r : Int32, (True) → Q (some (.int r)) h) : ∀ n : Nat, (∀ (l1 : Int32) (l2 : Int32), (0 ≤ l2.toInt ∧ l2.toInt ≤ 10) → (10 - l2.toInt).toNat < n → qm_PA X 60 4 [(0, .ref 1), (1, .int l1), (2, .int l2)] [] h Q) := by
  have hm1 : mq 1 h := hp
  have ⟨⟨_, _⟩, ⟨_, _⟩, _, _⟩ := hm1
  intro n
  induction n with
  | zero => exact fun _ _ _ h0 => absurd h0 (Nat.not_lt_zero _)
  | succ n ih =>
    intro l1 l2 hi hr
    have ti_l2 := ti_rng l2
    refine qm_seg_ok (C := qc_60) (rt := some .int) rfl rfl (cuts := [(4, [0, 1, 2])]) 400 _ _ _ _ ?_
    show ((h 1 7).toInt ≤ l2.toInt → (Q (some (.int l1)) h)) ∧ (l2.toInt < (h 1 7).toInt → (qm_PW X 59 [.ref 1, .int l2] h _))
    refine ⟨fun c1 => ?_, fun c2 => ?_⟩
    · exact hq l1 trivial
    · refine sf_59_1 X h l2 hm1 _ (fun r3 p4 => ?_)
      show (r3 = 0 → (qm_PA X 60 4 [(0, .ref 1), (1, .int l1), (2, .int (l2 + 1))] [] h Q)) ∧ (¬ r3 = 0 → (qm_PA X 60 4 [(0, .ref 1), (1, .int (l1 + 1)), (2, .int (l2 + 1))] [] h Q))
      refine ⟨fun c5 => ?_, fun c6 => ?_⟩
      · exact ih l1 (l2 + 1) (by have := ti_addK l2 (1 : Int32) 1 rfl; omega) (by have := ti_addK l2 (1 : Int32) 1 rfl; omega)
      · exact ih (l1 + 1) (l2 + 1) (by have := ti_addK l2 (1 : Int32) 1 rfl; omega) (by have := ti_addK l2 (1 : Int32) 1 rfl; omega)
set_option maxRecDepth 100000 in
set_option maxHeartbeats 4000000 in
theorem sf_60_1 (X : qm_X) (h : qm_H) (hp : mq 1 h) (Q : qm_Q) (hq : ∀ r : Int32, (True) → Q (some (.int r)) h) : qm_PW X 60 [.ref 1] h Q := by
  have hm1 : mq 1 h := hp
  have ⟨⟨_, _⟩, ⟨_, _⟩, _, _⟩ := hm1
  refine qm_seg_ok (C := qc_60) (rt := some .int) rfl rfl (cuts := [(4, [0, 1, 2])]) 400 _ _ _ _ ?_
  show qm_PA X 60 4 [(0, .ref 1), (1, .int 0), (2, .int 0)] [] h Q
  exact (sf_60_1_c X h hp Q hq _) (0 : Int32) (0 : Int32) (by have : (0 : Int32).toInt = 0 := rfl; omega) (Nat.lt_succ_self _)
-- ThreadBank$Memory.isKeptWithout(II)Z
set_option maxRecDepth 100000 in
set_option maxHeartbeats 4000000 in
theorem sf_61_1_c (X : qm_X) (h : qm_H) (a : Int32) (b : Int32) (hp : mq 1 h) (Q : qm_Q) (hq : ∀ r : Int32, (r = 0 ∨ r = 1) → Q (some (.int r)) h) : ∀ n : Nat, (∀ (l3 : Int32), (0 ≤ l3.toInt ∧ l3.toInt ≤ 10) → (10 - l3.toInt).toNat < n → qm_PA X 61 2 [(0, .ref 1), (1, .int a), (2, .int b), (3, .int l3)] [] h Q) := by
  have hm1 : mq 1 h := hp
  have ⟨⟨_, _⟩, ⟨_, _⟩, _, _⟩ := hm1
  intro n
  induction n with
  | zero => exact fun _ _ h0 => absurd h0 (Nat.not_lt_zero _)
  | succ n ih =>
    intro l3 hi hr
    have ti_l3 := ti_rng l3
    refine qm_seg_ok (C := qc_61) (rt := some .boolean) rfl rfl (cuts := [(2, [0, 1, 2, 3])]) 400 _ _ _ _ ?_
    show ((h 1 7).toInt ≤ l3.toInt → (((0 : Int32) = 0 ∨ (0 : Int32) = 1) ∧ Q (some (.int 0)) h)) ∧ (l3.toInt < (h 1 7).toInt → (qm_PW X 49 [.ref 1, .int a, .int l3] h _))
    refine ⟨fun c1 => ?_, fun c2 => ?_⟩
    · exact ⟨Or.inl rfl, hq 0 (Or.inl rfl)⟩
    · refine sf_49_1 X h a l3 hm1 _ (fun r3 p4 => ?_)
      show (r3 = 0 → (qm_PA X 61 2 [(0, .ref 1), (1, .int a), (2, .int b), (3, .int (l3 + 1))] [] h Q)) ∧ (¬ r3 = 0 → (qm_PW X 33 [.ref 1, .int l3] h _))
      refine ⟨fun c5 => ?_, fun c6 => ?_⟩
      · exact ih (l3 + 1) (by have := ti_addK l3 (1 : Int32) 1 rfl; omega) (by have := ti_addK l3 (1 : Int32) 1 rfl; omega)
      · refine sf_33_1 X h l3 hm1 _ (fun r7 p8 => ?_)
        show qm_PW X 138 [.int b, .int r7] h _
        refine sf_138 X h b r7 trivial _ (fun r9 p10 => ?_)
        show (¬ r9 = 0 → (qm_PA X 61 2 [(0, .ref 1), (1, .int a), (2, .int b), (3, .int (l3 + 1))] [] h Q)) ∧ (r9 = 0 → (((1 : Int32) = 0 ∨ (1 : Int32) = 1) ∧ Q (some (.int 1)) h))
        refine ⟨fun c11 => ?_, fun c12 => ?_⟩
        · exact ih (l3 + 1) (by have := ti_addK l3 (1 : Int32) 1 rfl; omega) (by have := ti_addK l3 (1 : Int32) 1 rfl; omega)
        · exact ⟨Or.inr rfl, hq 1 (Or.inr rfl)⟩
set_option maxRecDepth 100000 in
set_option maxHeartbeats 4000000 in
theorem sf_61_1 (X : qm_X) (h : qm_H) (a : Int32) (b : Int32) (hp : mq 1 h) (Q : qm_Q) (hq : ∀ r : Int32, (r = 0 ∨ r = 1) → Q (some (.int r)) h) : qm_PW X 61 [.ref 1, .int a, .int b] h Q := by
  have hm1 : mq 1 h := hp
  have ⟨⟨_, _⟩, ⟨_, _⟩, _, _⟩ := hm1
  refine qm_seg_ok (C := qc_61) (rt := some .boolean) rfl rfl (cuts := [(2, [0, 1, 2, 3])]) 400 _ _ _ _ ?_
  show qm_PA X 61 2 [(0, .ref 1), (1, .int a), (2, .int b), (3, .int 0)] [] h Q
  exact (sf_61_1_c X h a b hp Q hq _) (0 : Int32) (by have : (0 : Int32).toInt = 0 := rfl; omega) (Nat.lt_succ_self _)
-- ThreadBank$Memory.debtsLostWith(I)I
set_option maxRecDepth 100000 in
set_option maxHeartbeats 4000000 in
theorem sf_62_1_c (X : qm_X) (h : qm_H) (a : Int32) (hp : mq 1 h) (Q : qm_Q) (hq : ∀ r : Int32, (True) → Q (some (.int r)) h) : ∀ n : Nat, (∀ (l2 : Int32) (l3 : Int32), (0 ≤ l3.toInt ∧ l3.toInt ≤ 10) → (10 - l3.toInt).toNat < n → qm_PA X 62 4 [(0, .ref 1), (1, .int a), (2, .int l2), (3, .int l3)] [] h Q) := by
  have hm1 : mq 1 h := hp
  have ⟨⟨_, _⟩, ⟨_, _⟩, _, _⟩ := hm1
  intro n
  induction n with
  | zero => exact fun _ _ _ h0 => absurd h0 (Nat.not_lt_zero _)
  | succ n ih =>
    intro l2 l3 hi hr
    have ti_l3 := ti_rng l3
    refine qm_seg_ok (C := qc_62) (rt := some .int) rfl rfl (cuts := [(4, [0, 1, 2, 3])]) 400 _ _ _ _ ?_
    show ((h 1 7).toInt ≤ l3.toInt → (Q (some (.int l2)) h)) ∧ (l3.toInt < (h 1 7).toInt → (qm_PW X 59 [.ref 1, .int l3] h _))
    refine ⟨fun c1 => ?_, fun c2 => ?_⟩
    · exact hq l2 trivial
    · refine sf_59_1 X h l3 hm1 _ (fun r3 p4 => ?_)
      show (r3 = 0 → (qm_PA X 62 4 [(0, .ref 1), (1, .int a), (2, .int l2), (3, .int (l3 + 1))] [] h Q)) ∧ (¬ r3 = 0 → (qm_PW X 61 [.ref 1, .int l3, .int a] h _))
      refine ⟨fun c5 => ?_, fun c6 => ?_⟩
      · exact ih l2 (l3 + 1) (by have := ti_addK l3 (1 : Int32) 1 rfl; omega) (by have := ti_addK l3 (1 : Int32) 1 rfl; omega)
      · refine sf_61_1 X h l3 a hm1 _ (fun r7 p8 => ?_)
        show (¬ r7 = 0 → (qm_PA X 62 4 [(0, .ref 1), (1, .int a), (2, .int l2), (3, .int (l3 + 1))] [] h Q)) ∧ (r7 = 0 → (qm_PA X 62 4 [(0, .ref 1), (1, .int a), (2, .int (l2 + 1)), (3, .int (l3 + 1))] [] h Q))
        refine ⟨fun c9 => ?_, fun c10 => ?_⟩
        · exact ih l2 (l3 + 1) (by have := ti_addK l3 (1 : Int32) 1 rfl; omega) (by have := ti_addK l3 (1 : Int32) 1 rfl; omega)
        · exact ih (l2 + 1) (l3 + 1) (by have := ti_addK l3 (1 : Int32) 1 rfl; omega) (by have := ti_addK l3 (1 : Int32) 1 rfl; omega)
set_option maxRecDepth 100000 in
set_option maxHeartbeats 4000000 in
theorem sf_62_1 (X : qm_X) (h : qm_H) (a : Int32) (hp : mq 1 h) (Q : qm_Q) (hq : ∀ r : Int32, (True) → Q (some (.int r)) h) : qm_PW X 62 [.ref 1, .int a] h Q := by
  have hm1 : mq 1 h := hp
  have ⟨⟨_, _⟩, ⟨_, _⟩, _, _⟩ := hm1
  refine qm_seg_ok (C := qc_62) (rt := some .int) rfl rfl (cuts := [(4, [0, 1, 2, 3])]) 400 _ _ _ _ ?_
  show qm_PA X 62 4 [(0, .ref 1), (1, .int a), (2, .int 0), (3, .int 0)] [] h Q
  exact (sf_62_1_c X h a hp Q hq _) (0 : Int32) (0 : Int32) (by have : (0 : Int32).toInt = 0 := rfl; omega) (Nat.lt_succ_self _)
-- ThreadBank$Memory.slipOdds(II)I
set_option maxRecDepth 100000 in
set_option maxHeartbeats 4000000 in
theorem sf_64_1 (X : qm_X) (h : qm_H) (a : Int32) (b : Int32) (hp : mq 1 h) (Q : qm_Q) (hq : ∀ r : Int32, (True) → Q (some (.int r)) h) : qm_PW X 64 [.ref 1, .int a, .int b] h Q := by
  have hm1 : mq 1 h := hp
  have ⟨⟨_, _⟩, ⟨_, _⟩, _, _⟩ := hm1
  refine qm_seg_ok (C := qc_64) (rt := some .int) rfl rfl (cuts := []) 400 _ _ _ _ ?_
  show qm_PW X 33 [.ref 1, .int a] h _
  refine sf_33_1 X h a hm1 _ (fun r1 p2 => ?_)
  show qm_PW X 32 [.ref 1, .int r1] h _
  refine sf_32_1 X h r1 hm1 _ (fun r3 p4 => ?_)
  show ((r3 = 2 → (Q (some (.int b)) h)) ∧ (¬ r3 = 2 → ((r3 = 3 → (Q (some (.int 0)) h)) ∧ (¬ r3 = 3 → (Q (some (.int (2 * b))) h)))))
  refine ⟨fun c5 => ?_, fun c6 => ?_⟩
  · exact hq b trivial
  · refine ⟨fun c7 => ?_, fun c8 => ?_⟩
    · exact hq 0 trivial
    · exact hq (2 * b) trivial
