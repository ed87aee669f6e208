-- ThreadBank$Memory.isPlace(II)Z
set_option maxRecDepth 100000 in
set_option maxHeartbeats 4000000 in
theorem sf_24 (X : qm_X) (h : qm_H) (a : Int32) (b : Int32) (hp : True) (Q : qm_Q) (hq : ∀ r : Int32, (r = 0 ∨ r = 1) → Q (some (.int r)) h) : qm_PW X 24 [.int a, .int b] h Q := by
  refine qm_seg_ok (C := qc_24) (rt := some .boolean) rfl rfl (cuts := []) 400 _ _ _ _ ?_
  show (a.toInt < 0 → (((0 : Int32) = 0 ∨ (0 : Int32) = 1) ∧ Q (some (.int 0)) h)) ∧ (0 ≤ a.toInt → (¬ (10 : Int32) = 0 ∧ ((b.toInt ≤ (a / 10).toInt → (((0 : Int32) = 0 ∨ (0 : Int32) = 1) ∧ Q (some (.int 0)) h)) ∧ ((a / 10).toInt < b.toInt → (¬ (10 : Int32) = 0 ∧ ((5 ≤ (a - a / 10 * 10).toInt → (((0 : Int32) = 0 ∨ (0 : Int32) = 1) ∧ Q (some (.int 0)) h)) ∧ ((a - a / 10 * 10).toInt < 5 → (((1 : Int32) = 0 ∨ (1 : Int32) = 1) ∧ Q (some (.int 1)) h))))))))
  refine ⟨fun c1 => ?_, fun c2 => ?_⟩
  · exact ⟨Or.inl rfl, hq 0 (Or.inl rfl)⟩
  · refine ⟨by decide, ?_⟩
    refine ⟨fun c3 => ?_, fun c4 => ?_⟩
    · exact ⟨Or.inl rfl, hq 0 (Or.inl rfl)⟩
    · refine ⟨by decide, ?_⟩
      refine ⟨fun c5 => ?_, fun c6 => ?_⟩
      · exact ⟨Or.inl rfl, hq 0 (Or.inl rfl)⟩
      · exact ⟨Or.inr rfl, hq 1 (Or.inr rfl)⟩
-- ThreadBank$Memory.isPair(II)Z
set_option maxRecDepth 100000 in
set_option maxHeartbeats 4000000 in
theorem sf_25 (X : qm_X) (h : qm_H) (a : Int32) (b : Int32) (hp : True) (Q : qm_Q) (hq : ∀ r : Int32, (r = 0 ∨ r = 1) → Q (some (.int r)) h) : qm_PW X 25 [.int a, .int b] h Q := by
  refine qm_seg_ok (C := qc_25) (rt := some .boolean) rfl rfl (cuts := []) 400 _ _ _ _ ?_
  show ¬ (10 : Int32) = 0 ∧ (¬ (10 : Int32) = 0 ∧ ((a.toInt < 0 → (((0 : Int32) = 0 ∨ (0 : Int32) = 1) ∧ Q (some (.int 0)) h)) ∧ (0 ≤ a.toInt → ((b.toInt ≤ (a / 10).toInt → (((0 : Int32) = 0 ∨ (0 : Int32) = 1) ∧ Q (some (.int 0)) h)) ∧ ((a / 10).toInt < b.toInt → ((b.toInt ≤ (a - a / 10 * 10).toInt → (((0 : Int32) = 0 ∨ (0 : Int32) = 1) ∧ Q (some (.int 0)) h)) ∧ ((a - a / 10 * 10).toInt < b.toInt → (((a / 10) = (a - a / 10 * 10) → (((0 : Int32) = 0 ∨ (0 : Int32) = 1) ∧ Q (some (.int 0)) h)) ∧ (¬ (a / 10) = (a - a / 10 * 10) → (((1 : Int32) = 0 ∨ (1 : Int32) = 1) ∧ Q (some (.int 1)) h))))))))))
  refine ⟨by decide, ?_⟩
  refine ⟨by decide, ?_⟩
  refine ⟨fun c1 => ?_, fun c2 => ?_⟩
  · exact ⟨Or.inl rfl, hq 0 (Or.inl rfl)⟩
  · refine ⟨fun c3 => ?_, fun c4 => ?_⟩
    · exact ⟨Or.inl rfl, hq 0 (Or.inl rfl)⟩
    · refine ⟨fun c5 => ?_, fun c6 => ?_⟩
      · exact ⟨Or.inl rfl, hq 0 (Or.inl rfl)⟩
      · refine ⟨fun c7 => ?_, fun c8 => ?_⟩
        · exact ⟨Or.inl rfl, hq 0 (Or.inl rfl)⟩
        · exact ⟨Or.inr rfl, hq 1 (Or.inr rfl)⟩
-- ThreadBank$Memory.roomOf(II)I
set_option maxRecDepth 100000 in
set_option maxHeartbeats 4000000 in
theorem sf_27 (X : qm_X) (h : qm_H) (a : Int32) (b : Int32) (hp : True) (Q : qm_Q) (hq : ∀ r : Int32, (True) → Q (some (.int r)) h) : qm_PW X 27 [.int a, .int b] h Q := by
  refine qm_seg_ok (C := qc_27) (rt := some .int) rfl rfl (cuts := []) 400 _ _ _ _ ?_
  show (a.toInt < 0 → (Q (some (.int 0)) h)) ∧ (0 ≤ a.toInt → ((4 ≤ a.toInt → (Q (some (.int 0)) h)) ∧ (a.toInt < 4 → ((b.toInt < 0 → (Q (some (.int 0)) h)) ∧ (0 ≤ b.toInt → ((b.toInt < 5 → ((0 ≤ ((5 * a) + b).toInt ∧ ((5 * a) + b).toInt < 20) ∧ (Q (some (.int (qm_rooms.getD ((5 * a) + b).toInt.toNat 0))) h))) ∧ (5 ≤ b.toInt → (Q (some (.int 0)) h))))))))
  refine ⟨fun c1 => ?_, fun c2 => ?_⟩
  · exact hq 0 trivial
  · refine ⟨fun c3 => ?_, fun c4 => ?_⟩
    · exact hq 0 trivial
    · refine ⟨fun c5 => ?_, fun c6 => ?_⟩
      · exact hq 0 trivial
      · refine ⟨fun c7 => ?_, fun c8 => ?_⟩
        · refine ⟨(by have := ti_mulL (5 : Int32) 5 rfl a; have := ti_add (5 * a) b; omega), ?_⟩
          exact hq (qm_rooms.getD ((5 * a) + b).toInt.toNat 0) trivial
        · exact hq 0 trivial
-- ThreadBank$Memory.hasClerk(I)Z
set_option maxRecDepth 100000 in
set_option maxHeartbeats 4000000 in
theorem sf_28_1 (X : qm_X) (h : qm_H) (a : Int32) (hp : True) (Q : qm_Q) (hq : ∀ r : Int32, ((r = 0 ∨ r = 1) ∧ (¬ r = 0 → 0 ≤ a.toInt ∧ a.toInt < (h 1 6).toInt)) → Q (some (.int r)) h) : qm_PW X 28 [.ref 1, .int a] h Q := by
  refine qm_seg_ok (C := qc_28) (rt := some .boolean) rfl rfl (cuts := []) 400 _ _ _ _ ?_
  show (a.toInt < 0 → (((0 : Int32) = 0 ∨ (0 : Int32) = 1) ∧ Q (some (.int 0)) h)) ∧ (0 ≤ a.toInt → (((h 1 6).toInt ≤ a.toInt → (((0 : Int32) = 0 ∨ (0 : Int32) = 1) ∧ Q (some (.int 0)) h)) ∧ (a.toInt < (h 1 6).toInt → (((1 : Int32) = 0 ∨ (1 : Int32) = 1) ∧ Q (some (.int 1)) h))))
  refine ⟨fun c1 => ?_, fun c2 => ?_⟩
  · exact ⟨Or.inl rfl, hq 0 (by first | omega | exact ⟨Or.inl rfl, fun hc => absurd rfl hc⟩ | exact ⟨Or.inr rfl, fun hc => absurd hc (by decide)⟩ | (refine ⟨Or.inr rfl, fun _ => ?_⟩; omega) | (refine ⟨Or.inl rfl, fun _ => ?_⟩; omega) | (simp; done))⟩
  · refine ⟨fun c3 => ?_, fun c4 => ?_⟩
    · exact ⟨Or.inl rfl, hq 0 (by first | omega | exact ⟨Or.inl rfl, fun hc => absurd rfl hc⟩ | exact ⟨Or.inr rfl, fun hc => absurd hc (by decide)⟩ | (refine ⟨Or.inr rfl, fun _ => ?_⟩; omega) | (refine ⟨Or.inl rfl, fun _ => ?_⟩; omega) | (simp; done))⟩
    · exact ⟨Or.inr rfl, hq 1 (by first | omega | exact ⟨Or.inl rfl, fun hc => absurd rfl hc⟩ | exact ⟨Or.inr rfl, fun hc => absurd hc (by decide)⟩ | (refine ⟨Or.inr rfl, fun _ => ?_⟩; omega) | (refine ⟨Or.inl rfl, fun _ => ?_⟩; omega) | (simp; done))⟩
-- ThreadBank$Memory.hasThread(I)Z
set_option maxRecDepth 100000 in
set_option maxHeartbeats 4000000 in
theorem sf_29_1 (X : qm_X) (h : qm_H) (a : Int32) (hp : True) (Q : qm_Q) (hq : ∀ r : Int32, ((r = 0 ∨ r = 1) ∧ (¬ r = 0 → 0 ≤ a.toInt ∧ a.toInt < (h 1 7).toInt)) → Q (some (.int r)) h) : qm_PW X 29 [.ref 1, .int a] h Q := by
  refine qm_seg_ok (C := qc_29) (rt := some .boolean) rfl rfl (cuts := []) 400 _ _ _ _ ?_
  show (a.toInt < 0 → (((0 : Int32) = 0 ∨ (0 : Int32) = 1) ∧ Q (some (.int 0)) h)) ∧ (0 ≤ a.toInt → (((h 1 7).toInt ≤ a.toInt → (((0 : Int32) = 0 ∨ (0 : Int32) = 1) ∧ Q (some (.int 0)) h)) ∧ (a.toInt < (h 1 7).toInt → (((1 : Int32) = 0 ∨ (1 : Int32) = 1) ∧ Q (some (.int 1)) h))))
  refine ⟨fun c1 => ?_, fun c2 => ?_⟩
  · exact ⟨Or.inl rfl, hq 0 (by first | omega | exact ⟨Or.inl rfl, fun hc => absurd rfl hc⟩ | exact ⟨Or.inr rfl, fun hc => absurd hc (by decide)⟩ | (refine ⟨Or.inr rfl, fun _ => ?_⟩; omega) | (refine ⟨Or.inl rfl, fun _ => ?_⟩; omega) | (simp; done))⟩
  · refine ⟨fun c3 => ?_, fun c4 => ?_⟩
    · exact ⟨Or.inl rfl, hq 0 (by first | omega | exact ⟨Or.inl rfl, fun hc => absurd rfl hc⟩ | exact ⟨Or.inr rfl, fun hc => absurd hc (by decide)⟩ | (refine ⟨Or.inr rfl, fun _ => ?_⟩; omega) | (refine ⟨Or.inl rfl, fun _ => ?_⟩; omega) | (simp; done))⟩
    · exact ⟨Or.inr rfl, hq 1 (by first | omega | exact ⟨Or.inl rfl, fun hc => absurd rfl hc⟩ | exact ⟨Or.inr rfl, fun hc => absurd hc (by decide)⟩ | (refine ⟨Or.inr rfl, fun _ => ?_⟩; omega) | (refine ⟨Or.inl rfl, fun _ => ?_⟩; omega) | (simp; done))⟩
-- ThreadBank$Memory.hasPlace(I)Z
set_option maxRecDepth 100000 in
set_option maxHeartbeats 4000000 in
theorem sf_30_1 (X : qm_X) (h : qm_H) (a : Int32) (hp : True) (Q : qm_Q) (hq : ∀ r : Int32, (r = 0 ∨ r = 1) → Q (some (.int r)) h) : qm_PW X 30 [.ref 1, .int a] h Q := by
  refine qm_seg_ok (C := qc_30) (rt := some .boolean) rfl rfl (cuts := []) 400 _ _ _ _ ?_
  show qm_PW X 24 [.int a, .int (h 1 6)] h _
  refine sf_24 X h a (h 1 6) trivial _ (fun r1 p2 => ?_)
  show (r1 = 0 ∨ r1 = 1) ∧ Q (some (.int r1)) h
  exact ⟨p2, hq r1 p2⟩
-- ThreadBank$Memory.hasPair(I)Z
set_option maxRecDepth 100000 in
set_option maxHeartbeats 4000000 in
theorem sf_31_1 (X : qm_X) (h : qm_H) (a : Int32) (hp : True) (Q : qm_Q) (hq : ∀ r : Int32, (r = 0 ∨ r = 1) → Q (some (.int r)) h) : qm_PW X 31 [.ref 1, .int a] h Q := by
  refine qm_seg_ok (C := qc_31) (rt := some .boolean) rfl rfl (cuts := []) 400 _ _ _ _ ?_
  show qm_PW X 25 [.int a, .int (h 1 6)] h _
  refine sf_25 X h a (h 1 6) trivial _ (fun r1 p2 => ?_)
  show (r1 = 0 ∨ r1 = 1) ∧ Q (some (.int r1)) h
  exact ⟨p2, hq r1 p2⟩
-- ThreadBank$Memory.kindOf(I)I
set_option maxRecDepth 100000 in
set_option maxHeartbeats 4000000 in
theorem sf_32_1 (X : qm_X) (h : qm_H) (a : Int32) (hp : mq 1 h) (Q : qm_Q) (hq : ∀ r : Int32, (True) → Q (some (.int r)) h) : qm_PW X 32 [.ref 1, .int a] h Q := by
  have hm1 : mq 1 h := hp
  have ⟨⟨_, _⟩, ⟨_, _⟩, _, _⟩ := hm1
  refine qm_seg_ok (C := qc_32) (rt := some .int) rfl rfl (cuts := []) 400 _ _ _ _ ?_
  show qm_PW X 28 [.ref 1, .int a] h _
  refine sf_28_1 X h a trivial _ (fun r1 p2 => ?_)
  show (r1 = 0 → (Q (some (.int (-4 : Int32))) h)) ∧ (¬ r1 = 0 → ((0 ≤ a.toInt ∧ a.toInt < 4) ∧ (Q (some (.int (h 2 a.toInt.toNat))) h)))
  refine ⟨fun c3 => ?_, fun c4 => ?_⟩
  · exact hq (-4 : Int32) trivial
  · have := p2.2 c4
    refine ⟨(by omega), ?_⟩
    exact hq (h 2 a.toInt.toNat) trivial
-- ThreadBank$Memory.threadsAt(I)I
set_option maxRecDepth 100000 in
set_option maxHeartbeats 4000000 in
theorem sf_35_1_c (X : qm_X) (h : qm_H) (a : Int32) (hp : mq 1 h) (Q : qm_Q) (hq : ∀ r : Int32, (True) → Q (some (.int r)) h) : ∀ n : Nat, (∀ (l2 : Int32) (l3 : Int32), (0 ≤ l3.toInt ∧ l3.toInt ≤ 10) → (10 - l3.toInt).toNat < n → qm_PA X 35 4 [(0, .ref 1), (1, .int a), (2, .int l2), (3, .int l3)] [] h Q) := by
  have hm1 : mq 1 h := hp
  have ⟨⟨_, _⟩, ⟨_, _⟩, _, _⟩ := hm1
  intro n
  induction n with
  | zero => exact fun _ _ _ h0 => absurd h0 (Nat.not_lt_zero _)
  | succ n ih =>
    intro l2 l3 hi hr
    have ti_l3 := ti_rng l3
    refine qm_seg_ok (C := qc_35) (rt := some .int) rfl rfl (cuts := [(4, [0, 1, 2, 3])]) 400 _ _ _ _ ?_
    show ((h 1 7).toInt ≤ l3.toInt → (Q (some (.int l2)) h)) ∧ (l3.toInt < (h 1 7).toInt → ((0 ≤ l3.toInt ∧ l3.toInt < 10) ∧ ((¬ (h 3 l3.toInt.toNat) = a → (qm_PA X 35 4 [(0, .ref 1), (1, .int a), (2, .int l2), (3, .int (l3 + 1))] [] h Q)) ∧ ((h 3 l3.toInt.toNat) = a → (qm_PA X 35 4 [(0, .ref 1), (1, .int a), (2, .int (l2 + 1)), (3, .int (l3 + 1))] [] h Q)))))
    refine ⟨fun c1 => ?_, fun c2 => ?_⟩
    · exact hq l2 trivial
    · refine ⟨(by omega), ?_⟩
      refine ⟨fun c3 => ?_, fun c4 => ?_⟩
      · exact ih l2 (l3 + 1) (by have := ti_addK l3 (1 : Int32) 1 rfl; omega) (by have := ti_addK l3 (1 : Int32) 1 rfl; omega)
      · exact ih (l2 + 1) (l3 + 1) (by have := ti_addK l3 (1 : Int32) 1 rfl; omega) (by have := ti_addK l3 (1 : Int32) 1 rfl; omega)
set_option maxRecDepth 100000 in
set_option maxHeartbeats 4000000 in
theorem sf_35_1 (X : qm_X) (h : qm_H) (a : Int32) (hp : mq 1 h) (Q : qm_Q) (hq : ∀ r : Int32, (True) → Q (some (.int r)) h) : qm_PW X 35 [.ref 1, .int a] h Q := by
  have hm1 : mq 1 h := hp
  have ⟨⟨_, _⟩, ⟨_, _⟩, _, _⟩ := hm1
  refine qm_seg_ok (C := qc_35) (rt := some .int) rfl rfl (cuts := [(4, [0, 1, 2, 3])]) 400 _ _ _ _ ?_
  show qm_PA X 35 4 [(0, .ref 1), (1, .int a), (2, .int 0), (3, .int 0)] [] h Q
  exact (sf_35_1_c X h a hp Q hq _) (0 : Int32) (0 : Int32) (by have : (0 : Int32).toInt = 0 := rfl; omega) (Nat.lt_succ_self _)
-- ThreadBank$Memory.roomAt(I)I
set_option maxRecDepth 100000 in
set_option maxHeartbeats 4000000 in
theorem sf_37_1 (X : qm_X) (h : qm_H) (a : Int32) (hp : mq 1 h) (Q : qm_Q) (hq : ∀ r : Int32, (True) → Q (some (.int r)) h) : qm_PW X 37 [.ref 1, .int a] h Q := by
  have hm1 : mq 1 h := hp
  have ⟨⟨_, _⟩, ⟨_, _⟩, _, _⟩ := hm1
  refine qm_seg_ok (C := qc_37) (rt := some .int) rfl rfl (cuts := []) 400 _ _ _ _ ?_
  show qm_PW X 30 [.ref 1, .int a] h _
  refine sf_30_1 X h a trivial _ (fun r1 p2 => ?_)
  show (r1 = 0 → (Q (some (.int 0)) h)) ∧ (¬ r1 = 0 → (¬ (10 : Int32) = 0 ∧ (qm_PW X 32 [.ref 1, .int (a / 10)] h _)))
  refine ⟨fun c3 => ?_, fun c4 => ?_⟩
  · exact hq 0 trivial
  · refine ⟨by decide, ?_⟩
    refine sf_32_1 X h (a / 10) hm1 _ (fun r5 p6 => ?_)
    show ¬ (10 : Int32) = 0 ∧ (qm_PW X 27 [.int r5, .int (a - a / 10 * 10)] h _)
    refine ⟨by decide, ?_⟩
    refine sf_27 X h r5 (a - a / 10 * 10) trivial _ (fun r7 p8 => ?_)
    show Q (some (.int r7)) h
    exact hq r7 trivial
-- ThreadBank$Memory.roomLeftAt(I)I
set_option maxRecDepth 100000 in
set_option maxHeartbeats 4000000 in
theorem sf_40_1 (X : qm_X) (h : qm_H) (a : Int32) (hp : mq 1 h) (Q : qm_Q) (hq : ∀ r : Int32, (True) → Q (some (.int r)) h) : qm_PW X 40 [.ref 1, .int a] h Q := by
  have hm1 : mq 1 h := hp
  have ⟨⟨_, _⟩, ⟨_, _⟩, _, _⟩ := hm1
  refine qm_seg_ok (C := qc_40) (rt := some .int) rfl rfl (cuts := []) 400 _ _ _ _ ?_
  show qm_PW X 37 [.ref 1, .int a] h _
  refine sf_37_1 X h a hm1 _ (fun r1 p2 => ?_)
  show qm_PW X 35 [.ref 1, .int a] h _
  refine sf_35_1 X h a hm1 _ (fun r3 p4 => ?_)
  show Q (some (.int (r1 - r3))) h
  exact hq (r1 - r3) trivial
-- ThreadBank$Memory.handOf(I)I
set_option maxRecDepth 100000 in
set_option maxHeartbeats 4000000 in
theorem sf_33_1 (X : qm_X) (h : qm_H) (a : Int32) (hp : mq 1 h) (Q : qm_Q) (hq : ∀ r : Int32, (True) → Q (some (.int r)) h) : qm_PW X 33 [.ref 1, .int a] h Q := by
  have hm1 : mq 1 h := hp
  have ⟨⟨_, _⟩, ⟨_, _⟩, _, _⟩ := hm1
  refine qm_seg_ok (C := qc_33) (rt := some .int) rfl rfl (cuts := []) 400 _ _ _ _ ?_
  show qm_PW X 29 [.ref 1, .int a] h _
  refine sf_29_1 X h a trivial _ (fun r1 p2 => ?_)
  show (r1 = 0 → (Q (some (.int (-4 : Int32))) h)) ∧ (¬ r1 = 0 → ((0 ≤ a.toInt ∧ a.toInt < 10) ∧ (¬ (10 : Int32) = 0 ∧ (Q (some (.int ((h 3 a.toInt.toNat) / 10))) h))))
  refine ⟨fun c3 => ?_, fun c4 => ?_⟩
  · exact hq (-4 : Int32) trivial
  · have := p2.2 c4
    refine ⟨(by omega), ?_⟩
    refine ⟨by decide, ?_⟩
    exact hq ((h 3 a.toInt.toNat) / 10) trivial
-- ThreadBank$Memory.threadBits()I
set_option maxRecDepth 100000 in
set_option maxHeartbeats 4000000 in
theorem sf_34_1 (X : qm_X) (h : qm_H) (hp : mq 1 h) (Q : qm_Q) (hq : ∀ r : Int32, (0 ≤ r.toInt ∧ r.toInt ≤ 1023) → Q (some (.int r)) h) : qm_PW X 34 [.ref 1] h Q := by
  have hm1 : mq 1 h := hp
  have ⟨⟨_, _⟩, ⟨_, _⟩, _, _⟩ := hm1
  refine qm_seg_ok (C := qc_34) (rt := some .int) rfl rfl (cuts := []) 400 _ _ _ _ ?_
  show Q (some (.int ((1 <<< ((h 1 7) &&& 31)) - 1))) h
  exact hq ((1 <<< ((h 1 7) &&& 31)) - 1) (by exact bits_le (h 1 7) (by omega) (by omega))
-- ThreadBank$Memory.threadsOn(I)I
set_option maxRecDepth 100000 in
set_option maxHeartbeats 4000000 in
theorem sf_36_1_c (X : qm_X) (h : qm_H) (a : Int32) (hp : mq 1 h) (Q : qm_Q) (hq : ∀ r : Int32, (True) → Q (some (.int r)) h) : ∀ n : Nat, (∀ (l2 : Int32) (l3 : Int32), (0 ≤ l3.toInt ∧ l3.toInt ≤ 10) → (10 - l3.toInt).toNat < n → qm_PA X 36 4 [(0, .ref 1), (1, .int a), (2, .int l2), (3, .int l3)] [] h Q) := by
  have hm1 : mq 1 h := hp
  have ⟨⟨_, _⟩, ⟨_, _⟩, _, _⟩ := hm1
  intro n
  induction n with
  | zero => exact fun _ _ _ h0 => absurd h0 (Nat.not_lt_zero _)
  | succ n ih =>
    intro l2 l3 hi hr
    have ti_l3 := ti_rng l3
    refine qm_seg_ok (C := qc_36) (rt := some .int) rfl rfl (cuts := [(4, [0, 1, 2, 3])]) 400 _ _ _ _ ?_
    show ((h 1 7).toInt ≤ l3.toInt → (Q (some (.int l2)) h)) ∧ (l3.toInt < (h 1 7).toInt → (qm_PW X 33 [.ref 1, .int l3] h _))
    refine ⟨fun c1 => ?_, fun c2 => ?_⟩
    · exact hq l2 trivial
    · refine sf_33_1 X h l3 hm1 _ (fun r3 p4 => ?_)
      show (¬ r3 = a → (qm_PA X 36 4 [(0, .ref 1), (1, .int a), (2, .int l2), (3, .int (l3 + 1))] [] h Q)) ∧ (r3 = a → (qm_PA X 36 4 [(0, .ref 1), (1, .int a), (2, .int (l2 + 1)), (3, .int (l3 + 1))] [] h Q))
      refine ⟨fun c5 => ?_, fun c6 => ?_⟩
      · exact ih l2 (l3 + 1) (by have := ti_addK l3 (1 : Int32) 1 rfl; omega) (by have := ti_addK l3 (1 : Int32) 1 rfl; omega)
      · exact ih (l2 + 1) (l3 + 1) (by have := ti_addK l3 (1 : Int32) 1 rfl; omega) (by have := ti_addK l3 (1 : Int32) 1 rfl; omega)
set_option maxRecDepth 100000 in
set_option maxHeartbeats 4000000 in
theorem sf_36_1 (X : qm_X) (h : qm_H) (a : Int32) (hp : mq 1 h) (Q : qm_Q) (hq : ∀ r : Int32, (True) → Q (some (.int r)) h) : qm_PW X 36 [.ref 1, .int a] h Q := by
  have hm1 : mq 1 h := hp
  have ⟨⟨_, _⟩, ⟨_, _⟩, _, _⟩ := hm1
  refine qm_seg_ok (C := qc_36) (rt := some .int) rfl rfl (cuts := [(4, [0, 1, 2, 3])]) 400 _ _ _ _ ?_
  show qm_PA X 36 4 [(0, .ref 1), (1, .int a), (2, .int 0), (3, .int 0)] [] h Q
  exact (sf_36_1_c X h a hp Q hq _) (0 : Int32) (0 : Int32) (by have : (0 : Int32).toInt = 0 := rfl; omega) (Nat.lt_succ_self _)
-- ThreadBank$Memory.roomOn(I)I
set_option maxRecDepth 100000 in
set_option maxHeartbeats 4000000 in
theorem sf_38_1_c (X : qm_X) (h : qm_H) (a : Int32) (hp : mq 1 h) (Q : qm_Q) (hq : ∀ r : Int32, (True) → Q (some (.int r)) h) : ∀ n : Nat, (∀ (l2 : Int32) (l3 : Int32), (0 ≤ l3.toInt ∧ l3.toInt ≤ 5) → (5 - l3.toInt).toNat < n → qm_PA X 38 4 [(0, .ref 1), (1, .int a), (2, .int l2), (3, .int l3)] [] h Q) := by
  have hm1 : mq 1 h := hp
  have ⟨⟨_, _⟩, ⟨_, _⟩, _, _⟩ := hm1
  intro n
  induction n with
  | zero => exact fun _ _ _ h0 => absurd h0 (Nat.not_lt_zero _)
  | succ n ih =>
    intro l2 l3 hi hr
    have ti_l3 := ti_rng l3
    refine qm_seg_ok (C := qc_38) (rt := some .int) rfl rfl (cuts := [(4, [0, 1, 2, 3])]) 400 _ _ _ _ ?_
    show (5 ≤ l3.toInt → (Q (some (.int l2)) h)) ∧ (l3.toInt < 5 → (qm_PW X 37 [.ref 1, .int ((10 * a) + l3)] h _))
    refine ⟨fun c1 => ?_, fun c2 => ?_⟩
    · exact hq l2 trivial
    · refine sf_37_1 X h ((10 * a) + l3) hm1 _ (fun r3 p4 => ?_)
      show qm_PA X 38 4 [(0, .ref 1), (1, .int a), (2, .int (l2 + r3)), (3, .int (l3 + 1))] [] h Q
      exact ih (l2 + r3) (l3 + 1) (by have := ti_addK l3 (1 : Int32) 1 rfl; omega) (by have := ti_addK l3 (1 : Int32) 1 rfl; omega)
set_option maxRecDepth 100000 in
set_option maxHeartbeats 4000000 in
theorem sf_38_1 (X : qm_X) (h : qm_H) (a : Int32) (hp : mq 1 h) (Q : qm_Q) (hq : ∀ r : Int32, (True) → Q (some (.int r)) h) : qm_PW X 38 [.ref 1, .int a] h Q := by
  have hm1 : mq 1 h := hp
  have ⟨⟨_, _⟩, ⟨_, _⟩, _, _⟩ := hm1
  refine qm_seg_ok (C := qc_38) (rt := some .int) rfl rfl (cuts := [(4, [0, 1, 2, 3])]) 400 _ _ _ _ ?_
  show qm_PA X 38 4 [(0, .ref 1), (1, .int a), (2, .int 0), (3, .int 0)] [] h Q
  exact (sf_38_1_c X h a hp Q hq _) (0 : Int32) (0 : Int32) (by have : (0 : Int32).toInt = 0 := rfl; omega) (Nat.lt_succ_self _)
-- ThreadBank$Memory.roomOfAll()I
set_option maxRecDepth 100000 in
set_option maxHeartbeats 4000000 in
theorem sf_39_1_c (X : qm_X) (h : qm_H) (hp : mq 1 h) (Q : qm_Q) (hq : ∀ r : Int32, (True) → Q (some (.int r)) h) : ∀ n : Nat, (∀ (l1 : Int32) (l2 : Int32), (0 ≤ l2.toInt ∧ l2.toInt ≤ 4) → (4 - l2.toInt).toNat < n → qm_PA X 39 4 [(0, .ref 1), (1, .int l1), (2, .int l2)] [] h Q) := by
  have hm1 : mq 1 h := hp
  have ⟨⟨_, _⟩, ⟨_, _⟩, _, _⟩ := hm1
  intro n
  induction n with
  | zero => exact fun _ _ _ h0 => absurd h0 (Nat.not_lt_zero _)
  | succ n ih =>
    intro l1 l2 hi hr
    have ti_l2 := ti_rng l2
    refine qm_seg_ok (C := qc_39) (rt := some .int) rfl rfl (cuts := [(4, [0, 1, 2])]) 400 _ _ _ _ ?_
    show ((h 1 6).toInt ≤ l2.toInt → (Q (some (.int l1)) h)) ∧ (l2.toInt < (h 1 6).toInt → (qm_PW X 38 [.ref 1, .int l2] h _))
    refine ⟨fun c1 => ?_, fun c2 => ?_⟩
    · exact hq l1 trivial
    · refine sf_38_1 X h l2 hm1 _ (fun r3 p4 => ?_)
      show qm_PA X 39 4 [(0, .ref 1), (1, .int (l1 + r3)), (2, .int (l2 + 1))] [] h Q
      exact ih (l1 + r3) (l2 + 1) (by have := ti_addK l2 (1 : Int32) 1 rfl; omega) (by have := ti_addK l2 (1 : Int32) 1 rfl; omega)
set_option maxRecDepth 100000 in
set_option maxHeartbeats 4000000 in
theorem sf_39_1 (X : qm_X) (h : qm_H) (hp : mq 1 h) (Q : qm_Q) (hq : ∀ r : Int32, (True) → Q (some (.int r)) h) : qm_PW X 39 [.ref 1] h Q := by
  have hm1 : mq 1 h := hp
  have ⟨⟨_, _⟩, ⟨_, _⟩, _, _⟩ := hm1
  refine qm_seg_ok (C := qc_39) (rt := some .int) rfl rfl (cuts := [(4, [0, 1, 2])]) 400 _ _ _ _ ?_
  show qm_PA X 39 4 [(0, .ref 1), (1, .int 0), (2, .int 0)] [] h Q
  exact (sf_39_1_c X h hp Q hq _) (0 : Int32) (0 : Int32) (by have : (0 : Int32).toInt = 0 := rfl; omega) (Nat.lt_succ_self _)
-- ThreadBank$Memory.roomLeftOn(I)I
set_option maxRecDepth 100000 in
set_option maxHeartbeats 4000000 in
theorem sf_41_1 (X : qm_X) (h : qm_H) (a : Int32) (hp : mq 1 h) (Q : qm_Q) (hq : ∀ r : Int32, (True) → Q (some (.int r)) h) : qm_PW X 41 [.ref 1, .int a] h Q := by
  have hm1 : mq 1 h := hp
  have ⟨⟨_, _⟩, ⟨_, _⟩, _, _⟩ := hm1
  refine qm_seg_ok (C := qc_41) (rt := some .int) rfl rfl (cuts := []) 400 _ _ _ _ ?_
  show qm_PW X 38 [.ref 1, .int a] h _
  refine sf_38_1 X h a hm1 _ (fun r1 p2 => ?_)
  show qm_PW X 36 [.ref 1, .int a] h _
  refine sf_36_1 X h a hm1 _ (fun r3 p4 => ?_)
  show Q (some (.int (r1 - r3))) h
  exact hq (r1 - r3) trivial
