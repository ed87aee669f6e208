-- ThreadBank$Memory.roomOf(II)I
set_option maxRecDepth 100000 in
set_option maxHeartbeats 4000000 in
theorem tx_27 (X : qm_X) (h : qm_H) (a : Int32) (b : Int32) (hp : True) (Q : qm_Q) (hq : ∀ r : Int32, (r.toInt = rmC a.toInt b.toInt) → Q (some (.int r)) h) : qm_PW X 27 [.int a, .int b] h Q := by
  refine qm_seg_ok (C := qc_27) (rt := some .int) rfl rfl (cuts := []) 400 _ _ _ _ ?_
  show (a.toInt < 0 → (Q (some (.int 0)) h)) ∧ (0 ≤ a.toInt → ((4 ≤ a.toInt → (Q (some (.int 0)) h)) ∧ (a.toInt < 4 → ((b.toInt < 0 → (Q (some (.int 0)) h)) ∧ (0 ≤ b.toInt → ((b.toInt < 5 → ((0 ≤ ((5 * a) + b).toInt ∧ ((5 * a) + b).toInt < 20) ∧ (Q (some (.int (qm_rooms.getD ((5 * a) + b).toInt.toNat 0))) h))) ∧ (5 ≤ b.toInt → (Q (some (.int 0)) h))))))))
  refine ⟨fun c1 => ?_, fun c2 => ?_⟩
  · exact hq 0 (by have : (0 : Int32).toInt = 0 := rfl; show (0 : Int32).toInt = rmC a.toInt b.toInt; first | (exact (rmC_out (by omega)).symm) | (exact rooms_rm (by omega) (by omega) (by omega)))
  · refine ⟨fun c3 => ?_, fun c4 => ?_⟩
    · exact hq 0 (by have : (0 : Int32).toInt = 0 := rfl; show (0 : Int32).toInt = rmC a.toInt b.toInt; first | (exact (rmC_out (by omega)).symm) | (exact rooms_rm (by omega) (by omega) (by omega)))
    · refine ⟨fun c5 => ?_, fun c6 => ?_⟩
      · exact hq 0 (by have : (0 : Int32).toInt = 0 := rfl; show (0 : Int32).toInt = rmC a.toInt b.toInt; first | (exact (rmC_out (by omega)).symm) | (exact rooms_rm (by omega) (by omega) (by omega)))
      · refine ⟨fun c7 => ?_, fun c8 => ?_⟩
        · refine ⟨(by have := ti_mulL (5 : Int32) 5 rfl a; have := ti_add (5 * a) b; omega), ?_⟩
          exact hq (qm_rooms.getD ((5 * a) + b).toInt.toNat 0) (by have := ti_mulL (5 : Int32) 5 rfl a; have := ti_add (5 * a) b; show (qm_rooms.getD ((5 * a) + b).toInt.toNat 0).toInt = rmC a.toInt b.toInt; first | (exact (rmC_out (by omega)).symm) | (exact rooms_rm (by omega) (by omega) (by omega)))
        · exact hq 0 (by have : (0 : Int32).toInt = 0 := rfl; show (0 : Int32).toInt = rmC a.toInt b.toInt; first | (exact (rmC_out (by omega)).symm) | (exact rooms_rm (by omega) (by omega) (by omega)))
-- ThreadBank$Memory.hasClerk(I)Z
set_option maxRecDepth 100000 in
set_option maxHeartbeats 4000000 in
theorem tx_28_25 (X : qm_X) (h : qm_H) (a : Int32) (hp : True) (Q : qm_Q) (hq : ∀ r : Int32, ((r = 0 ∨ r = 1) ∧ ((r.toInt = 1 ∧ 0 ≤ a.toInt ∧ a.toInt < (h 25 6).toInt) ∨ (r.toInt = 0 ∧ ¬ (0 ≤ a.toInt ∧ a.toInt < (h 25 6).toInt)))) → Q (some (.int r)) h) : qm_PW X 28 [.ref 25, .int a] h Q := by
  refine qm_seg_ok (C := qc_28) (rt := some .boolean) rfl rfl (cuts := []) 400 _ _ _ _ ?_
  show (a.toInt < 0 → (((0 : Int32) = 0 ∨ (0 : Int32) = 1) ∧ Q (some (.int 0)) h)) ∧ (0 ≤ a.toInt → (((h 25 6).toInt ≤ a.toInt → (((0 : Int32) = 0 ∨ (0 : Int32) = 1) ∧ Q (some (.int 0)) h)) ∧ (a.toInt < (h 25 6).toInt → (((1 : Int32) = 0 ∨ (1 : Int32) = 1) ∧ Q (some (.int 1)) h))))
  refine ⟨fun c1 => ?_, fun c2 => ?_⟩
  · exact ⟨Or.inl rfl, hq 0 (by have : (0 : Int32).toInt = 0 := rfl; show ((0 : Int32) = 0 ∨ (0 : Int32) = 1) ∧ (((0 : Int32).toInt = 1 ∧ 0 ≤ a.toInt ∧ a.toInt < (h 25 6).toInt) ∨ ((0 : Int32).toInt = 0 ∧ ¬ (0 ≤ a.toInt ∧ a.toInt < (h 25 6).toInt))); first | exact ⟨Or.inr rfl, by omega⟩ | exact ⟨Or.inl rfl, by omega⟩)⟩
  · refine ⟨fun c3 => ?_, fun c4 => ?_⟩
    · exact ⟨Or.inl rfl, hq 0 (by have : (0 : Int32).toInt = 0 := rfl; show ((0 : Int32) = 0 ∨ (0 : Int32) = 1) ∧ (((0 : Int32).toInt = 1 ∧ 0 ≤ a.toInt ∧ a.toInt < (h 25 6).toInt) ∨ ((0 : Int32).toInt = 0 ∧ ¬ (0 ≤ a.toInt ∧ a.toInt < (h 25 6).toInt))); first | exact ⟨Or.inr rfl, by omega⟩ | exact ⟨Or.inl rfl, by omega⟩)⟩
    · exact ⟨Or.inr rfl, hq 1 (by have : (1 : Int32).toInt = 1 := rfl; show ((1 : Int32) = 0 ∨ (1 : Int32) = 1) ∧ (((1 : Int32).toInt = 1 ∧ 0 ≤ a.toInt ∧ a.toInt < (h 25 6).toInt) ∨ ((1 : Int32).toInt = 0 ∧ ¬ (0 ≤ a.toInt ∧ a.toInt < (h 25 6).toInt))); first | exact ⟨Or.inr rfl, by omega⟩ | exact ⟨Or.inl rfl, by omega⟩)⟩
-- ThreadBank$Memory.hasPlace(I)Z
set_option maxRecDepth 100000 in
set_option maxHeartbeats 4000000 in
theorem tx_30_25 (X : qm_X) (h : qm_H) (a : Int32) (hp : True) (Q : qm_Q) (hq : ∀ r : Int32, ((r = 0 ∨ r = 1) ∧ ((r.toInt = 1 ∧ 0 ≤ a.toInt ∧ a.toInt / 10 < (h 25 6).toInt ∧ a.toInt % 10 < 5) ∨ (r.toInt = 0 ∧ ¬ (0 ≤ a.toInt ∧ a.toInt / 10 < (h 25 6).toInt ∧ a.toInt % 10 < 5)))) → Q (some (.int r)) h) : qm_PW X 30 [.ref 25, .int a] h Q := by
  refine qm_seg_ok (C := qc_30) (rt := some .boolean) rfl rfl (cuts := []) 400 _ _ _ _ ?_
  show qm_PW X 24 [.int a, .int (h 25 6)] h _
  refine tx_24 X h a (h 25 6) trivial _ (fun r1 p2 => ?_)
  have o3 : (r1 = 0 ∨ r1 = 1) ∧ ((r1.toInt = 1 ∧ 0 ≤ a.toInt ∧ a.toInt / 10 < (h 25 6).toInt ∧ a.toInt % 10 < 5) ∨ (r1.toInt = 0 ∧ ¬ (0 ≤ a.toInt ∧ a.toInt / 10 < (h 25 6).toInt ∧ a.toInt % 10 < 5))) := p2
  show (r1 = 0 ∨ r1 = 1) ∧ Q (some (.int r1)) h
  exact ⟨p2.1, hq r1 (by show (r1 = 0 ∨ r1 = 1) ∧ ((r1.toInt = 1 ∧ 0 ≤ a.toInt ∧ a.toInt / 10 < (h 25 6).toInt ∧ a.toInt % 10 < 5) ∨ (r1.toInt = 0 ∧ ¬ (0 ≤ a.toInt ∧ a.toInt / 10 < (h 25 6).toInt ∧ a.toInt % 10 < 5))); exact ⟨p2.1, by omega⟩)⟩
-- ThreadBank$Memory.hasPair(I)Z
set_option maxRecDepth 100000 in
set_option maxHeartbeats 4000000 in
theorem tx_31_25 (X : qm_X) (h : qm_H) (a : Int32) (hp : True) (Q : qm_Q) (hq : ∀ r : Int32, ((r = 0 ∨ r = 1) ∧ ((r.toInt = 1 ∧ 0 ≤ a.toInt ∧ a.toInt / 10 < (h 25 6).toInt ∧ a.toInt % 10 < (h 25 6).toInt ∧ ¬ a.toInt / 10 = a.toInt % 10) ∨ (r.toInt = 0 ∧ ¬ (0 ≤ a.toInt ∧ a.toInt / 10 < (h 25 6).toInt ∧ a.toInt % 10 < (h 25 6).toInt ∧ ¬ a.toInt / 10 = a.toInt % 10)))) → Q (some (.int r)) h) : qm_PW X 31 [.ref 25, .int a] h Q := by
  refine qm_seg_ok (C := qc_31) (rt := some .boolean) rfl rfl (cuts := []) 400 _ _ _ _ ?_
  show qm_PW X 25 [.int a, .int (h 25 6)] h _
  refine tx_25 X h a (h 25 6) trivial _ (fun r1 p2 => ?_)
  have o3 : (r1 = 0 ∨ r1 = 1) ∧ ((r1.toInt = 1 ∧ 0 ≤ a.toInt ∧ a.toInt / 10 < (h 25 6).toInt ∧ a.toInt % 10 < (h 25 6).toInt ∧ ¬ a.toInt / 10 = a.toInt % 10) ∨ (r1.toInt = 0 ∧ ¬ (0 ≤ a.toInt ∧ a.toInt / 10 < (h 25 6).toInt ∧ a.toInt % 10 < (h 25 6).toInt ∧ ¬ a.toInt / 10 = a.toInt % 10))) := p2
  show (r1 = 0 ∨ r1 = 1) ∧ Q (some (.int r1)) h
  exact ⟨p2.1, hq r1 (by show (r1 = 0 ∨ r1 = 1) ∧ ((r1.toInt = 1 ∧ 0 ≤ a.toInt ∧ a.toInt / 10 < (h 25 6).toInt ∧ a.toInt % 10 < (h 25 6).toInt ∧ ¬ a.toInt / 10 = a.toInt % 10) ∨ (r1.toInt = 0 ∧ ¬ (0 ≤ a.toInt ∧ a.toInt / 10 < (h 25 6).toInt ∧ a.toInt % 10 < (h 25 6).toInt ∧ ¬ a.toInt / 10 = a.toInt % 10))); exact ⟨p2.1, by omega⟩)⟩
-- ThreadBank$Memory.kindOf(I)I
set_option maxRecDepth 100000 in
set_option maxHeartbeats 4000000 in
theorem tx_32_25 (X : qm_X) (h : qm_H) (a : Int32) (hp : mq 25 h) (Q : qm_Q) (hq : ∀ r : Int32, (((0 ≤ a.toInt ∧ a.toInt < (h 25 6).toInt) ∧ r.toInt = (h 26 a.toInt.toNat).toInt) ∨ (¬ (0 ≤ a.toInt ∧ a.toInt < (h 25 6).toInt) ∧ r.toInt = -4)) → Q (some (.int r)) h) : qm_PW X 32 [.ref 25, .int a] h Q := by
  have hm25 : mq 25 h := hp
  have ⟨⟨_, _⟩, ⟨_, _⟩, _, _⟩ := hm25
  refine qm_seg_ok (C := qc_32) (rt := some .int) rfl rfl (cuts := []) 400 _ _ _ _ ?_
  show qm_PW X 28 [.ref 25, .int a] h _
  refine tx_28_25 X h a trivial _ (fun r1 p2 => ?_)
  have o3 : (r1 = 0 ∨ r1 = 1) ∧ ((r1.toInt = 1 ∧ 0 ≤ a.toInt ∧ a.toInt < (h 25 6).toInt) ∨ (r1.toInt = 0 ∧ ¬ (0 ≤ a.toInt ∧ a.toInt < (h 25 6).toInt))) := p2
  show (r1 = 0 → (Q (some (.int (-4 : Int32))) h)) ∧ (¬ r1 = 0 → ((0 ≤ a.toInt ∧ a.toInt < 4) ∧ (Q (some (.int (h 26 a.toInt.toNat))) h)))
  refine ⟨fun c4 => ?_, fun c5 => ?_⟩
  · have := ti_eqK 0 rfl c4
    exact hq (-4 : Int32) (by show ((0 ≤ a.toInt ∧ a.toInt < (h 25 6).toInt) ∧ (-4 : Int32).toInt = (h 26 a.toInt.toNat).toInt) ∨ (¬ (0 ≤ a.toInt ∧ a.toInt < (h 25 6).toInt) ∧ (-4 : Int32).toInt = -4); rw [ti_n4]; omega)
  · have := ti_neK 0 rfl c5
    refine ⟨(by omega), ?_⟩
    exact hq (h 26 a.toInt.toNat) (by show ((0 ≤ a.toInt ∧ a.toInt < (h 25 6).toInt) ∧ (h 26 a.toInt.toNat).toInt = (h 26 a.toInt.toNat).toInt) ∨ (¬ (0 ≤ a.toInt ∧ a.toInt < (h 25 6).toInt) ∧ (h 26 a.toInt.toNat).toInt = -4); omega)
-- ThreadBank$Memory.threadsAt(I)I
set_option maxRecDepth 100000 in
set_option maxHeartbeats 4000000 in
theorem tx_35_25_c (X : qm_X) (h : qm_H) (a : Int32) (hp : mq 25 h) (Q : qm_Q) (hq : ∀ r : Int32, (r.toInt = cntR (h 27) (h 25 7).toInt.toNat a.toInt ∧ (0 ≤ r.toInt ∧ r.toInt ≤ 10)) → Q (some (.int r)) h) : ∀ n : Nat, (∀ (l2 : Int32) (l3 : Int32), ((0 ≤ l3.toInt ∧ l3.toInt ≤ (h 25 7).toInt) ∧ l2.toInt = cntR (h 27) l3.toInt.toNat a.toInt) → (10 - l3.toInt).toNat < n → qm_PA X 35 4 [(0, .ref 25), (1, .int a), (2, .int l2), (3, .int l3)] [] h Q) := by
  have hm25 : mq 25 h := hp
  have ⟨⟨_, _⟩, ⟨_, _⟩, _, _⟩ := hm25
  intro n
  induction n with
  | zero => exact fun _ _ _ h0 => absurd h0 (Nat.not_lt_zero _)
  | succ n ih =>
    intro l2 l3 hi hr
    have hcr := cntR_rng (f := h 27) (x := a.toInt) l3.toInt.toNat
    have hlt := ti_rng l3
    refine qm_seg_ok (C := qc_35) (rt := some .int) rfl rfl (cuts := [(4, [0, 1, 2, 3])]) 400 _ _ _ _ ?_
    show ((h 25 7).toInt ≤ l3.toInt → (Q (some (.int l2)) h)) ∧ (l3.toInt < (h 25 7).toInt → ((0 ≤ l3.toInt ∧ l3.toInt < 10) ∧ ((¬ (h 27 l3.toInt.toNat) = a → (qm_PA X 35 4 [(0, .ref 25), (1, .int a), (2, .int l2), (3, .int (l3 + 1))] [] h Q)) ∧ ((h 27 l3.toInt.toNat) = a → (qm_PA X 35 4 [(0, .ref 25), (1, .int a), (2, .int (l2 + 1)), (3, .int (l3 + 1))] [] h Q)))))
    refine ⟨fun c1 => ?_, fun c2 => ?_⟩
    · exact hq l2 (by show l2.toInt = cntR (h 27) (h 25 7).toInt.toNat a.toInt ∧ (0 ≤ l2.toInt ∧ l2.toInt ≤ 10); exact ⟨by rw [show (h 25 7).toInt.toNat = l3.toInt.toNat by omega]; exact hi.2, by have := cntR_rng (f := h 27) (x := a.toInt) l3.toInt.toNat; omega⟩)
    · refine ⟨(by omega), ?_⟩
      refine ⟨fun c3 => ?_, fun c4 => ?_⟩
      · exact ih l2 (l3 + 1) (by have := ti_addK l3 (1 : Int32) 1 rfl; first | exact ⟨⟨by decide, by have : (0 : Int32).toInt = 0 := rfl; omega⟩, rfl⟩ | exact ⟨by omega, by rw [show (l3 + 1).toInt.toNat = l3.toInt.toNat + 1 by omega, cntR_pos (f := h 27) (k := l3.toInt.toNat) (y := a) (by assumption)]; omega⟩ | exact ⟨by omega, by rw [show (l3 + 1).toInt.toNat = l3.toInt.toNat + 1 by omega, cntR_neg (f := h 27) (k := l3.toInt.toNat) (y := a) (by assumption)]; omega⟩) (by have := ti_addK l3 (1 : Int32) 1 rfl; omega)
      · exact ih (l2 + 1) (l3 + 1) (by have := ti_addK l3 (1 : Int32) 1 rfl; have := ti_addK l2 (1 : Int32) 1 rfl; first | exact ⟨⟨by decide, by have : (0 : Int32).toInt = 0 := rfl; omega⟩, rfl⟩ | exact ⟨by omega, by rw [show (l3 + 1).toInt.toNat = l3.toInt.toNat + 1 by omega, cntR_pos (f := h 27) (k := l3.toInt.toNat) (y := a) (by assumption)]; omega⟩ | exact ⟨by omega, by rw [show (l3 + 1).toInt.toNat = l3.toInt.toNat + 1 by omega, cntR_neg (f := h 27) (k := l3.toInt.toNat) (y := a) (by assumption)]; omega⟩) (by have := ti_addK l3 (1 : Int32) 1 rfl; omega)
set_option maxRecDepth 100000 in
set_option maxHeartbeats 4000000 in
theorem tx_35_25 (X : qm_X) (h : qm_H) (a : Int32) (hp : mq 25 h) (Q : qm_Q) (hq : ∀ r : Int32, (r.toInt = cntR (h 27) (h 25 7).toInt.toNat a.toInt ∧ (0 ≤ r.toInt ∧ r.toInt ≤ 10)) → Q (some (.int r)) h) : qm_PW X 35 [.ref 25, .int a] h Q := by
  have hm25 : mq 25 h := hp
  have ⟨⟨_, _⟩, ⟨_, _⟩, _, _⟩ := hm25
  refine qm_seg_ok (C := qc_35) (rt := some .int) rfl rfl (cuts := [(4, [0, 1, 2, 3])]) 400 _ _ _ _ ?_
  show qm_PA X 35 4 [(0, .ref 25), (1, .int a), (2, .int 0), (3, .int 0)] [] h Q
  exact (tx_35_25_c X h a hp Q hq _) (0 : Int32) (0 : Int32) (by have : (0 : Int32).toInt = 0 := rfl; first | exact ⟨⟨by decide, by have : (0 : Int32).toInt = 0 := rfl; omega⟩, rfl⟩ | exact ⟨by omega, by rw [show (l3 + 1).toInt.toNat = l3.toInt.toNat + 1 by omega, cntR_pos (f := h 27) (k := l3.toInt.toNat) (y := a) (by assumption)]; omega⟩ | exact ⟨by omega, by rw [show (l3 + 1).toInt.toNat = l3.toInt.toNat + 1 by omega, cntR_neg (f := h 27) (k := l3.toInt.toNat) (y := a) (by assumption)]; omega⟩) (Nat.lt_succ_self _)
-- ThreadBank$Memory.roomAt(I)I
set_option maxRecDepth 100000 in
set_option maxHeartbeats 4000000 in
theorem tx_37_25 (X : qm_X) (h : qm_H) (a : Int32) (hp : mq 25 h) (Q : qm_Q) (hq : ∀ r : Int32, ((((0 ≤ a.toInt ∧ a.toInt / 10 < (h 25 6).toInt ∧ a.toInt % 10 < 5) ∧ r.toInt = rmC (h 26 (a.toInt / 10).toNat).toInt (a.toInt % 10)) ∨ (¬ (0 ≤ a.toInt ∧ a.toInt / 10 < (h 25 6).toInt ∧ a.toInt % 10 < 5) ∧ r.toInt = 0)) ∧ (0 ≤ r.toInt ∧ r.toInt ≤ 3)) → Q (some (.int r)) h) : qm_PW X 37 [.ref 25, .int a] h Q := by
  have hm25 : mq 25 h := hp
  have ⟨⟨_, _⟩, ⟨_, _⟩, _, _⟩ := hm25
  refine qm_seg_ok (C := qc_37) (rt := some .int) rfl rfl (cuts := []) 400 _ _ _ _ ?_
  show qm_PW X 30 [.ref 25, .int a] h _
  refine tx_30_25 X h a trivial _ (fun r1 p2 => ?_)
  have o3 : (r1 = 0 ∨ r1 = 1) ∧ ((r1.toInt = 1 ∧ 0 ≤ a.toInt ∧ a.toInt / 10 < (h 25 6).toInt ∧ a.toInt % 10 < 5) ∨ (r1.toInt = 0 ∧ ¬ (0 ≤ a.toInt ∧ a.toInt / 10 < (h 25 6).toInt ∧ a.toInt % 10 < 5))) := p2
  show (r1 = 0 → (Q (some (.int 0)) h)) ∧ (¬ r1 = 0 → (¬ (10 : Int32) = 0 ∧ (qm_PW X 32 [.ref 25, .int (a / 10)] h _)))
  refine ⟨fun c4 => ?_, fun c5 => ?_⟩
  · have := ti_eqK 0 rfl c4
    exact hq 0 (by have : (0 : Int32).toInt = 0 := rfl; show (((0 ≤ a.toInt ∧ a.toInt / 10 < (h 25 6).toInt ∧ a.toInt % 10 < 5) ∧ (0 : Int32).toInt = rmC (h 26 (a.toInt / 10).toNat).toInt (a.toInt % 10)) ∨ (¬ (0 ≤ a.toInt ∧ a.toInt / 10 < (h 25 6).toInt ∧ a.toInt % 10 < 5) ∧ (0 : Int32).toInt = 0)) ∧ (0 ≤ (0 : Int32).toInt ∧ (0 : Int32).toInt ≤ 3); exact ⟨Or.inr ⟨by omega, rfl⟩, by omega⟩)
  · have := ti_neK 0 rfl c5
    refine ⟨by decide, ?_⟩
    refine tx_32_25 X h (a / 10) hm25 _ (fun r6 p7 => ?_)
    have o8 : ((0 ≤ (a / 10).toInt ∧ (a / 10).toInt < (h 25 6).toInt) ∧ r6.toInt = (h 26 (a / 10).toInt.toNat).toInt) ∨ (¬ (0 ≤ (a / 10).toInt ∧ (a / 10).toInt < (h 25 6).toInt) ∧ r6.toInt = -4) := p7
    show ¬ (10 : Int32) = 0 ∧ (qm_PW X 27 [.int r6, .int (a - a / 10 * 10)] h _)
    refine ⟨by decide, ?_⟩
    refine tx_27 X h r6 (a - a / 10 * 10) trivial _ (fun r9 p10 => ?_)
    have o11 : r9.toInt = rmC r6.toInt (a - a / 10 * 10).toInt := p10
    show Q (some (.int r9)) h
    exact hq r9 (by have := ti_div (10 : Int32) 10 rfl a (by decide); have := ti_rem (10 : Int32) 10 rfl a (by decide); show (((0 ≤ a.toInt ∧ a.toInt / 10 < (h 25 6).toInt ∧ a.toInt % 10 < 5) ∧ r9.toInt = rmC (h 26 (a.toInt / 10).toNat).toInt (a.toInt % 10)) ∨ (¬ (0 ≤ a.toInt ∧ a.toInt / 10 < (h 25 6).toInt ∧ a.toInt % 10 < 5) ∧ r9.toInt = 0)) ∧ (0 ≤ r9.toInt ∧ r9.toInt ≤ 3); have hd : (a / 10).toInt = a.toInt / 10 := (by omega); have hm : (a - a / 10 * 10).toInt = a.toInt % 10 := (by omega); rw [hm] at o11; rw [hd] at o8; have hk : r6.toInt = (h 26 (a.toInt / 10).toNat).toInt := (by omega); have hr := rmC_rng (k := r6.toInt) (f := a.toInt % 10); rw [hk] at o11 hr; exact ⟨Or.inl ⟨by omega, by omega⟩, by omega⟩)
-- ThreadBank$Memory.roomLeftAt(I)I
set_option maxRecDepth 100000 in
set_option maxHeartbeats 4000000 in
theorem tx_40_25 (X : qm_X) (h : qm_H) (a : Int32) (hp : mq 25 h) (Q : qm_Q) (hq : ∀ r : Int32, (((0 ≤ a.toInt ∧ a.toInt / 10 < (h 25 6).toInt ∧ a.toInt % 10 < 5) ∧ r.toInt = rmC (h 26 (a.toInt / 10).toNat).toInt (a.toInt % 10) - cntR (h 27) (h 25 7).toInt.toNat a.toInt) ∨ (¬ (0 ≤ a.toInt ∧ a.toInt / 10 < (h 25 6).toInt ∧ a.toInt % 10 < 5) ∧ r.toInt = - cntR (h 27) (h 25 7).toInt.toNat a.toInt)) → Q (some (.int r)) h) : qm_PW X 40 [.ref 25, .int a] h Q := by
  have hm25 : mq 25 h := hp
  have ⟨⟨_, _⟩, ⟨_, _⟩, _, _⟩ := hm25
  refine qm_seg_ok (C := qc_40) (rt := some .int) rfl rfl (cuts := []) 400 _ _ _ _ ?_
  show qm_PW X 37 [.ref 25, .int a] h _
  refine tx_37_25 X h a hm25 _ (fun r1 p2 => ?_)
  have o3 : (((0 ≤ a.toInt ∧ a.toInt / 10 < (h 25 6).toInt ∧ a.toInt % 10 < 5) ∧ r1.toInt = rmC (h 26 (a.toInt / 10).toNat).toInt (a.toInt % 10)) ∨ (¬ (0 ≤ a.toInt ∧ a.toInt / 10 < (h 25 6).toInt ∧ a.toInt % 10 < 5) ∧ r1.toInt = 0)) ∧ (0 ≤ r1.toInt ∧ r1.toInt ≤ 3) := p2
  show qm_PW X 35 [.ref 25, .int a] h _
  refine tx_35_25 X h a hm25 _ (fun r4 p5 => ?_)
  have o6 : r4.toInt = cntR (h 27) (h 25 7).toInt.toNat a.toInt ∧ (0 ≤ r4.toInt ∧ r4.toInt ≤ 10) := p5
  show Q (some (.int (r1 - r4))) h
  exact hq (r1 - r4) (by have := ti_sub r1 r4; show ((0 ≤ a.toInt ∧ a.toInt / 10 < (h 25 6).toInt ∧ a.toInt % 10 < 5) ∧ (r1 - r4).toInt = rmC (h 26 (a.toInt / 10).toNat).toInt (a.toInt % 10) - cntR (h 27) (h 25 7).toInt.toNat a.toInt) ∨ (¬ (0 ≤ a.toInt ∧ a.toInt / 10 < (h 25 6).toInt ∧ a.toInt % 10 < 5) ∧ (r1 - r4).toInt = - cntR (h 27) (h 25 7).toInt.toNat a.toInt); omega)
