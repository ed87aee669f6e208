-- ThreadBankModel.common(JJ)J
set_option maxRecDepth 100000 in
set_option maxHeartbeats 4000000 in
theorem sf_219_c (X : qm_X) (h : qm_H) (a : Int64) (b : Int64) (hp : ¬ a = 0) (Q : qm_Q) (hq : ∀ r : Int64, (¬ r = 0) → Q (some (.long r)) h) : ∀ n : Nat, (∀ (l4 : Int64) (l6 : Int64), (¬ l4 = 0 ∨ ¬ l6 = 0) → l6.toInt.natAbs < n → qm_PA X 219 6 [(0, .long a), (2, .long b), (4, .long l4), (6, .long l6)] [] h Q) := by
  have hp0 : ¬ a = 0 := hp
  intro n
  induction n with
  | zero => exact fun _ _ _ h0 => absurd h0 (Nat.not_lt_zero _)
  | succ n ih =>
    intro l4 l6 hi hr
    refine qm_seg_ok (C := qc_219) (rt := some .long) rfl rfl (cuts := [(6, [0, 2, 4, 6])]) 400 _ _ _ _ ?_
    show ((lg_cmp l6 0) = 0 → (Q (some (.long l4)) h)) ∧ (¬ (lg_cmp l6 0) = 0 → (¬ l6 = 0 ∧ (qm_PA X 219 6 [(0, .long a), (2, .long b), (4, .long l6), (6, .long (l4 - l4 / l6 * l6))] [] h Q)))
    refine ⟨fun c1 => ?_, fun c2 => ?_⟩
    · exact hq l4 (by have := lg_cmp_i l6 0; exact hi.resolve_right (fun hc => hc (lg_eq0 (by assumption))))
    · refine ⟨(lg_ne (by assumption)), ?_⟩
      exact ih l6 (l4 - l4 / l6 * l6) (by have := lg_cmp_i l6 0; first | exact Or.inl hp0 | exact Or.inl (lg_ne (by assumption))) (by have := lg_cmp_i l6 0; have := l_rem l4 l6 (lg_ne (by assumption)); omega)
set_option maxRecDepth 100000 in
set_option maxHeartbeats 4000000 in
theorem sf_219 (X : qm_X) (h : qm_H) (a : Int64) (b : Int64) (hp : ¬ a = 0) (Q : qm_Q) (hq : ∀ r : Int64, (¬ r = 0) → Q (some (.long r)) h) : qm_PW X 219 [.long a, .long b] h Q := by
  have hp0 : ¬ a = 0 := hp
  refine qm_seg_ok (C := qc_219) (rt := some .long) rfl rfl (cuts := [(6, [0, 2, 4, 6])]) 400 _ _ _ _ ?_
  show qm_PA X 219 6 [(0, .long a), (2, .long b), (4, .long a), (6, .long b)] [] h Q
  exact (sf_219_c X h a b hp Q hq _) a b (by first | exact Or.inl hp0 | exact Or.inl (lg_ne (by assumption))) (Nat.lt_succ_self _)
-- ThreadBankModel.told(JJI)J
set_option maxRecDepth 100000 in
set_option maxHeartbeats 4000000 in
theorem sf_220 (X : qm_X) (h : qm_H) (a : Int64) (b : Int64) (c : Int32) (hp : ¬ b = 0) (Q : qm_Q) (hq : ∀ r : Int64, (True) → Q (some (.long r)) h) : qm_PW X 220 [.long a, .long b, .int c] h Q := by
  have hp0 : ¬ b = 0 := hp
  refine qm_seg_ok (C := qc_220) (rt := some .long) rfl rfl (cuts := []) 400 _ _ _ _ ?_
  show qm_PW X 219 [.long b, .long a] h _
  refine sf_219 X h (b : Int64) (a : Int64) (by omega) _ (fun r1 p2 => ?_)
  show (¬ c = 0 → (¬ r1 = 0 ∧ (Q (some (.long (b / r1))) h))) ∧ (c = 0 → (¬ r1 = 0 ∧ (Q (some (.long (a / r1))) h)))
  refine ⟨fun c3 => ?_, fun c4 => ?_⟩
  · refine ⟨(by assumption), ?_⟩
    exact hq (b / r1) trivial
  · refine ⟨(by assumption), ?_⟩
    exact hq (a / r1) trivial
