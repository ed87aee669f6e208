-- ThreadBank.greatestShared(JJ)J
set_option maxRecDepth 100000 in
set_option maxHeartbeats 4000000 in
theorem ty_140_c (X : qm_X) (h : qm_H) (a : Int64) (b : Int64) (hp : lgR a ∧ lgR b) (Q : qm_Q) (hq : ∀ r : Int64, (lgE r (gcL a b)) → Q (some (.long r)) h) : ∀ n : Nat, (∀ (l4 : Int64) (l6 : Int64) (l8 : Int32), ((0 ≤ l8.toInt ∧ l8.toInt ≤ 100) ∧ gsL a b l4 l6 l8) → (100 - l8.toInt).toNat < n → qm_PA X 140 9 [(0, .long a), (2, .long b), (4, .long l4), (6, .long l6), (8, .int l8)] [] h Q) := by
  have hp0 : lgR a ∧ lgR b := hp
  intro n
  induction n with
  | zero => exact fun _ _ _ _ h0 => absurd h0 (Nat.not_lt_zero _)
  | succ n ih =>
    intro l4 l6 l8 hi hr
    refine qm_seg_ok (C := qc_140) (rt := some .long) rfl rfl (cuts := [(9, [0, 2, 4, 6, 8])]) 400 _ _ _ _ ?_
    show (100 ≤ l8.toInt → (Q (some (.long l4)) h)) ∧ (l8.toInt < 100 → (((lg_cmp l6 0) = 0 → (Q (some (.long l4)) h)) ∧ (¬ (lg_cmp l6 0) = 0 → (¬ l6 = 0 ∧ (qm_PA X 140 9 [(0, .long a), (2, .long b), (4, .long l6), (6, .long (l4 - l4 / l6 * l6)), (8, .int (l8 + 1))] [] h Q)))))
    refine ⟨fun c1 => ?_, fun c2 => ?_⟩
    · exact hq l4 (by show lgE l4 (gcL a b); exact gsL_e hi.2 (by first | exact Or.inl (by assumption) | exact Or.inr (by omega)))
    · refine ⟨fun c3 => ?_, fun c4 => ?_⟩
      · exact hq l4 (by have := lg_cmp_i l6 0; show lgE l4 (gcL a b); exact gsL_e hi.2 (by first | exact Or.inl (by assumption) | exact Or.inr (by omega)))
      · refine ⟨(lg_ne (by assumption)), ?_⟩
        exact ih l6 (l4 - l4 / l6 * l6) (l8 + 1) (by have := ti_addK l8 (1 : Int32) 1 rfl; have := lg_cmp_i l6 0; exact ⟨by omega, gsL_s hi.2 (by assumption) (by omega)⟩) (by have := ti_addK l8 (1 : Int32) 1 rfl; have := lg_cmp_i l6 0; omega)
set_option maxRecDepth 100000 in
set_option maxHeartbeats 4000000 in
theorem ty_140 (X : qm_X) (h : qm_H) (a : Int64) (b : Int64) (hp : lgR a ∧ lgR b) (Q : qm_Q) (hq : ∀ r : Int64, (lgE r (gcL a b)) → Q (some (.long r)) h) : qm_PW X 140 [.long a, .long b] h Q := by
  have hp0 : lgR a ∧ lgR b := hp
  refine qm_seg_ok (C := qc_140) (rt := some .long) rfl rfl (cuts := [(9, [0, 2, 4, 6, 8])]) 400 _ _ _ _ ?_
  show qm_PA X 140 9 [(0, .long a), (2, .long b), (4, .long a), (6, .long b), (8, .int 0)] [] h Q
  exact (ty_140_c X h a b hp Q hq _) a b (0 : Int32) (by have : (0 : Int32).toInt = 0 := rfl; exact ⟨by have : (0 : Int32).toInt = 0 := rfl; omega, gsL_0 hp.1 hp.2 rfl⟩) (Nat.lt_succ_self _)
-- ThreadBank.partOf(JJI)J
set_option maxRecDepth 100000 in
set_option maxHeartbeats 4000000 in
theorem ty_139 (X : qm_X) (h : qm_H) (a : Int64) (b : Int64) (c : Int32) (hp : lgR a ∧ lgP b) (Q : qm_Q) (hq : ∀ r : Int64, (tgL a b c r) → Q (some (.long r)) h) : qm_PW X 139 [.long a, .long b, .int c] h Q := by
  have hp0 : lgR a ∧ lgP b := hp
  refine qm_seg_ok (C := qc_139) (rt := some .long) rfl rfl (cuts := []) 400 _ _ _ _ ?_
  show qm_PW X 140 [.long a, .long b] h _
  refine ty_140 X h (a : Int64) (b : Int64) ⟨hp.1, lgR_P hp.2⟩ _ (fun r1 p2 => ?_)
  have o3 : lgE r1 (gcL (a : Int64) (b : Int64)) := p2
  show (¬ (lg_cmp r1 0) = 0 → ((¬ c = 0 → (¬ r1 = 0 ∧ (Q (some (.long (b / r1))) h))) ∧ (c = 0 → (¬ r1 = 0 ∧ (Q (some (.long (a / r1))) h))))) ∧ ((lg_cmp r1 0) = 0 → (Q (some (.long 0)) h))
  refine ⟨fun c4 => ?_, fun c5 => ?_⟩
  · refine ⟨fun c6 => ?_, fun c7 => ?_⟩
    · refine ⟨(lg_ne (by assumption)), ?_⟩
      exact hq (b / r1) (by have := lg_cmp_i r1 0; show tgL a b c (b / r1); exact tgL_1 hp.2 o3 (by assumption))
    · refine ⟨(lg_ne (by assumption)), ?_⟩
      exact hq (a / r1) (by have := lg_cmp_i r1 0; show tgL a b c (a / r1); exact tgL_0 hp.1 hp.2 o3 (by assumption))
  · exact hq 0 (by have := lg_cmp_i r1 0; show tgL a b c (0 : Int64); exact tgL_z hp.2 o3 (by assumption))
-- ThreadBankModel.common(JJ)J
set_option maxRecDepth 100000 in
set_option maxHeartbeats 4000000 in
theorem ty_219_c (X : qm_X) (h : qm_H) (a : Int64) (b : Int64) (hp : lgP a ∧ lgR b) (Q : qm_Q) (hq : ∀ r : Int64, (lgE r (gcL a b)) → Q (some (.long r)) h) : ∀ n : Nat, (∀ (l4 : Int64) (l6 : Int64), (cmL a b l4 l6) → l6.toInt.natAbs < n → qm_PA X 219 6 [(0, .long a), (2, .long b), (4, .long l4), (6, .long l6)] [] h Q) := by
  have hp0 : lgP a ∧ lgR b := hp
  intro n
  induction n with
  | zero => exact fun _ _ _ h0 => absurd h0 (Nat.not_lt_zero _)
  | succ n ih =>
    intro l4 l6 hi hr
    refine qm_seg_ok (C := qc_219) (rt := some .long) rfl rfl (cuts := [(6, [0, 2, 4, 6])]) 400 _ _ _ _ ?_
    show ((lg_cmp l6 0) = 0 → (Q (some (.long l4)) h)) ∧ (¬ (lg_cmp l6 0) = 0 → (¬ l6 = 0 ∧ (qm_PA X 219 6 [(0, .long a), (2, .long b), (4, .long l6), (6, .long (l4 - l4 / l6 * l6))] [] h Q)))
    refine ⟨fun c1 => ?_, fun c2 => ?_⟩
    · exact hq l4 (by have := lg_cmp_i l6 0; show lgE l4 (gcL a b); exact cmL_e hi (by assumption))
    · refine ⟨(lg_ne (by assumption)), ?_⟩
      exact ih l6 (l4 - l4 / l6 * l6) (by have := lg_cmp_i l6 0; exact cmL_s hi (by assumption)) (by have := lg_cmp_i l6 0; have := l_rem l4 l6 (lg_ne (by assumption)); omega)
set_option maxRecDepth 100000 in
set_option maxHeartbeats 4000000 in
theorem ty_219 (X : qm_X) (h : qm_H) (a : Int64) (b : Int64) (hp : lgP a ∧ lgR b) (Q : qm_Q) (hq : ∀ r : Int64, (lgE r (gcL a b)) → Q (some (.long r)) h) : qm_PW X 219 [.long a, .long b] h Q := by
  have hp0 : lgP a ∧ lgR b := hp
  refine qm_seg_ok (C := qc_219) (rt := some .long) rfl rfl (cuts := [(6, [0, 2, 4, 6])]) 400 _ _ _ _ ?_
  show qm_PA X 219 6 [(0, .long a), (2, .long b), (4, .long a), (6, .long b)] [] h Q
  exact (ty_219_c X h a b hp Q hq _) a b (by exact cmL_0 hp.1 hp.2) (Nat.lt_succ_self _)
-- ThreadBankModel.told(JJI)J
set_option maxRecDepth 100000 in
set_option maxHeartbeats 4000000 in
theorem ty_220 (X : qm_X) (h : qm_H) (a : Int64) (b : Int64) (c : Int32) (hp : lgR a ∧ lgP b) (Q : qm_Q) (hq : ∀ r : Int64, (tgL a b c r) → Q (some (.long r)) h) : qm_PW X 220 [.long a, .long b, .int c] h Q := by
  have hp0 : lgR a ∧ lgP b := hp
  refine qm_seg_ok (C := qc_220) (rt := some .long) rfl rfl (cuts := []) 400 _ _ _ _ ?_
  show qm_PW X 219 [.long b, .long a] h _
  refine ty_219 X h (b : Int64) (a : Int64) ⟨hp.2, hp.1⟩ _ (fun r1 p2 => ?_)
  have o3 : lgE r1 (gcL (b : Int64) (a : Int64)) := p2
  show (¬ c = 0 → (¬ r1 = 0 ∧ (Q (some (.long (b / r1))) h))) ∧ (c = 0 → (¬ r1 = 0 ∧ (Q (some (.long (a / r1))) h)))
  refine ⟨fun c4 => ?_, fun c5 => ?_⟩
  · refine ⟨(gc_ne hp.2 (by assumption)), ?_⟩
    exact hq (b / r1) (by show tgL a b c (b / r1); exact tgL_1 hp.2 (lgE_comm o3) (by assumption))
  · refine ⟨(gc_ne hp.2 (by assumption)), ?_⟩
    exact hq (a / r1) (by show tgL a b c (a / r1); exact tgL_0 hp.1 hp.2 (lgE_comm o3) (by assumption))
