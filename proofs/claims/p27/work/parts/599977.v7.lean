-- ThreadBankModel.isClerk(I)Z
set_option maxRecDepth 100000 in
set_option maxHeartbeats 4000000 in
theorem ty_164 (X : qm_X) (h : qm_H) (a : Int32) (hp : mi h) (Q : qm_Q) (hq : ∀ r : Int32, ((r = 0 ∨ r = 1) ∧ ((r.toInt = 1 ∧ 0 ≤ a.toInt ∧ a.toInt < (h 39 3).toInt) ∨ (r.toInt = 0 ∧ ¬ (0 ≤ a.toInt ∧ a.toInt < (h 39 3).toInt)))) → Q (some (.int r)) h) : qm_PW X 164 [.ref 39, .int a] h Q := by
  have hmmi : mi h := hp
  have ⟨⟨_, _⟩, ⟨_, _⟩, ⟨_, _⟩, ⟨_, _⟩, _, _⟩ := hmmi
  refine qm_seg_ok (C := qc_164) (rt := some .boolean) rfl rfl (cuts := []) 400 _ _ _ _ ?_
  show qm_PW X 141 [.long (Int32.toInt64 a), .long 0, .long (Int32.toInt64 ((h 39 3) - 1))] h _
  refine sf_141 X h ((Int32.toInt64 a) : Int64) (0 : Int64) ((Int32.toInt64 ((h 39 3) - 1)) : Int64) trivial _ (fun r1 p2 => ?_)
  have o3 : ¬ r1.toInt = 0 → (0 : Int64).toInt ≤ (Int32.toInt64 a).toInt ∧ (Int32.toInt64 a).toInt ≤ (Int32.toInt64 ((h 39 3) - 1)).toInt := fun hc => p2.2.1 (fun e => hc (ti_eqK 0 rfl e))
  have o4 : r1.toInt = 0 → (Int32.toInt64 a).toInt < (0 : Int64).toInt ∨ (Int32.toInt64 ((h 39 3) - 1)).toInt < (Int32.toInt64 a).toInt := fun hc => p2.2.2 (Int32.toInt_inj.mp hc)
  show (r1 = 0 ∨ r1 = 1) ∧ Q (some (.int r1)) h
  exact ⟨p2.1, hq r1 (by have := ti_subK (h 39 3) (1 : Int32) 1 rfl; have : (0 : Int64).toInt = 0 := rfl; have := i64 a; have := i64 ((h 39 3) - 1); show (r1 = 0 ∨ r1 = 1) ∧ ((r1.toInt = 1 ∧ 0 ≤ a.toInt ∧ a.toInt < (h 39 3).toInt) ∨ (r1.toInt = 0 ∧ ¬ (0 ≤ a.toInt ∧ a.toInt < (h 39 3).toInt))); exact ⟨p2.1, by have hb9 := bool_i (p2.1); omega⟩)⟩
-- ThreadBankModel.isPlace(I)Z
set_option maxRecDepth 100000 in
set_option maxHeartbeats 4000000 in
theorem ty_165 (X : qm_X) (h : qm_H) (a : Int32) (hp : mi h) (Q : qm_Q) (hq : ∀ r : Int32, ((r = 0 ∨ r = 1) ∧ ((r.toInt = 1 ∧ 0 ≤ a.toInt ∧ a.toInt / 10 < (h 39 3).toInt ∧ a.toInt % 10 < 5) ∨ (r.toInt = 0 ∧ ¬ (0 ≤ a.toInt ∧ a.toInt / 10 < (h 39 3).toInt ∧ a.toInt % 10 < 5)))) → Q (some (.int r)) h) : qm_PW X 165 [.ref 39, .int a] h Q := by
  have hmmi : mi h := hp
  have ⟨⟨_, _⟩, ⟨_, _⟩, ⟨_, _⟩, ⟨_, _⟩, _, _⟩ := hmmi
  refine qm_seg_ok (C := qc_165) (rt := some .boolean) rfl rfl (cuts := []) 400 _ _ _ _ ?_
  show (a.toInt < 0 → (((0 : Int32) = 0 ∨ (0 : Int32) = 1) ∧ Q (some (.int 0)) h)) ∧ (0 ≤ a.toInt → (¬ (10 : Int32) = 0 ∧ (qm_PW X 164 [.ref 39, .int (a / 10)] h _)))
  refine ⟨fun c1 => ?_, fun c2 => ?_⟩
  · exact ⟨Or.inl rfl, hq 0 (by have : (0 : Int32).toInt = 0 := rfl; show ((0 : Int32) = 0 ∨ (0 : Int32) = 1) ∧ (((0 : Int32).toInt = 1 ∧ 0 ≤ a.toInt ∧ a.toInt / 10 < (h 39 3).toInt ∧ a.toInt % 10 < 5) ∨ ((0 : Int32).toInt = 0 ∧ ¬ (0 ≤ a.toInt ∧ a.toInt / 10 < (h 39 3).toInt ∧ a.toInt % 10 < 5))); first | exact ⟨Or.inr rfl, by omega⟩ | exact ⟨Or.inl rfl, by omega⟩)⟩
  · refine ⟨by decide, ?_⟩
    refine ty_164 X h (a / 10) hmmi _ (fun r3 p4 => ?_)
    have o5 : (r3 = 0 ∨ r3 = 1) ∧ ((r3.toInt = 1 ∧ 0 ≤ (a / 10).toInt ∧ (a / 10).toInt < (h 39 3).toInt) ∨ (r3.toInt = 0 ∧ ¬ (0 ≤ (a / 10).toInt ∧ (a / 10).toInt < (h 39 3).toInt))) := p4
    show (r3 = 0 → (((0 : Int32) = 0 ∨ (0 : Int32) = 1) ∧ Q (some (.int 0)) h)) ∧ (¬ r3 = 0 → (¬ (10 : Int32) = 0 ∧ ((5 ≤ (a - a / 10 * 10).toInt → (((0 : Int32) = 0 ∨ (0 : Int32) = 1) ∧ Q (some (.int 0)) h)) ∧ ((a - a / 10 * 10).toInt < 5 → (((1 : Int32) = 0 ∨ (1 : Int32) = 1) ∧ Q (some (.int 1)) h)))))
    refine ⟨fun c6 => ?_, fun c7 => ?_⟩
    · have := ti_eqK 0 rfl c6
      exact ⟨Or.inl rfl, hq 0 (by have : (0 : Int32).toInt = 0 := rfl; have := ti_div (10 : Int32) 10 rfl a (by decide); show ((0 : Int32) = 0 ∨ (0 : Int32) = 1) ∧ (((0 : Int32).toInt = 1 ∧ 0 ≤ a.toInt ∧ a.toInt / 10 < (h 39 3).toInt ∧ a.toInt % 10 < 5) ∨ ((0 : Int32).toInt = 0 ∧ ¬ (0 ≤ a.toInt ∧ a.toInt / 10 < (h 39 3).toInt ∧ a.toInt % 10 < 5))); first | exact ⟨Or.inr rfl, by omega⟩ | exact ⟨Or.inl rfl, by omega⟩)⟩
    · have := ti_neK 0 rfl c7
      refine ⟨by decide, ?_⟩
      refine ⟨fun c8 => ?_, fun c9 => ?_⟩
      · exact ⟨Or.inl rfl, hq 0 (by have : (0 : Int32).toInt = 0 := rfl; have := ti_div (10 : Int32) 10 rfl a (by decide); have := ti_rem (10 : Int32) 10 rfl a (by decide); show ((0 : Int32) = 0 ∨ (0 : Int32) = 1) ∧ (((0 : Int32).toInt = 1 ∧ 0 ≤ a.toInt ∧ a.toInt / 10 < (h 39 3).toInt ∧ a.toInt % 10 < 5) ∨ ((0 : Int32).toInt = 0 ∧ ¬ (0 ≤ a.toInt ∧ a.toInt / 10 < (h 39 3).toInt ∧ a.toInt % 10 < 5))); first | exact ⟨Or.inr rfl, by omega⟩ | exact ⟨Or.inl rfl, by omega⟩)⟩
      · exact ⟨Or.inr rfl, hq 1 (by have : (1 : Int32).toInt = 1 := rfl; have := ti_div (10 : Int32) 10 rfl a (by decide); have := ti_rem (10 : Int32) 10 rfl a (by decide); show ((1 : Int32) = 0 ∨ (1 : Int32) = 1) ∧ (((1 : Int32).toInt = 1 ∧ 0 ≤ a.toInt ∧ a.toInt / 10 < (h 39 3).toInt ∧ a.toInt % 10 < 5) ∨ ((1 : Int32).toInt = 0 ∧ ¬ (0 ≤ a.toInt ∧ a.toInt / 10 < (h 39 3).toInt ∧ a.toInt % 10 < 5))); first | exact ⟨Or.inr rfl, by omega⟩ | exact ⟨Or.inl rfl, by omega⟩)⟩
-- ThreadBankModel.isPair(I)Z
set_option maxRecDepth 100000 in
set_option maxHeartbeats 4000000 in
theorem ty_166 (X : qm_X) (h : qm_H) (a : Int32) (hp : mi h) (Q : qm_Q) (hq : ∀ r : Int32, ((r = 0 ∨ r = 1) ∧ ((r.toInt = 1 ∧ 0 ≤ a.toInt ∧ a.toInt / 10 < (h 39 3).toInt ∧ a.toInt % 10 < (h 39 3).toInt ∧ ¬ a.toInt / 10 = a.toInt % 10) ∨ (r.toInt = 0 ∧ ¬ (0 ≤ a.toInt ∧ a.toInt / 10 < (h 39 3).toInt ∧ a.toInt % 10 < (h 39 3).toInt ∧ ¬ a.toInt / 10 = a.toInt % 10)))) → Q (some (.int r)) h) : qm_PW X 166 [.ref 39, .int a] h Q := by
  have hmmi : mi h := hp
  have ⟨⟨_, _⟩, ⟨_, _⟩, ⟨_, _⟩, ⟨_, _⟩, _, _⟩ := hmmi
  refine qm_seg_ok (C := qc_166) (rt := some .boolean) rfl rfl (cuts := []) 400 _ _ _ _ ?_
  show (a.toInt < 0 → (((0 : Int32) = 0 ∨ (0 : Int32) = 1) ∧ Q (some (.int 0)) h)) ∧ (0 ≤ a.toInt → (¬ (10 : Int32) = 0 ∧ (qm_PW X 164 [.ref 39, .int (a / 10)] h _)))
  refine ⟨fun c1 => ?_, fun c2 => ?_⟩
  · exact ⟨Or.inl rfl, hq 0 (by have : (0 : Int32).toInt = 0 := rfl; show ((0 : Int32) = 0 ∨ (0 : Int32) = 1) ∧ (((0 : Int32).toInt = 1 ∧ 0 ≤ a.toInt ∧ a.toInt / 10 < (h 39 3).toInt ∧ a.toInt % 10 < (h 39 3).toInt ∧ ¬ a.toInt / 10 = a.toInt % 10) ∨ ((0 : Int32).toInt = 0 ∧ ¬ (0 ≤ a.toInt ∧ a.toInt / 10 < (h 39 3).toInt ∧ a.toInt % 10 < (h 39 3).toInt ∧ ¬ a.toInt / 10 = a.toInt % 10))); first | exact ⟨Or.inl rfl, by omega⟩ | (have hne := congrArg Int32.toInt (show (a / 10) = (a - a / 10 * 10) from by assumption); exact ⟨Or.inl rfl, by omega⟩))⟩
  · refine ⟨by decide, ?_⟩
    refine ty_164 X h (a / 10) hmmi _ (fun r3 p4 => ?_)
    have o5 : (r3 = 0 ∨ r3 = 1) ∧ ((r3.toInt = 1 ∧ 0 ≤ (a / 10).toInt ∧ (a / 10).toInt < (h 39 3).toInt) ∨ (r3.toInt = 0 ∧ ¬ (0 ≤ (a / 10).toInt ∧ (a / 10).toInt < (h 39 3).toInt))) := p4
    show (r3 = 0 → (((0 : Int32) = 0 ∨ (0 : Int32) = 1) ∧ Q (some (.int 0)) h)) ∧ (¬ r3 = 0 → (¬ (10 : Int32) = 0 ∧ (qm_PW X 164 [.ref 39, .int (a - a / 10 * 10)] h _)))
    refine ⟨fun c6 => ?_, fun c7 => ?_⟩
    · have := ti_eqK 0 rfl c6
      exact ⟨Or.inl rfl, hq 0 (by have : (0 : Int32).toInt = 0 := rfl; have := ti_div (10 : Int32) 10 rfl a (by decide); show ((0 : Int32) = 0 ∨ (0 : Int32) = 1) ∧ (((0 : Int32).toInt = 1 ∧ 0 ≤ a.toInt ∧ a.toInt / 10 < (h 39 3).toInt ∧ a.toInt % 10 < (h 39 3).toInt ∧ ¬ a.toInt / 10 = a.toInt % 10) ∨ ((0 : Int32).toInt = 0 ∧ ¬ (0 ≤ a.toInt ∧ a.toInt / 10 < (h 39 3).toInt ∧ a.toInt % 10 < (h 39 3).toInt ∧ ¬ a.toInt / 10 = a.toInt % 10))); first | exact ⟨Or.inl rfl, by omega⟩ | (have hne := congrArg Int32.toInt (show (a / 10) = (a - a / 10 * 10) from by assumption); exact ⟨Or.inl rfl, by omega⟩))⟩
    · have := ti_neK 0 rfl c7
      refine ⟨by decide, ?_⟩
      refine ty_164 X h (a - a / 10 * 10) hmmi _ (fun r8 p9 => ?_)
      have o10 : (r8 = 0 ∨ r8 = 1) ∧ ((r8.toInt = 1 ∧ 0 ≤ (a - a / 10 * 10).toInt ∧ (a - a / 10 * 10).toInt < (h 39 3).toInt) ∨ (r8.toInt = 0 ∧ ¬ (0 ≤ (a - a / 10 * 10).toInt ∧ (a - a / 10 * 10).toInt < (h 39 3).toInt))) := p9
      show (r8 = 0 → (((0 : Int32) = 0 ∨ (0 : Int32) = 1) ∧ Q (some (.int 0)) h)) ∧ (¬ r8 = 0 → (¬ (10 : Int32) = 0 ∧ (¬ (10 : Int32) = 0 ∧ (((a / 10) = (a - a / 10 * 10) → (((0 : Int32) = 0 ∨ (0 : Int32) = 1) ∧ Q (some (.int 0)) h)) ∧ (¬ (a / 10) = (a - a / 10 * 10) → (((1 : Int32) = 0 ∨ (1 : Int32) = 1) ∧ Q (some (.int 1)) h))))))
      refine ⟨fun c11 => ?_, fun c12 => ?_⟩
      · have := ti_eqK 0 rfl c11
        exact ⟨Or.inl rfl, hq 0 (by have : (0 : Int32).toInt = 0 := rfl; have := ti_div (10 : Int32) 10 rfl a (by decide); have := ti_rem (10 : Int32) 10 rfl a (by decide); show ((0 : Int32) = 0 ∨ (0 : Int32) = 1) ∧ (((0 : Int32).toInt = 1 ∧ 0 ≤ a.toInt ∧ a.toInt / 10 < (h 39 3).toInt ∧ a.toInt % 10 < (h 39 3).toInt ∧ ¬ a.toInt / 10 = a.toInt % 10) ∨ ((0 : Int32).toInt = 0 ∧ ¬ (0 ≤ a.toInt ∧ a.toInt / 10 < (h 39 3).toInt ∧ a.toInt % 10 < (h 39 3).toInt ∧ ¬ a.toInt / 10 = a.toInt % 10))); first | exact ⟨Or.inl rfl, by omega⟩ | (have hne := congrArg Int32.toInt (show (a / 10) = (a - a / 10 * 10) from by assumption); exact ⟨Or.inl rfl, by omega⟩))⟩
      · have := ti_neK 0 rfl c12
        refine ⟨by decide, ?_⟩
        refine ⟨by decide, ?_⟩
        refine ⟨fun c13 => ?_, fun c14 => ?_⟩
        · exact ⟨Or.inl rfl, hq 0 (by have : (0 : Int32).toInt = 0 := rfl; have := ti_div (10 : Int32) 10 rfl a (by decide); have := ti_rem (10 : Int32) 10 rfl a (by decide); show ((0 : Int32) = 0 ∨ (0 : Int32) = 1) ∧ (((0 : Int32).toInt = 1 ∧ 0 ≤ a.toInt ∧ a.toInt / 10 < (h 39 3).toInt ∧ a.toInt % 10 < (h 39 3).toInt ∧ ¬ a.toInt / 10 = a.toInt % 10) ∨ ((0 : Int32).toInt = 0 ∧ ¬ (0 ≤ a.toInt ∧ a.toInt / 10 < (h 39 3).toInt ∧ a.toInt % 10 < (h 39 3).toInt ∧ ¬ a.toInt / 10 = a.toInt % 10))); first | exact ⟨Or.inl rfl, by omega⟩ | (have hne := congrArg Int32.toInt (show (a / 10) = (a - a / 10 * 10) from by assumption); exact ⟨Or.inl rfl, by omega⟩))⟩
        · exact ⟨Or.inr rfl, hq 1 (by have : (1 : Int32).toInt = 1 := rfl; have := ti_div (10 : Int32) 10 rfl a (by decide); have := ti_rem (10 : Int32) 10 rfl a (by decide); show ((1 : Int32) = 0 ∨ (1 : Int32) = 1) ∧ (((1 : Int32).toInt = 1 ∧ 0 ≤ a.toInt ∧ a.toInt / 10 < (h 39 3).toInt ∧ a.toInt % 10 < (h 39 3).toInt ∧ ¬ a.toInt / 10 = a.toInt % 10) ∨ ((1 : Int32).toInt = 0 ∧ ¬ (0 ≤ a.toInt ∧ a.toInt / 10 < (h 39 3).toInt ∧ a.toInt % 10 < (h 39 3).toInt ∧ ¬ a.toInt / 10 = a.toInt % 10))); have hne : ¬ (a / 10).toInt = (a - a / 10 * 10).toInt := (fun q => absurd (Int32.toInt_inj.mp q) (by assumption)); exact ⟨Or.inr rfl, by omega⟩)⟩
-- ThreadBankModel.isThread(I)Z
set_option maxRecDepth 100000 in
set_option maxHeartbeats 4000000 in
theorem ty_167 (X : qm_X) (h : qm_H) (a : Int32) (hp : sm h) (Q : qm_Q) (hq : ∀ r : Int32, ((r = 0 ∨ r = 1) ∧ ((r.toInt = 1 ∧ 0 ≤ a.toInt ∧ a.toInt < (h 40 4).toInt) ∨ (r.toInt = 0 ∧ ¬ (0 ≤ a.toInt ∧ a.toInt < (h 40 4).toInt)))) → Q (some (.int r)) h) : qm_PW X 167 [.ref 39, .int a] h Q := by
  have hmsm : sm h := hp
  have ⟨⟨⟨_, _⟩, _, _⟩, _, _, _⟩ := hmsm
  refine qm_seg_ok (C := qc_167) (rt := some .boolean) rfl rfl (cuts := []) 400 _ _ _ _ ?_
  show (0 ≤ (4 : Int) ∧ (4 : Int) < 147) ∧ (qm_PW X 141 [.long (Int32.toInt64 a), .long 0, .long (Int32.toInt64 ((h 40 4) - 1))] h _)
  refine ⟨by decide, ?_⟩
  refine sf_141 X h ((Int32.toInt64 a) : Int64) (0 : Int64) ((Int32.toInt64 ((h 40 4) - 1)) : Int64) trivial _ (fun r1 p2 => ?_)
  have o3 : ¬ r1.toInt = 0 → (0 : Int64).toInt ≤ (Int32.toInt64 a).toInt ∧ (Int32.toInt64 a).toInt ≤ (Int32.toInt64 ((h 40 4) - 1)).toInt := fun hc => p2.2.1 (fun e => hc (ti_eqK 0 rfl e))
  have o4 : r1.toInt = 0 → (Int32.toInt64 a).toInt < (0 : Int64).toInt ∨ (Int32.toInt64 ((h 40 4) - 1)).toInt < (Int32.toInt64 a).toInt := fun hc => p2.2.2 (Int32.toInt_inj.mp hc)
  show (r1 = 0 ∨ r1 = 1) ∧ Q (some (.int r1)) h
  exact ⟨p2.1, hq r1 (by have := ti_subK (h 40 4) (1 : Int32) 1 rfl; have : (0 : Int64).toInt = 0 := rfl; have := i64 a; have := i64 ((h 40 4) - 1); show (r1 = 0 ∨ r1 = 1) ∧ ((r1.toInt = 1 ∧ 0 ≤ a.toInt ∧ a.toInt < (h 40 4).toInt) ∨ (r1.toInt = 0 ∧ ¬ (0 ≤ a.toInt ∧ a.toInt < (h 40 4).toInt))); exact ⟨p2.1, by have hb9 := bool_i (p2.1); omega⟩)⟩
-- ThreadBankModel.isPart(I)Z
set_option maxRecDepth 100000 in
set_option maxHeartbeats 4000000 in
theorem ty_168 (X : qm_X) (h : qm_H) (a : Int32) (hp : True) (Q : qm_Q) (hq : ∀ r : Int32, ((r = 0 ∨ r = 1) ∧ ((r.toInt = 1 ∧ 0 ≤ a.toInt ∧ a.toInt ≤ 1) ∨ (r.toInt = 0 ∧ ¬ (0 ≤ a.toInt ∧ a.toInt ≤ 1)))) → Q (some (.int r)) h) : qm_PW X 168 [.int a] h Q := by
  refine qm_seg_ok (C := qc_168) (rt := some .boolean) rfl rfl (cuts := []) 400 _ _ _ _ ?_
  show qm_PW X 141 [.long (Int32.toInt64 a), .long 0, .long 1] h _
  refine sf_141 X h ((Int32.toInt64 a) : Int64) (0 : Int64) (1 : Int64) trivial _ (fun r1 p2 => ?_)
  have o3 : ¬ r1.toInt = 0 → (0 : Int64).toInt ≤ (Int32.toInt64 a).toInt ∧ (Int32.toInt64 a).toInt ≤ (1 : Int64).toInt := fun hc => p2.2.1 (fun e => hc (ti_eqK 0 rfl e))
  have o4 : r1.toInt = 0 → (Int32.toInt64 a).toInt < (0 : Int64).toInt ∨ (1 : Int64).toInt < (Int32.toInt64 a).toInt := fun hc => p2.2.2 (Int32.toInt_inj.mp hc)
  show (r1 = 0 ∨ r1 = 1) ∧ Q (some (.int r1)) h
  exact ⟨p2.1, hq r1 (by have : (0 : Int64).toInt = 0 := rfl; have : (1 : Int64).toInt = 1 := rfl; have := i64 a; show (r1 = 0 ∨ r1 = 1) ∧ ((r1.toInt = 1 ∧ 0 ≤ a.toInt ∧ a.toInt ≤ 1) ∨ (r1.toInt = 0 ∧ ¬ (0 ≤ a.toInt ∧ a.toInt ≤ 1))); exact ⟨p2.1, by have hb9 := bool_i (p2.1); omega⟩)⟩
-- ThreadBankModel.of(II)I
set_option maxRecDepth 100000 in
set_option maxHeartbeats 4000000 in
theorem ty_171 (X : qm_X) (h : qm_H) (a : Int32) (b : Int32) (hp : am h ∧ ((0 ≤ a.toInt ∧ a.toInt ≤ 9) ∧ (0 ≤ b.toInt ∧ b.toInt ≤ 2))) (Q : qm_Q) (hq : ∀ r : Int32, (((b.toInt = 0 → (r.toInt = (h 41 (6 + 3 * a.toInt.toNat)).toInt ∧ 0 ≤ r.toInt ∧ r.toInt ≤ 39)) ∧ (b.toInt = 1 → (r.toInt = (h 41 (7 + 3 * a.toInt.toNat)).toInt ∧ 0 ≤ r.toInt ∧ r.toInt / 10 ≤ 3 ∧ r.toInt % 10 ≤ 3)) ∧ (b.toInt = 2 → (r.toInt = (h 41 (8 + 3 * a.toInt.toNat)).toInt ∧ 0 ≤ r.toInt ∧ r.toInt ≤ 99)))) → Q (some (.int r)) h) : qm_PW X 171 [.ref 39, .int a, .int b] h Q := by
  have hmam : am h := hp.1
  have ⟨⟨_, _⟩, ⟨_, _⟩, _, _, _⟩ := hmam
  have hp0 : (0 ≤ a.toInt ∧ a.toInt ≤ 9) ∧ (0 ≤ b.toInt ∧ b.toInt ≤ 2) := hp.2
  have hof := am_of hmam hp0.1 hp0.2
  have hof1 := hof.1
  refine qm_seg_ok (C := qc_171) (rt := some .int) rfl rfl (cuts := []) 400 _ _ _ _ ?_
  show (0 ≤ ((6 + (3 * a)) + b).toInt ∧ ((6 + (3 * a)) + b).toInt < 49) ∧ (Q (some (.int (h 41 ((6 + (3 * a)) + b).toInt.toNat))) h)
  refine ⟨(by have := ti_mulL (3 : Int32) 3 rfl a; have := ti_addL (3 * a) (6 : Int32) 6 rfl; have := ti_add (6 + (3 * a)) b; omega), ?_⟩
  exact hq (h 41 ((6 + (3 * a)) + b).toInt.toNat) (by have := ti_mulL (3 : Int32) 3 rfl a; have := ti_addL (3 * a) (6 : Int32) 6 rfl; have := ti_add (6 + (3 * a)) b; show ((b.toInt = 0 → ((h 41 ((6 + (3 * a)) + b).toInt.toNat).toInt = (h 41 (6 + 3 * a.toInt.toNat)).toInt ∧ 0 ≤ (h 41 ((6 + (3 * a)) + b).toInt.toNat).toInt ∧ (h 41 ((6 + (3 * a)) + b).toInt.toNat).toInt ≤ 39)) ∧ (b.toInt = 1 → ((h 41 ((6 + (3 * a)) + b).toInt.toNat).toInt = (h 41 (7 + 3 * a.toInt.toNat)).toInt ∧ 0 ≤ (h 41 ((6 + (3 * a)) + b).toInt.toNat).toInt ∧ (h 41 ((6 + (3 * a)) + b).toInt.toNat).toInt / 10 ≤ 3 ∧ (h 41 ((6 + (3 * a)) + b).toInt.toNat).toInt % 10 ≤ 3)) ∧ (b.toInt = 2 → ((h 41 ((6 + (3 * a)) + b).toInt.toNat).toInt = (h 41 (8 + 3 * a.toInt.toNat)).toInt ∧ 0 ≤ (h 41 ((6 + (3 * a)) + b).toInt.toNat).toInt ∧ (h 41 ((6 + (3 * a)) + b).toInt.toNat).toInt ≤ 99))); exact ⟨fun hb => ⟨by rw [show 6 + 3 * a.toInt.toNat = ((6 + (3 * a)) + b).toInt.toNat by omega], hof.2.1 hb⟩, fun hb => ⟨by rw [show 7 + 3 * a.toInt.toNat = ((6 + (3 * a)) + b).toInt.toNat by omega], hof.2.2.1 hb⟩, fun hb => ⟨by rw [show 8 + 3 * a.toInt.toNat = ((6 + (3 * a)) + b).toInt.toNat by omega], hof.2.2.2 hb⟩⟩)
-- ThreadBankModel.handOf(I)I
set_option maxRecDepth 100000 in
set_option maxHeartbeats 4000000 in
theorem ty_172 (X : qm_X) (h : qm_H) (a : Int32) (hp : am h ∧ (0 ≤ a.toInt ∧ a.toInt ≤ 9)) (Q : qm_Q) (hq : ∀ r : Int32, (r.toInt = ((h 41 (6 + 3 * a.toInt.toNat)) / 10).toInt ∧ (0 ≤ r.toInt ∧ r.toInt ≤ 3)) → Q (some (.int r)) h) : qm_PW X 172 [.ref 39, .int a] h Q := by
  have hmam : am h := hp.1
  have ⟨⟨_, _⟩, ⟨_, _⟩, _, _, _⟩ := hmam
  have hp0 : 0 ≤ a.toInt ∧ a.toInt ≤ 9 := hp.2
  refine qm_seg_ok (C := qc_172) (rt := some .int) rfl rfl (cuts := []) 400 _ _ _ _ ?_
  show qm_PW X 171 [.ref 39, .int a, .int 0] h _
  refine ty_171 X h a (0 : Int32) ⟨hmam, (by have : (0 : Int32).toInt = 0 := rfl; omega)⟩ _ (fun r1 p2 => ?_)
  have o3 : (r1.toInt = (h 41 (6 + 3 * a.toInt.toNat)).toInt ∧ 0 ≤ r1.toInt ∧ r1.toInt ≤ 39) := p2.1 rfl
  show ¬ (10 : Int32) = 0 ∧ (Q (some (.int (r1 / 10))) h)
  refine ⟨by decide, ?_⟩
  exact hq (r1 / 10) (by have := ti_div (10 : Int32) 10 rfl r1 (by decide); have := ti_div (10 : Int32) 10 rfl (h 41 (6 + 3 * a.toInt.toNat)) (by decide); show (r1 / 10).toInt = ((h 41 (6 + 3 * a.toInt.toNat)) / 10).toInt ∧ (0 ≤ (r1 / 10).toInt ∧ (r1 / 10).toInt ≤ 3); have e9 := Int32.toInt_inj.mp o3.1; exact ⟨by rw [e9], by omega⟩)
-- ThreadBankModel.room(I)I
set_option maxRecDepth 100000 in
set_option maxHeartbeats 4000000 in
theorem ty_173 (X : qm_X) (h : qm_H) (a : Int32) (hp : am h ∧ (0 ≤ a.toInt ∧ a.toInt ≤ 39)) (Q : qm_Q) (hq : ∀ r : Int32, (r.toInt = rmF (h 41 (a.toInt / 10).toNat).toInt (a.toInt % 10)) → Q (some (.int r)) h) : qm_PW X 173 [.ref 39, .int a] h Q := by
  have hmam : am h := hp.1
  have ⟨⟨_, _⟩, ⟨_, _⟩, _, _, _⟩ := hmam
  have hp0 : 0 ≤ a.toInt ∧ a.toInt ≤ 39 := hp.2
  refine qm_seg_ok (C := qc_173) (rt := some .int) rfl rfl (cuts := []) 400 _ _ _ _ ?_
  show ¬ (10 : Int32) = 0 ∧ ((0 ≤ (0 + (a / 10)).toInt ∧ (0 + (a / 10)).toInt < 49) ∧ (¬ (10 : Int32) = 0 ∧ (qm_PW X 160 [.int (h 41 (0 + (a / 10)).toInt.toNat), .int (a - a / 10 * 10)] h _)))
  refine ⟨by decide, ?_⟩
  refine ⟨(by have := ti_div (10 : Int32) 10 rfl a (by decide); have := ti_addL (a / 10) (0 : Int32) 0 rfl; omega), ?_⟩
  refine ⟨by decide, ?_⟩
  refine tx_160 X h (h 41 (0 + (a / 10)).toInt.toNat) (a - a / 10 * 10) trivial _ (fun r1 p2 => ?_)
  have o3 : r1.toInt = rmF (h 41 (0 + (a / 10)).toInt.toNat).toInt (a - a / 10 * 10).toInt := p2
  show Q (some (.int r1)) h
  exact hq r1 (by have := ti_div (10 : Int32) 10 rfl a (by decide); have := ti_addL (a / 10) (0 : Int32) 0 rfl; have := ti_rem (10 : Int32) 10 rfl a (by decide); show r1.toInt = rmF (h 41 (a.toInt / 10).toNat).toInt (a.toInt % 10); have hd : (0 + (a / 10)).toInt.toNat = (a.toInt / 10).toNat := (by omega); have hm : (a - a / 10 * 10).toInt = a.toInt % 10 := (by omega); have e9 := o3; rw [hd, hm] at e9; exact e9)
-- ThreadBankModel.tiedAt(I)I
set_option maxRecDepth 100000 in
set_option maxHeartbeats 4000000 in
theorem ty_174_c (X : qm_X) (h : qm_H) (a : Int32) (hp : am h) (Q : qm_Q) (hq : ∀ r : Int32, (r.toInt = cntD (h 41) (h 41 4).toInt.toNat a.toInt ∧ (0 ≤ r.toInt ∧ r.toInt ≤ 10)) → Q (some (.int r)) h) : ∀ n : Nat, (∀ (l2 : Int32) (l3 : Int32), ((0 ≤ l3.toInt ∧ l3.toInt ≤ (h 41 4).toInt) ∧ l2.toInt = cntD (h 41) l3.toInt.toNat a.toInt) → (10 - l3.toInt).toNat < n → qm_PA X 174 4 [(0, .ref 39), (1, .int a), (2, .int l2), (3, .int l3)] [] h Q) := by
  have hmam : am h := hp
  have ⟨⟨_, _⟩, ⟨_, _⟩, _, _, _⟩ := hmam
  intro n
  induction n with
  | zero => exact fun _ _ _ h0 => absurd h0 (Nat.not_lt_zero _)
  | succ n ih =>
    intro l2 l3 hi hr
    have hcr := cntD_rng (f := h 41) (x := a.toInt) l3.toInt.toNat
    have hlt := ti_rng l3
    refine qm_seg_ok (C := qc_174) (rt := some .int) rfl rfl (cuts := [(4, [0, 1, 2, 3])]) 400 _ _ _ _ ?_
    show (0 ≤ (4 : Int) ∧ (4 : Int) < 49) ∧ (((h 41 4).toInt ≤ l3.toInt → (Q (some (.int l2)) h)) ∧ (l3.toInt < (h 41 4).toInt → (qm_PW X 171 [.ref 39, .int l3, .int 0] h _)))
    refine ⟨by decide, ?_⟩
    refine ⟨fun c1 => ?_, fun c2 => ?_⟩
    · exact hq l2 (by show l2.toInt = cntD (h 41) (h 41 4).toInt.toNat a.toInt ∧ (0 ≤ l2.toInt ∧ l2.toInt ≤ 10); exact ⟨by rw [show (h 41 4).toInt.toNat = l3.toInt.toNat by omega]; exact hi.2, by omega⟩)
    · refine ty_171 X h l3 (0 : Int32) ⟨hmam, (by have : (0 : Int32).toInt = 0 := rfl; omega)⟩ _ (fun r3 p4 => ?_)
      have o5 : (r3.toInt = (h 41 (6 + 3 * l3.toInt.toNat)).toInt ∧ 0 ≤ r3.toInt ∧ r3.toInt ≤ 39) := p4.1 rfl
      show (¬ r3 = a → (qm_PW X 142 [.int 0] h _)) ∧ (r3 = a → (qm_PW X 142 [.int 1] h _))
      refine ⟨fun c6 => ?_, fun c7 => ?_⟩
      · refine tx_142 X h (0 : Int32) trivial _ (fun r8 p9 => ?_)
        have o10 : ((0 : Int32).toInt = 0 ∧ r8.toInt = 0) ∨ (¬ (0 : Int32).toInt = 0 ∧ r8.toInt = 1) := p9
        show qm_PA X 174 4 [(0, .ref 39), (1, .int a), (2, .int (l2 + r8)), (3, .int (l3 + 1))] [] h Q
        exact ih (l2 + r8) (l3 + 1) (by have : (0 : Int32).toInt = 0 := rfl; have := ti_addK l3 (1 : Int32) 1 rfl; have := ti_add l2 r8; have h01 : (0 : Int32).toInt = 0 := rfl; have h11 : (1 : Int32).toInt = 1 := rfl; have hc : ¬ (h 41 (6 + 3 * l3.toInt.toNat)).toInt = a.toInt := (fun w => absurd (Int32.toInt_inj.mp (show r3.toInt = a.toInt by omega)) (by assumption)); exact ⟨by omega, by rw [show (l3 + 1).toInt.toNat = l3.toInt.toNat + 1 by omega, cntD_neg hc]; omega⟩) (by have : (0 : Int32).toInt = 0 := rfl; have := ti_addK l3 (1 : Int32) 1 rfl; omega)
      · refine tx_142 X h (1 : Int32) trivial _ (fun r11 p12 => ?_)
        have o13 : ((1 : Int32).toInt = 0 ∧ r11.toInt = 0) ∨ (¬ (1 : Int32).toInt = 0 ∧ r11.toInt = 1) := p12
        show qm_PA X 174 4 [(0, .ref 39), (1, .int a), (2, .int (l2 + r11)), (3, .int (l3 + 1))] [] h Q
        exact ih (l2 + r11) (l3 + 1) (by have : (1 : Int32).toInt = 1 := rfl; have := ti_addK l3 (1 : Int32) 1 rfl; have := ti_add l2 r11; have h01 : (0 : Int32).toInt = 0 := rfl; have h11 : (1 : Int32).toInt = 1 := rfl; have hc : (h 41 (6 + 3 * l3.toInt.toNat)).toInt = a.toInt := (by have := congrArg Int32.toInt (show r3 = a from by assumption); omega); exact ⟨by omega, by rw [show (l3 + 1).toInt.toNat = l3.toInt.toNat + 1 by omega, cntD_pos hc]; omega⟩) (by have : (1 : Int32).toInt = 1 := rfl; have := ti_addK l3 (1 : Int32) 1 rfl; omega)
set_option maxRecDepth 100000 in
set_option maxHeartbeats 4000000 in
theorem ty_174 (X : qm_X) (h : qm_H) (a : Int32) (hp : am h) (Q : qm_Q) (hq : ∀ r : Int32, (r.toInt = cntD (h 41) (h 41 4).toInt.toNat a.toInt ∧ (0 ≤ r.toInt ∧ r.toInt ≤ 10)) → Q (some (.int r)) h) : qm_PW X 174 [.ref 39, .int a] h Q := by
  have hmam : am h := hp
  have ⟨⟨_, _⟩, ⟨_, _⟩, _, _, _⟩ := hmam
  refine qm_seg_ok (C := qc_174) (rt := some .int) rfl rfl (cuts := [(4, [0, 1, 2, 3])]) 400 _ _ _ _ ?_
  show qm_PA X 174 4 [(0, .ref 39), (1, .int a), (2, .int 0), (3, .int 0)] [] h Q
  exact (ty_174_c X h a hp Q hq _) (0 : Int32) (0 : Int32) (by have : (0 : Int32).toInt = 0 := rfl; exact ⟨by have : (0 : Int32).toInt = 0 := rfl; omega, rfl⟩) (Nat.lt_succ_self _)
-- ThreadBankModel.becomes(II)I
set_option maxRecDepth 100000 in
set_option maxHeartbeats 4000000 in
theorem ty_188 (X : qm_X) (h : qm_H) (a : Int32) (b : Int32) (hp : sm h ∧ (0 ≤ a.toInt ∧ a.toInt < 49 ∧ pv 0 a.toInt.toNat b)) (Q : qm_Q) (hq : ∀ r : Int32, ∀ h' : qm_H, (sm h' ∧ (∀ k, (k < 40 ∨ 40 < k) → h' k = h k) ∧ (r.toInt = (h 40 a.toInt.toNat).toInt ∧ (h' 40) = upd (h 40) a.toInt.toNat b)) → Q (some (.int r)) h') : qm_PW X 188 [.ref 39, .int a, .int b] h Q := by
  have hmsm : sm h := hp.1
  have ⟨⟨⟨_, _⟩, _, _⟩, _, _, _⟩ := hmsm
  have hp0 : 0 ≤ a.toInt ∧ a.toInt < 49 ∧ pv 0 a.toInt.toNat b := hp.2
  refine qm_seg_ok (C := qc_188) (rt := some .int) rfl rfl (cuts := []) 400 _ _ _ _ ?_
  show (0 ≤ a.toInt ∧ a.toInt < 147) ∧ ((0 ≤ a.toInt ∧ a.toInt < 147) ∧ (Q (some (.int (h 40 a.toInt.toNat))) (qm_row h 40 (upd (h 40) a.toInt.toNat b))))
  refine ⟨(by omega), ?_⟩
  refine ⟨(by omega), ?_⟩
  exact hq (h 40 a.toInt.toNat) (qm_row h 40 (upd (h 40) a.toInt.toNat b)) ⟨(by exact sm_upd hmsm (by omega) hp0.2.2), (fun k hk => by simp only [qm_row]; rw [if_neg (by omega)]), (by show (h 40 a.toInt.toNat).toInt = (h 40 a.toInt.toNat).toInt ∧ (upd (h 40) a.toInt.toNat b) = upd (h 40) a.toInt.toNat b; exact ⟨rfl, rfl⟩)⟩
