-- ThreadBank$Memory.isPlace(II)Z
set_option maxRecDepth 100000 in
set_option maxHeartbeats 4000000 in
theorem tx_24 (X : qm_X) (h : qm_H) (a : Int32) (b : Int32) (hp : True) (Q : qm_Q) (hq : ∀ r : Int32, ((r = 0 ∨ r = 1) ∧ ((r.toInt = 1 ∧ 0 ≤ a.toInt ∧ a.toInt / 10 < b.toInt ∧ a.toInt % 10 < 5) ∨ (r.toInt = 0 ∧ ¬ (0 ≤ a.toInt ∧ a.toInt / 10 < b.toInt ∧ a.toInt % 10 < 5)))) → Q (some (.int r)) h) : qm_PW X 24 [.int a, .int b] h Q := by
  refine qm_seg_ok (C := qc_24) (rt := some .boolean) rfl rfl (cuts := []) 400 _ _ _ _ ?_
  show (a.toInt < 0 → (((0 : Int32) = 0 ∨ (0 : Int32) = 1) ∧ Q (some (.int 0)) h)) ∧ (0 ≤ a.toInt → (¬ (10 : Int32) = 0 ∧ ((b.toInt ≤ (a / 10).toInt → (((0 : Int32) = 0 ∨ (0 : Int32) = 1) ∧ Q (some (.int 0)) h)) ∧ ((a / 10).toInt < b.toInt → (¬ (10 : Int32) = 0 ∧ ((5 ≤ (a - a / 10 * 10).toInt → (((0 : Int32) = 0 ∨ (0 : Int32) = 1) ∧ Q (some (.int 0)) h)) ∧ ((a - a / 10 * 10).toInt < 5 → (((1 : Int32) = 0 ∨ (1 : Int32) = 1) ∧ Q (some (.int 1)) h))))))))
  refine ⟨fun c1 => ?_, fun c2 => ?_⟩
  · exact ⟨Or.inl rfl, hq 0 (by have : (0 : Int32).toInt = 0 := rfl; show ((0 : Int32) = 0 ∨ (0 : Int32) = 1) ∧ (((0 : Int32).toInt = 1 ∧ 0 ≤ a.toInt ∧ a.toInt / 10 < b.toInt ∧ a.toInt % 10 < 5) ∨ ((0 : Int32).toInt = 0 ∧ ¬ (0 ≤ a.toInt ∧ a.toInt / 10 < b.toInt ∧ a.toInt % 10 < 5))); first | exact ⟨Or.inr rfl, by omega⟩ | exact ⟨Or.inl rfl, by omega⟩)⟩
  · refine ⟨by decide, ?_⟩
    refine ⟨fun c3 => ?_, fun c4 => ?_⟩
    · exact ⟨Or.inl rfl, hq 0 (by have : (0 : Int32).toInt = 0 := rfl; have := ti_div (10 : Int32) 10 rfl a (by decide); show ((0 : Int32) = 0 ∨ (0 : Int32) = 1) ∧ (((0 : Int32).toInt = 1 ∧ 0 ≤ a.toInt ∧ a.toInt / 10 < b.toInt ∧ a.toInt % 10 < 5) ∨ ((0 : Int32).toInt = 0 ∧ ¬ (0 ≤ a.toInt ∧ a.toInt / 10 < b.toInt ∧ a.toInt % 10 < 5))); first | exact ⟨Or.inr rfl, by omega⟩ | exact ⟨Or.inl rfl, by omega⟩)⟩
    · refine ⟨by decide, ?_⟩
      refine ⟨fun c5 => ?_, fun c6 => ?_⟩
      · exact ⟨Or.inl rfl, hq 0 (by have : (0 : Int32).toInt = 0 := rfl; have := ti_div (10 : Int32) 10 rfl a (by decide); have := ti_rem (10 : Int32) 10 rfl a (by decide); show ((0 : Int32) = 0 ∨ (0 : Int32) = 1) ∧ (((0 : Int32).toInt = 1 ∧ 0 ≤ a.toInt ∧ a.toInt / 10 < b.toInt ∧ a.toInt % 10 < 5) ∨ ((0 : Int32).toInt = 0 ∧ ¬ (0 ≤ a.toInt ∧ a.toInt / 10 < b.toInt ∧ a.toInt % 10 < 5))); first | exact ⟨Or.inr rfl, by omega⟩ | exact ⟨Or.inl rfl, by omega⟩)⟩
      · exact ⟨Or.inr rfl, hq 1 (by have : (1 : Int32).toInt = 1 := rfl; have := ti_div (10 : Int32) 10 rfl a (by decide); have := ti_rem (10 : Int32) 10 rfl a (by decide); show ((1 : Int32) = 0 ∨ (1 : Int32) = 1) ∧ (((1 : Int32).toInt = 1 ∧ 0 ≤ a.toInt ∧ a.toInt / 10 < b.toInt ∧ a.toInt % 10 < 5) ∨ ((1 : Int32).toInt = 0 ∧ ¬ (0 ≤ a.toInt ∧ a.toInt / 10 < b.toInt ∧ a.toInt % 10 < 5))); first | exact ⟨Or.inr rfl, by omega⟩ | exact ⟨Or.inl rfl, by omega⟩)⟩
-- ThreadBank$Memory.isPair(II)Z
set_option maxRecDepth 100000 in
set_option maxHeartbeats 4000000 in
theorem tx_25 (X : qm_X) (h : qm_H) (a : Int32) (b : Int32) (hp : True) (Q : qm_Q) (hq : ∀ r : Int32, ((r = 0 ∨ r = 1) ∧ ((r.toInt = 1 ∧ 0 ≤ a.toInt ∧ a.toInt / 10 < b.toInt ∧ a.toInt % 10 < b.toInt ∧ ¬ a.toInt / 10 = a.toInt % 10) ∨ (r.toInt = 0 ∧ ¬ (0 ≤ a.toInt ∧ a.toInt / 10 < b.toInt ∧ a.toInt % 10 < b.toInt ∧ ¬ a.toInt / 10 = a.toInt % 10)))) → Q (some (.int r)) h) : qm_PW X 25 [.int a, .int b] h Q := by
  refine qm_seg_ok (C := qc_25) (rt := some .boolean) rfl rfl (cuts := []) 400 _ _ _ _ ?_
  show ¬ (10 : Int32) = 0 ∧ (¬ (10 : Int32) = 0 ∧ ((a.toInt < 0 → (((0 : Int32) = 0 ∨ (0 : Int32) = 1) ∧ Q (some (.int 0)) h)) ∧ (0 ≤ a.toInt → ((b.toInt ≤ (a / 10).toInt → (((0 : Int32) = 0 ∨ (0 : Int32) = 1) ∧ Q (some (.int 0)) h)) ∧ ((a / 10).toInt < b.toInt → ((b.toInt ≤ (a - a / 10 * 10).toInt → (((0 : Int32) = 0 ∨ (0 : Int32) = 1) ∧ Q (some (.int 0)) h)) ∧ ((a - a / 10 * 10).toInt < b.toInt → (((a / 10) = (a - a / 10 * 10) → (((0 : Int32) = 0 ∨ (0 : Int32) = 1) ∧ Q (some (.int 0)) h)) ∧ (¬ (a / 10) = (a - a / 10 * 10) → (((1 : Int32) = 0 ∨ (1 : Int32) = 1) ∧ Q (some (.int 1)) h))))))))))
  refine ⟨by decide, ?_⟩
  refine ⟨by decide, ?_⟩
  refine ⟨fun c1 => ?_, fun c2 => ?_⟩
  · exact ⟨Or.inl rfl, hq 0 (by have : (0 : Int32).toInt = 0 := rfl; show ((0 : Int32) = 0 ∨ (0 : Int32) = 1) ∧ (((0 : Int32).toInt = 1 ∧ 0 ≤ a.toInt ∧ a.toInt / 10 < b.toInt ∧ a.toInt % 10 < b.toInt ∧ ¬ a.toInt / 10 = a.toInt % 10) ∨ ((0 : Int32).toInt = 0 ∧ ¬ (0 ≤ a.toInt ∧ a.toInt / 10 < b.toInt ∧ a.toInt % 10 < b.toInt ∧ ¬ a.toInt / 10 = a.toInt % 10))); first | exact ⟨Or.inr rfl, by omega⟩ | exact ⟨Or.inl rfl, by omega⟩ | exact ⟨Or.inr rfl, by have hne : ¬ (a / 10).toInt = (a - a / 10 * 10).toInt := (fun q => absurd (Int32.toInt_inj.mp q) (by assumption)); omega⟩ | exact ⟨Or.inl rfl, by have hne := congrArg Int32.toInt (by assumption); omega⟩)⟩
  · refine ⟨fun c3 => ?_, fun c4 => ?_⟩
    · exact ⟨Or.inl rfl, hq 0 (by have : (0 : Int32).toInt = 0 := rfl; have := ti_div (10 : Int32) 10 rfl a (by decide); show ((0 : Int32) = 0 ∨ (0 : Int32) = 1) ∧ (((0 : Int32).toInt = 1 ∧ 0 ≤ a.toInt ∧ a.toInt / 10 < b.toInt ∧ a.toInt % 10 < b.toInt ∧ ¬ a.toInt / 10 = a.toInt % 10) ∨ ((0 : Int32).toInt = 0 ∧ ¬ (0 ≤ a.toInt ∧ a.toInt / 10 < b.toInt ∧ a.toInt % 10 < b.toInt ∧ ¬ a.toInt / 10 = a.toInt % 10))); first | exact ⟨Or.inr rfl, by omega⟩ | exact ⟨Or.inl rfl, by omega⟩ | exact ⟨Or.inr rfl, by have hne : ¬ (a / 10).toInt = (a - a / 10 * 10).toInt := (fun q => absurd (Int32.toInt_inj.mp q) (by assumption)); omega⟩ | exact ⟨Or.inl rfl, by have hne := congrArg Int32.toInt (by assumption); omega⟩)⟩
    · refine ⟨fun c5 => ?_, fun c6 => ?_⟩
      · exact ⟨Or.inl rfl, hq 0 (by have : (0 : Int32).toInt = 0 := rfl; have := ti_div (10 : Int32) 10 rfl a (by decide); have := ti_rem (10 : Int32) 10 rfl a (by decide); show ((0 : Int32) = 0 ∨ (0 : Int32) = 1) ∧ (((0 : Int32).toInt = 1 ∧ 0 ≤ a.toInt ∧ a.toInt / 10 < b.toInt ∧ a.toInt % 10 < b.toInt ∧ ¬ a.toInt / 10 = a.toInt % 10) ∨ ((0 : Int32).toInt = 0 ∧ ¬ (0 ≤ a.toInt ∧ a.toInt / 10 < b.toInt ∧ a.toInt % 10 < b.toInt ∧ ¬ a.toInt / 10 = a.toInt % 10))); first | exact ⟨Or.inr rfl, by omega⟩ | exact ⟨Or.inl rfl, by omega⟩ | exact ⟨Or.inr rfl, by have hne : ¬ (a / 10).toInt = (a - a / 10 * 10).toInt := (fun q => absurd (Int32.toInt_inj.mp q) (by assumption)); omega⟩ | exact ⟨Or.inl rfl, by have hne := congrArg Int32.toInt (by assumption); omega⟩)⟩
      · refine ⟨fun c7 => ?_, fun c8 => ?_⟩
        · exact ⟨Or.inl rfl, hq 0 (by have : (0 : Int32).toInt = 0 := rfl; have := ti_div (10 : Int32) 10 rfl a (by decide); have := ti_rem (10 : Int32) 10 rfl a (by decide); show ((0 : Int32) = 0 ∨ (0 : Int32) = 1) ∧ (((0 : Int32).toInt = 1 ∧ 0 ≤ a.toInt ∧ a.toInt / 10 < b.toInt ∧ a.toInt % 10 < b.toInt ∧ ¬ a.toInt / 10 = a.toInt % 10) ∨ ((0 : Int32).toInt = 0 ∧ ¬ (0 ≤ a.toInt ∧ a.toInt / 10 < b.toInt ∧ a.toInt % 10 < b.toInt ∧ ¬ a.toInt / 10 = a.toInt % 10))); first | exact ⟨Or.inr rfl, by omega⟩ | exact ⟨Or.inl rfl, by omega⟩ | exact ⟨Or.inr rfl, by have hne : ¬ (a / 10).toInt = (a - a / 10 * 10).toInt := (fun q => absurd (Int32.toInt_inj.mp q) (by assumption)); omega⟩ | exact ⟨Or.inl rfl, by have hne := congrArg Int32.toInt (by assumption); omega⟩)⟩
        · exact ⟨Or.inr rfl, hq 1 (by have : (1 : Int32).toInt = 1 := rfl; have := ti_div (10 : Int32) 10 rfl a (by decide); have := ti_rem (10 : Int32) 10 rfl a (by decide); show ((1 : Int32) = 0 ∨ (1 : Int32) = 1) ∧ (((1 : Int32).toInt = 1 ∧ 0 ≤ a.toInt ∧ a.toInt / 10 < b.toInt ∧ a.toInt % 10 < b.toInt ∧ ¬ a.toInt / 10 = a.toInt % 10) ∨ ((1 : Int32).toInt = 0 ∧ ¬ (0 ≤ a.toInt ∧ a.toInt / 10 < b.toInt ∧ a.toInt % 10 < b.toInt ∧ ¬ a.toInt / 10 = a.toInt % 10))); first | exact ⟨Or.inr rfl, by omega⟩ | exact ⟨Or.inl rfl, by omega⟩ | exact ⟨Or.inr rfl, by have hne : ¬ (a / 10).toInt = (a - a / 10 * 10).toInt := (fun q => absurd (Int32.toInt_inj.mp q) (by assumption)); omega⟩ | exact ⟨Or.inl rfl, by have hne := congrArg Int32.toInt (by assumption); omega⟩)⟩
-- ThreadBank$Memory.isKnot(I)Z
set_option maxRecDepth 100000 in
set_option maxHeartbeats 4000000 in
theorem tx_26 (X : qm_X) (h : qm_H) (a : Int32) (hp : True) (Q : qm_Q) (hq : ∀ r : Int32, ((r = 0 ∨ r = 1) ∧ ((r.toInt = 1 ∧ 10 ≤ a.toInt ∧ a.toInt ≤ 99) ∨ (r.toInt = 0 ∧ ¬ (10 ≤ a.toInt ∧ a.toInt ≤ 99)))) → Q (some (.int r)) h) : qm_PW X 26 [.int a] h Q := by
  refine qm_seg_ok (C := qc_26) (rt := some .boolean) rfl rfl (cuts := []) 400 _ _ _ _ ?_
  show (a.toInt < 10 → (((0 : Int32) = 0 ∨ (0 : Int32) = 1) ∧ Q (some (.int 0)) h)) ∧ (10 ≤ a.toInt → ((99 < a.toInt → (((0 : Int32) = 0 ∨ (0 : Int32) = 1) ∧ Q (some (.int 0)) h)) ∧ (a.toInt ≤ 99 → (((1 : Int32) = 0 ∨ (1 : Int32) = 1) ∧ Q (some (.int 1)) h))))
  refine ⟨fun c1 => ?_, fun c2 => ?_⟩
  · exact ⟨Or.inl rfl, hq 0 (by have : (0 : Int32).toInt = 0 := rfl; show ((0 : Int32) = 0 ∨ (0 : Int32) = 1) ∧ (((0 : Int32).toInt = 1 ∧ 10 ≤ a.toInt ∧ a.toInt ≤ 99) ∨ ((0 : Int32).toInt = 0 ∧ ¬ (10 ≤ a.toInt ∧ a.toInt ≤ 99))); first | exact ⟨Or.inr rfl, by omega⟩ | exact ⟨Or.inl rfl, by omega⟩)⟩
  · refine ⟨fun c3 => ?_, fun c4 => ?_⟩
    · exact ⟨Or.inl rfl, hq 0 (by have : (0 : Int32).toInt = 0 := rfl; show ((0 : Int32) = 0 ∨ (0 : Int32) = 1) ∧ (((0 : Int32).toInt = 1 ∧ 10 ≤ a.toInt ∧ a.toInt ≤ 99) ∨ ((0 : Int32).toInt = 0 ∧ ¬ (10 ≤ a.toInt ∧ a.toInt ≤ 99))); first | exact ⟨Or.inr rfl, by omega⟩ | exact ⟨Or.inl rfl, by omega⟩)⟩
    · exact ⟨Or.inr rfl, hq 1 (by have : (1 : Int32).toInt = 1 := rfl; show ((1 : Int32) = 0 ∨ (1 : Int32) = 1) ∧ (((1 : Int32).toInt = 1 ∧ 10 ≤ a.toInt ∧ a.toInt ≤ 99) ∨ ((1 : Int32).toInt = 0 ∧ ¬ (10 ≤ a.toInt ∧ a.toInt ≤ 99))); first | exact ⟨Or.inr rfl, by omega⟩ | exact ⟨Or.inl rfl, by omega⟩)⟩
-- ThreadBank$Memory.addClerk(I)Z
set_option maxRecDepth 100000 in
set_option maxHeartbeats 4000000 in
theorem tx_44 (X : qm_X) (h : qm_H) (a : Int32) (hp : mq 25 h ∧ z9 h) (Q : qm_Q) (hq : ∀ r : Int32, ∀ h' : qm_H, (mq 25 h' ∧ z9 h' ∧ (∀ k, (k < 25 ∨ 26 < k) → h' k = h k) ∧ ((r = 0 ∨ r = 1) ∧ ((r.toInt = 0 ∧ 4 ≤ (h 25 6).toInt) ∨ (r.toInt = 1 ∧ (h 25 6).toInt < 4 ∧ (h' 25 6).toInt = (h 25 6).toInt + 1 ∧ (h' 25 7).toInt = (h 25 7).toInt ∧ (h' 25 8).toInt = (h 25 8).toInt)) ∧ (r.toInt = 0 ∨ (h' 26) = upd (h 26) (h 25 6).toInt.toNat a))) → Q (some (.int r)) h') : qm_PW X 44 [.ref 25, .int a] h Q := by
  have hm25 : mq 25 h := hp.1
  have ⟨⟨_, _⟩, ⟨_, _⟩, _, _⟩ := hm25
  have hmz9 : z9 h := hp.2
  have ⟨_, _⟩ := hmz9
  refine qm_seg_ok (C := qc_44) (rt := some .boolean) rfl rfl (cuts := []) 400 _ _ _ _ ?_
  show ((h 25 6).toInt < 4 → ((0 ≤ (h 25 6).toInt ∧ (h 25 6).toInt < 4) ∧ (((1 : Int32) = 0 ∨ (1 : Int32) = 1) ∧ Q (some (.int 1)) (qm_row (qm_row h 26 (upd (h 26) (h 25 6).toInt.toNat a)) 25 (upd (h 25) 6 ((h 25 6) + 1)))))) ∧ (4 ≤ (h 25 6).toInt → (((0 : Int32) = 0 ∨ (0 : Int32) = 1) ∧ Q (some (.int 0)) h))
  refine ⟨fun c1 => ?_, fun c2 => ?_⟩
  · refine ⟨(by omega), ?_⟩
    exact ⟨Or.inr rfl, hq 1 (qm_row (qm_row h 26 (upd (h 26) (h 25 6).toInt.toNat a)) 25 (upd (h 25) 6 ((h 25 6) + 1))) ⟨(by have ⟨⟨_, _⟩, ⟨_, _⟩, _, _⟩ := hm25; have ⟨_, _⟩ := hmz9; show (0 ≤ ((h 25 6) + 1).toInt ∧ ((h 25 6) + 1).toInt ≤ 4) ∧ (0 ≤ (h 25 7).toInt ∧ (h 25 7).toInt ≤ 10) ∧ (0 ≤ (h 25 9).toInt ∧ (h 25 9).toInt ≤ 6); have := ti_addK (h 25 6) (1 : Int32) 1 rfl; omega), (by have ⟨⟨_, _⟩, ⟨_, _⟩, _, _⟩ := hm25; have ⟨_, _⟩ := hmz9; show (0 ≤ (h 25 9).toInt ∧ (h 25 9).toInt ≤ 0); omega), (fun k hk => by simp only [qm_row]; rw [if_neg (by omega)]; rw [if_neg (by omega)]), (by have : (1 : Int32).toInt = 1 := rfl; have := ti_addK (h 25 6) (1 : Int32) 1 rfl; show ((1 : Int32) = 0 ∨ (1 : Int32) = 1) ∧ (((1 : Int32).toInt = 0 ∧ 4 ≤ (h 25 6).toInt) ∨ ((1 : Int32).toInt = 1 ∧ (h 25 6).toInt < 4 ∧ ((h 25 6) + 1).toInt = (h 25 6).toInt + 1 ∧ (h 25 7).toInt = (h 25 7).toInt ∧ (h 25 8).toInt = (h 25 8).toInt)) ∧ ((1 : Int32).toInt = 0 ∨ (upd (h 26) (h 25 6).toInt.toNat a) = upd (h 26) (h 25 6).toInt.toNat a); first | exact ⟨Or.inl rfl, by omega, Or.inl rfl⟩ | exact ⟨Or.inr rfl, by omega, Or.inr rfl⟩)⟩⟩
  · exact ⟨Or.inl rfl, hq 0 h ⟨hm25, hmz9, (fun k hk => rfl), (by have : (0 : Int32).toInt = 0 := rfl; show ((0 : Int32) = 0 ∨ (0 : Int32) = 1) ∧ (((0 : Int32).toInt = 0 ∧ 4 ≤ (h 25 6).toInt) ∨ ((0 : Int32).toInt = 1 ∧ (h 25 6).toInt < 4 ∧ (h 25 6).toInt = (h 25 6).toInt + 1 ∧ (h 25 7).toInt = (h 25 7).toInt ∧ (h 25 8).toInt = (h 25 8).toInt)) ∧ ((0 : Int32).toInt = 0 ∨ (h 26) = upd (h 26) (h 25 6).toInt.toNat a); first | exact ⟨Or.inl rfl, by omega, Or.inl rfl⟩ | exact ⟨Or.inr rfl, by omega, Or.inr rfl⟩)⟩⟩
-- ThreadBank$Memory.addThread(III)Z
set_option maxRecDepth 100000 in
set_option maxHeartbeats 4000000 in
theorem tx_45 (X : qm_X) (h : qm_H) (a : Int32) (b : Int32) (c : Int32) (hp : mq 25 h ∧ z9 h) (Q : qm_Q) (hq : ∀ r : Int32, ∀ h' : qm_H, (mq 25 h' ∧ z9 h' ∧ (∀ k, (k < 25 ∨ 29 < k) → h' k = h k) ∧ ((r = 0 ∨ r = 1) ∧ ((r.toInt = 0 ∧ 10 ≤ (h 25 7).toInt) ∨ (r.toInt = 1 ∧ (h 25 7).toInt < 10 ∧ (h' 25 7).toInt = (h 25 7).toInt + 1 ∧ (h' 25 6).toInt = (h 25 6).toInt ∧ (h' 25 8).toInt = (h 25 8).toInt)) ∧ (r.toInt = 0 ∨ ((h' 26) = (h 26) ∧ (h' 27) = upd (h 27) (h 25 7).toInt.toNat a ∧ (h' 28) = upd (h 28) (h 25 7).toInt.toNat b ∧ (h' 29) = upd (h 29) (h 25 7).toInt.toNat c)))) → Q (some (.int r)) h') : qm_PW X 45 [.ref 25, .int a, .int b, .int c] h Q := by
  have hm25 : mq 25 h := hp.1
  have ⟨⟨_, _⟩, ⟨_, _⟩, _, _⟩ := hm25
  have hmz9 : z9 h := hp.2
  have ⟨_, _⟩ := hmz9
  refine qm_seg_ok (C := qc_45) (rt := some .boolean) rfl rfl (cuts := []) 400 _ _ _ _ ?_
  show ((h 25 7).toInt < 10 → ((0 ≤ (h 25 7).toInt ∧ (h 25 7).toInt < 10) ∧ ((0 ≤ (h 25 7).toInt ∧ (h 25 7).toInt < 10) ∧ ((0 ≤ (h 25 7).toInt ∧ (h 25 7).toInt < 10) ∧ (((1 : Int32) = 0 ∨ (1 : Int32) = 1) ∧ Q (some (.int 1)) (qm_row (qm_row (qm_row (qm_row h 27 (upd (h 27) (h 25 7).toInt.toNat a)) 28 (upd (h 28) (h 25 7).toInt.toNat b)) 29 (upd (h 29) (h 25 7).toInt.toNat c)) 25 (upd (h 25) 7 ((h 25 7) + 1)))))))) ∧ (10 ≤ (h 25 7).toInt → (((0 : Int32) = 0 ∨ (0 : Int32) = 1) ∧ Q (some (.int 0)) h))
  refine ⟨fun c1 => ?_, fun c2 => ?_⟩
  · refine ⟨(by omega), ?_⟩
    refine ⟨(by omega), ?_⟩
    refine ⟨(by omega), ?_⟩
    exact ⟨Or.inr rfl, hq 1 (qm_row (qm_row (qm_row (qm_row h 27 (upd (h 27) (h 25 7).toInt.toNat a)) 28 (upd (h 28) (h 25 7).toInt.toNat b)) 29 (upd (h 29) (h 25 7).toInt.toNat c)) 25 (upd (h 25) 7 ((h 25 7) + 1))) ⟨(by have ⟨⟨_, _⟩, ⟨_, _⟩, _, _⟩ := hm25; have ⟨_, _⟩ := hmz9; show (0 ≤ (h 25 6).toInt ∧ (h 25 6).toInt ≤ 4) ∧ (0 ≤ ((h 25 7) + 1).toInt ∧ ((h 25 7) + 1).toInt ≤ 10) ∧ (0 ≤ (h 25 9).toInt ∧ (h 25 9).toInt ≤ 6); have := ti_addK (h 25 7) (1 : Int32) 1 rfl; omega), (by have ⟨⟨_, _⟩, ⟨_, _⟩, _, _⟩ := hm25; have ⟨_, _⟩ := hmz9; show (0 ≤ (h 25 9).toInt ∧ (h 25 9).toInt ≤ 0); omega), (fun k hk => by simp only [qm_row]; rw [if_neg (by omega)]; rw [if_neg (by omega)]; rw [if_neg (by omega)]; rw [if_neg (by omega)]), (by have : (1 : Int32).toInt = 1 := rfl; have := ti_addK (h 25 7) (1 : Int32) 1 rfl; show ((1 : Int32) = 0 ∨ (1 : Int32) = 1) ∧ (((1 : Int32).toInt = 0 ∧ 10 ≤ (h 25 7).toInt) ∨ ((1 : Int32).toInt = 1 ∧ (h 25 7).toInt < 10 ∧ ((h 25 7) + 1).toInt = (h 25 7).toInt + 1 ∧ (h 25 6).toInt = (h 25 6).toInt ∧ (h 25 8).toInt = (h 25 8).toInt)) ∧ ((1 : Int32).toInt = 0 ∨ ((h 26) = (h 26) ∧ (upd (h 27) (h 25 7).toInt.toNat a) = upd (h 27) (h 25 7).toInt.toNat a ∧ (upd (h 28) (h 25 7).toInt.toNat b) = upd (h 28) (h 25 7).toInt.toNat b ∧ (upd (h 29) (h 25 7).toInt.toNat c) = upd (h 29) (h 25 7).toInt.toNat c)); first | exact ⟨Or.inl rfl, by omega, Or.inl rfl⟩ | exact ⟨Or.inr rfl, by omega, Or.inr ⟨rfl, rfl, rfl, rfl⟩⟩)⟩⟩
  · exact ⟨Or.inl rfl, hq 0 h ⟨hm25, hmz9, (fun k hk => rfl), (by have : (0 : Int32).toInt = 0 := rfl; show ((0 : Int32) = 0 ∨ (0 : Int32) = 1) ∧ (((0 : Int32).toInt = 0 ∧ 10 ≤ (h 25 7).toInt) ∨ ((0 : Int32).toInt = 1 ∧ (h 25 7).toInt < 10 ∧ (h 25 7).toInt = (h 25 7).toInt + 1 ∧ (h 25 6).toInt = (h 25 6).toInt ∧ (h 25 8).toInt = (h 25 8).toInt)) ∧ ((0 : Int32).toInt = 0 ∨ ((h 26) = (h 26) ∧ (h 27) = upd (h 27) (h 25 7).toInt.toNat a ∧ (h 28) = upd (h 28) (h 25 7).toInt.toNat b ∧ (h 29) = upd (h 29) (h 25 7).toInt.toNat c)); first | exact ⟨Or.inl rfl, by omega, Or.inl rfl⟩ | exact ⟨Or.inr rfl, by omega, Or.inr ⟨rfl, rfl, rfl, rfl⟩⟩)⟩⟩
-- ThreadBank$TextReader.readDay()Z
set_option maxRecDepth 100000 in
set_option maxHeartbeats 4000000 in
theorem tx_80 (X : qm_X) (h : qm_H) (hp : tc h ∧ mq 25 h ∧ z9 h ∧ (0 ≤ (h 23 8).toInt)) (Q : qm_Q) (hq : ∀ r : Int32, ∀ h' : qm_H, (tc h' ∧ mq 25 h' ∧ z9 h' ∧ (∀ k, (k < 23 ∨ 25 < k) → h' k = h k) ∧ ((r = 0 ∨ r = 1) ∧ (h' 24) = (h 24) ∧ (((h' 23 2).toInt = (h 23 2).toInt) ∧ ((h' 23 3).toInt = (h 23 3).toInt) ∧ (h' 25 6).toInt = (h 25 6).toInt ∧ (h' 25 7).toInt = (h 25 7).toInt) ∧ dayQ (h 24) (h 23 2).toInt.toNat (h 23 8).toInt.toNat (h 23 6).toInt.toNat (h 23 10).toInt r.toInt (h' 23 4).toInt (h' 23 5).toInt (h' 23 6).toInt (h' 25 8).toInt (h' 23 10).toInt (h 23 4).toInt (h 23 5).toInt ∧ (r.toInt = 0 ∨ (h 23 6).toInt ≤ (h' 23 6).toInt))) → Q (some (.int r)) h') : qm_PW X 80 [.ref 23] h Q := by
  have hmtc : tc h := hp.1
  have ⟨⟨_, _⟩, _, _⟩ := hmtc
  have hm25 : mq 25 h := hp.2.1
  have ⟨⟨_, _⟩, ⟨_, _⟩, _, _⟩ := hm25
  have hmz9 : z9 h := hp.2.2.1
  have ⟨_, _⟩ := hmz9
  have hp0 : 0 ≤ (h 23 8).toInt := hp.2.2.2
  refine qm_seg_ok (C := qc_80) (rt := some .boolean) rfl rfl (cuts := []) 400 _ _ _ _ ?_
  show ((h 23 10) = 0 → (qm_PW X 82 [.ref 23] h _)) ∧ (¬ (h 23 10) = 0 → (qm_PW X 78 [.ref 23, .int 4, .int (h 23 8)] h _))
  refine ⟨fun c1 => ?_, fun c2 => ?_⟩
  · have := ti_eqK 0 rfl c1
    refine tx_82 X h  hmtc _ (fun r3 g4 p5 => ?_)
    have f6 : ∀ k, (k < 23 ∨ 25 < k) → g4 k = h k := fun k hk => (p5.2.1 k (by omega)).trans (rfl)
    have k7 : mq 25 g4 := by unfold mq; rw [p5.2.1 25 (by omega)]; exact hm25
    have k8 : z9 g4 := by unfold z9; rw [p5.2.1 25 (by omega)]; exact hmz9
    have o9 : numR (h 24) (h 23 2).toInt.toNat (h 23 6).toInt.toNat r3.toInt (g4 23 8).toInt (g4 23 6).toInt (g4 23 9).toInt (g4 23 4).toInt (g4 23 5).toInt (h 23 4).toInt (h 23 5).toInt ∧ (r3 = 0 ∨ r3 = 1) ∧ ((g4 23 2).toInt = (h 23 2).toInt) ∧ ((g4 23 3).toInt = (h 23 3).toInt) ∧ ((g4 23 10).toInt = (h 23 10).toInt) := p5.2.2
    have e24_g4 : g4 24 = h 24 := (p5.2.1 24 (by omega))
    have e2_g4 : (g4 23 2).toInt = (h 23 2).toInt := (by omega)
    have e25_g4 : g4 25 = h 25 := (p5.2.1 25 (by omega))
    have e26_g4 : g4 26 = h 26 := (p5.2.1 26 (by omega))
    have e27_g4 : g4 27 = h 27 := (p5.2.1 27 (by omega))
    have e28_g4 : g4 28 = h 28 := (p5.2.1 28 (by omega))
    have e29_g4 : g4 29 = h 29 := (p5.2.1 29 (by omega))
    show (¬ r3 = 0 → (((g4 23 9).toInt ≤ 9 → (((1 : Int32) = 0 ∨ (1 : Int32) = 1) ∧ (((1 : Int32) = 0 ∨ (1 : Int32) = 1) ∧ Q (some (.int 1)) (qm_row (qm_row g4 23 (upd (g4 23) 10 1)) 25 (upd (g4 25) 8 (g4 23 9)))))) ∧ (9 < (g4 23 9).toInt → (qm_PW X 78 [.ref 23, .int 3, .int (g4 23 8)] g4 _)))) ∧ (r3 = 0 → (((0 : Int32) = 0 ∨ (0 : Int32) = 1) ∧ Q (some (.int 0)) g4))
    refine ⟨fun c10 => ?_, fun c11 => ?_⟩
    · have := ti_neK 0 rfl c10
      refine ⟨fun c12 => ?_, fun c13 => ?_⟩
      · refine ⟨Or.inr rfl, ?_⟩
        exact ⟨Or.inr rfl, hq 1 (qm_row (qm_row g4 23 (upd (g4 23) 10 1)) 25 (upd (g4 25) 8 (g4 23 9))) ⟨(by have ⟨⟨_, _⟩, _, _⟩ := hmtc; have ⟨⟨_, _⟩, ⟨_, _⟩, _, _⟩ := hm25; have ⟨_, _⟩ := hmz9; have ⟨⟨_, _⟩, _, _⟩ := p5.1; have ⟨⟨_, _⟩, ⟨_, _⟩, _, _⟩ := k7; have ⟨_, _⟩ := k8; show (0 ≤ (g4 23 2).toInt ∧ (g4 23 2).toInt ≤ 160) ∧ (0 ≤ (g4 23 6).toInt ∧ (g4 23 6).toInt ≤ (g4 23 2).toInt); omega), (by have ⟨⟨_, _⟩, _, _⟩ := hmtc; have ⟨⟨_, _⟩, ⟨_, _⟩, _, _⟩ := hm25; have ⟨_, _⟩ := hmz9; have ⟨⟨_, _⟩, _, _⟩ := p5.1; have ⟨⟨_, _⟩, ⟨_, _⟩, _, _⟩ := k7; have ⟨_, _⟩ := k8; show (0 ≤ (g4 25 6).toInt ∧ (g4 25 6).toInt ≤ 4) ∧ (0 ≤ (g4 25 7).toInt ∧ (g4 25 7).toInt ≤ 10) ∧ (0 ≤ (g4 25 9).toInt ∧ (g4 25 9).toInt ≤ 6); omega), (by have ⟨⟨_, _⟩, _, _⟩ := hmtc; have ⟨⟨_, _⟩, ⟨_, _⟩, _, _⟩ := hm25; have ⟨_, _⟩ := hmz9; have ⟨⟨_, _⟩, _, _⟩ := p5.1; have ⟨⟨_, _⟩, ⟨_, _⟩, _, _⟩ := k7; have ⟨_, _⟩ := k8; show (0 ≤ (g4 25 9).toInt ∧ (g4 25 9).toInt ≤ 0); omega), (fun k hk => by simp only [qm_row]; rw [if_neg (by omega)]; rw [if_neg (by omega)]; exact f6 k hk), (by have : (1 : Int32).toInt = 1 := rfl; show ((1 : Int32) = 0 ∨ (1 : Int32) = 1) ∧ (g4 24) = (h 24) ∧ (((g4 23 2).toInt = (h 23 2).toInt) ∧ ((g4 23 3).toInt = (h 23 3).toInt) ∧ (g4 25 6).toInt = (h 25 6).toInt ∧ (g4 25 7).toInt = (h 25 7).toInt) ∧ dayQ (h 24) (h 23 2).toInt.toNat (h 23 8).toInt.toNat (h 23 6).toInt.toNat (h 23 10).toInt (1 : Int32).toInt (g4 23 4).toInt (g4 23 5).toInt (g4 23 6).toInt (g4 23 9).toInt (1 : Int32).toInt (h 23 4).toInt (h 23 5).toInt ∧ ((1 : Int32).toInt = 0 ∨ (h 23 6).toInt ≤ (g4 23 6).toInt); have q6 : (g4 25 6).toInt = (h 25 6).toInt := congrArg (fun f : Nat → Int32 => (f 6).toInt) e25_g4; have q7 : (g4 25 7).toInt = (h 25 7).toInt := congrArg (fun f : Nat → Int32 => (f 7).toInt) e25_g4; exact ⟨Or.inr rfl, e24_g4, by omega, dayQ_ok (by omega) o9.1 (by omega) (by omega) rfl rfl rfl rfl rfl rfl, by have := numR_ge o9.1 (by omega); omega⟩)⟩⟩
      · refine tx_78 X g4 (3 : Int32) (g4 23 8) trivial _ (fun r14 g15 p16 => ?_)
        have f17 : ∀ k, (k < 23 ∨ 25 < k) → g15 k = h k := fun k hk => (p16.1 k (by omega)).trans (f6 k hk)
        have k18 : mq 25 g15 := by unfold mq; rw [p16.1 25 (by omega)]; exact k7
        have k19 : z9 g15 := by unfold z9; rw [p16.1 25 (by omega)]; exact k8
        have o20 : (r14 = 0 ∨ r14 = 1) ∧ r14.toInt = 0 ∧ (g15 23 4).toInt = (3 : Int32).toInt ∧ (g15 23 5).toInt = (g4 23 8).toInt ∧ ((g15 23 2).toInt = (g4 23 2).toInt) ∧ ((g15 23 3).toInt = (g4 23 3).toInt) ∧ ((g15 23 6).toInt = (g4 23 6).toInt) ∧ ((g15 23 7).toInt = (g4 23 7).toInt) ∧ ((g15 23 8).toInt = (g4 23 8).toInt) ∧ ((g15 23 9).toInt = (g4 23 9).toInt) ∧ ((g15 23 10).toInt = (g4 23 10).toInt) := p16.2
        have e24_g15 : g15 24 = h 24 := (p16.1 24 (by omega)).trans e24_g4
        have e2_g15 : (g15 23 2).toInt = (h 23 2).toInt := (by omega)
        have e25_g15 : g15 25 = h 25 := (p16.1 25 (by omega)).trans e25_g4
        have e26_g15 : g15 26 = h 26 := (p16.1 26 (by omega)).trans e26_g4
        have e27_g15 : g15 27 = h 27 := (p16.1 27 (by omega)).trans e27_g4
        have e28_g15 : g15 28 = h 28 := (p16.1 28 (by omega)).trans e28_g4
        have e29_g15 : g15 29 = h 29 := (p16.1 29 (by omega)).trans e29_g4
        (try rw [e24_g4] at o20); (try rw [e2_g4] at o20); (try rw [e25_g4] at o20); (try rw [e26_g4] at o20); (try rw [e27_g4] at o20); (try rw [e28_g4] at o20); (try rw [e29_g4] at o20)
        show (r14 = 0 ∨ r14 = 1) ∧ Q (some (.int r14)) g15
        exact ⟨p16.2.1, hq r14 g15 ⟨(by have ⟨⟨_, _⟩, _, _⟩ := hmtc; have ⟨⟨_, _⟩, ⟨_, _⟩, _, _⟩ := hm25; have ⟨_, _⟩ := hmz9; have ⟨⟨_, _⟩, _, _⟩ := p5.1; have ⟨⟨_, _⟩, ⟨_, _⟩, _, _⟩ := k7; have ⟨_, _⟩ := k8; have ⟨⟨_, _⟩, ⟨_, _⟩, _, _⟩ := k18; have ⟨_, _⟩ := k19; show (0 ≤ (g15 23 2).toInt ∧ (g15 23 2).toInt ≤ 160) ∧ (0 ≤ (g15 23 6).toInt ∧ (g15 23 6).toInt ≤ (g15 23 2).toInt); have : (3 : Int32).toInt = 3 := rfl; omega), k18, k19, (fun k hk => f17 k hk), (by have : (3 : Int32).toInt = 3 := rfl; show (r14 = 0 ∨ r14 = 1) ∧ (g15 24) = (h 24) ∧ (((g15 23 2).toInt = (h 23 2).toInt) ∧ ((g15 23 3).toInt = (h 23 3).toInt) ∧ (g15 25 6).toInt = (h 25 6).toInt ∧ (g15 25 7).toInt = (h 25 7).toInt) ∧ dayQ (h 24) (h 23 2).toInt.toNat (h 23 8).toInt.toNat (h 23 6).toInt.toNat (h 23 10).toInt r14.toInt (g15 23 4).toInt (g15 23 5).toInt (g15 23 6).toInt (g15 25 8).toInt (g15 23 10).toInt (h 23 4).toInt (h 23 5).toInt ∧ (r14.toInt = 0 ∨ (h 23 6).toInt ≤ (g15 23 6).toInt); have q6 : (g15 25 6).toInt = (h 25 6).toInt := congrArg (fun f : Nat → Int32 => (f 6).toInt) e25_g15; have q7 : (g15 25 7).toInt = (h 25 7).toInt := congrArg (fun f : Nat → Int32 => (f 7).toInt) e25_g15; exact ⟨p16.2.1, e24_g15, by omega, dayQ_big (by omega) o9.1 (by omega) (by omega) (by omega) (by omega) (by omega), by omega⟩)⟩⟩
    · have := ti_eqK 0 rfl c11
      exact ⟨Or.inl rfl, hq 0 g4 ⟨p5.1, k7, k8, (fun k hk => f6 k hk), (by have : (0 : Int32).toInt = 0 := rfl; show ((0 : Int32) = 0 ∨ (0 : Int32) = 1) ∧ (g4 24) = (h 24) ∧ (((g4 23 2).toInt = (h 23 2).toInt) ∧ ((g4 23 3).toInt = (h 23 3).toInt) ∧ (g4 25 6).toInt = (h 25 6).toInt ∧ (g4 25 7).toInt = (h 25 7).toInt) ∧ dayQ (h 24) (h 23 2).toInt.toNat (h 23 8).toInt.toNat (h 23 6).toInt.toNat (h 23 10).toInt (0 : Int32).toInt (g4 23 4).toInt (g4 23 5).toInt (g4 23 6).toInt (g4 25 8).toInt (g4 23 10).toInt (h 23 4).toInt (h 23 5).toInt ∧ ((0 : Int32).toInt = 0 ∨ (h 23 6).toInt ≤ (g4 23 6).toInt); have q6 : (g4 25 6).toInt = (h 25 6).toInt := congrArg (fun f : Nat → Int32 => (f 6).toInt) e25_g4; have q7 : (g4 25 7).toInt = (h 25 7).toInt := congrArg (fun f : Nat → Int32 => (f 7).toInt) e25_g4; exact ⟨Or.inl rfl, e24_g4, by omega, dayQ_bad (by omega) o9.1 (by omega) rfl, by omega⟩)⟩⟩
  · have := ti_neK 0 rfl c2
    refine tx_78 X h (4 : Int32) (h 23 8) trivial _ (fun r21 g22 p23 => ?_)
    have f24 : ∀ k, (k < 23 ∨ 25 < k) → g22 k = h k := fun k hk => (p23.1 k (by omega)).trans (rfl)
    have k25 : mq 25 g22 := by unfold mq; rw [p23.1 25 (by omega)]; exact hm25
    have k26 : z9 g22 := by unfold z9; rw [p23.1 25 (by omega)]; exact hmz9
    have o27 : (r21 = 0 ∨ r21 = 1) ∧ r21.toInt = 0 ∧ (g22 23 4).toInt = (4 : Int32).toInt ∧ (g22 23 5).toInt = (h 23 8).toInt ∧ ((g22 23 2).toInt = (h 23 2).toInt) ∧ ((g22 23 3).toInt = (h 23 3).toInt) ∧ ((g22 23 6).toInt = (h 23 6).toInt) ∧ ((g22 23 7).toInt = (h 23 7).toInt) ∧ ((g22 23 8).toInt = (h 23 8).toInt) ∧ ((g22 23 9).toInt = (h 23 9).toInt) ∧ ((g22 23 10).toInt = (h 23 10).toInt) := p23.2
    have e24_g22 : g22 24 = h 24 := (p23.1 24 (by omega))
    have e2_g22 : (g22 23 2).toInt = (h 23 2).toInt := (by omega)
    have e25_g22 : g22 25 = h 25 := (p23.1 25 (by omega))
    have e26_g22 : g22 26 = h 26 := (p23.1 26 (by omega))
    have e27_g22 : g22 27 = h 27 := (p23.1 27 (by omega))
    have e28_g22 : g22 28 = h 28 := (p23.1 28 (by omega))
    have e29_g22 : g22 29 = h 29 := (p23.1 29 (by omega))
    show (r21 = 0 ∨ r21 = 1) ∧ Q (some (.int r21)) g22
    exact ⟨p23.2.1, hq r21 g22 ⟨(by have ⟨⟨_, _⟩, _, _⟩ := hmtc; have ⟨⟨_, _⟩, ⟨_, _⟩, _, _⟩ := hm25; have ⟨_, _⟩ := hmz9; have ⟨⟨_, _⟩, ⟨_, _⟩, _, _⟩ := k25; have ⟨_, _⟩ := k26; show (0 ≤ (g22 23 2).toInt ∧ (g22 23 2).toInt ≤ 160) ∧ (0 ≤ (g22 23 6).toInt ∧ (g22 23 6).toInt ≤ (g22 23 2).toInt); have : (4 : Int32).toInt = 4 := rfl; omega), k25, k26, (fun k hk => f24 k hk), (by have : (4 : Int32).toInt = 4 := rfl; show (r21 = 0 ∨ r21 = 1) ∧ (g22 24) = (h 24) ∧ (((g22 23 2).toInt = (h 23 2).toInt) ∧ ((g22 23 3).toInt = (h 23 3).toInt) ∧ (g22 25 6).toInt = (h 25 6).toInt ∧ (g22 25 7).toInt = (h 25 7).toInt) ∧ dayQ (h 24) (h 23 2).toInt.toNat (h 23 8).toInt.toNat (h 23 6).toInt.toNat (h 23 10).toInt r21.toInt (g22 23 4).toInt (g22 23 5).toInt (g22 23 6).toInt (g22 25 8).toInt (g22 23 10).toInt (h 23 4).toInt (h 23 5).toInt ∧ (r21.toInt = 0 ∨ (h 23 6).toInt ≤ (g22 23 6).toInt); have q6 : (g22 25 6).toInt = (h 25 6).toInt := congrArg (fun f : Nat → Int32 => (f 6).toInt) e25_g22; have q7 : (g22 25 7).toInt = (h 25 7).toInt := congrArg (fun f : Nat → Int32 => (f 7).toInt) e25_g22; exact ⟨p23.2.1, e24_g22, by omega, dayQ_told (by omega) (by omega) (by omega) (by omega), by omega⟩)⟩⟩
-- ThreadBank$TextReader.readTie()Z
set_option maxRecDepth 100000 in
set_option maxHeartbeats 4000000 in
theorem tx_81 (X : qm_X) (h : qm_H) (hp : tc h ∧ mq 25 h ∧ z9 h ∧ (0 ≤ (h 23 8).toInt)) (Q : qm_Q) (hq : ∀ r : Int32, ∀ h' : qm_H, (tc h' ∧ mq 25 h' ∧ z9 h' ∧ (∀ k, (k < 23 ∨ 29 < k) → h' k = h k) ∧ ((r = 0 ∨ r = 1) ∧ (h' 24) = (h 24) ∧ (((h' 23 2).toInt = (h 23 2).toInt) ∧ ((h' 23 3).toInt = (h 23 3).toInt) ∧ ((h' 23 10).toInt = (h 23 10).toInt)) ∧ (r.toInt = 0 ∨ (h 23 6).toInt ≤ (h' 23 6).toInt) ∧ ∃ x y z : Int32, tieQ (h 24) (h 23 2).toInt.toNat (h 23 8).toInt.toNat (h 23 6).toInt.toNat (h 25 7).toInt r.toInt (h' 23 4).toInt (h' 23 5).toInt (h' 23 6).toInt x.toInt y.toInt z.toInt (h 23 4).toInt (h 23 5).toInt ∧ (r.toInt = 0 ∨ (((h' 25 7).toInt = (h 25 7).toInt + 1 ∧ (h' 25 6).toInt = (h 25 6).toInt ∧ (h' 25 8).toInt = (h 25 8).toInt) ∧ (h' 26) = (h 26) ∧ (h' 27) = upd (h 27) (h 25 7).toInt.toNat x ∧ (h' 28) = upd (h 28) (h 25 7).toInt.toNat y ∧ (h' 29) = upd (h 29) (h 25 7).toInt.toNat z)))) → Q (some (.int r)) h') : qm_PW X 81 [.ref 23] h Q := by
  have hmtc : tc h := hp.1
  have ⟨⟨_, _⟩, _, _⟩ := hmtc
  have hm25 : mq 25 h := hp.2.1
  have ⟨⟨_, _⟩, ⟨_, _⟩, _, _⟩ := hm25
  have hmz9 : z9 h := hp.2.2.1
  have ⟨_, _⟩ := hmz9
  have hp0 : 0 ≤ (h 23 8).toInt := hp.2.2.2
  refine qm_seg_ok (C := qc_81) (rt := some .boolean) rfl rfl (cuts := []) 400 _ _ _ _ ?_
  show ((h 25 7).toInt < 10 → (qm_PW X 82 [.ref 23] h _)) ∧ (10 ≤ (h 25 7).toInt → (qm_PW X 78 [.ref 23, .int 5, .int (h 23 8)] h _))
  refine ⟨fun c1 => ?_, fun c2 => ?_⟩
  · refine tx_82 X h  hmtc _ (fun r3 g4 p5 => ?_)
    have f6 : ∀ k, (k < 23 ∨ 29 < k) → g4 k = h k := fun k hk => (p5.2.1 k (by omega)).trans (rfl)
    have k7 : mq 25 g4 := by unfold mq; rw [p5.2.1 25 (by omega)]; exact hm25
    have k8 : z9 g4 := by unfold z9; rw [p5.2.1 25 (by omega)]; exact hmz9
    have o9 : numR (h 24) (h 23 2).toInt.toNat (h 23 6).toInt.toNat r3.toInt (g4 23 8).toInt (g4 23 6).toInt (g4 23 9).toInt (g4 23 4).toInt (g4 23 5).toInt (h 23 4).toInt (h 23 5).toInt ∧ (r3 = 0 ∨ r3 = 1) ∧ ((g4 23 2).toInt = (h 23 2).toInt) ∧ ((g4 23 3).toInt = (h 23 3).toInt) ∧ ((g4 23 10).toInt = (h 23 10).toInt) := p5.2.2
    have e24_g4 : g4 24 = h 24 := (p5.2.1 24 (by omega))
    have e2_g4 : (g4 23 2).toInt = (h 23 2).toInt := (by omega)
    have e25_g4 : g4 25 = h 25 := (p5.2.1 25 (by omega))
    have e26_g4 : g4 26 = h 26 := (p5.2.1 26 (by omega))
    have e27_g4 : g4 27 = h 27 := (p5.2.1 27 (by omega))
    have e28_g4 : g4 28 = h 28 := (p5.2.1 28 (by omega))
    have e29_g4 : g4 29 = h 29 := (p5.2.1 29 (by omega))
    show (¬ r3 = 0 → (qm_PW X 24 [.int (g4 23 9), .int 4] g4 _)) ∧ (r3 = 0 → (((0 : Int32) = 0 ∨ (0 : Int32) = 1) ∧ Q (some (.int 0)) g4))
    refine ⟨fun c10 => ?_, fun c11 => ?_⟩
    · have := ti_neK 0 rfl c10
      refine tx_24 X g4 (g4 23 9) (4 : Int32) trivial _ (fun r12 p13 => ?_)
      have o14 : (r12 = 0 ∨ r12 = 1) ∧ ((r12.toInt = 1 ∧ 0 ≤ (g4 23 9).toInt ∧ (g4 23 9).toInt / 10 < (4 : Int32).toInt ∧ (g4 23 9).toInt % 10 < 5) ∨ (r12.toInt = 0 ∧ ¬ (0 ≤ (g4 23 9).toInt ∧ (g4 23 9).toInt / 10 < (4 : Int32).toInt ∧ (g4 23 9).toInt % 10 < 5))) := p13
      show (¬ r12 = 0 → (qm_PW X 82 [.ref 23] g4 _)) ∧ (r12 = 0 → (qm_PW X 78 [.ref 23, .int 3, .int (g4 23 8)] g4 _))
      refine ⟨fun c15 => ?_, fun c16 => ?_⟩
      · have := ti_neK 0 rfl c15
        refine tx_82 X g4  p5.1 _ (fun r17 g18 p19 => ?_)
        have f20 : ∀ k, (k < 23 ∨ 29 < k) → g18 k = h k := fun k hk => (p19.2.1 k (by omega)).trans (f6 k hk)
        have k21 : mq 25 g18 := by unfold mq; rw [p19.2.1 25 (by omega)]; exact k7
        have k22 : z9 g18 := by unfold z9; rw [p19.2.1 25 (by omega)]; exact k8
        have o23 : numR (g4 24) (g4 23 2).toInt.toNat (g4 23 6).toInt.toNat r17.toInt (g18 23 8).toInt (g18 23 6).toInt (g18 23 9).toInt (g18 23 4).toInt (g18 23 5).toInt (g4 23 4).toInt (g4 23 5).toInt ∧ (r17 = 0 ∨ r17 = 1) ∧ ((g18 23 2).toInt = (g4 23 2).toInt) ∧ ((g18 23 3).toInt = (g4 23 3).toInt) ∧ ((g18 23 10).toInt = (g4 23 10).toInt) := p19.2.2
        have e24_g18 : g18 24 = h 24 := (p19.2.1 24 (by omega)).trans e24_g4
        have e2_g18 : (g18 23 2).toInt = (h 23 2).toInt := (by omega)
        have e25_g18 : g18 25 = h 25 := (p19.2.1 25 (by omega)).trans e25_g4
        have e26_g18 : g18 26 = h 26 := (p19.2.1 26 (by omega)).trans e26_g4
        have e27_g18 : g18 27 = h 27 := (p19.2.1 27 (by omega)).trans e27_g4
        have e28_g18 : g18 28 = h 28 := (p19.2.1 28 (by omega)).trans e28_g4
        have e29_g18 : g18 29 = h 29 := (p19.2.1 29 (by omega)).trans e29_g4
        (try rw [e24_g4] at o23); (try rw [e2_g4] at o23); (try rw [e25_g4] at o23); (try rw [e26_g4] at o23); (try rw [e27_g4] at o23); (try rw [e28_g4] at o23); (try rw [e29_g4] at o23)
        show (¬ r17 = 0 → (qm_PW X 25 [.int (g18 23 9), .int 4] g18 _)) ∧ (r17 = 0 → (((0 : Int32) = 0 ∨ (0 : Int32) = 1) ∧ Q (some (.int 0)) g18))
        refine ⟨fun c24 => ?_, fun c25 => ?_⟩
        · have := ti_neK 0 rfl c24
          refine tx_25 X g18 (g18 23 9) (4 : Int32) trivial _ (fun r26 p27 => ?_)
          have o28 : (r26 = 0 ∨ r26 = 1) ∧ ((r26.toInt = 1 ∧ 0 ≤ (g18 23 9).toInt ∧ (g18 23 9).toInt / 10 < (4 : Int32).toInt ∧ (g18 23 9).toInt % 10 < (4 : Int32).toInt ∧ ¬ (g18 23 9).toInt / 10 = (g18 23 9).toInt % 10) ∨ (r26.toInt = 0 ∧ ¬ (0 ≤ (g18 23 9).toInt ∧ (g18 23 9).toInt / 10 < (4 : Int32).toInt ∧ (g18 23 9).toInt % 10 < (4 : Int32).toInt ∧ ¬ (g18 23 9).toInt / 10 = (g18 23 9).toInt % 10))) := p27
          show (¬ r26 = 0 → (qm_PW X 82 [.ref 23] g18 _)) ∧ (r26 = 0 → (qm_PW X 78 [.ref 23, .int 3, .int (g18 23 8)] g18 _))
          refine ⟨fun c29 => ?_, fun c30 => ?_⟩
          · have := ti_neK 0 rfl c29
            refine tx_82 X g18  p19.1 _ (fun r31 g32 p33 => ?_)
            have f34 : ∀ k, (k < 23 ∨ 29 < k) → g32 k = h k := fun k hk => (p33.2.1 k (by omega)).trans (f20 k hk)
            have k35 : mq 25 g32 := by unfold mq; rw [p33.2.1 25 (by omega)]; exact k21
            have k36 : z9 g32 := by unfold z9; rw [p33.2.1 25 (by omega)]; exact k22
            have o37 : numR (g18 24) (g18 23 2).toInt.toNat (g18 23 6).toInt.toNat r31.toInt (g32 23 8).toInt (g32 23 6).toInt (g32 23 9).toInt (g32 23 4).toInt (g32 23 5).toInt (g18 23 4).toInt (g18 23 5).toInt ∧ (r31 = 0 ∨ r31 = 1) ∧ ((g32 23 2).toInt = (g18 23 2).toInt) ∧ ((g32 23 3).toInt = (g18 23 3).toInt) ∧ ((g32 23 10).toInt = (g18 23 10).toInt) := p33.2.2
            have e24_g32 : g32 24 = h 24 := (p33.2.1 24 (by omega)).trans e24_g18
            have e2_g32 : (g32 23 2).toInt = (h 23 2).toInt := (by omega)
            have e25_g32 : g32 25 = h 25 := (p33.2.1 25 (by omega)).trans e25_g18
            have e26_g32 : g32 26 = h 26 := (p33.2.1 26 (by omega)).trans e26_g18
            have e27_g32 : g32 27 = h 27 := (p33.2.1 27 (by omega)).trans e27_g18
            have e28_g32 : g32 28 = h 28 := (p33.2.1 28 (by omega)).trans e28_g18
            have e29_g32 : g32 29 = h 29 := (p33.2.1 29 (by omega)).trans e29_g18
            (try rw [e24_g18] at o37); (try rw [e2_g18] at o37); (try rw [e25_g18] at o37); (try rw [e26_g18] at o37); (try rw [e27_g18] at o37); (try rw [e28_g18] at o37); (try rw [e29_g18] at o37)
            show (¬ r31 = 0 → (qm_PW X 26 [.int (g32 23 9)] g32 _)) ∧ (r31 = 0 → (((0 : Int32) = 0 ∨ (0 : Int32) = 1) ∧ Q (some (.int 0)) g32))
            refine ⟨fun c38 => ?_, fun c39 => ?_⟩
            · have := ti_neK 0 rfl c38
              refine tx_26 X g32 (g32 23 9) trivial _ (fun r40 p41 => ?_)
              have o42 : (r40 = 0 ∨ r40 = 1) ∧ ((r40.toInt = 1 ∧ 10 ≤ (g32 23 9).toInt ∧ (g32 23 9).toInt ≤ 99) ∨ (r40.toInt = 0 ∧ ¬ (10 ≤ (g32 23 9).toInt ∧ (g32 23 9).toInt ≤ 99))) := p41
              show (r40 = 0 → (qm_PW X 78 [.ref 23, .int 3, .int (g32 23 8)] g32 _)) ∧ (¬ r40 = 0 → (qm_PW X 45 [.ref 25, .int (g4 23 9), .int (g18 23 9), .int (g32 23 9)] g32 _))
              refine ⟨fun c43 => ?_, fun c44 => ?_⟩
              · have := ti_eqK 0 rfl c43
                refine tx_78 X g32 (3 : Int32) (g32 23 8) trivial _ (fun r45 g46 p47 => ?_)
                have f48 : ∀ k, (k < 23 ∨ 29 < k) → g46 k = h k := fun k hk => (p47.1 k (by omega)).trans (f34 k hk)
                have k49 : mq 25 g46 := by unfold mq; rw [p47.1 25 (by omega)]; exact k35
                have k50 : z9 g46 := by unfold z9; rw [p47.1 25 (by omega)]; exact k36
                have o51 : (r45 = 0 ∨ r45 = 1) ∧ r45.toInt = 0 ∧ (g46 23 4).toInt = (3 : Int32).toInt ∧ (g46 23 5).toInt = (g32 23 8).toInt ∧ ((g46 23 2).toInt = (g32 23 2).toInt) ∧ ((g46 23 3).toInt = (g32 23 3).toInt) ∧ ((g46 23 6).toInt = (g32 23 6).toInt) ∧ ((g46 23 7).toInt = (g32 23 7).toInt) ∧ ((g46 23 8).toInt = (g32 23 8).toInt) ∧ ((g46 23 9).toInt = (g32 23 9).toInt) ∧ ((g46 23 10).toInt = (g32 23 10).toInt) := p47.2
                have e24_g46 : g46 24 = h 24 := (p47.1 24 (by omega)).trans e24_g32
                have e2_g46 : (g46 23 2).toInt = (h 23 2).toInt := (by omega)
                have e25_g46 : g46 25 = h 25 := (p47.1 25 (by omega)).trans e25_g32
                have e26_g46 : g46 26 = h 26 := (p47.1 26 (by omega)).trans e26_g32
                have e27_g46 : g46 27 = h 27 := (p47.1 27 (by omega)).trans e27_g32
                have e28_g46 : g46 28 = h 28 := (p47.1 28 (by omega)).trans e28_g32
                have e29_g46 : g46 29 = h 29 := (p47.1 29 (by omega)).trans e29_g32
                (try rw [e24_g32] at o51); (try rw [e2_g32] at o51); (try rw [e25_g32] at o51); (try rw [e26_g32] at o51); (try rw [e27_g32] at o51); (try rw [e28_g32] at o51); (try rw [e29_g32] at o51)
                show (r45 = 0 ∨ r45 = 1) ∧ Q (some (.int r45)) g46
                exact ⟨p47.2.1, hq r45 g46 ⟨(by have ⟨⟨_, _⟩, _, _⟩ := hmtc; have ⟨⟨_, _⟩, ⟨_, _⟩, _, _⟩ := hm25; have ⟨_, _⟩ := hmz9; have ⟨⟨_, _⟩, _, _⟩ := p5.1; have ⟨⟨_, _⟩, ⟨_, _⟩, _, _⟩ := k7; have ⟨_, _⟩ := k8; have ⟨⟨_, _⟩, _, _⟩ := p19.1; have ⟨⟨_, _⟩, ⟨_, _⟩, _, _⟩ := k21; have ⟨_, _⟩ := k22; have ⟨⟨_, _⟩, _, _⟩ := p33.1; have ⟨⟨_, _⟩, ⟨_, _⟩, _, _⟩ := k35; have ⟨_, _⟩ := k36; have ⟨⟨_, _⟩, ⟨_, _⟩, _, _⟩ := k49; have ⟨_, _⟩ := k50; show (0 ≤ (g46 23 2).toInt ∧ (g46 23 2).toInt ≤ 160) ∧ (0 ≤ (g46 23 6).toInt ∧ (g46 23 6).toInt ≤ (g46 23 2).toInt); have : (4 : Int32).toInt = 4 := rfl; have : (3 : Int32).toInt = 3 := rfl; omega), k49, k50, (fun k hk => f48 k hk), (by have : (4 : Int32).toInt = 4 := rfl; have : (3 : Int32).toInt = 3 := rfl; show (r45 = 0 ∨ r45 = 1) ∧ (g46 24) = (h 24) ∧ (((g46 23 2).toInt = (h 23 2).toInt) ∧ ((g46 23 3).toInt = (h 23 3).toInt) ∧ ((g46 23 10).toInt = (h 23 10).toInt)) ∧ (r45.toInt = 0 ∨ (h 23 6).toInt ≤ (g46 23 6).toInt) ∧ ∃ x y z : Int32, tieQ (h 24) (h 23 2).toInt.toNat (h 23 8).toInt.toNat (h 23 6).toInt.toNat (h 25 7).toInt r45.toInt (g46 23 4).toInt (g46 23 5).toInt (g46 23 6).toInt x.toInt y.toInt z.toInt (h 23 4).toInt (h 23 5).toInt ∧ (r45.toInt = 0 ∨ (((g46 25 7).toInt = (h 25 7).toInt + 1 ∧ (g46 25 6).toInt = (h 25 6).toInt ∧ (g46 25 8).toInt = (h 25 8).toInt) ∧ (g46 26) = (h 26) ∧ (g46 27) = upd (h 27) (h 25 7).toInt.toNat x ∧ (g46 28) = upd (h 28) (h 25 7).toInt.toNat y ∧ (g46 29) = upd (h 29) (h 25 7).toInt.toNat z)); have hv0 := (numR_ok o9.1 (by omega)).1; have hv1 := (numR_ok o23.1 (by omega)).1; have hv2 := (numR_ok o37.1 (by omega)).1; exact ⟨p47.2.1, e24_g46, by omega, Or.inl (by omega), (g4 23 9), (g18 23 9), (g32 23 9), tieQ_b3 (by omega) o9.1 (by omega) (by omega) rfl o23.1 (by omega) (by omega) rfl o37.1 (by omega) (by have := numR_ok o37.1 (by omega); omega) (by omega) (by omega) (by omega), Or.inl (by omega)⟩)⟩⟩
              · have := ti_neK 0 rfl c44
                refine tx_45 X g32 (g4 23 9) (g18 23 9) (g32 23 9) ⟨k35, k36⟩ _ (fun r52 g53 p54 => ?_)
                have f55 : ∀ k, (k < 23 ∨ 29 < k) → g53 k = h k := fun k hk => (p54.2.2.1 k (by omega)).trans (f34 k hk)
                have k56 : tc g53 := by unfold tc; rw [p54.2.2.1 23 (by omega)]; exact p33.1
                have o57 : (r52 = 0 ∨ r52 = 1) ∧ ((r52.toInt = 0 ∧ 10 ≤ (g32 25 7).toInt) ∨ (r52.toInt = 1 ∧ (g32 25 7).toInt < 10 ∧ (g53 25 7).toInt = (g32 25 7).toInt + 1 ∧ (g53 25 6).toInt = (g32 25 6).toInt ∧ (g53 25 8).toInt = (g32 25 8).toInt)) ∧ (r52.toInt = 0 ∨ ((g53 26) = (g32 26) ∧ (g53 27) = upd (g32 27) (g32 25 7).toInt.toNat (g4 23 9) ∧ (g53 28) = upd (g32 28) (g32 25 7).toInt.toNat (g18 23 9) ∧ (g53 29) = upd (g32 29) (g32 25 7).toInt.toNat (g32 23 9))) := p54.2.2.2
                have e24_g53 : g53 24 = h 24 := (p54.2.2.1 24 (by omega)).trans e24_g32
                have d23_g53 : g53 23 = (g32 23) := p54.2.2.1 23 (by omega)
                have e2_g53 : (g53 23 2).toInt = (h 23 2).toInt := by rw [d23_g53]; exact e2_g32
                (try rw [e24_g32] at o57); (try rw [e2_g32] at o57); (try rw [e25_g32] at o57); (try rw [e26_g32] at o57); (try rw [e27_g32] at o57); (try rw [e28_g32] at o57); (try rw [e29_g32] at o57)
                show (r52 = 0 ∨ r52 = 1) ∧ Q (some (.int r52)) g53
                exact ⟨p54.2.2.2.1, hq r52 g53 ⟨k56, p54.1, p54.2.1, (fun k hk => f55 k hk), (by have : (4 : Int32).toInt = 4 := rfl; show (r52 = 0 ∨ r52 = 1) ∧ (g53 24) = (h 24) ∧ (((g53 23 2).toInt = (h 23 2).toInt) ∧ ((g53 23 3).toInt = (h 23 3).toInt) ∧ ((g53 23 10).toInt = (h 23 10).toInt)) ∧ (r52.toInt = 0 ∨ (h 23 6).toInt ≤ (g53 23 6).toInt) ∧ ∃ x y z : Int32, tieQ (h 24) (h 23 2).toInt.toNat (h 23 8).toInt.toNat (h 23 6).toInt.toNat (h 25 7).toInt r52.toInt (g53 23 4).toInt (g53 23 5).toInt (g53 23 6).toInt x.toInt y.toInt z.toInt (h 23 4).toInt (h 23 5).toInt ∧ (r52.toInt = 0 ∨ (((g53 25 7).toInt = (h 25 7).toInt + 1 ∧ (g53 25 6).toInt = (h 25 6).toInt ∧ (g53 25 8).toInt = (h 25 8).toInt) ∧ (g53 26) = (h 26) ∧ (g53 27) = upd (h 27) (h 25 7).toInt.toNat x ∧ (g53 28) = upd (h 28) (h 25 7).toInt.toNat y ∧ (g53 29) = upd (h 29) (h 25 7).toInt.toNat z)); have hv0 := (numR_ok o9.1 (by omega)).1; have hv1 := (numR_ok o23.1 (by omega)).1; have hv2 := (numR_ok o37.1 (by omega)).1; exact ⟨p54.2.2.2.1, e24_g53, by rw [d23_g53]; omega, Or.inr (by have := numR_ge o9.1 (by omega); have := numR_ge o23.1 (by omega); have := numR_ge o37.1 (by omega); rw [d23_g53]; omega), (g4 23 9), (g18 23 9), (g32 23 9), tieQ_ok (by omega) o9.1 (by omega) (by omega) rfl o23.1 (by omega) (by omega) rfl o37.1 (by omega) (by omega) (by omega) (by rw [d23_g53]) (by rw [d23_g53]) (by rw [d23_g53]) rfl rfl rfl, Or.inr ⟨by omega, (o57.2.2.resolve_left (by omega)).1, (o57.2.2.resolve_left (by omega)).2.1, (o57.2.2.resolve_left (by omega)).2.2.1, (o57.2.2.resolve_left (by omega)).2.2.2⟩⟩)⟩⟩
            · have := ti_eqK 0 rfl c39
              exact ⟨Or.inl rfl, hq 0 g32 ⟨p33.1, k35, k36, (fun k hk => f34 k hk), (by have : (4 : Int32).toInt = 4 := rfl; have : (0 : Int32).toInt = 0 := rfl; show ((0 : Int32) = 0 ∨ (0 : Int32) = 1) ∧ (g32 24) = (h 24) ∧ (((g32 23 2).toInt = (h 23 2).toInt) ∧ ((g32 23 3).toInt = (h 23 3).toInt) ∧ ((g32 23 10).toInt = (h 23 10).toInt)) ∧ ((0 : Int32).toInt = 0 ∨ (h 23 6).toInt ≤ (g32 23 6).toInt) ∧ ∃ x y z : Int32, tieQ (h 24) (h 23 2).toInt.toNat (h 23 8).toInt.toNat (h 23 6).toInt.toNat (h 25 7).toInt (0 : Int32).toInt (g32 23 4).toInt (g32 23 5).toInt (g32 23 6).toInt x.toInt y.toInt z.toInt (h 23 4).toInt (h 23 5).toInt ∧ ((0 : Int32).toInt = 0 ∨ (((g32 25 7).toInt = (h 25 7).toInt + 1 ∧ (g32 25 6).toInt = (h 25 6).toInt ∧ (g32 25 8).toInt = (h 25 8).toInt) ∧ (g32 26) = (h 26) ∧ (g32 27) = upd (h 27) (h 25 7).toInt.toNat x ∧ (g32 28) = upd (h 28) (h 25 7).toInt.toNat y ∧ (g32 29) = upd (h 29) (h 25 7).toInt.toNat z)); have hv0 := (numR_ok o9.1 (by omega)).1; have hv1 := (numR_ok o23.1 (by omega)).1; exact ⟨Or.inl rfl, e24_g32, by omega, Or.inl (by omega), (g4 23 9), (g18 23 9), (g32 23 9), tieQ_n3 (by omega) o9.1 (by omega) (by omega) rfl o23.1 (by omega) (by omega) rfl o37.1 (by omega) rfl, Or.inl (by omega)⟩)⟩⟩
          · have := ti_eqK 0 rfl c30
            refine tx_78 X g18 (3 : Int32) (g18 23 8) trivial _ (fun r58 g59 p60 => ?_)
            have f61 : ∀ k, (k < 23 ∨ 29 < k) → g59 k = h k := fun k hk => (p60.1 k (by omega)).trans (f20 k hk)
            have k62 : mq 25 g59 := by unfold mq; rw [p60.1 25 (by omega)]; exact k21
            have k63 : z9 g59 := by unfold z9; rw [p60.1 25 (by omega)]; exact k22
            have o64 : (r58 = 0 ∨ r58 = 1) ∧ r58.toInt = 0 ∧ (g59 23 4).toInt = (3 : Int32).toInt ∧ (g59 23 5).toInt = (g18 23 8).toInt ∧ ((g59 23 2).toInt = (g18 23 2).toInt) ∧ ((g59 23 3).toInt = (g18 23 3).toInt) ∧ ((g59 23 6).toInt = (g18 23 6).toInt) ∧ ((g59 23 7).toInt = (g18 23 7).toInt) ∧ ((g59 23 8).toInt = (g18 23 8).toInt) ∧ ((g59 23 9).toInt = (g18 23 9).toInt) ∧ ((g59 23 10).toInt = (g18 23 10).toInt) := p60.2
            have e24_g59 : g59 24 = h 24 := (p60.1 24 (by omega)).trans e24_g18
            have e2_g59 : (g59 23 2).toInt = (h 23 2).toInt := (by omega)
            have e25_g59 : g59 25 = h 25 := (p60.1 25 (by omega)).trans e25_g18
            have e26_g59 : g59 26 = h 26 := (p60.1 26 (by omega)).trans e26_g18
            have e27_g59 : g59 27 = h 27 := (p60.1 27 (by omega)).trans e27_g18
            have e28_g59 : g59 28 = h 28 := (p60.1 28 (by omega)).trans e28_g18
            have e29_g59 : g59 29 = h 29 := (p60.1 29 (by omega)).trans e29_g18
            (try rw [e24_g18] at o64); (try rw [e2_g18] at o64); (try rw [e25_g18] at o64); (try rw [e26_g18] at o64); (try rw [e27_g18] at o64); (try rw [e28_g18] at o64); (try rw [e29_g18] at o64)
            show (r58 = 0 ∨ r58 = 1) ∧ Q (some (.int r58)) g59
            exact ⟨p60.2.1, hq r58 g59 ⟨(by have ⟨⟨_, _⟩, _, _⟩ := hmtc; have ⟨⟨_, _⟩, ⟨_, _⟩, _, _⟩ := hm25; have ⟨_, _⟩ := hmz9; have ⟨⟨_, _⟩, _, _⟩ := p5.1; have ⟨⟨_, _⟩, ⟨_, _⟩, _, _⟩ := k7; have ⟨_, _⟩ := k8; have ⟨⟨_, _⟩, _, _⟩ := p19.1; have ⟨⟨_, _⟩, ⟨_, _⟩, _, _⟩ := k21; have ⟨_, _⟩ := k22; have ⟨⟨_, _⟩, ⟨_, _⟩, _, _⟩ := k62; have ⟨_, _⟩ := k63; show (0 ≤ (g59 23 2).toInt ∧ (g59 23 2).toInt ≤ 160) ∧ (0 ≤ (g59 23 6).toInt ∧ (g59 23 6).toInt ≤ (g59 23 2).toInt); have : (4 : Int32).toInt = 4 := rfl; have : (3 : Int32).toInt = 3 := rfl; omega), k62, k63, (fun k hk => f61 k hk), (by have : (4 : Int32).toInt = 4 := rfl; have : (3 : Int32).toInt = 3 := rfl; show (r58 = 0 ∨ r58 = 1) ∧ (g59 24) = (h 24) ∧ (((g59 23 2).toInt = (h 23 2).toInt) ∧ ((g59 23 3).toInt = (h 23 3).toInt) ∧ ((g59 23 10).toInt = (h 23 10).toInt)) ∧ (r58.toInt = 0 ∨ (h 23 6).toInt ≤ (g59 23 6).toInt) ∧ ∃ x y z : Int32, tieQ (h 24) (h 23 2).toInt.toNat (h 23 8).toInt.toNat (h 23 6).toInt.toNat (h 25 7).toInt r58.toInt (g59 23 4).toInt (g59 23 5).toInt (g59 23 6).toInt x.toInt y.toInt z.toInt (h 23 4).toInt (h 23 5).toInt ∧ (r58.toInt = 0 ∨ (((g59 25 7).toInt = (h 25 7).toInt + 1 ∧ (g59 25 6).toInt = (h 25 6).toInt ∧ (g59 25 8).toInt = (h 25 8).toInt) ∧ (g59 26) = (h 26) ∧ (g59 27) = upd (h 27) (h 25 7).toInt.toNat x ∧ (g59 28) = upd (h 28) (h 25 7).toInt.toNat y ∧ (g59 29) = upd (h 29) (h 25 7).toInt.toNat z)); have hv0 := (numR_ok o9.1 (by omega)).1; have hv1 := (numR_ok o23.1 (by omega)).1; exact ⟨p60.2.1, e24_g59, by omega, Or.inl (by omega), (g4 23 9), (g18 23 9), 0, tieQ_b2 (by omega) o9.1 (by omega) (by omega) rfl o23.1 (by omega) (by omega) (by omega) (by omega) (by omega), Or.inl (by omega)⟩)⟩⟩
        · have := ti_eqK 0 rfl c25
          exact ⟨Or.inl rfl, hq 0 g18 ⟨p19.1, k21, k22, (fun k hk => f20 k hk), (by have : (4 : Int32).toInt = 4 := rfl; have : (0 : Int32).toInt = 0 := rfl; show ((0 : Int32) = 0 ∨ (0 : Int32) = 1) ∧ (g18 24) = (h 24) ∧ (((g18 23 2).toInt = (h 23 2).toInt) ∧ ((g18 23 3).toInt = (h 23 3).toInt) ∧ ((g18 23 10).toInt = (h 23 10).toInt)) ∧ ((0 : Int32).toInt = 0 ∨ (h 23 6).toInt ≤ (g18 23 6).toInt) ∧ ∃ x y z : Int32, tieQ (h 24) (h 23 2).toInt.toNat (h 23 8).toInt.toNat (h 23 6).toInt.toNat (h 25 7).toInt (0 : Int32).toInt (g18 23 4).toInt (g18 23 5).toInt (g18 23 6).toInt x.toInt y.toInt z.toInt (h 23 4).toInt (h 23 5).toInt ∧ ((0 : Int32).toInt = 0 ∨ (((g18 25 7).toInt = (h 25 7).toInt + 1 ∧ (g18 25 6).toInt = (h 25 6).toInt ∧ (g18 25 8).toInt = (h 25 8).toInt) ∧ (g18 26) = (h 26) ∧ (g18 27) = upd (h 27) (h 25 7).toInt.toNat x ∧ (g18 28) = upd (h 28) (h 25 7).toInt.toNat y ∧ (g18 29) = upd (h 29) (h 25 7).toInt.toNat z)); have hv0 := (numR_ok o9.1 (by omega)).1; exact ⟨Or.inl rfl, e24_g18, by omega, Or.inl (by omega), (g4 23 9), (g18 23 9), 0, tieQ_n2 (by omega) o9.1 (by omega) (by omega) rfl o23.1 (by omega) rfl, Or.inl (by omega)⟩)⟩⟩
      · have := ti_eqK 0 rfl c16
        refine tx_78 X g4 (3 : Int32) (g4 23 8) trivial _ (fun r65 g66 p67 => ?_)
        have f68 : ∀ k, (k < 23 ∨ 29 < k) → g66 k = h k := fun k hk => (p67.1 k (by omega)).trans (f6 k hk)
        have k69 : mq 25 g66 := by unfold mq; rw [p67.1 25 (by omega)]; exact k7
        have k70 : z9 g66 := by unfold z9; rw [p67.1 25 (by omega)]; exact k8
        have o71 : (r65 = 0 ∨ r65 = 1) ∧ r65.toInt = 0 ∧ (g66 23 4).toInt = (3 : Int32).toInt ∧ (g66 23 5).toInt = (g4 23 8).toInt ∧ ((g66 23 2).toInt = (g4 23 2).toInt) ∧ ((g66 23 3).toInt = (g4 23 3).toInt) ∧ ((g66 23 6).toInt = (g4 23 6).toInt) ∧ ((g66 23 7).toInt = (g4 23 7).toInt) ∧ ((g66 23 8).toInt = (g4 23 8).toInt) ∧ ((g66 23 9).toInt = (g4 23 9).toInt) ∧ ((g66 23 10).toInt = (g4 23 10).toInt) := p67.2
        have e24_g66 : g66 24 = h 24 := (p67.1 24 (by omega)).trans e24_g4
        have e2_g66 : (g66 23 2).toInt = (h 23 2).toInt := (by omega)
        have e25_g66 : g66 25 = h 25 := (p67.1 25 (by omega)).trans e25_g4
        have e26_g66 : g66 26 = h 26 := (p67.1 26 (by omega)).trans e26_g4
        have e27_g66 : g66 27 = h 27 := (p67.1 27 (by omega)).trans e27_g4
        have e28_g66 : g66 28 = h 28 := (p67.1 28 (by omega)).trans e28_g4
        have e29_g66 : g66 29 = h 29 := (p67.1 29 (by omega)).trans e29_g4
        (try rw [e24_g4] at o71); (try rw [e2_g4] at o71); (try rw [e25_g4] at o71); (try rw [e26_g4] at o71); (try rw [e27_g4] at o71); (try rw [e28_g4] at o71); (try rw [e29_g4] at o71)
        show (r65 = 0 ∨ r65 = 1) ∧ Q (some (.int r65)) g66
        exact ⟨p67.2.1, hq r65 g66 ⟨(by have ⟨⟨_, _⟩, _, _⟩ := hmtc; have ⟨⟨_, _⟩, ⟨_, _⟩, _, _⟩ := hm25; have ⟨_, _⟩ := hmz9; have ⟨⟨_, _⟩, _, _⟩ := p5.1; have ⟨⟨_, _⟩, ⟨_, _⟩, _, _⟩ := k7; have ⟨_, _⟩ := k8; have ⟨⟨_, _⟩, ⟨_, _⟩, _, _⟩ := k69; have ⟨_, _⟩ := k70; show (0 ≤ (g66 23 2).toInt ∧ (g66 23 2).toInt ≤ 160) ∧ (0 ≤ (g66 23 6).toInt ∧ (g66 23 6).toInt ≤ (g66 23 2).toInt); have : (4 : Int32).toInt = 4 := rfl; have : (3 : Int32).toInt = 3 := rfl; omega), k69, k70, (fun k hk => f68 k hk), (by have : (4 : Int32).toInt = 4 := rfl; have : (3 : Int32).toInt = 3 := rfl; show (r65 = 0 ∨ r65 = 1) ∧ (g66 24) = (h 24) ∧ (((g66 23 2).toInt = (h 23 2).toInt) ∧ ((g66 23 3).toInt = (h 23 3).toInt) ∧ ((g66 23 10).toInt = (h 23 10).toInt)) ∧ (r65.toInt = 0 ∨ (h 23 6).toInt ≤ (g66 23 6).toInt) ∧ ∃ x y z : Int32, tieQ (h 24) (h 23 2).toInt.toNat (h 23 8).toInt.toNat (h 23 6).toInt.toNat (h 25 7).toInt r65.toInt (g66 23 4).toInt (g66 23 5).toInt (g66 23 6).toInt x.toInt y.toInt z.toInt (h 23 4).toInt (h 23 5).toInt ∧ (r65.toInt = 0 ∨ (((g66 25 7).toInt = (h 25 7).toInt + 1 ∧ (g66 25 6).toInt = (h 25 6).toInt ∧ (g66 25 8).toInt = (h 25 8).toInt) ∧ (g66 26) = (h 26) ∧ (g66 27) = upd (h 27) (h 25 7).toInt.toNat x ∧ (g66 28) = upd (h 28) (h 25 7).toInt.toNat y ∧ (g66 29) = upd (h 29) (h 25 7).toInt.toNat z)); have hv0 := (numR_ok o9.1 (by omega)).1; exact ⟨p67.2.1, e24_g66, by omega, Or.inl (by omega), (g4 23 9), 0, 0, tieQ_b1 (by omega) o9.1 (by omega) (by omega) (by omega) (by omega) (by omega), Or.inl (by omega)⟩)⟩⟩
    · have := ti_eqK 0 rfl c11
      exact ⟨Or.inl rfl, hq 0 g4 ⟨p5.1, k7, k8, (fun k hk => f6 k hk), (by have : (0 : Int32).toInt = 0 := rfl; show ((0 : Int32) = 0 ∨ (0 : Int32) = 1) ∧ (g4 24) = (h 24) ∧ (((g4 23 2).toInt = (h 23 2).toInt) ∧ ((g4 23 3).toInt = (h 23 3).toInt) ∧ ((g4 23 10).toInt = (h 23 10).toInt)) ∧ ((0 : Int32).toInt = 0 ∨ (h 23 6).toInt ≤ (g4 23 6).toInt) ∧ ∃ x y z : Int32, tieQ (h 24) (h 23 2).toInt.toNat (h 23 8).toInt.toNat (h 23 6).toInt.toNat (h 25 7).toInt (0 : Int32).toInt (g4 23 4).toInt (g4 23 5).toInt (g4 23 6).toInt x.toInt y.toInt z.toInt (h 23 4).toInt (h 23 5).toInt ∧ ((0 : Int32).toInt = 0 ∨ (((g4 25 7).toInt = (h 25 7).toInt + 1 ∧ (g4 25 6).toInt = (h 25 6).toInt ∧ (g4 25 8).toInt = (h 25 8).toInt) ∧ (g4 26) = (h 26) ∧ (g4 27) = upd (h 27) (h 25 7).toInt.toNat x ∧ (g4 28) = upd (h 28) (h 25 7).toInt.toNat y ∧ (g4 29) = upd (h 29) (h 25 7).toInt.toNat z)); exact ⟨Or.inl rfl, e24_g4, by omega, Or.inl (by omega), (g4 23 9), 0, 0, tieQ_n1 (by omega) o9.1 (by omega) rfl, Or.inl (by omega)⟩)⟩⟩
  · refine tx_78 X h (5 : Int32) (h 23 8) trivial _ (fun r72 g73 p74 => ?_)
    have f75 : ∀ k, (k < 23 ∨ 29 < k) → g73 k = h k := fun k hk => (p74.1 k (by omega)).trans (rfl)
    have k76 : mq 25 g73 := by unfold mq; rw [p74.1 25 (by omega)]; exact hm25
    have k77 : z9 g73 := by unfold z9; rw [p74.1 25 (by omega)]; exact hmz9
    have o78 : (r72 = 0 ∨ r72 = 1) ∧ r72.toInt = 0 ∧ (g73 23 4).toInt = (5 : Int32).toInt ∧ (g73 23 5).toInt = (h 23 8).toInt ∧ ((g73 23 2).toInt = (h 23 2).toInt) ∧ ((g73 23 3).toInt = (h 23 3).toInt) ∧ ((g73 23 6).toInt = (h 23 6).toInt) ∧ ((g73 23 7).toInt = (h 23 7).toInt) ∧ ((g73 23 8).toInt = (h 23 8).toInt) ∧ ((g73 23 9).toInt = (h 23 9).toInt) ∧ ((g73 23 10).toInt = (h 23 10).toInt) := p74.2
    have e24_g73 : g73 24 = h 24 := (p74.1 24 (by omega))
    have e2_g73 : (g73 23 2).toInt = (h 23 2).toInt := (by omega)
    have e25_g73 : g73 25 = h 25 := (p74.1 25 (by omega))
    have e26_g73 : g73 26 = h 26 := (p74.1 26 (by omega))
    have e27_g73 : g73 27 = h 27 := (p74.1 27 (by omega))
    have e28_g73 : g73 28 = h 28 := (p74.1 28 (by omega))
    have e29_g73 : g73 29 = h 29 := (p74.1 29 (by omega))
    show (r72 = 0 ∨ r72 = 1) ∧ Q (some (.int r72)) g73
    exact ⟨p74.2.1, hq r72 g73 ⟨(by have ⟨⟨_, _⟩, _, _⟩ := hmtc; have ⟨⟨_, _⟩, ⟨_, _⟩, _, _⟩ := hm25; have ⟨_, _⟩ := hmz9; have ⟨⟨_, _⟩, ⟨_, _⟩, _, _⟩ := k76; have ⟨_, _⟩ := k77; show (0 ≤ (g73 23 2).toInt ∧ (g73 23 2).toInt ≤ 160) ∧ (0 ≤ (g73 23 6).toInt ∧ (g73 23 6).toInt ≤ (g73 23 2).toInt); have : (5 : Int32).toInt = 5 := rfl; omega), k76, k77, (fun k hk => f75 k hk), (by have : (5 : Int32).toInt = 5 := rfl; show (r72 = 0 ∨ r72 = 1) ∧ (g73 24) = (h 24) ∧ (((g73 23 2).toInt = (h 23 2).toInt) ∧ ((g73 23 3).toInt = (h 23 3).toInt) ∧ ((g73 23 10).toInt = (h 23 10).toInt)) ∧ (r72.toInt = 0 ∨ (h 23 6).toInt ≤ (g73 23 6).toInt) ∧ ∃ x y z : Int32, tieQ (h 24) (h 23 2).toInt.toNat (h 23 8).toInt.toNat (h 23 6).toInt.toNat (h 25 7).toInt r72.toInt (g73 23 4).toInt (g73 23 5).toInt (g73 23 6).toInt x.toInt y.toInt z.toInt (h 23 4).toInt (h 23 5).toInt ∧ (r72.toInt = 0 ∨ (((g73 25 7).toInt = (h 25 7).toInt + 1 ∧ (g73 25 6).toInt = (h 25 6).toInt ∧ (g73 25 8).toInt = (h 25 8).toInt) ∧ (g73 26) = (h 26) ∧ (g73 27) = upd (h 27) (h 25 7).toInt.toNat x ∧ (g73 28) = upd (h 28) (h 25 7).toInt.toNat y ∧ (g73 29) = upd (h 29) (h 25 7).toInt.toNat z)); exact ⟨p74.2.1, e24_g73, by omega, Or.inl (by omega), 0, 0, 0, tieQ_full (by omega) (by omega) (by omega) (by omega), Or.inl (by omega)⟩)⟩⟩
-- ThreadBank$TextReader.wordRead()I
set_option maxRecDepth 100000 in
set_option maxHeartbeats 4000000 in
theorem tx_88 (X : qm_X) (h : qm_H) (hp : tc h ∧ (0 ≤ (h 23 8).toInt ∧ (h 23 8).toInt ≤ (h 23 6).toInt)) (Q : qm_Q) (hq : ∀ r : Int32, (r.toInt = wd (h 24) (h 23 8).toInt.toNat (h 23 6).toInt.toNat ∧ (-4 ≤ r.toInt ∧ r.toInt ≤ 5)) → Q (some (.int r)) h) : qm_PW X 88 [.ref 23] h Q := by
  have hmtc : tc h := hp.1
  have ⟨⟨_, _⟩, _, _⟩ := hmtc
  have hp0 : 0 ≤ (h 23 8).toInt ∧ (h 23 8).toInt ≤ (h 23 6).toInt := hp.2
  refine qm_seg_ok (C := qc_88) (rt := some .int) rfl rfl (cuts := []) 400 _ _ _ _ ?_
  show qm_PW X 89 [.ref 23, .ref 110] h _
  refine tx_89_0 X h  ⟨hmtc, (by omega)⟩ _ (fun r1 p2 => ?_)
  show (r1 = 0 → (qm_PW X 89 [.ref 23, .ref 111] h _)) ∧ (¬ r1 = 0 → (Q (some (.int 0)) h))
  refine ⟨fun c3 => ?_, fun c4 => ?_⟩
  · have := p2.2.2 c3
    refine tx_89_1 X h  ⟨hmtc, (by omega)⟩ _ (fun r5 p6 => ?_)
    show (r5 = 0 → (qm_PW X 89 [.ref 23, .ref 112] h _)) ∧ (¬ r5 = 0 → (Q (some (.int 1)) h))
    refine ⟨fun c7 => ?_, fun c8 => ?_⟩
    · have := p6.2.2 c7
      refine tx_89_2 X h  ⟨hmtc, (by omega)⟩ _ (fun r9 p10 => ?_)
      show (r9 = 0 → (qm_PW X 89 [.ref 23, .ref 113] h _)) ∧ (¬ r9 = 0 → (Q (some (.int 2)) h))
      refine ⟨fun c11 => ?_, fun c12 => ?_⟩
      · have := p10.2.2 c11
        refine tx_89_3 X h  ⟨hmtc, (by omega)⟩ _ (fun r13 p14 => ?_)
        show (r13 = 0 → (qm_PW X 89 [.ref 23, .ref 114] h _)) ∧ (¬ r13 = 0 → (Q (some (.int 3)) h))
        refine ⟨fun c15 => ?_, fun c16 => ?_⟩
        · have := p14.2.2 c15
          refine tx_89_4 X h  ⟨hmtc, (by omega)⟩ _ (fun r17 p18 => ?_)
          show (r17 = 0 → (qm_PW X 89 [.ref 23, .ref 115] h _)) ∧ (¬ r17 = 0 → (Q (some (.int 4)) h))
          refine ⟨fun c19 => ?_, fun c20 => ?_⟩
          · have := p18.2.2 c19
            refine tx_89_5 X h  ⟨hmtc, (by omega)⟩ _ (fun r21 p22 => ?_)
            show (r21 = 0 → (Q (some (.int (-4 : Int32))) h)) ∧ (¬ r21 = 0 → (Q (some (.int 5)) h))
            refine ⟨fun c23 => ?_, fun c24 => ?_⟩
            · have := p22.2.2 c23
              exact hq (-4 : Int32) (by show (-4 : Int32).toInt = wd (h 24) (h 23 8).toInt.toNat (h 23 6).toInt.toNat ∧ (-4 ≤ (-4 : Int32).toInt ∧ (-4 : Int32).toInt ≤ 5); rw [ti_n4]; exact ⟨(wd_6 (by assumption) (by assumption) (by assumption) (by assumption) (by assumption) (by assumption)).symm, by omega⟩)
            · have := p22.2.1 c24
              exact hq 5 (by have : (5 : Int32).toInt = 5 := rfl; show (5 : Int32).toInt = wd (h 24) (h 23 8).toInt.toNat (h 23 6).toInt.toNat ∧ (-4 ≤ (5 : Int32).toInt ∧ (5 : Int32).toInt ≤ 5); exact ⟨(wd_5 (by assumption) (by assumption) (by assumption) (by assumption) (by assumption) (by assumption)).symm, by omega⟩)
          · have := p18.2.1 c20
            exact hq 4 (by have : (4 : Int32).toInt = 4 := rfl; show (4 : Int32).toInt = wd (h 24) (h 23 8).toInt.toNat (h 23 6).toInt.toNat ∧ (-4 ≤ (4 : Int32).toInt ∧ (4 : Int32).toInt ≤ 5); exact ⟨(wd_4 (by assumption) (by assumption) (by assumption) (by assumption) (by assumption)).symm, by omega⟩)
        · have := p14.2.1 c16
          exact hq 3 (by have : (3 : Int32).toInt = 3 := rfl; show (3 : Int32).toInt = wd (h 24) (h 23 8).toInt.toNat (h 23 6).toInt.toNat ∧ (-4 ≤ (3 : Int32).toInt ∧ (3 : Int32).toInt ≤ 5); exact ⟨(wd_3 (by assumption) (by assumption) (by assumption) (by assumption)).symm, by omega⟩)
      · have := p10.2.1 c12
        exact hq 2 (by have : (2 : Int32).toInt = 2 := rfl; show (2 : Int32).toInt = wd (h 24) (h 23 8).toInt.toNat (h 23 6).toInt.toNat ∧ (-4 ≤ (2 : Int32).toInt ∧ (2 : Int32).toInt ≤ 5); exact ⟨(wd_2 (by assumption) (by assumption) (by assumption)).symm, by omega⟩)
    · have := p6.2.1 c8
      exact hq 1 (by have : (1 : Int32).toInt = 1 := rfl; show (1 : Int32).toInt = wd (h 24) (h 23 8).toInt.toNat (h 23 6).toInt.toNat ∧ (-4 ≤ (1 : Int32).toInt ∧ (1 : Int32).toInt ≤ 5); exact ⟨(wd_1 (by assumption) (by assumption)).symm, by omega⟩)
  · have := p2.2.1 c4
    exact hq 0 (by have : (0 : Int32).toInt = 0 := rfl; show (0 : Int32).toInt = wd (h 24) (h 23 8).toInt.toNat (h 23 6).toInt.toNat ∧ (-4 ≤ (0 : Int32).toInt ∧ (0 : Int32).toInt ≤ 5); exact ⟨(wd_0 (by assumption)).symm, by omega⟩)
-- ThreadBank$TextReader.readLine()Z
set_option maxRecDepth 100000 in
set_option maxHeartbeats 4000000 in
theorem tx_79 (X : qm_X) (h : qm_H) (hp : tc h ∧ mq 25 h ∧ z9 h ∧ (0 ≤ (h 23 8).toInt ∧ (h 23 8).toInt ≤ (h 23 6).toInt)) (Q : qm_Q) (hq : ∀ r : Int32, ∀ h' : qm_H, (tc h' ∧ mq 25 h' ∧ z9 h' ∧ (∀ k, (k < 23 ∨ 29 < k) → h' k = h k) ∧ ((r = 0 ∨ r = 1) ∧ (h' 24) = (h 24) ∧ (((h' 23 2).toInt = (h 23 2).toInt) ∧ ((h' 23 3).toInt = (h 23 3).toInt)) ∧ lineQ (h 24) (h 23 2).toInt.toNat (h 23 8).toInt.toNat (h 23 6).toInt.toNat (h 23 7).toInt (h 25 6).toInt (h 25 7).toInt (h 23 10).toInt r.toInt (h' 23 4).toInt (h' 23 5).toInt (h' 23 6).toInt (h 23 4).toInt (h 23 5).toInt h h')) → Q (some (.int r)) h') : qm_PW X 79 [.ref 23] h Q := by
  have hmtc : tc h := hp.1
  have ⟨⟨_, _⟩, _, _⟩ := hmtc
  have hm25 : mq 25 h := hp.2.1
  have ⟨⟨_, _⟩, ⟨_, _⟩, _, _⟩ := hm25
  have hmz9 : z9 h := hp.2.2.1
  have ⟨_, _⟩ := hmz9
  have hp0 : 0 ≤ (h 23 8).toInt ∧ (h 23 8).toInt ≤ (h 23 6).toInt := hp.2.2.2
  refine qm_seg_ok (C := qc_79) (rt := some .boolean) rfl rfl (cuts := []) 400 _ _ _ _ ?_
  show (¬ (h 23 7) = 1 → ((((-4 : Int32) = (-4 : Int32) → (qm_PW X 78 [.ref 23, .int 2, .int (h 23 8)] h _)) ∧ (¬ (-4 : Int32) = (-4 : Int32) → (((-4 : Int32) = 4 → (qm_PW X 80 [.ref 23] h _)) ∧ (¬ (-4 : Int32) = 4 → (((-4 : Int32) = 5 → (qm_PW X 81 [.ref 23] h _)) ∧ (¬ (-4 : Int32) = 5 → (qm_PW X 44 [.ref 25, .int (-4 : Int32)] h _))))))))) ∧ ((h 23 7) = 1 → (qm_PW X 88 [.ref 23] h _))
  refine ⟨fun c1 => ?_, fun c2 => ?_⟩
  · have := ti_neK 1 rfl c1
    refine ⟨fun c3 => ?_, fun c4 => ?_⟩
    · refine tx_78 X h (2 : Int32) (h 23 8) trivial _ (fun r5 g6 p7 => ?_)
      have f8 : ∀ k, (k < 23 ∨ 29 < k) → g6 k = h k := fun k hk => (p7.1 k (by omega)).trans (rfl)
      have k9 : mq 25 g6 := by unfold mq; rw [p7.1 25 (by omega)]; exact hm25
      have k10 : z9 g6 := by unfold z9; rw [p7.1 25 (by omega)]; exact hmz9
      have o11 : (r5 = 0 ∨ r5 = 1) ∧ r5.toInt = 0 ∧ (g6 23 4).toInt = (2 : Int32).toInt ∧ (g6 23 5).toInt = (h 23 8).toInt ∧ ((g6 23 2).toInt = (h 23 2).toInt) ∧ ((g6 23 3).toInt = (h 23 3).toInt) ∧ ((g6 23 6).toInt = (h 23 6).toInt) ∧ ((g6 23 7).toInt = (h 23 7).toInt) ∧ ((g6 23 8).toInt = (h 23 8).toInt) ∧ ((g6 23 9).toInt = (h 23 9).toInt) ∧ ((g6 23 10).toInt = (h 23 10).toInt) := p7.2
      have e24_g6 : g6 24 = h 24 := (p7.1 24 (by omega))
      have e2_g6 : (g6 23 2).toInt = (h 23 2).toInt := (by omega)
      have e25_g6 : g6 25 = h 25 := (p7.1 25 (by omega))
      have e26_g6 : g6 26 = h 26 := (p7.1 26 (by omega))
      have e27_g6 : g6 27 = h 27 := (p7.1 27 (by omega))
      have e28_g6 : g6 28 = h 28 := (p7.1 28 (by omega))
      have e29_g6 : g6 29 = h 29 := (p7.1 29 (by omega))
      show (r5 = 0 ∨ r5 = 1) ∧ Q (some (.int r5)) g6
      exact ⟨p7.2.1, hq r5 g6 ⟨(by have ⟨⟨_, _⟩, _, _⟩ := hmtc; have ⟨⟨_, _⟩, ⟨_, _⟩, _, _⟩ := hm25; have ⟨_, _⟩ := hmz9; have ⟨⟨_, _⟩, ⟨_, _⟩, _, _⟩ := k9; have ⟨_, _⟩ := k10; show (0 ≤ (g6 23 2).toInt ∧ (g6 23 2).toInt ≤ 160) ∧ (0 ≤ (g6 23 6).toInt ∧ (g6 23 6).toInt ≤ (g6 23 2).toInt); have : (2 : Int32).toInt = 2 := rfl; omega), k9, k10, (fun k hk => f8 k hk), (by have : (2 : Int32).toInt = 2 := rfl; show (r5 = 0 ∨ r5 = 1) ∧ (g6 24) = (h 24) ∧ (((g6 23 2).toInt = (h 23 2).toInt) ∧ ((g6 23 3).toInt = (h 23 3).toInt)) ∧ lineQ (h 24) (h 23 2).toInt.toNat (h 23 8).toInt.toNat (h 23 6).toInt.toNat (h 23 7).toInt (h 25 6).toInt (h 25 7).toInt (h 23 10).toInt r5.toInt (g6 23 4).toInt (g6 23 5).toInt (g6 23 6).toInt (h 23 4).toInt (h 23 5).toInt h g6; exact ⟨p7.2.1, e24_g6, by omega, lineQ_none (Or.inl (by omega)) (by omega) (by omega) (by omega)⟩)⟩⟩
    · exact absurd rfl c4
  · have := ti_eqK 1 rfl c2
    refine tx_88 X h  ⟨hmtc, (by show 0 ≤ (h 23 8).toInt ∧ (h 23 8).toInt ≤ (h 23 6).toInt; omega)⟩ _ (fun r12 p13 => ?_)
    have o14 : r12.toInt = wd (h 24) (h 23 8).toInt.toNat (h 23 6).toInt.toNat ∧ (-4 ≤ r12.toInt ∧ r12.toInt ≤ 5) := p13
    show ((r12 = (-4 : Int32) → (qm_PW X 78 [.ref 23, .int 2, .int (h 23 8)] h _)) ∧ (¬ r12 = (-4 : Int32) → ((r12 = 4 → (qm_PW X 80 [.ref 23] h _)) ∧ (¬ r12 = 4 → ((r12 = 5 → (qm_PW X 81 [.ref 23] h _)) ∧ (¬ r12 = 5 → (qm_PW X 44 [.ref 25, .int r12] h _)))))))
    refine ⟨fun c15 => ?_, fun c16 => ?_⟩
    · have := ti_eqK (-4) ti_n4 c15
      refine tx_78 X h (2 : Int32) (h 23 8) trivial _ (fun r17 g18 p19 => ?_)
      have f20 : ∀ k, (k < 23 ∨ 29 < k) → g18 k = h k := fun k hk => (p19.1 k (by omega)).trans (rfl)
      have k21 : mq 25 g18 := by unfold mq; rw [p19.1 25 (by omega)]; exact hm25
      have k22 : z9 g18 := by unfold z9; rw [p19.1 25 (by omega)]; exact hmz9
      have o23 : (r17 = 0 ∨ r17 = 1) ∧ r17.toInt = 0 ∧ (g18 23 4).toInt = (2 : Int32).toInt ∧ (g18 23 5).toInt = (h 23 8).toInt ∧ ((g18 23 2).toInt = (h 23 2).toInt) ∧ ((g18 23 3).toInt = (h 23 3).toInt) ∧ ((g18 23 6).toInt = (h 23 6).toInt) ∧ ((g18 23 7).toInt = (h 23 7).toInt) ∧ ((g18 23 8).toInt = (h 23 8).toInt) ∧ ((g18 23 9).toInt = (h 23 9).toInt) ∧ ((g18 23 10).toInt = (h 23 10).toInt) := p19.2
      have e24_g18 : g18 24 = h 24 := (p19.1 24 (by omega))
      have e2_g18 : (g18 23 2).toInt = (h 23 2).toInt := (by omega)
      have e25_g18 : g18 25 = h 25 := (p19.1 25 (by omega))
      have e26_g18 : g18 26 = h 26 := (p19.1 26 (by omega))
      have e27_g18 : g18 27 = h 27 := (p19.1 27 (by omega))
      have e28_g18 : g18 28 = h 28 := (p19.1 28 (by omega))
      have e29_g18 : g18 29 = h 29 := (p19.1 29 (by omega))
      show (r17 = 0 ∨ r17 = 1) ∧ Q (some (.int r17)) g18
      exact ⟨p19.2.1, hq r17 g18 ⟨(by have ⟨⟨_, _⟩, _, _⟩ := hmtc; have ⟨⟨_, _⟩, ⟨_, _⟩, _, _⟩ := hm25; have ⟨_, _⟩ := hmz9; have ⟨⟨_, _⟩, ⟨_, _⟩, _, _⟩ := k21; have ⟨_, _⟩ := k22; show (0 ≤ (g18 23 2).toInt ∧ (g18 23 2).toInt ≤ 160) ∧ (0 ≤ (g18 23 6).toInt ∧ (g18 23 6).toInt ≤ (g18 23 2).toInt); have : (2 : Int32).toInt = 2 := rfl; omega), k21, k22, (fun k hk => f20 k hk), (by have : (2 : Int32).toInt = 2 := rfl; show (r17 = 0 ∨ r17 = 1) ∧ (g18 24) = (h 24) ∧ (((g18 23 2).toInt = (h 23 2).toInt) ∧ ((g18 23 3).toInt = (h 23 3).toInt)) ∧ lineQ (h 24) (h 23 2).toInt.toNat (h 23 8).toInt.toNat (h 23 6).toInt.toNat (h 23 7).toInt (h 25 6).toInt (h 25 7).toInt (h 23 10).toInt r17.toInt (g18 23 4).toInt (g18 23 5).toInt (g18 23 6).toInt (h 23 4).toInt (h 23 5).toInt h g18; exact ⟨p19.2.1, e24_g18, by omega, lineQ_none (Or.inr (by omega)) (by omega) (by omega) (by omega)⟩)⟩⟩
    · have := ti_neK (-4) ti_n4 c16
      refine ⟨fun c24 => ?_, fun c25 => ?_⟩
      · have := ti_eqK 4 rfl c24
        refine tx_80 X h  ⟨hmtc, hm25, hmz9, (by show 0 ≤ (h 23 8).toInt; omega)⟩ _ (fun r26 g27 p28 => ?_)
        have f29 : ∀ k, (k < 23 ∨ 29 < k) → g27 k = h k := fun k hk => (p28.2.2.2.1 k (by omega)).trans (rfl)
        have o30 : (r26 = 0 ∨ r26 = 1) ∧ (g27 24) = (h 24) ∧ (((g27 23 2).toInt = (h 23 2).toInt) ∧ ((g27 23 3).toInt = (h 23 3).toInt) ∧ (g27 25 6).toInt = (h 25 6).toInt ∧ (g27 25 7).toInt = (h 25 7).toInt) ∧ dayQ (h 24) (h 23 2).toInt.toNat (h 23 8).toInt.toNat (h 23 6).toInt.toNat (h 23 10).toInt r26.toInt (g27 23 4).toInt (g27 23 5).toInt (g27 23 6).toInt (g27 25 8).toInt (g27 23 10).toInt (h 23 4).toInt (h 23 5).toInt ∧ (r26.toInt = 0 ∨ (h 23 6).toInt ≤ (g27 23 6).toInt) := p28.2.2.2.2
        have e24_g27 : g27 24 = h 24 := o30.2.1
        have e2_g27 : (g27 23 2).toInt = (h 23 2).toInt := (by omega)
        have e26_g27 : g27 26 = h 26 := (p28.2.2.2.1 26 (by omega))
        have e27_g27 : g27 27 = h 27 := (p28.2.2.2.1 27 (by omega))
        have e28_g27 : g27 28 = h 28 := (p28.2.2.2.1 28 (by omega))
        have e29_g27 : g27 29 = h 29 := (p28.2.2.2.1 29 (by omega))
        show (r26 = 0 → (((0 : Int32) = 0 ∨ (0 : Int32) = 1) ∧ Q (some (.int 0)) g27)) ∧ (¬ r26 = 0 → (qm_PW X 83 [.ref 23] g27 _))
        refine ⟨fun c31 => ?_, fun c32 => ?_⟩
        · have := ti_eqK 0 rfl c31
          exact ⟨Or.inl rfl, hq 0 g27 ⟨p28.1, p28.2.1, p28.2.2.1, (fun k hk => f29 k hk), (by have : (0 : Int32).toInt = 0 := rfl; show ((0 : Int32) = 0 ∨ (0 : Int32) = 1) ∧ (g27 24) = (h 24) ∧ (((g27 23 2).toInt = (h 23 2).toInt) ∧ ((g27 23 3).toInt = (h 23 3).toInt)) ∧ lineQ (h 24) (h 23 2).toInt.toNat (h 23 8).toInt.toNat (h 23 6).toInt.toNat (h 23 7).toInt (h 25 6).toInt (h 25 7).toInt (h 23 10).toInt (0 : Int32).toInt (g27 23 4).toInt (g27 23 5).toInt (g27 23 6).toInt (h 23 4).toInt (h 23 5).toInt h g27; exact ⟨Or.inl rfl, e24_g27, by omega, lineQ_d0 (by omega) (by omega) o30.2.2.2.1 (by omega) rfl⟩)⟩⟩
        · have := ti_neK 0 rfl c32
          refine tx_83 X g27  p28.1 _ (fun r33 g34 p35 => ?_)
          have f36 : ∀ k, (k < 23 ∨ 29 < k) → g34 k = h k := fun k hk => (p35.2.1 k (by omega)).trans (f29 k hk)
          have k37 : mq 25 g34 := by unfold mq; rw [p35.2.1 25 (by omega)]; exact p28.2.1
          have k38 : z9 g34 := by unfold z9; rw [p35.2.1 25 (by omega)]; exact p28.2.2.1
          have o39 : stopR (g27 24) (g27 23 2).toInt.toNat (g27 23 6).toInt.toNat r33.toInt (g34 23 6).toInt (g34 23 4).toInt (g34 23 5).toInt (g27 23 4).toInt (g27 23 5).toInt ∧ (r33 = 0 ∨ r33 = 1) ∧ ((g34 23 2).toInt = (g27 23 2).toInt) ∧ ((g34 23 3).toInt = (g27 23 3).toInt) ∧ ((g34 23 10).toInt = (g27 23 10).toInt) := p35.2.2
          have e24_g34 : g34 24 = h 24 := (p35.2.1 24 (by omega)).trans e24_g27
          have e2_g34 : (g34 23 2).toInt = (h 23 2).toInt := (by omega)
          have d25_g34 : g34 25 = (g27 25) := p35.2.1 25 (by omega)
          have e26_g34 : g34 26 = h 26 := (p35.2.1 26 (by omega)).trans e26_g27
          have e27_g34 : g34 27 = h 27 := (p35.2.1 27 (by omega)).trans e27_g27
          have e28_g34 : g34 28 = h 28 := (p35.2.1 28 (by omega)).trans e28_g27
          have e29_g34 : g34 29 = h 29 := (p35.2.1 29 (by omega)).trans e29_g27
          (try rw [e24_g27] at o39); (try rw [e2_g27] at o39); (try rw [e26_g27] at o39); (try rw [e27_g27] at o39); (try rw [e28_g27] at o39); (try rw [e29_g27] at o39)
          show (r33 = 0 → (((0 : Int32) = 0 ∨ (0 : Int32) = 1) ∧ Q (some (.int 0)) g34)) ∧ (¬ r33 = 0 → (((1 : Int32) = 0 ∨ (1 : Int32) = 1) ∧ Q (some (.int 1)) g34))
          refine ⟨fun c40 => ?_, fun c41 => ?_⟩
          · have := ti_eqK 0 rfl c40
            exact ⟨Or.inl rfl, hq 0 g34 ⟨p35.1, k37, k38, (fun k hk => f36 k hk), (by have : (0 : Int32).toInt = 0 := rfl; show ((0 : Int32) = 0 ∨ (0 : Int32) = 1) ∧ (g34 24) = (h 24) ∧ (((g34 23 2).toInt = (h 23 2).toInt) ∧ ((g34 23 3).toInt = (h 23 3).toInt)) ∧ lineQ (h 24) (h 23 2).toInt.toNat (h 23 8).toInt.toNat (h 23 6).toInt.toNat (h 23 7).toInt (h 25 6).toInt (h 25 7).toInt (h 23 10).toInt (0 : Int32).toInt (g34 23 4).toInt (g34 23 5).toInt (g34 23 6).toInt (h 23 4).toInt (h 23 5).toInt h g34; exact ⟨Or.inl rfl, e24_g34, by omega, lineQ_d1 (by omega) (by omega) o30.2.2.2.1 (by omega) rfl o39.1 (by omega) rfl⟩)⟩⟩
          · have := ti_neK 0 rfl c41
            exact ⟨Or.inr rfl, hq 1 g34 ⟨p35.1, k37, k38, (fun k hk => f36 k hk), (by have : (1 : Int32).toInt = 1 := rfl; show ((1 : Int32) = 0 ∨ (1 : Int32) = 1) ∧ (g34 24) = (h 24) ∧ (((g34 23 2).toInt = (h 23 2).toInt) ∧ ((g34 23 3).toInt = (h 23 3).toInt)) ∧ lineQ (h 24) (h 23 2).toInt.toNat (h 23 8).toInt.toNat (h 23 6).toInt.toNat (h 23 7).toInt (h 25 6).toInt (h 25 7).toInt (h 23 10).toInt (1 : Int32).toInt (g34 23 4).toInt (g34 23 5).toInt (g34 23 6).toInt (h 23 4).toInt (h 23 5).toInt h g34; exact ⟨Or.inr rfl, e24_g34, by omega, lineQ_d2 (by omega) (by omega) o30.2.2.2.1 (by omega) rfl (by omega) o39.1 (by omega) rfl (fun S hS hd => cT_day hS rfl (by rw [d25_g34]; omega) (by rw [d25_g34]; omega) (by rw [d25_g34]) (by omega) e26_g34 e27_g34 e28_g34 e29_g34)⟩)⟩⟩
      · have := ti_neK 4 rfl c25
        refine ⟨fun c42 => ?_, fun c43 => ?_⟩
        · have := ti_eqK 5 rfl c42
          refine tx_81 X h  ⟨hmtc, hm25, hmz9, (by show 0 ≤ (h 23 8).toInt; omega)⟩ _ (fun r44 g45 p46 => ?_)
          have f47 : ∀ k, (k < 23 ∨ 29 < k) → g45 k = h k := fun k hk => (p46.2.2.2.1 k (by omega)).trans (rfl)
          have o48 : (r44 = 0 ∨ r44 = 1) ∧ (g45 24) = (h 24) ∧ (((g45 23 2).toInt = (h 23 2).toInt) ∧ ((g45 23 3).toInt = (h 23 3).toInt) ∧ ((g45 23 10).toInt = (h 23 10).toInt)) ∧ (r44.toInt = 0 ∨ (h 23 6).toInt ≤ (g45 23 6).toInt) ∧ ∃ x y z : Int32, tieQ (h 24) (h 23 2).toInt.toNat (h 23 8).toInt.toNat (h 23 6).toInt.toNat (h 25 7).toInt r44.toInt (g45 23 4).toInt (g45 23 5).toInt (g45 23 6).toInt x.toInt y.toInt z.toInt (h 23 4).toInt (h 23 5).toInt ∧ (r44.toInt = 0 ∨ (((g45 25 7).toInt = (h 25 7).toInt + 1 ∧ (g45 25 6).toInt = (h 25 6).toInt ∧ (g45 25 8).toInt = (h 25 8).toInt) ∧ (g45 26) = (h 26) ∧ (g45 27) = upd (h 27) (h 25 7).toInt.toNat x ∧ (g45 28) = upd (h 28) (h 25 7).toInt.toNat y ∧ (g45 29) = upd (h 29) (h 25 7).toInt.toNat z)) := p46.2.2.2.2
          have e24_g45 : g45 24 = h 24 := o48.2.1
          have e2_g45 : (g45 23 2).toInt = (h 23 2).toInt := (by omega)
          show (r44 = 0 → (((0 : Int32) = 0 ∨ (0 : Int32) = 1) ∧ Q (some (.int 0)) g45)) ∧ (¬ r44 = 0 → (qm_PW X 83 [.ref 23] g45 _))
          refine ⟨fun c49 => ?_, fun c50 => ?_⟩
          · have := ti_eqK 0 rfl c49
            exact ⟨Or.inl rfl, hq 0 g45 ⟨p46.1, p46.2.1, p46.2.2.1, (fun k hk => f47 k hk), (by have : (0 : Int32).toInt = 0 := rfl; show ((0 : Int32) = 0 ∨ (0 : Int32) = 1) ∧ (g45 24) = (h 24) ∧ (((g45 23 2).toInt = (h 23 2).toInt) ∧ ((g45 23 3).toInt = (h 23 3).toInt)) ∧ lineQ (h 24) (h 23 2).toInt.toNat (h 23 8).toInt.toNat (h 23 6).toInt.toNat (h 23 7).toInt (h 25 6).toInt (h 25 7).toInt (h 23 10).toInt (0 : Int32).toInt (g45 23 4).toInt (g45 23 5).toInt (g45 23 6).toInt (h 23 4).toInt (h 23 5).toInt h g45; obtain ⟨x, y, z, hty, hrw⟩ := o48.2.2.2.2; exact ⟨Or.inl rfl, e24_g45, by omega, lineQ_t0 (by omega) (by omega) hty (by omega) rfl⟩)⟩⟩
          · have := ti_neK 0 rfl c50
            refine tx_83 X g45  p46.1 _ (fun r51 g52 p53 => ?_)
            have f54 : ∀ k, (k < 23 ∨ 29 < k) → g52 k = h k := fun k hk => (p53.2.1 k (by omega)).trans (f47 k hk)
            have k55 : mq 25 g52 := by unfold mq; rw [p53.2.1 25 (by omega)]; exact p46.2.1
            have k56 : z9 g52 := by unfold z9; rw [p53.2.1 25 (by omega)]; exact p46.2.2.1
            have o57 : stopR (g45 24) (g45 23 2).toInt.toNat (g45 23 6).toInt.toNat r51.toInt (g52 23 6).toInt (g52 23 4).toInt (g52 23 5).toInt (g45 23 4).toInt (g45 23 5).toInt ∧ (r51 = 0 ∨ r51 = 1) ∧ ((g52 23 2).toInt = (g45 23 2).toInt) ∧ ((g52 23 3).toInt = (g45 23 3).toInt) ∧ ((g52 23 10).toInt = (g45 23 10).toInt) := p53.2.2
            have e24_g52 : g52 24 = h 24 := (p53.2.1 24 (by omega)).trans e24_g45
            have e2_g52 : (g52 23 2).toInt = (h 23 2).toInt := (by omega)
            have d25_g52 : g52 25 = (g45 25) := p53.2.1 25 (by omega)
            have d26_g52 : g52 26 = (g45 26) := p53.2.1 26 (by omega)
            have d27_g52 : g52 27 = (g45 27) := p53.2.1 27 (by omega)
            have d28_g52 : g52 28 = (g45 28) := p53.2.1 28 (by omega)
            have d29_g52 : g52 29 = (g45 29) := p53.2.1 29 (by omega)
            (try rw [e24_g45] at o57); (try rw [e2_g45] at o57)
            show (r51 = 0 → (((0 : Int32) = 0 ∨ (0 : Int32) = 1) ∧ Q (some (.int 0)) g52)) ∧ (¬ r51 = 0 → (((1 : Int32) = 0 ∨ (1 : Int32) = 1) ∧ Q (some (.int 1)) g52))
            refine ⟨fun c58 => ?_, fun c59 => ?_⟩
            · have := ti_eqK 0 rfl c58
              exact ⟨Or.inl rfl, hq 0 g52 ⟨p53.1, k55, k56, (fun k hk => f54 k hk), (by have : (0 : Int32).toInt = 0 := rfl; show ((0 : Int32) = 0 ∨ (0 : Int32) = 1) ∧ (g52 24) = (h 24) ∧ (((g52 23 2).toInt = (h 23 2).toInt) ∧ ((g52 23 3).toInt = (h 23 3).toInt)) ∧ lineQ (h 24) (h 23 2).toInt.toNat (h 23 8).toInt.toNat (h 23 6).toInt.toNat (h 23 7).toInt (h 25 6).toInt (h 25 7).toInt (h 23 10).toInt (0 : Int32).toInt (g52 23 4).toInt (g52 23 5).toInt (g52 23 6).toInt (h 23 4).toInt (h 23 5).toInt h g52; obtain ⟨x, y, z, hty, hrw⟩ := o48.2.2.2.2; exact ⟨Or.inl rfl, e24_g52, by omega, lineQ_t1 (by omega) (by omega) hty (by omega) rfl o57.1 (by omega) rfl⟩)⟩⟩
            · have := ti_neK 0 rfl c59
              exact ⟨Or.inr rfl, hq 1 g52 ⟨p53.1, k55, k56, (fun k hk => f54 k hk), (by have : (1 : Int32).toInt = 1 := rfl; show ((1 : Int32) = 0 ∨ (1 : Int32) = 1) ∧ (g52 24) = (h 24) ∧ (((g52 23 2).toInt = (h 23 2).toInt) ∧ ((g52 23 3).toInt = (h 23 3).toInt)) ∧ lineQ (h 24) (h 23 2).toInt.toNat (h 23 8).toInt.toNat (h 23 6).toInt.toNat (h 23 7).toInt (h 25 6).toInt (h 25 7).toInt (h 23 10).toInt (1 : Int32).toInt (g52 23 4).toInt (g52 23 5).toInt (g52 23 6).toInt (h 23 4).toInt (h 23 5).toInt h g52; obtain ⟨x, y, z, hty, hrw⟩ := o48.2.2.2.2; have hrx := hrw.resolve_left (by omega); have hr7 := hrx.1; exact ⟨Or.inr rfl, e24_g52, by omega, lineQ_t2 (by omega) (by omega) hty (by omega) rfl (by omega) o57.1 (by omega) rfl (fun S hS => cT_tie hS rfl rfl rfl rfl (by rw [d25_g52]; omega) (by rw [d25_g52]; omega) (by rw [d25_g52]; omega) (by omega) (d26_g52.trans hrx.2.1) (d27_g52.trans hrx.2.2.1) (d28_g52.trans hrx.2.2.2.1) (d29_g52.trans hrx.2.2.2.2))⟩)⟩⟩
        · have := ti_neK 5 rfl c43
          refine tx_44 X h r12 ⟨hm25, hmz9⟩ _ (fun r60 g61 p62 => ?_)
          have f63 : ∀ k, (k < 23 ∨ 29 < k) → g61 k = h k := fun k hk => (p62.2.2.1 k (by omega)).trans (rfl)
          have k64 : tc g61 := by unfold tc; rw [p62.2.2.1 23 (by omega)]; exact hmtc
          have o65 : (r60 = 0 ∨ r60 = 1) ∧ ((r60.toInt = 0 ∧ 4 ≤ (h 25 6).toInt) ∨ (r60.toInt = 1 ∧ (h 25 6).toInt < 4 ∧ (g61 25 6).toInt = (h 25 6).toInt + 1 ∧ (g61 25 7).toInt = (h 25 7).toInt ∧ (g61 25 8).toInt = (h 25 8).toInt)) ∧ (r60.toInt = 0 ∨ (g61 26) = upd (h 26) (h 25 6).toInt.toNat r12) := p62.2.2.2
          have e24_g61 : g61 24 = h 24 := (p62.2.2.1 24 (by omega))
          have e23_g61 : g61 23 = h 23 := (p62.2.2.1 23 (by omega))
          have d23_g61 : g61 23 = (h 23) := p62.2.2.1 23 (by omega)
          have e2_g61 : (g61 23 2).toInt = (h 23 2).toInt := by rw [d23_g61]
          have e27_g61 : g61 27 = h 27 := (p62.2.2.1 27 (by omega))
          have e28_g61 : g61 28 = h 28 := (p62.2.2.1 28 (by omega))
          have e29_g61 : g61 29 = h 29 := (p62.2.2.1 29 (by omega))
          show (¬ r60 = 0 → (qm_PW X 83 [.ref 23] g61 _)) ∧ (r60 = 0 → (qm_PW X 78 [.ref 23, .int 5, .int (g61 23 8)] g61 _))
          refine ⟨fun c66 => ?_, fun c67 => ?_⟩
          · have := ti_neK 0 rfl c66
            refine tx_83 X g61  k64 _ (fun r68 g69 p70 => ?_)
            have f71 : ∀ k, (k < 23 ∨ 29 < k) → g69 k = h k := fun k hk => (p70.2.1 k (by omega)).trans (f63 k hk)
            have k72 : mq 25 g69 := by unfold mq; rw [p70.2.1 25 (by omega)]; exact p62.1
            have k73 : z9 g69 := by unfold z9; rw [p70.2.1 25 (by omega)]; exact p62.2.1
            have o74 : stopR (g61 24) (g61 23 2).toInt.toNat (g61 23 6).toInt.toNat r68.toInt (g69 23 6).toInt (g69 23 4).toInt (g69 23 5).toInt (g61 23 4).toInt (g61 23 5).toInt ∧ (r68 = 0 ∨ r68 = 1) ∧ ((g69 23 2).toInt = (g61 23 2).toInt) ∧ ((g69 23 3).toInt = (g61 23 3).toInt) ∧ ((g69 23 10).toInt = (g61 23 10).toInt) := p70.2.2
            have e24_g69 : g69 24 = h 24 := (p70.2.1 24 (by omega)).trans e24_g61
            have e2_g69 : (g69 23 2).toInt = (h 23 2).toInt := (by omega)
            have d25_g69 : g69 25 = (g61 25) := p70.2.1 25 (by omega)
            have d26_g69 : g69 26 = (g61 26) := p70.2.1 26 (by omega)
            have e27_g69 : g69 27 = h 27 := (p70.2.1 27 (by omega)).trans e27_g61
            have e28_g69 : g69 28 = h 28 := (p70.2.1 28 (by omega)).trans e28_g61
            have e29_g69 : g69 29 = h 29 := (p70.2.1 29 (by omega)).trans e29_g61
            (try rw [e24_g61] at o74); (try rw [e2_g61] at o74); (try rw [e23_g61] at o74); (try rw [e27_g61] at o74); (try rw [e28_g61] at o74); (try rw [e29_g61] at o74)
            show (r68 = 0 → (((0 : Int32) = 0 ∨ (0 : Int32) = 1) ∧ Q (some (.int 0)) g69)) ∧ (¬ r68 = 0 → (((1 : Int32) = 0 ∨ (1 : Int32) = 1) ∧ Q (some (.int 1)) g69))
            refine ⟨fun c75 => ?_, fun c76 => ?_⟩
            · have := ti_eqK 0 rfl c75
              exact ⟨Or.inl rfl, hq 0 g69 ⟨p70.1, k72, k73, (fun k hk => f71 k hk), (by have : (0 : Int32).toInt = 0 := rfl; show ((0 : Int32) = 0 ∨ (0 : Int32) = 1) ∧ (g69 24) = (h 24) ∧ (((g69 23 2).toInt = (h 23 2).toInt) ∧ ((g69 23 3).toInt = (h 23 3).toInt)) ∧ lineQ (h 24) (h 23 2).toInt.toNat (h 23 8).toInt.toNat (h 23 6).toInt.toNat (h 23 7).toInt (h 25 6).toInt (h 25 7).toInt (h 23 10).toInt (0 : Int32).toInt (g69 23 4).toInt (g69 23 5).toInt (g69 23 6).toInt (h 23 4).toInt (h 23 5).toInt h g69; exact ⟨Or.inl rfl, e24_g69, by omega, lineQ_c1 (by omega) (by omega) (by omega) o74.1 (by omega) rfl⟩)⟩⟩
            · have := ti_neK 0 rfl c76
              exact ⟨Or.inr rfl, hq 1 g69 ⟨p70.1, k72, k73, (fun k hk => f71 k hk), (by have : (1 : Int32).toInt = 1 := rfl; show ((1 : Int32) = 0 ∨ (1 : Int32) = 1) ∧ (g69 24) = (h 24) ∧ (((g69 23 2).toInt = (h 23 2).toInt) ∧ ((g69 23 3).toInt = (h 23 3).toInt)) ∧ lineQ (h 24) (h 23 2).toInt.toNat (h 23 8).toInt.toNat (h 23 6).toInt.toNat (h 23 7).toInt (h 25 6).toInt (h 25 7).toInt (h 23 10).toInt (1 : Int32).toInt (g69 23 4).toInt (g69 23 5).toInt (g69 23 6).toInt (h 23 4).toInt (h 23 5).toInt h g69; exact ⟨Or.inr rfl, e24_g69, by omega, lineQ_c2 (by omega) (by omega) (by omega) o74.1 (by omega) rfl (fun S hS => cT_clk (x := r12) hS (by omega) (by omega) (by rw [d25_g69]; omega) (by rw [d25_g69]; omega) (by rw [d25_g69]; omega) (by omega) (d26_g69.trans (o65.2.2.resolve_left (by omega))) e27_g69 e28_g69 e29_g69)⟩)⟩⟩
          · have := ti_eqK 0 rfl c67
            refine tx_78 X g61 (5 : Int32) (g61 23 8) trivial _ (fun r77 g78 p79 => ?_)
            have f80 : ∀ k, (k < 23 ∨ 29 < k) → g78 k = h k := fun k hk => (p79.1 k (by omega)).trans (f63 k hk)
            have k81 : mq 25 g78 := by unfold mq; rw [p79.1 25 (by omega)]; exact p62.1
            have k82 : z9 g78 := by unfold z9; rw [p79.1 25 (by omega)]; exact p62.2.1
            have o83 : (r77 = 0 ∨ r77 = 1) ∧ r77.toInt = 0 ∧ (g78 23 4).toInt = (5 : Int32).toInt ∧ (g78 23 5).toInt = (g61 23 8).toInt ∧ ((g78 23 2).toInt = (g61 23 2).toInt) ∧ ((g78 23 3).toInt = (g61 23 3).toInt) ∧ ((g78 23 6).toInt = (g61 23 6).toInt) ∧ ((g78 23 7).toInt = (g61 23 7).toInt) ∧ ((g78 23 8).toInt = (g61 23 8).toInt) ∧ ((g78 23 9).toInt = (g61 23 9).toInt) ∧ ((g78 23 10).toInt = (g61 23 10).toInt) := p79.2
            have e24_g78 : g78 24 = h 24 := (p79.1 24 (by omega)).trans e24_g61
            have e2_g78 : (g78 23 2).toInt = (h 23 2).toInt := (by omega)
            have d25_g78 : g78 25 = (g61 25) := p79.1 25 (by omega)
            have d26_g78 : g78 26 = (g61 26) := p79.1 26 (by omega)
            have e27_g78 : g78 27 = h 27 := (p79.1 27 (by omega)).trans e27_g61
            have e28_g78 : g78 28 = h 28 := (p79.1 28 (by omega)).trans e28_g61
            have e29_g78 : g78 29 = h 29 := (p79.1 29 (by omega)).trans e29_g61
            (try rw [e24_g61] at o83); (try rw [e2_g61] at o83); (try rw [e23_g61] at o83); (try rw [e27_g61] at o83); (try rw [e28_g61] at o83); (try rw [e29_g61] at o83)
            show (r77 = 0 → (((0 : Int32) = 0 ∨ (0 : Int32) = 1) ∧ Q (some (.int 0)) g78)) ∧ (¬ r77 = 0 → (qm_PW X 83 [.ref 23] g78 _))
            refine ⟨fun c84 => ?_, fun c85 => ?_⟩
            · have := ti_eqK 0 rfl c84
              exact ⟨Or.inl rfl, hq 0 g78 ⟨(by have ⟨⟨_, _⟩, _, _⟩ := hmtc; have ⟨⟨_, _⟩, ⟨_, _⟩, _, _⟩ := hm25; have ⟨_, _⟩ := hmz9; have ⟨⟨_, _⟩, ⟨_, _⟩, _, _⟩ := p62.1; have ⟨_, _⟩ := p62.2.1; have ⟨⟨_, _⟩, _, _⟩ := k64; have ⟨⟨_, _⟩, ⟨_, _⟩, _, _⟩ := k81; have ⟨_, _⟩ := k82; show (0 ≤ (g78 23 2).toInt ∧ (g78 23 2).toInt ≤ 160) ∧ (0 ≤ (g78 23 6).toInt ∧ (g78 23 6).toInt ≤ (g78 23 2).toInt); have : (5 : Int32).toInt = 5 := rfl; omega), k81, k82, (fun k hk => f80 k hk), (by have : (5 : Int32).toInt = 5 := rfl; have : (0 : Int32).toInt = 0 := rfl; show ((0 : Int32) = 0 ∨ (0 : Int32) = 1) ∧ (g78 24) = (h 24) ∧ (((g78 23 2).toInt = (h 23 2).toInt) ∧ ((g78 23 3).toInt = (h 23 3).toInt)) ∧ lineQ (h 24) (h 23 2).toInt.toNat (h 23 8).toInt.toNat (h 23 6).toInt.toNat (h 23 7).toInt (h 25 6).toInt (h 25 7).toInt (h 23 10).toInt (0 : Int32).toInt (g78 23 4).toInt (g78 23 5).toInt (g78 23 6).toInt (h 23 4).toInt (h 23 5).toInt h g78; exact ⟨Or.inl rfl, e24_g78, by omega, lineQ_c0 (by omega) (by omega) (by omega) rfl (by omega) (by omega)⟩)⟩⟩
            · have := ti_neK 0 rfl c85
              refine tx_83 X g78  (by have ⟨⟨_, _⟩, _, _⟩ := hmtc; have ⟨⟨_, _⟩, ⟨_, _⟩, _, _⟩ := hm25; have ⟨_, _⟩ := hmz9; have ⟨⟨_, _⟩, ⟨_, _⟩, _, _⟩ := p62.1; have ⟨_, _⟩ := p62.2.1; have ⟨⟨_, _⟩, _, _⟩ := k64; have ⟨⟨_, _⟩, ⟨_, _⟩, _, _⟩ := k81; have ⟨_, _⟩ := k82; show (0 ≤ (g78 23 2).toInt ∧ (g78 23 2).toInt ≤ 160) ∧ (0 ≤ (g78 23 6).toInt ∧ (g78 23 6).toInt ≤ (g78 23 2).toInt); have : (5 : Int32).toInt = 5 := rfl; omega) _ (fun r86 g87 p88 => ?_)
              have f89 : ∀ k, (k < 23 ∨ 29 < k) → g87 k = h k := fun k hk => (p88.2.1 k (by omega)).trans (f80 k hk)
              have k90 : mq 25 g87 := by unfold mq; rw [p88.2.1 25 (by omega)]; exact k81
              have k91 : z9 g87 := by unfold z9; rw [p88.2.1 25 (by omega)]; exact k82
              have o92 : stopR (g78 24) (g78 23 2).toInt.toNat (g78 23 6).toInt.toNat r86.toInt (g87 23 6).toInt (g87 23 4).toInt (g87 23 5).toInt (g78 23 4).toInt (g78 23 5).toInt ∧ (r86 = 0 ∨ r86 = 1) ∧ ((g87 23 2).toInt = (g78 23 2).toInt) ∧ ((g87 23 3).toInt = (g78 23 3).toInt) ∧ ((g87 23 10).toInt = (g78 23 10).toInt) := p88.2.2
              have e24_g87 : g87 24 = h 24 := (p88.2.1 24 (by omega)).trans e24_g78
              have e2_g87 : (g87 23 2).toInt = (h 23 2).toInt := (by omega)
              have d25_g87 : g87 25 = (g78 25) := p88.2.1 25 (by omega)
              have d26_g87 : g87 26 = (g78 26) := p88.2.1 26 (by omega)
              have e27_g87 : g87 27 = h 27 := (p88.2.1 27 (by omega)).trans e27_g78
              have e28_g87 : g87 28 = h 28 := (p88.2.1 28 (by omega)).trans e28_g78
              have e29_g87 : g87 29 = h 29 := (p88.2.1 29 (by omega)).trans e29_g78
              (try rw [e24_g78] at o92); (try rw [e2_g78] at o92); (try rw [e27_g78] at o92); (try rw [e28_g78] at o92); (try rw [e29_g78] at o92)
              show (r86 = 0 → (((0 : Int32) = 0 ∨ (0 : Int32) = 1) ∧ Q (some (.int 0)) g87)) ∧ (¬ r86 = 0 → (((1 : Int32) = 0 ∨ (1 : Int32) = 1) ∧ Q (some (.int 1)) g87))
              refine ⟨fun c93 => ?_, fun c94 => ?_⟩
              · have := ti_eqK 0 rfl c93
                exact ⟨Or.inl rfl, hq 0 g87 ⟨p88.1, k90, k91, (fun k hk => f89 k hk), (by have : (5 : Int32).toInt = 5 := rfl; have : (0 : Int32).toInt = 0 := rfl; show ((0 : Int32) = 0 ∨ (0 : Int32) = 1) ∧ (g87 24) = (h 24) ∧ (((g87 23 2).toInt = (h 23 2).toInt) ∧ ((g87 23 3).toInt = (h 23 3).toInt)) ∧ lineQ (h 24) (h 23 2).toInt.toNat (h 23 8).toInt.toNat (h 23 6).toInt.toNat (h 23 7).toInt (h 25 6).toInt (h 25 7).toInt (h 23 10).toInt (0 : Int32).toInt (g87 23 4).toInt (g87 23 5).toInt (g87 23 6).toInt (h 23 4).toInt (h 23 5).toInt h g87; exfalso; omega)⟩⟩
              · have := ti_neK 0 rfl c94
                exact ⟨Or.inr rfl, hq 1 g87 ⟨p88.1, k90, k91, (fun k hk => f89 k hk), (by have : (5 : Int32).toInt = 5 := rfl; have : (1 : Int32).toInt = 1 := rfl; show ((1 : Int32) = 0 ∨ (1 : Int32) = 1) ∧ (g87 24) = (h 24) ∧ (((g87 23 2).toInt = (h 23 2).toInt) ∧ ((g87 23 3).toInt = (h 23 3).toInt)) ∧ lineQ (h 24) (h 23 2).toInt.toNat (h 23 8).toInt.toNat (h 23 6).toInt.toNat (h 23 7).toInt (h 25 6).toInt (h 25 7).toInt (h 23 10).toInt (1 : Int32).toInt (g87 23 4).toInt (g87 23 5).toInt (g87 23 6).toInt (h 23 4).toInt (h 23 5).toInt h g87; exfalso; omega)⟩⟩
