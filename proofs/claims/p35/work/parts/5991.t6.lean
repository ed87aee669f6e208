-- ThreadBank$Memory.isPlace(II)Z
set_option maxRecDepth 100000 in
set_option maxHeartbeats 4000000 in
theorem tx_24 (X : qm_X) (h : qm_H) (a : Int32) (b : Int32) (hp : True) (Q : qm_Q) (hq : ∀ r : Int32, ((r = 0 ∨ r = 1) ∧ ((r.toInt = 1 ∧ 0 ≤ a.toInt ∧ a.toInt / 10 < b.toInt ∧ a.toInt % 10 < 5) ∨ (r.toInt = 0 ∧ ¬ (0 ≤ a.toInt ∧ a.toInt / 10 < b.toInt ∧ a.toInt % 10 < 5)))) → Q (some (.int r)) h) : qm_PW X 24 [.int a, .int b] h Q := by
  refine qm_seg_ok (C := qc_24) (rt := some .boolean) rfl rfl (cuts := []) 400 _ _ _ _ ?_
  show (a.toInt < 0 → (((0 : Int32) = 0 ∨ (0 : Int32) = 1) ∧ Q (some (.int 0)) h)) ∧ (0 ≤ a.toInt → (¬ (10 : Int32) = 0 ∧ ((b.toInt ≤ (a / 10).toInt → (((0 : Int32) = 0 ∨ (0 : Int32) = 1) ∧ Q (some (.int 0)) h)) ∧ ((a / 10).toInt < b.toInt → (¬ (10 : Int32) = 0 ∧ ((5 ≤ (a - a / 10 * 10).toInt → (((0 : Int32) = 0 ∨ (0 : Int32) = 1) ∧ Q (some (.int 0)) h)) ∧ ((a - a / 10 * 10).toInt < 5 → (((1 : Int32) = 0 ∨ (1 : Int32) = 1) ∧ Q (some (.int 1)) h))))))))
  refine ⟨fun c1 => ?_, fun c2 => ?_⟩
  · exact ⟨Or.inl rfl, hq 0 (by have : (0 : Int32).toInt = 0 := rfl; show ((0 : Int32) = 0 ∨ (0 : Int32) = 1) ∧ (((0 : Int32).toInt = 1 ∧ 0 ≤ a.toInt ∧ a.toInt / 10 < b.toInt ∧ a.toInt % 10 < 5) ∨ ((0 : Int32).toInt = 0 ∧ ¬ (0 ≤ a.toInt ∧ a.toInt / 10 < b.toInt ∧ a.toInt % 10 < 5))); first | exact ⟨Or.inr rfl, by omega⟩ | exact ⟨Or.inl rfl, by omega⟩)⟩
  · refine ⟨by decide, ?_⟩
    refine ⟨fun c3 => ?_, fun c4 => ?_⟩
    · exact ⟨Or.inl rfl, hq 0 (by have : (0 : Int32).toInt = 0 := rfl; have := ti_div (10 : Int32) 10 rfl a (by decide); show ((0 : Int32) = 0 ∨ (0 : Int32) = 1) ∧ (((0 : Int32).toInt = 1 ∧ 0 ≤ a.toInt ∧ a.toInt / 10 < b.toInt ∧ a.toInt % 10 < 5) ∨ ((0 : Int32).toInt = 0 ∧ ¬ (0 ≤ a.toInt ∧ a.toInt / 10 < b.toInt ∧ a.toInt % 10 < 5))); first | exact ⟨Or.inr rfl, by omega⟩ | exact ⟨Or.inl rfl, by omega⟩)⟩
    · refine ⟨by decide, ?_⟩
      refine ⟨fun c5 => ?_, fun c6 => ?_⟩
      · exact ⟨Or.inl rfl, hq 0 (by have : (0 : Int32).toInt = 0 := rfl; have := ti_div (10 : Int32) 10 rfl a (by decide); have := ti_rem (10 : Int32) 10 rfl a (by decide); show ((0 : Int32) = 0 ∨ (0 : Int32) = 1) ∧ (((0 : Int32).toInt = 1 ∧ 0 ≤ a.toInt ∧ a.toInt / 10 < b.toInt ∧ a.toInt % 10 < 5) ∨ ((0 : Int32).toInt = 0 ∧ ¬ (0 ≤ a.toInt ∧ a.toInt / 10 < b.toInt ∧ a.toInt % 10 < 5))); first | exact ⟨Or.inr rfl, by omega⟩ | exact ⟨Or.inl rfl, by omega⟩)⟩
      · exact ⟨Or.inr rfl, hq 1 (by have : (1 : Int32).toInt = 1 := rfl; have := ti_div (10 : Int32) 10 rfl a (by decide); have := ti_rem (10 : Int32) 10 rfl a (by decide); show ((1 : Int32) = 0 ∨ (1 : Int32) = 1) ∧ (((1 : Int32).toInt = 1 ∧ 0 ≤ a.toInt ∧ a.toInt / 10 < b.toInt ∧ a.toInt % 10 < 5) ∨ ((1 : Int32).toInt = 0 ∧ ¬ (0 ≤ a.toInt ∧ a.toInt / 10 < b.toInt ∧ a.toInt % 10 < 5))); first | exact ⟨Or.inr rfl, by omega⟩ | exact ⟨Or.inl rfl, by omega⟩)⟩
-- ThreadBank$Memory.isPair(II)Z
set_option maxRecDepth 100000 in
set_option maxHeartbeats 4000000 in
theorem tx_25 (X : qm_X) (h : qm_H) (a : Int32) (b : Int32) (hp : True) (Q : qm_Q) (hq : ∀ r : Int32, ((r = 0 ∨ r = 1) ∧ ((r.toInt = 1 ∧ 0 ≤ a.toInt ∧ a.toInt / 10 < b.toInt ∧ a.toInt % 10 < b.toInt ∧ ¬ a.toInt / 10 = a.toInt % 10) ∨ (r.toInt = 0 ∧ ¬ (0 ≤ a.toInt ∧ a.toInt / 10 < b.toInt ∧ a.toInt % 10 < b.toInt ∧ ¬ a.toInt / 10 = a.toInt % 10)))) → Q (some (.int r)) h) : qm_PW X 25 [.int a, .int b] h Q := by
  refine qm_seg_ok (C := qc_25) (rt := some .boolean) rfl rfl (cuts := []) 400 _ _ _ _ ?_
  show ¬ (10 : Int32) = 0 ∧ (¬ (10 : Int32) = 0 ∧ ((a.toInt < 0 → (((0 : Int32) = 0 ∨ (0 : Int32) = 1) ∧ Q (some (.int 0)) h)) ∧ (0 ≤ a.toInt → ((b.toInt ≤ (a / 10).toInt → (((0 : Int32) = 0 ∨ (0 : Int32) = 1) ∧ Q (some (.int 0)) h)) ∧ ((a / 10).toInt < b.toInt → ((b.toInt ≤ (a - a / 10 * 10).toInt → (((0 : Int32) = 0 ∨ (0 : Int32) = 1) ∧ Q (some (.int 0)) h)) ∧ ((a - a / 10 * 10).toInt < b.toInt → (((a / 10) = (a - a / 10 * 10) → (((0 : Int32) = 0 ∨ (0 : Int32) = 1) ∧ Q (some (.int 0)) h)) ∧ (¬ (a / 10) = (a - a / 10 * 10) → (((1 : Int32) = 0 ∨ (1 : Int32) = 1) ∧ Q (some (.int 1)) h))))))))))
  refine ⟨by decide, ?_⟩
  refine ⟨by decide, ?_⟩
  refine ⟨fun c1 => ?_, fun c2 => ?_⟩
  · exact ⟨Or.inl rfl, hq 0 (by have : (0 : Int32).toInt = 0 := rfl; show ((0 : Int32) = 0 ∨ (0 : Int32) = 1) ∧ (((0 : Int32).toInt = 1 ∧ 0 ≤ a.toInt ∧ a.toInt / 10 < b.toInt ∧ a.toInt % 10 < b.toInt ∧ ¬ a.toInt / 10 = a.toInt % 10) ∨ ((0 : Int32).toInt = 0 ∧ ¬ (0 ≤ a.toInt ∧ a.toInt / 10 < b.toInt ∧ a.toInt % 10 < b.toInt ∧ ¬ a.toInt / 10 = a.toInt % 10))); first | exact ⟨Or.inr rfl, by omega⟩ | exact ⟨Or.inl rfl, by omega⟩ | exact ⟨Or.inr rfl, by have hne : ¬ (a / 10).toInt = (a - a / 10 * 10).toInt := (fun q => absurd (Int32.toInt_inj.mp q) (by assumption)); omega⟩ | exact ⟨Or.inl rfl, by have hne := congrArg Int32.toInt (by assumption); omega⟩)⟩
  · refine ⟨fun c3 => ?_, fun c4 => ?_⟩
    · exact ⟨Or.inl rfl, hq 0 (by have : (0 : Int32).toInt = 0 := rfl; have := ti_div (10 : Int32) 10 rfl a (by decide); show ((0 : Int32) = 0 ∨ (0 : Int32) = 1) ∧ (((0 : Int32).toInt = 1 ∧ 0 ≤ a.toInt ∧ a.toInt / 10 < b.toInt ∧ a.toInt % 10 < b.toInt ∧ ¬ a.toInt / 10 = a.toInt % 10) ∨ ((0 : Int32).toInt = 0 ∧ ¬ (0 ≤ a.toInt ∧ a.toInt / 10 < b.toInt ∧ a.toInt % 10 < b.toInt ∧ ¬ a.toInt / 10 = a.toInt % 10))); first | exact ⟨Or.inr rfl, by omega⟩ | exact ⟨Or.inl rfl, by omega⟩ | exact ⟨Or.inr rfl, by have hne : ¬ (a / 10).toInt = (a - a / 10 * 10).toInt := (fun q => absurd (Int32.toInt_inj.mp q) (by assumption)); omega⟩ | exact ⟨Or.inl rfl, by have hne := congrArg Int32.toInt (by assumption); omega⟩)⟩
    · refine ⟨fun c5 => ?_, fun c6 => ?_⟩
      · exact ⟨Or.inl rfl, hq 0 (by have : (0 : Int32).toInt = 0 := rfl; have := ti_div (10 : Int32) 10 rfl a (by decide); have := ti_rem (10 : Int32) 10 rfl a (by decide); show ((0 : Int32) = 0 ∨ (0 : Int32) = 1) ∧ (((0 : Int32).toInt = 1 ∧ 0 ≤ a.toInt ∧ a.toInt / 10 < b.toInt ∧ a.toInt % 10 < b.toInt ∧ ¬ a.toInt / 10 = a.toInt % 10) ∨ ((0 : Int32).toInt = 0 ∧ ¬ (0 ≤ a.toInt ∧ a.toInt / 10 < b.toInt ∧ a.toInt % 10 < b.toInt ∧ ¬ a.toInt / 10 = a.toInt % 10))); first | exact ⟨Or.inr rfl, by omega⟩ | exact ⟨Or.inl rfl, by omega⟩ | exact ⟨Or.inr rfl, by have hne : ¬ (a / 10).toInt = (a - a / 10 * 10).toInt := (fun q => absurd (Int32.toInt_inj.mp q) (by assumption)); omega⟩ | exact ⟨Or.inl rfl, by have hne := congrArg Int32.toInt (by assumption); omega⟩)⟩
      · refine ⟨fun c7 => ?_, fun c8 => ?_⟩
        · exact ⟨Or.inl rfl, hq 0 (by have : (0 : Int32).toInt = 0 := rfl; have := ti_div (10 : Int32) 10 rfl a (by decide); have := ti_rem (10 : Int32) 10 rfl a (by decide); show ((0 : Int32) = 0 ∨ (0 : Int32) = 1) ∧ (((0 : Int32).toInt = 1 ∧ 0 ≤ a.toInt ∧ a.toInt / 10 < b.toInt ∧ a.toInt % 10 < b.toInt ∧ ¬ a.toInt / 10 = a.toInt % 10) ∨ ((0 : Int32).toInt = 0 ∧ ¬ (0 ≤ a.toInt ∧ a.toInt / 10 < b.toInt ∧ a.toInt % 10 < b.toInt ∧ ¬ a.toInt / 10 = a.toInt % 10))); first | exact ⟨Or.inr rfl, by omega⟩ | exact ⟨Or.inl rfl, by omega⟩ | exact ⟨Or.inr rfl, by have hne : ¬ (a / 10).toInt = (a - a / 10 * 10).toInt := (fun q => absurd (Int32.toInt_inj.mp q) (by assumption)); omega⟩ | exact ⟨Or.inl rfl, by have hne := congrArg Int32.toInt (by assumption); omega⟩)⟩
        · exact ⟨Or.inr rfl, hq 1 (by have : (1 : Int32).toInt = 1 := rfl; have := ti_div (10 : Int32) 10 rfl a (by decide); have := ti_rem (10 : Int32) 10 rfl a (by decide); show ((1 : Int32) = 0 ∨ (1 : Int32) = 1) ∧ (((1 : Int32).toInt = 1 ∧ 0 ≤ a.toInt ∧ a.toInt / 10 < b.toInt ∧ a.toInt % 10 < b.toInt ∧ ¬ a.toInt / 10 = a.toInt % 10) ∨ ((1 : Int32).toInt = 0 ∧ ¬ (0 ≤ a.toInt ∧ a.toInt / 10 < b.toInt ∧ a.toInt % 10 < b.toInt ∧ ¬ a.toInt / 10 = a.toInt % 10))); first | exact ⟨Or.inr rfl, by omega⟩ | exact ⟨Or.inl rfl, by omega⟩ | exact ⟨Or.inr rfl, by have hne : ¬ (a / 10).toInt = (a - a / 10 * 10).toInt := (fun q => absurd (Int32.toInt_inj.mp q) (by assumption)); omega⟩ | exact ⟨Or.inl rfl, by have hne := congrArg Int32.toInt (by assumption); omega⟩)⟩
-- ThreadBank$Memory.isKnot(I)Z
set_option maxRecDepth 100000 in
set_option maxHeartbeats 4000000 in
theorem tx_26 (X : qm_X) (h : qm_H) (a : Int32) (hp : True) (Q : qm_Q) (hq : ∀ r : Int32, ((r = 0 ∨ r = 1) ∧ ((r.toInt = 1 ∧ 10 ≤ a.toInt ∧ a.toInt ≤ 99) ∨ (r.toInt = 0 ∧ ¬ (10 ≤ a.toInt ∧ a.toInt ≤ 99)))) → Q (some (.int r)) h) : qm_PW X 26 [.int a] h Q := by
  refine qm_seg_ok (C := qc_26) (rt := some .boolean) rfl rfl (cuts := []) 400 _ _ _ _ ?_
  show (a.toInt < 10 → (((0 : Int32) = 0 ∨ (0 : Int32) = 1) ∧ Q (some (.int 0)) h)) ∧ (10 ≤ a.toInt → ((99 < a.toInt → (((0 : Int32) = 0 ∨ (0 : Int32) = 1) ∧ Q (some (.int 0)) h)) ∧ (a.toInt ≤ 99 → (((1 : Int32) = 0 ∨ (1 : Int32) = 1) ∧ Q (some (.int 1)) h))))
  refine ⟨fun c1 => ?_, fun c2 => ?_⟩
  · exact ⟨Or.inl rfl, hq 0 (by have : (0 : Int32).toInt = 0 := rfl; show ((0 : Int32) = 0 ∨ (0 : Int32) = 1) ∧ (((0 : Int32).toInt = 1 ∧ 10 ≤ a.toInt ∧ a.toInt ≤ 99) ∨ ((0 : Int32).toInt = 0 ∧ ¬ (10 ≤ a.toInt ∧ a.toInt ≤ 99))); first | exact ⟨Or.inr rfl, by omega⟩ | exact ⟨Or.inl rfl, by omega⟩)⟩
  · refine ⟨fun c3 => ?_, fun c4 => ?_⟩
    · exact ⟨Or.inl rfl, hq 0 (by have : (0 : Int32).toInt = 0 := rfl; show ((0 : Int32) = 0 ∨ (0 : Int32) = 1) ∧ (((0 : Int32).toInt = 1 ∧ 10 ≤ a.toInt ∧ a.toInt ≤ 99) ∨ ((0 : Int32).toInt = 0 ∧ ¬ (10 ≤ a.toInt ∧ a.toInt ≤ 99))); first | exact ⟨Or.inr rfl, by omega⟩ | exact ⟨Or.inl rfl, by omega⟩)⟩
    · exact ⟨Or.inr rfl, hq 1 (by have : (1 : Int32).toInt = 1 := rfl; show ((1 : Int32) = 0 ∨ (1 : Int32) = 1) ∧ (((1 : Int32).toInt = 1 ∧ 10 ≤ a.toInt ∧ a.toInt ≤ 99) ∨ ((1 : Int32).toInt = 0 ∧ ¬ (10 ≤ a.toInt ∧ a.toInt ≤ 99))); first | exact ⟨Or.inr rfl, by omega⟩ | exact ⟨Or.inl rfl, by omega⟩)⟩
-- ThreadBank$Memory.addClerk(I)Z
set_option maxRecDepth 100000 in
set_option maxHeartbeats 4000000 in
theorem tx_44 (X : qm_X) (h : qm_H) (a : Int32) (hp : mq 25 h) (Q : qm_Q) (hq : ∀ r : Int32, ∀ h' : qm_H, (mq 25 h' ∧ (∀ k, (k < 25 ∨ 26 < k) → h' k = h k) ∧ ((r = 0 ∨ r = 1) ∧ ((r.toInt = 0 ∧ 4 ≤ (h 25 6).toInt) ∨ (r.toInt = 1 ∧ (h 25 6).toInt < 4 ∧ (h' 25 6).toInt = (h 25 6).toInt + 1 ∧ (h' 25 7).toInt = (h 25 7).toInt ∧ (h' 25 8).toInt = (h 25 8).toInt)) ∧ (r.toInt = 0 ∨ (h' 26) = upd (h 26) (h 25 6).toInt.toNat a))) → Q (some (.int r)) h') : qm_PW X 44 [.ref 25, .int a] h Q := by
  have hm25 : mq 25 h := hp
  have ⟨⟨_, _⟩, ⟨_, _⟩, _, _⟩ := hm25
  refine qm_seg_ok (C := qc_44) (rt := some .boolean) rfl rfl (cuts := []) 400 _ _ _ _ ?_
  show ((h 25 6).toInt < 4 → ((0 ≤ (h 25 6).toInt ∧ (h 25 6).toInt < 4) ∧ (((1 : Int32) = 0 ∨ (1 : Int32) = 1) ∧ Q (some (.int 1)) (qm_row (qm_row h 26 (upd (h 26) (h 25 6).toInt.toNat a)) 25 (upd (h 25) 6 ((h 25 6) + 1)))))) ∧ (4 ≤ (h 25 6).toInt → (((0 : Int32) = 0 ∨ (0 : Int32) = 1) ∧ Q (some (.int 0)) h))
  refine ⟨fun c1 => ?_, fun c2 => ?_⟩
  · refine ⟨(by omega), ?_⟩
    exact ⟨Or.inr rfl, hq 1 (qm_row (qm_row h 26 (upd (h 26) (h 25 6).toInt.toNat a)) 25 (upd (h 25) 6 ((h 25 6) + 1))) ⟨(by have ⟨⟨_, _⟩, ⟨_, _⟩, _, _⟩ := hm25; show (0 ≤ ((h 25 6) + 1).toInt ∧ ((h 25 6) + 1).toInt ≤ 4) ∧ (0 ≤ (h 25 7).toInt ∧ (h 25 7).toInt ≤ 10) ∧ (0 ≤ (h 25 9).toInt ∧ (h 25 9).toInt ≤ 6); have := ti_addK (h 25 6) (1 : Int32) 1 rfl; omega), (fun k hk => by simp only [qm_row]; rw [if_neg (by omega)]; rw [if_neg (by omega)]), (by have : (1 : Int32).toInt = 1 := rfl; have := ti_addK (h 25 6) (1 : Int32) 1 rfl; show ((1 : Int32) = 0 ∨ (1 : Int32) = 1) ∧ (((1 : Int32).toInt = 0 ∧ 4 ≤ (h 25 6).toInt) ∨ ((1 : Int32).toInt = 1 ∧ (h 25 6).toInt < 4 ∧ ((h 25 6) + 1).toInt = (h 25 6).toInt + 1 ∧ (h 25 7).toInt = (h 25 7).toInt ∧ (h 25 8).toInt = (h 25 8).toInt)) ∧ ((1 : Int32).toInt = 0 ∨ (upd (h 26) (h 25 6).toInt.toNat a) = upd (h 26) (h 25 6).toInt.toNat a); first | exact ⟨Or.inl rfl, by omega, Or.inl rfl⟩ | exact ⟨Or.inr rfl, by omega, Or.inr rfl⟩)⟩⟩
  · exact ⟨Or.inl rfl, hq 0 h ⟨hm25, (fun k hk => rfl), (by have : (0 : Int32).toInt = 0 := rfl; show ((0 : Int32) = 0 ∨ (0 : Int32) = 1) ∧ (((0 : Int32).toInt = 0 ∧ 4 ≤ (h 25 6).toInt) ∨ ((0 : Int32).toInt = 1 ∧ (h 25 6).toInt < 4 ∧ (h 25 6).toInt = (h 25 6).toInt + 1 ∧ (h 25 7).toInt = (h 25 7).toInt ∧ (h 25 8).toInt = (h 25 8).toInt)) ∧ ((0 : Int32).toInt = 0 ∨ (h 26) = upd (h 26) (h 25 6).toInt.toNat a); first | exact ⟨Or.inl rfl, by omega, Or.inl rfl⟩ | exact ⟨Or.inr rfl, by omega, Or.inr rfl⟩)⟩⟩
-- ThreadBank$Memory.addThread(III)Z
set_option maxRecDepth 100000 in
set_option maxHeartbeats 4000000 in
theorem tx_45 (X : qm_X) (h : qm_H) (a : Int32) (b : Int32) (c : Int32) (hp : mq 25 h) (Q : qm_Q) (hq : ∀ r : Int32, ∀ h' : qm_H, (mq 25 h' ∧ (∀ k, (k < 25 ∨ 29 < k) → h' k = h k) ∧ ((r = 0 ∨ r = 1) ∧ ((r.toInt = 0 ∧ 10 ≤ (h 25 7).toInt) ∨ (r.toInt = 1 ∧ (h 25 7).toInt < 10 ∧ (h' 25 7).toInt = (h 25 7).toInt + 1 ∧ (h' 25 6).toInt = (h 25 6).toInt ∧ (h' 25 8).toInt = (h 25 8).toInt)) ∧ (r.toInt = 0 ∨ ((h' 26) = (h 26) ∧ (h' 27) = upd (h 27) (h 25 7).toInt.toNat a ∧ (h' 28) = upd (h 28) (h 25 7).toInt.toNat b ∧ (h' 29) = upd (h 29) (h 25 7).toInt.toNat c)))) → Q (some (.int r)) h') : qm_PW X 45 [.ref 25, .int a, .int b, .int c] h Q := by
  have hm25 : mq 25 h := hp
  have ⟨⟨_, _⟩, ⟨_, _⟩, _, _⟩ := hm25
  refine qm_seg_ok (C := qc_45) (rt := some .boolean) rfl rfl (cuts := []) 400 _ _ _ _ ?_
  show ((h 25 7).toInt < 10 → ((0 ≤ (h 25 7).toInt ∧ (h 25 7).toInt < 10) ∧ ((0 ≤ (h 25 7).toInt ∧ (h 25 7).toInt < 10) ∧ ((0 ≤ (h 25 7).toInt ∧ (h 25 7).toInt < 10) ∧ (((1 : Int32) = 0 ∨ (1 : Int32) = 1) ∧ Q (some (.int 1)) (qm_row (qm_row (qm_row (qm_row h 27 (upd (h 27) (h 25 7).toInt.toNat a)) 28 (upd (h 28) (h 25 7).toInt.toNat b)) 29 (upd (h 29) (h 25 7).toInt.toNat c)) 25 (upd (h 25) 7 ((h 25 7) + 1)))))))) ∧ (10 ≤ (h 25 7).toInt → (((0 : Int32) = 0 ∨ (0 : Int32) = 1) ∧ Q (some (.int 0)) h))
  refine ⟨fun c1 => ?_, fun c2 => ?_⟩
  · refine ⟨(by omega), ?_⟩
    refine ⟨(by omega), ?_⟩
    refine ⟨(by omega), ?_⟩
    exact ⟨Or.inr rfl, hq 1 (qm_row (qm_row (qm_row (qm_row h 27 (upd (h 27) (h 25 7).toInt.toNat a)) 28 (upd (h 28) (h 25 7).toInt.toNat b)) 29 (upd (h 29) (h 25 7).toInt.toNat c)) 25 (upd (h 25) 7 ((h 25 7) + 1))) ⟨(by have ⟨⟨_, _⟩, ⟨_, _⟩, _, _⟩ := hm25; show (0 ≤ (h 25 6).toInt ∧ (h 25 6).toInt ≤ 4) ∧ (0 ≤ ((h 25 7) + 1).toInt ∧ ((h 25 7) + 1).toInt ≤ 10) ∧ (0 ≤ (h 25 9).toInt ∧ (h 25 9).toInt ≤ 6); have := ti_addK (h 25 7) (1 : Int32) 1 rfl; omega), (fun k hk => by simp only [qm_row]; rw [if_neg (by omega)]; rw [if_neg (by omega)]; rw [if_neg (by omega)]; rw [if_neg (by omega)]), (by have : (1 : Int32).toInt = 1 := rfl; have := ti_addK (h 25 7) (1 : Int32) 1 rfl; show ((1 : Int32) = 0 ∨ (1 : Int32) = 1) ∧ (((1 : Int32).toInt = 0 ∧ 10 ≤ (h 25 7).toInt) ∨ ((1 : Int32).toInt = 1 ∧ (h 25 7).toInt < 10 ∧ ((h 25 7) + 1).toInt = (h 25 7).toInt + 1 ∧ (h 25 6).toInt = (h 25 6).toInt ∧ (h 25 8).toInt = (h 25 8).toInt)) ∧ ((1 : Int32).toInt = 0 ∨ ((h 26) = (h 26) ∧ (upd (h 27) (h 25 7).toInt.toNat a) = upd (h 27) (h 25 7).toInt.toNat a ∧ (upd (h 28) (h 25 7).toInt.toNat b) = upd (h 28) (h 25 7).toInt.toNat b ∧ (upd (h 29) (h 25 7).toInt.toNat c) = upd (h 29) (h 25 7).toInt.toNat c)); first | exact ⟨Or.inl rfl, by omega, Or.inl rfl⟩ | exact ⟨Or.inr rfl, by omega, Or.inr ⟨rfl, rfl, rfl, rfl⟩⟩)⟩⟩
  · exact ⟨Or.inl rfl, hq 0 h ⟨hm25, (fun k hk => rfl), (by have : (0 : Int32).toInt = 0 := rfl; show ((0 : Int32) = 0 ∨ (0 : Int32) = 1) ∧ (((0 : Int32).toInt = 0 ∧ 10 ≤ (h 25 7).toInt) ∨ ((0 : Int32).toInt = 1 ∧ (h 25 7).toInt < 10 ∧ (h 25 7).toInt = (h 25 7).toInt + 1 ∧ (h 25 6).toInt = (h 25 6).toInt ∧ (h 25 8).toInt = (h 25 8).toInt)) ∧ ((0 : Int32).toInt = 0 ∨ ((h 26) = (h 26) ∧ (h 27) = upd (h 27) (h 25 7).toInt.toNat a ∧ (h 28) = upd (h 28) (h 25 7).toInt.toNat b ∧ (h 29) = upd (h 29) (h 25 7).toInt.toNat c)); first | exact ⟨Or.inl rfl, by omega, Or.inl rfl⟩ | exact ⟨Or.inr rfl, by omega, Or.inr ⟨rfl, rfl, rfl, rfl⟩⟩)⟩⟩
-- ThreadBank$TextReader.readDay()Z
set_option maxRecDepth 100000 in
set_option maxHeartbeats 4000000 in
theorem tx_80 (X : qm_X) (h : qm_H) (hp : tc h ∧ mq 25 h ∧ (0 ≤ (h 23 8).toInt)) (Q : qm_Q) (hq : ∀ r : Int32, ∀ h' : qm_H, (tc h' ∧ mq 25 h' ∧ (∀ k, (k < 23 ∨ 25 < k) → h' k = h k) ∧ ((r = 0 ∨ r = 1) ∧ (h' 24) = (h 24) ∧ (((h' 23 2).toInt = (h 23 2).toInt) ∧ ((h' 23 3).toInt = (h 23 3).toInt) ∧ (h' 25 6).toInt = (h 25 6).toInt ∧ (h' 25 7).toInt = (h 25 7).toInt) ∧ dayQ (h 24) (h 23 2).toInt.toNat (h 23 8).toInt.toNat (h 23 6).toInt.toNat (h 23 10).toInt r.toInt (h' 23 4).toInt (h' 23 5).toInt (h' 23 6).toInt (h' 25 8).toInt (h' 23 10).toInt (h 23 4).toInt (h 23 5).toInt ∧ (r.toInt = 0 ∨ (h 23 6).toInt ≤ (h' 23 6).toInt))) → Q (some (.int r)) h') : qm_PW X 80 [.ref 23] h Q := by
  have hmtc : tc h := hp.1
  have ⟨⟨_, _⟩, _, _⟩ := hmtc
  have hm25 : mq 25 h := hp.2.1
  have ⟨⟨_, _⟩, ⟨_, _⟩, _, _⟩ := hm25
  have hp0 : 0 ≤ (h 23 8).toInt := hp.2.2
  refine qm_seg_ok (C := qc_80) (rt := some .boolean) rfl rfl (cuts := []) 400 _ _ _ _ ?_
  show ((h 23 10) = 0 → (qm_PW X 82 [.ref 23] h _)) ∧ (¬ (h 23 10) = 0 → (qm_PW X 78 [.ref 23, .int 4, .int (h 23 8)] h _))
  refine ⟨fun c1 => ?_, fun c2 => ?_⟩
  · have := ti_eqK 0 rfl c1
    refine tx_82 X h  hmtc _ (fun r3 g4 p5 => ?_)
    have f6 : ∀ k, (k < 23 ∨ 25 < k) → g4 k = h k := fun k hk => (p5.2.1 k (by omega)).trans (rfl)
    have k7 : mq 25 g4 := by unfold mq; rw [p5.2.1 25 (by omega)]; exact hm25
    have o8 : numR (h 24) (h 23 2).toInt.toNat (h 23 6).toInt.toNat r3.toInt (g4 23 8).toInt (g4 23 6).toInt (g4 23 9).toInt (g4 23 4).toInt (g4 23 5).toInt (h 23 4).toInt (h 23 5).toInt ∧ (r3 = 0 ∨ r3 = 1) ∧ ((g4 23 2).toInt = (h 23 2).toInt) ∧ ((g4 23 3).toInt = (h 23 3).toInt) ∧ ((g4 23 10).toInt = (h 23 10).toInt) := p5.2.2
    have e24_g4 : g4 24 = h 24 := (p5.2.1 24 (by omega))
    have e2_g4 : (g4 23 2).toInt = (h 23 2).toInt := (by omega)
    have e25_g4 : g4 25 = h 25 := (p5.2.1 25 (by omega))
    have e26_g4 : g4 26 = h 26 := (p5.2.1 26 (by omega))
    have e27_g4 : g4 27 = h 27 := (p5.2.1 27 (by omega))
    have e28_g4 : g4 28 = h 28 := (p5.2.1 28 (by omega))
    have e29_g4 : g4 29 = h 29 := (p5.2.1 29 (by omega))
    show (¬ r3 = 0 → (((g4 23 9).toInt ≤ 9 → (((1 : Int32) = 0 ∨ (1 : Int32) = 1) ∧ (((1 : Int32) = 0 ∨ (1 : Int32) = 1) ∧ Q (some (.int 1)) (qm_row (qm_row g4 23 (upd (g4 23) 10 1)) 25 (upd (g4 25) 8 (g4 23 9)))))) ∧ (9 < (g4 23 9).toInt → (qm_PW X 78 [.ref 23, .int 3, .int (g4 23 8)] g4 _)))) ∧ (r3 = 0 → (((0 : Int32) = 0 ∨ (0 : Int32) = 1) ∧ Q (some (.int 0)) g4))
    refine ⟨fun c9 => ?_, fun c10 => ?_⟩
    · have := ti_neK 0 rfl c9
      refine ⟨fun c11 => ?_, fun c12 => ?_⟩
      · refine ⟨Or.inr rfl, ?_⟩
        exact ⟨Or.inr rfl, hq 1 (qm_row (qm_row g4 23 (upd (g4 23) 10 1)) 25 (upd (g4 25) 8 (g4 23 9))) ⟨(by have ⟨⟨_, _⟩, _, _⟩ := hmtc; have ⟨⟨_, _⟩, ⟨_, _⟩, _, _⟩ := hm25; have ⟨⟨_, _⟩, _, _⟩ := p5.1; have ⟨⟨_, _⟩, ⟨_, _⟩, _, _⟩ := k7; show (0 ≤ (g4 23 2).toInt ∧ (g4 23 2).toInt ≤ 160) ∧ (0 ≤ (g4 23 6).toInt ∧ (g4 23 6).toInt ≤ (g4 23 2).toInt); omega), (by have ⟨⟨_, _⟩, _, _⟩ := hmtc; have ⟨⟨_, _⟩, ⟨_, _⟩, _, _⟩ := hm25; have ⟨⟨_, _⟩, _, _⟩ := p5.1; have ⟨⟨_, _⟩, ⟨_, _⟩, _, _⟩ := k7; show (0 ≤ (g4 25 6).toInt ∧ (g4 25 6).toInt ≤ 4) ∧ (0 ≤ (g4 25 7).toInt ∧ (g4 25 7).toInt ≤ 10) ∧ (0 ≤ (g4 25 9).toInt ∧ (g4 25 9).toInt ≤ 6); omega), (fun k hk => by simp only [qm_row]; rw [if_neg (by omega)]; rw [if_neg (by omega)]; exact f6 k hk), (by have : (1 : Int32).toInt = 1 := rfl; show ((1 : Int32) = 0 ∨ (1 : Int32) = 1) ∧ (g4 24) = (h 24) ∧ (((g4 23 2).toInt = (h 23 2).toInt) ∧ ((g4 23 3).toInt = (h 23 3).toInt) ∧ (g4 25 6).toInt = (h 25 6).toInt ∧ (g4 25 7).toInt = (h 25 7).toInt) ∧ dayQ (h 24) (h 23 2).toInt.toNat (h 23 8).toInt.toNat (h 23 6).toInt.toNat (h 23 10).toInt (1 : Int32).toInt (g4 23 4).toInt (g4 23 5).toInt (g4 23 6).toInt (g4 23 9).toInt (1 : Int32).toInt (h 23 4).toInt (h 23 5).toInt ∧ ((1 : Int32).toInt = 0 ∨ (h 23 6).toInt ≤ (g4 23 6).toInt); have q6 : (g4 25 6).toInt = (h 25 6).toInt := congrArg (fun f : Nat → Int32 => (f 6).toInt) e25_g4; have q7 : (g4 25 7).toInt = (h 25 7).toInt := congrArg (fun f : Nat → Int32 => (f 7).toInt) e25_g4; exact ⟨Or.inr rfl, e24_g4, by omega, dayQ_ok (by omega) o8.1 (by omega) (by omega) rfl rfl rfl rfl rfl rfl, by have := numR_ge o8.1 (by omega); omega⟩)⟩⟩
      · refine tx_78 X g4 (3 : Int32) (g4 23 8) trivial _ (fun r13 g14 p15 => ?_)
        have f16 : ∀ k, (k < 23 ∨ 25 < k) → g14 k = h k := fun k hk => (p15.1 k (by omega)).trans (f6 k hk)
        have k17 : mq 25 g14 := by unfold mq; rw [p15.1 25 (by omega)]; exact k7
        have o18 : (r13 = 0 ∨ r13 = 1) ∧ r13.toInt = 0 ∧ (g14 23 4).toInt = (3 : Int32).toInt ∧ (g14 23 5).toInt = (g4 23 8).toInt ∧ ((g14 23 2).toInt = (g4 23 2).toInt) ∧ ((g14 23 3).toInt = (g4 23 3).toInt) ∧ ((g14 23 6).toInt = (g4 23 6).toInt) ∧ ((g14 23 7).toInt = (g4 23 7).toInt) ∧ ((g14 23 8).toInt = (g4 23 8).toInt) ∧ ((g14 23 9).toInt = (g4 23 9).toInt) ∧ ((g14 23 10).toInt = (g4 23 10).toInt) := p15.2
        have e24_g14 : g14 24 = h 24 := (p15.1 24 (by omega)).trans e24_g4
        have e2_g14 : (g14 23 2).toInt = (h 23 2).toInt := (by omega)
        have e25_g14 : g14 25 = h 25 := (p15.1 25 (by omega)).trans e25_g4
        have e26_g14 : g14 26 = h 26 := (p15.1 26 (by omega)).trans e26_g4
        have e27_g14 : g14 27 = h 27 := (p15.1 27 (by omega)).trans e27_g4
        have e28_g14 : g14 28 = h 28 := (p15.1 28 (by omega)).trans e28_g4
        have e29_g14 : g14 29 = h 29 := (p15.1 29 (by omega)).trans e29_g4
        (try rw [e24_g4] at o18); (try rw [e2_g4] at o18); (try rw [e25_g4] at o18); (try rw [e26_g4] at o18); (try rw [e27_g4] at o18); (try rw [e28_g4] at o18); (try rw [e29_g4] at o18)
        show (r13 = 0 ∨ r13 = 1) ∧ Q (some (.int r13)) g14
        exact ⟨p15.2.1, hq r13 g14 ⟨(by have ⟨⟨_, _⟩, _, _⟩ := hmtc; have ⟨⟨_, _⟩, ⟨_, _⟩, _, _⟩ := hm25; have ⟨⟨_, _⟩, _, _⟩ := p5.1; have ⟨⟨_, _⟩, ⟨_, _⟩, _, _⟩ := k7; have ⟨⟨_, _⟩, ⟨_, _⟩, _, _⟩ := k17; show (0 ≤ (g14 23 2).toInt ∧ (g14 23 2).toInt ≤ 160) ∧ (0 ≤ (g14 23 6).toInt ∧ (g14 23 6).toInt ≤ (g14 23 2).toInt); have : (3 : Int32).toInt = 3 := rfl; omega), k17, (fun k hk => f16 k hk), (by have : (3 : Int32).toInt = 3 := rfl; show (r13 = 0 ∨ r13 = 1) ∧ (g14 24) = (h 24) ∧ (((g14 23 2).toInt = (h 23 2).toInt) ∧ ((g14 23 3).toInt = (h 23 3).toInt) ∧ (g14 25 6).toInt = (h 25 6).toInt ∧ (g14 25 7).toInt = (h 25 7).toInt) ∧ dayQ (h 24) (h 23 2).toInt.toNat (h 23 8).toInt.toNat (h 23 6).toInt.toNat (h 23 10).toInt r13.toInt (g14 23 4).toInt (g14 23 5).toInt (g14 23 6).toInt (g14 25 8).toInt (g14 23 10).toInt (h 23 4).toInt (h 23 5).toInt ∧ (r13.toInt = 0 ∨ (h 23 6).toInt ≤ (g14 23 6).toInt); have q6 : (g14 25 6).toInt = (h 25 6).toInt := congrArg (fun f : Nat → Int32 => (f 6).toInt) e25_g14; have q7 : (g14 25 7).toInt = (h 25 7).toInt := congrArg (fun f : Nat → Int32 => (f 7).toInt) e25_g14; exact ⟨p15.2.1, e24_g14, by omega, dayQ_big (by omega) o8.1 (by omega) (by omega) (by omega) (by omega) (by omega), by omega⟩)⟩⟩
    · have := ti_eqK 0 rfl c10
      exact ⟨Or.inl rfl, hq 0 g4 ⟨p5.1, k7, (fun k hk => f6 k hk), (by have : (0 : Int32).toInt = 0 := rfl; show ((0 : Int32) = 0 ∨ (0 : Int32) = 1) ∧ (g4 24) = (h 24) ∧ (((g4 23 2).toInt = (h 23 2).toInt) ∧ ((g4 23 3).toInt = (h 23 3).toInt) ∧ (g4 25 6).toInt = (h 25 6).toInt ∧ (g4 25 7).toInt = (h 25 7).toInt) ∧ dayQ (h 24) (h 23 2).toInt.toNat (h 23 8).toInt.toNat (h 23 6).toInt.toNat (h 23 10).toInt (0 : Int32).toInt (g4 23 4).toInt (g4 23 5).toInt (g4 23 6).toInt (g4 25 8).toInt (g4 23 10).toInt (h 23 4).toInt (h 23 5).toInt ∧ ((0 : Int32).toInt = 0 ∨ (h 23 6).toInt ≤ (g4 23 6).toInt); have q6 : (g4 25 6).toInt = (h 25 6).toInt := congrArg (fun f : Nat → Int32 => (f 6).toInt) e25_g4; have q7 : (g4 25 7).toInt = (h 25 7).toInt := congrArg (fun f : Nat → Int32 => (f 7).toInt) e25_g4; exact ⟨Or.inl rfl, e24_g4, by omega, dayQ_bad (by omega) o8.1 (by omega) rfl, by omega⟩)⟩⟩
  · have := ti_neK 0 rfl c2
    refine tx_78 X h (4 : Int32) (h 23 8) trivial _ (fun r19 g20 p21 => ?_)
    have f22 : ∀ k, (k < 23 ∨ 25 < k) → g20 k = h k := fun k hk => (p21.1 k (by omega)).trans (rfl)
    have k23 : mq 25 g20 := by unfold mq; rw [p21.1 25 (by omega)]; exact hm25
    have o24 : (r19 = 0 ∨ r19 = 1) ∧ r19.toInt = 0 ∧ (g20 23 4).toInt = (4 : Int32).toInt ∧ (g20 23 5).toInt = (h 23 8).toInt ∧ ((g20 23 2).toInt = (h 23 2).toInt) ∧ ((g20 23 3).toInt = (h 23 3).toInt) ∧ ((g20 23 6).toInt = (h 23 6).toInt) ∧ ((g20 23 7).toInt = (h 23 7).toInt) ∧ ((g20 23 8).toInt = (h 23 8).toInt) ∧ ((g20 23 9).toInt = (h 23 9).toInt) ∧ ((g20 23 10).toInt = (h 23 10).toInt) := p21.2
    have e24_g20 : g20 24 = h 24 := (p21.1 24 (by omega))
    have e2_g20 : (g20 23 2).toInt = (h 23 2).toInt := (by omega)
    have e25_g20 : g20 25 = h 25 := (p21.1 25 (by omega))
    have e26_g20 : g20 26 = h 26 := (p21.1 26 (by omega))
    have e27_g20 : g20 27 = h 27 := (p21.1 27 (by omega))
    have e28_g20 : g20 28 = h 28 := (p21.1 28 (by omega))
    have e29_g20 : g20 29 = h 29 := (p21.1 29 (by omega))
    show (r19 = 0 ∨ r19 = 1) ∧ Q (some (.int r19)) g20
    exact ⟨p21.2.1, hq r19 g20 ⟨(by have ⟨⟨_, _⟩, _, _⟩ := hmtc; have ⟨⟨_, _⟩, ⟨_, _⟩, _, _⟩ := hm25; have ⟨⟨_, _⟩, ⟨_, _⟩, _, _⟩ := k23; show (0 ≤ (g20 23 2).toInt ∧ (g20 23 2).toInt ≤ 160) ∧ (0 ≤ (g20 23 6).toInt ∧ (g20 23 6).toInt ≤ (g20 23 2).toInt); have : (4 : Int32).toInt = 4 := rfl; omega), k23, (fun k hk => f22 k hk), (by have : (4 : Int32).toInt = 4 := rfl; show (r19 = 0 ∨ r19 = 1) ∧ (g20 24) = (h 24) ∧ (((g20 23 2).toInt = (h 23 2).toInt) ∧ ((g20 23 3).toInt = (h 23 3).toInt) ∧ (g20 25 6).toInt = (h 25 6).toInt ∧ (g20 25 7).toInt = (h 25 7).toInt) ∧ dayQ (h 24) (h 23 2).toInt.toNat (h 23 8).toInt.toNat (h 23 6).toInt.toNat (h 23 10).toInt r19.toInt (g20 23 4).toInt (g20 23 5).toInt (g20 23 6).toInt (g20 25 8).toInt (g20 23 10).toInt (h 23 4).toInt (h 23 5).toInt ∧ (r19.toInt = 0 ∨ (h 23 6).toInt ≤ (g20 23 6).toInt); have q6 : (g20 25 6).toInt = (h 25 6).toInt := congrArg (fun f : Nat → Int32 => (f 6).toInt) e25_g20; have q7 : (g20 25 7).toInt = (h 25 7).toInt := congrArg (fun f : Nat → Int32 => (f 7).toInt) e25_g20; exact ⟨p21.2.1, e24_g20, by omega, dayQ_told (by omega) (by omega) (by omega) (by omega), by omega⟩)⟩⟩
-- ThreadBank$TextReader.readTie()Z
set_option maxRecDepth 100000 in
set_option maxHeartbeats 4000000 in
theorem tx_81 (X : qm_X) (h : qm_H) (hp : tc h ∧ mq 25 h ∧ (0 ≤ (h 23 8).toInt)) (Q : qm_Q) (hq : ∀ r : Int32, ∀ h' : qm_H, (tc h' ∧ mq 25 h' ∧ (∀ k, (k < 23 ∨ 29 < k) → h' k = h k) ∧ ((r = 0 ∨ r = 1) ∧ (h' 24) = (h 24) ∧ (((h' 23 2).toInt = (h 23 2).toInt) ∧ ((h' 23 3).toInt = (h 23 3).toInt) ∧ ((h' 23 10).toInt = (h 23 10).toInt)) ∧ (r.toInt = 0 ∨ (h 23 6).toInt ≤ (h' 23 6).toInt) ∧ ∃ x y z : Int32, tieQ (h 24) (h 23 2).toInt.toNat (h 23 8).toInt.toNat (h 23 6).toInt.toNat (h 25 7).toInt r.toInt (h' 23 4).toInt (h' 23 5).toInt (h' 23 6).toInt x.toInt y.toInt z.toInt (h 23 4).toInt (h 23 5).toInt ∧ (r.toInt = 0 ∨ (((h' 25 7).toInt = (h 25 7).toInt + 1 ∧ (h' 25 6).toInt = (h 25 6).toInt ∧ (h' 25 8).toInt = (h 25 8).toInt) ∧ (h' 26) = (h 26) ∧ (h' 27) = upd (h 27) (h 25 7).toInt.toNat x ∧ (h' 28) = upd (h 28) (h 25 7).toInt.toNat y ∧ (h' 29) = upd (h 29) (h 25 7).toInt.toNat z)))) → Q (some (.int r)) h') : qm_PW X 81 [.ref 23] h Q := by
  have hmtc : tc h := hp.1
  have ⟨⟨_, _⟩, _, _⟩ := hmtc
  have hm25 : mq 25 h := hp.2.1
  have ⟨⟨_, _⟩, ⟨_, _⟩, _, _⟩ := hm25
  have hp0 : 0 ≤ (h 23 8).toInt := hp.2.2
  refine qm_seg_ok (C := qc_81) (rt := some .boolean) rfl rfl (cuts := []) 400 _ _ _ _ ?_
  show ((h 25 7).toInt < 10 → (qm_PW X 82 [.ref 23] h _)) ∧ (10 ≤ (h 25 7).toInt → (qm_PW X 78 [.ref 23, .int 5, .int (h 23 8)] h _))
  refine ⟨fun c1 => ?_, fun c2 => ?_⟩
  · refine tx_82 X h  hmtc _ (fun r3 g4 p5 => ?_)
    have f6 : ∀ k, (k < 23 ∨ 29 < k) → g4 k = h k := fun k hk => (p5.2.1 k (by omega)).trans (rfl)
    have k7 : mq 25 g4 := by unfold mq; rw [p5.2.1 25 (by omega)]; exact hm25
    have o8 : numR (h 24) (h 23 2).toInt.toNat (h 23 6).toInt.toNat r3.toInt (g4 23 8).toInt (g4 23 6).toInt (g4 23 9).toInt (g4 23 4).toInt (g4 23 5).toInt (h 23 4).toInt (h 23 5).toInt ∧ (r3 = 0 ∨ r3 = 1) ∧ ((g4 23 2).toInt = (h 23 2).toInt) ∧ ((g4 23 3).toInt = (h 23 3).toInt) ∧ ((g4 23 10).toInt = (h 23 10).toInt) := p5.2.2
    have e24_g4 : g4 24 = h 24 := (p5.2.1 24 (by omega))
    have e2_g4 : (g4 23 2).toInt = (h 23 2).toInt := (by omega)
    have e25_g4 : g4 25 = h 25 := (p5.2.1 25 (by omega))
    have e26_g4 : g4 26 = h 26 := (p5.2.1 26 (by omega))
    have e27_g4 : g4 27 = h 27 := (p5.2.1 27 (by omega))
    have e28_g4 : g4 28 = h 28 := (p5.2.1 28 (by omega))
    have e29_g4 : g4 29 = h 29 := (p5.2.1 29 (by omega))
    show (¬ r3 = 0 → (qm_PW X 24 [.int (g4 23 9), .int 4] g4 _)) ∧ (r3 = 0 → (((0 : Int32) = 0 ∨ (0 : Int32) = 1) ∧ Q (some (.int 0)) g4))
    refine ⟨fun c9 => ?_, fun c10 => ?_⟩
    · have := ti_neK 0 rfl c9
      refine tx_24 X g4 (g4 23 9) (4 : Int32) trivial _ (fun r11 p12 => ?_)
      have o13 : (r11 = 0 ∨ r11 = 1) ∧ ((r11.toInt = 1 ∧ 0 ≤ (g4 23 9).toInt ∧ (g4 23 9).toInt / 10 < (4 : Int32).toInt ∧ (g4 23 9).toInt % 10 < 5) ∨ (r11.toInt = 0 ∧ ¬ (0 ≤ (g4 23 9).toInt ∧ (g4 23 9).toInt / 10 < (4 : Int32).toInt ∧ (g4 23 9).toInt % 10 < 5))) := p12
      show (¬ r11 = 0 → (qm_PW X 82 [.ref 23] g4 _)) ∧ (r11 = 0 → (qm_PW X 78 [.ref 23, .int 3, .int (g4 23 8)] g4 _))
      refine ⟨fun c14 => ?_, fun c15 => ?_⟩
      · have := ti_neK 0 rfl c14
        refine tx_82 X g4  p5.1 _ (fun r16 g17 p18 => ?_)
        have f19 : ∀ k, (k < 23 ∨ 29 < k) → g17 k = h k := fun k hk => (p18.2.1 k (by omega)).trans (f6 k hk)
        have k20 : mq 25 g17 := by unfold mq; rw [p18.2.1 25 (by omega)]; exact k7
        have o21 : numR (g4 24) (g4 23 2).toInt.toNat (g4 23 6).toInt.toNat r16.toInt (g17 23 8).toInt (g17 23 6).toInt (g17 23 9).toInt (g17 23 4).toInt (g17 23 5).toInt (g4 23 4).toInt (g4 23 5).toInt ∧ (r16 = 0 ∨ r16 = 1) ∧ ((g17 23 2).toInt = (g4 23 2).toInt) ∧ ((g17 23 3).toInt = (g4 23 3).toInt) ∧ ((g17 23 10).toInt = (g4 23 10).toInt) := p18.2.2
        have e24_g17 : g17 24 = h 24 := (p18.2.1 24 (by omega)).trans e24_g4
        have e2_g17 : (g17 23 2).toInt = (h 23 2).toInt := (by omega)
        have e25_g17 : g17 25 = h 25 := (p18.2.1 25 (by omega)).trans e25_g4
        have e26_g17 : g17 26 = h 26 := (p18.2.1 26 (by omega)).trans e26_g4
        have e27_g17 : g17 27 = h 27 := (p18.2.1 27 (by omega)).trans e27_g4
        have e28_g17 : g17 28 = h 28 := (p18.2.1 28 (by omega)).trans e28_g4
        have e29_g17 : g17 29 = h 29 := (p18.2.1 29 (by omega)).trans e29_g4
        (try rw [e24_g4] at o21); (try rw [e2_g4] at o21); (try rw [e25_g4] at o21); (try rw [e26_g4] at o21); (try rw [e27_g4] at o21); (try rw [e28_g4] at o21); (try rw [e29_g4] at o21)
        show (¬ r16 = 0 → (qm_PW X 25 [.int (g17 23 9), .int 4] g17 _)) ∧ (r16 = 0 → (((0 : Int32) = 0 ∨ (0 : Int32) = 1) ∧ Q (some (.int 0)) g17))
        refine ⟨fun c22 => ?_, fun c23 => ?_⟩
        · have := ti_neK 0 rfl c22
          refine tx_25 X g17 (g17 23 9) (4 : Int32) trivial _ (fun r24 p25 => ?_)
          have o26 : (r24 = 0 ∨ r24 = 1) ∧ ((r24.toInt = 1 ∧ 0 ≤ (g17 23 9).toInt ∧ (g17 23 9).toInt / 10 < (4 : Int32).toInt ∧ (g17 23 9).toInt % 10 < (4 : Int32).toInt ∧ ¬ (g17 23 9).toInt / 10 = (g17 23 9).toInt % 10) ∨ (r24.toInt = 0 ∧ ¬ (0 ≤ (g17 23 9).toInt ∧ (g17 23 9).toInt / 10 < (4 : Int32).toInt ∧ (g17 23 9).toInt % 10 < (4 : Int32).toInt ∧ ¬ (g17 23 9).toInt / 10 = (g17 23 9).toInt % 10))) := p25
          show (¬ r24 = 0 → (qm_PW X 82 [.ref 23] g17 _)) ∧ (r24 = 0 → (qm_PW X 78 [.ref 23, .int 3, .int (g17 23 8)] g17 _))
          refine ⟨fun c27 => ?_, fun c28 => ?_⟩
          · have := ti_neK 0 rfl c27
            refine tx_82 X g17  p18.1 _ (fun r29 g30 p31 => ?_)
            have f32 : ∀ k, (k < 23 ∨ 29 < k) → g30 k = h k := fun k hk => (p31.2.1 k (by omega)).trans (f19 k hk)
            have k33 : mq 25 g30 := by unfold mq; rw [p31.2.1 25 (by omega)]; exact k20
            have o34 : numR (g17 24) (g17 23 2).toInt.toNat (g17 23 6).toInt.toNat r29.toInt (g30 23 8).toInt (g30 23 6).toInt (g30 23 9).toInt (g30 23 4).toInt (g30 23 5).toInt (g17 23 4).toInt (g17 23 5).toInt ∧ (r29 = 0 ∨ r29 = 1) ∧ ((g30 23 2).toInt = (g17 23 2).toInt) ∧ ((g30 23 3).toInt = (g17 23 3).toInt) ∧ ((g30 23 10).toInt = (g17 23 10).toInt) := p31.2.2
            have e24_g30 : g30 24 = h 24 := (p31.2.1 24 (by omega)).trans e24_g17
            have e2_g30 : (g30 23 2).toInt = (h 23 2).toInt := (by omega)
            have e25_g30 : g30 25 = h 25 := (p31.2.1 25 (by omega)).trans e25_g17
            have e26_g30 : g30 26 = h 26 := (p31.2.1 26 (by omega)).trans e26_g17
            have e27_g30 : g30 27 = h 27 := (p31.2.1 27 (by omega)).trans e27_g17
            have e28_g30 : g30 28 = h 28 := (p31.2.1 28 (by omega)).trans e28_g17
            have e29_g30 : g30 29 = h 29 := (p31.2.1 29 (by omega)).trans e29_g17
            (try rw [e24_g17] at o34); (try rw [e2_g17] at o34); (try rw [e25_g17] at o34); (try rw [e26_g17] at o34); (try rw [e27_g17] at o34); (try rw [e28_g17] at o34); (try rw [e29_g17] at o34)
            show (¬ r29 = 0 → (qm_PW X 26 [.int (g30 23 9)] g30 _)) ∧ (r29 = 0 → (((0 : Int32) = 0 ∨ (0 : Int32) = 1) ∧ Q (some (.int 0)) g30))
            refine ⟨fun c35 => ?_, fun c36 => ?_⟩
            · have := ti_neK 0 rfl c35
              refine tx_26 X g30 (g30 23 9) trivial _ (fun r37 p38 => ?_)
              have o39 : (r37 = 0 ∨ r37 = 1) ∧ ((r37.toInt = 1 ∧ 10 ≤ (g30 23 9).toInt ∧ (g30 23 9).toInt ≤ 99) ∨ (r37.toInt = 0 ∧ ¬ (10 ≤ (g30 23 9).toInt ∧ (g30 23 9).toInt ≤ 99))) := p38
              show (r37 = 0 → (qm_PW X 78 [.ref 23, .int 3, .int (g30 23 8)] g30 _)) ∧ (¬ r37 = 0 → (qm_PW X 45 [.ref 25, .int (g4 23 9), .int (g17 23 9), .int (g30 23 9)] g30 _))
              refine ⟨fun c40 => ?_, fun c41 => ?_⟩
              · have := ti_eqK 0 rfl c40
                refine tx_78 X g30 (3 : Int32) (g30 23 8) trivial _ (fun r42 g43 p44 => ?_)
                have f45 : ∀ k, (k < 23 ∨ 29 < k) → g43 k = h k := fun k hk => (p44.1 k (by omega)).trans (f32 k hk)
                have k46 : mq 25 g43 := by unfold mq; rw [p44.1 25 (by omega)]; exact k33
                have o47 : (r42 = 0 ∨ r42 = 1) ∧ r42.toInt = 0 ∧ (g43 23 4).toInt = (3 : Int32).toInt ∧ (g43 23 5).toInt = (g30 23 8).toInt ∧ ((g43 23 2).toInt = (g30 23 2).toInt) ∧ ((g43 23 3).toInt = (g30 23 3).toInt) ∧ ((g43 23 6).toInt = (g30 23 6).toInt) ∧ ((g43 23 7).toInt = (g30 23 7).toInt) ∧ ((g43 23 8).toInt = (g30 23 8).toInt) ∧ ((g43 23 9).toInt = (g30 23 9).toInt) ∧ ((g43 23 10).toInt = (g30 23 10).toInt) := p44.2
                have e24_g43 : g43 24 = h 24 := (p44.1 24 (by omega)).trans e24_g30
                have e2_g43 : (g43 23 2).toInt = (h 23 2).toInt := (by omega)
                have e25_g43 : g43 25 = h 25 := (p44.1 25 (by omega)).trans e25_g30
                have e26_g43 : g43 26 = h 26 := (p44.1 26 (by omega)).trans e26_g30
                have e27_g43 : g43 27 = h 27 := (p44.1 27 (by omega)).trans e27_g30
                have e28_g43 : g43 28 = h 28 := (p44.1 28 (by omega)).trans e28_g30
                have e29_g43 : g43 29 = h 29 := (p44.1 29 (by omega)).trans e29_g30
                (try rw [e24_g30] at o47); (try rw [e2_g30] at o47); (try rw [e25_g30] at o47); (try rw [e26_g30] at o47); (try rw [e27_g30] at o47); (try rw [e28_g30] at o47); (try rw [e29_g30] at o47)
                show (r42 = 0 ∨ r42 = 1) ∧ Q (some (.int r42)) g43
                exact ⟨p44.2.1, hq r42 g43 ⟨(by have ⟨⟨_, _⟩, _, _⟩ := hmtc; have ⟨⟨_, _⟩, ⟨_, _⟩, _, _⟩ := hm25; have ⟨⟨_, _⟩, _, _⟩ := p5.1; have ⟨⟨_, _⟩, ⟨_, _⟩, _, _⟩ := k7; have ⟨⟨_, _⟩, _, _⟩ := p18.1; have ⟨⟨_, _⟩, ⟨_, _⟩, _, _⟩ := k20; have ⟨⟨_, _⟩, _, _⟩ := p31.1; have ⟨⟨_, _⟩, ⟨_, _⟩, _, _⟩ := k33; have ⟨⟨_, _⟩, ⟨_, _⟩, _, _⟩ := k46; show (0 ≤ (g43 23 2).toInt ∧ (g43 23 2).toInt ≤ 160) ∧ (0 ≤ (g43 23 6).toInt ∧ (g43 23 6).toInt ≤ (g43 23 2).toInt); have : (4 : Int32).toInt = 4 := rfl; have : (3 : Int32).toInt = 3 := rfl; omega), k46, (fun k hk => f45 k hk), (by have : (4 : Int32).toInt = 4 := rfl; have : (3 : Int32).toInt = 3 := rfl; show (r42 = 0 ∨ r42 = 1) ∧ (g43 24) = (h 24) ∧ (((g43 23 2).toInt = (h 23 2).toInt) ∧ ((g43 23 3).toInt = (h 23 3).toInt) ∧ ((g43 23 10).toInt = (h 23 10).toInt)) ∧ (r42.toInt = 0 ∨ (h 23 6).toInt ≤ (g43 23 6).toInt) ∧ ∃ x y z : Int32, tieQ (h 24) (h 23 2).toInt.toNat (h 23 8).toInt.toNat (h 23 6).toInt.toNat (h 25 7).toInt r42.toInt (g43 23 4).toInt (g43 23 5).toInt (g43 23 6).toInt x.toInt y.toInt z.toInt (h 23 4).toInt (h 23 5).toInt ∧ (r42.toInt = 0 ∨ (((g43 25 7).toInt = (h 25 7).toInt + 1 ∧ (g43 25 6).toInt = (h 25 6).toInt ∧ (g43 25 8).toInt = (h 25 8).toInt) ∧ (g43 26) = (h 26) ∧ (g43 27) = upd (h 27) (h 25 7).toInt.toNat x ∧ (g43 28) = upd (h 28) (h 25 7).toInt.toNat y ∧ (g43 29) = upd (h 29) (h 25 7).toInt.toNat z)); have hv0 := (numR_ok o8.1 (by omega)).1; have hv1 := (numR_ok o21.1 (by omega)).1; have hv2 := (numR_ok o34.1 (by omega)).1; exact ⟨p44.2.1, e24_g43, by omega, Or.inl (by omega), (g4 23 9), (g17 23 9), (g30 23 9), tieQ_b3 (by omega) o8.1 (by omega) (by omega) rfl o21.1 (by omega) (by omega) rfl o34.1 (by omega) (by have := numR_ok o34.1 (by omega); omega) (by omega) (by omega) (by omega), Or.inl (by omega)⟩)⟩⟩
              · have := ti_neK 0 rfl c41
                refine tx_45 X g30 (g4 23 9) (g17 23 9) (g30 23 9) k33 _ (fun r48 g49 p50 => ?_)
                have f51 : ∀ k, (k < 23 ∨ 29 < k) → g49 k = h k := fun k hk => (p50.2.1 k (by omega)).trans (f32 k hk)
                have k52 : tc g49 := by unfold tc; rw [p50.2.1 23 (by omega)]; exact p31.1
                have o53 : (r48 = 0 ∨ r48 = 1) ∧ ((r48.toInt = 0 ∧ 10 ≤ (g30 25 7).toInt) ∨ (r48.toInt = 1 ∧ (g30 25 7).toInt < 10 ∧ (g49 25 7).toInt = (g30 25 7).toInt + 1 ∧ (g49 25 6).toInt = (g30 25 6).toInt ∧ (g49 25 8).toInt = (g30 25 8).toInt)) ∧ (r48.toInt = 0 ∨ ((g49 26) = (g30 26) ∧ (g49 27) = upd (g30 27) (g30 25 7).toInt.toNat (g4 23 9) ∧ (g49 28) = upd (g30 28) (g30 25 7).toInt.toNat (g17 23 9) ∧ (g49 29) = upd (g30 29) (g30 25 7).toInt.toNat (g30 23 9))) := p50.2.2
                have e24_g49 : g49 24 = h 24 := (p50.2.1 24 (by omega)).trans e24_g30
                have d23_g49 : g49 23 = (g30 23) := p50.2.1 23 (by omega)
                have e2_g49 : (g49 23 2).toInt = (h 23 2).toInt := by rw [d23_g49]; exact e2_g30
                (try rw [e24_g30] at o53); (try rw [e2_g30] at o53); (try rw [e25_g30] at o53); (try rw [e26_g30] at o53); (try rw [e27_g30] at o53); (try rw [e28_g30] at o53); (try rw [e29_g30] at o53)
                show (r48 = 0 ∨ r48 = 1) ∧ Q (some (.int r48)) g49
                exact ⟨p50.2.2.1, hq r48 g49 ⟨k52, p50.1, (fun k hk => f51 k hk), (by have : (4 : Int32).toInt = 4 := rfl; show (r48 = 0 ∨ r48 = 1) ∧ (g49 24) = (h 24) ∧ (((g49 23 2).toInt = (h 23 2).toInt) ∧ ((g49 23 3).toInt = (h 23 3).toInt) ∧ ((g49 23 10).toInt = (h 23 10).toInt)) ∧ (r48.toInt = 0 ∨ (h 23 6).toInt ≤ (g49 23 6).toInt) ∧ ∃ x y z : Int32, tieQ (h 24) (h 23 2).toInt.toNat (h 23 8).toInt.toNat (h 23 6).toInt.toNat (h 25 7).toInt r48.toInt (g49 23 4).toInt (g49 23 5).toInt (g49 23 6).toInt x.toInt y.toInt z.toInt (h 23 4).toInt (h 23 5).toInt ∧ (r48.toInt = 0 ∨ (((g49 25 7).toInt = (h 25 7).toInt + 1 ∧ (g49 25 6).toInt = (h 25 6).toInt ∧ (g49 25 8).toInt = (h 25 8).toInt) ∧ (g49 26) = (h 26) ∧ (g49 27) = upd (h 27) (h 25 7).toInt.toNat x ∧ (g49 28) = upd (h 28) (h 25 7).toInt.toNat y ∧ (g49 29) = upd (h 29) (h 25 7).toInt.toNat z)); have hv0 := (numR_ok o8.1 (by omega)).1; have hv1 := (numR_ok o21.1 (by omega)).1; have hv2 := (numR_ok o34.1 (by omega)).1; exact ⟨p50.2.2.1, e24_g49, by rw [d23_g49]; omega, Or.inr (by have := numR_ge o8.1 (by omega); have := numR_ge o21.1 (by omega); have := numR_ge o34.1 (by omega); rw [d23_g49]; omega), (g4 23 9), (g17 23 9), (g30 23 9), tieQ_ok (by omega) o8.1 (by omega) (by omega) rfl o21.1 (by omega) (by omega) rfl o34.1 (by omega) (by omega) (by omega) (by rw [d23_g49]) (by rw [d23_g49]) (by rw [d23_g49]) rfl rfl rfl, Or.inr ⟨by omega, (o53.2.2.resolve_left (by omega)).1, (o53.2.2.resolve_left (by omega)).2.1, (o53.2.2.resolve_left (by omega)).2.2.1, (o53.2.2.resolve_left (by omega)).2.2.2⟩⟩)⟩⟩
            · have := ti_eqK 0 rfl c36
              exact ⟨Or.inl rfl, hq 0 g30 ⟨p31.1, k33, (fun k hk => f32 k hk), (by have : (4 : Int32).toInt = 4 := rfl; have : (0 : Int32).toInt = 0 := rfl; show ((0 : Int32) = 0 ∨ (0 : Int32) = 1) ∧ (g30 24) = (h 24) ∧ (((g30 23 2).toInt = (h 23 2).toInt) ∧ ((g30 23 3).toInt = (h 23 3).toInt) ∧ ((g30 23 10).toInt = (h 23 10).toInt)) ∧ ((0 : Int32).toInt = 0 ∨ (h 23 6).toInt ≤ (g30 23 6).toInt) ∧ ∃ x y z : Int32, tieQ (h 24) (h 23 2).toInt.toNat (h 23 8).toInt.toNat (h 23 6).toInt.toNat (h 25 7).toInt (0 : Int32).toInt (g30 23 4).toInt (g30 23 5).toInt (g30 23 6).toInt x.toInt y.toInt z.toInt (h 23 4).toInt (h 23 5).toInt ∧ ((0 : Int32).toInt = 0 ∨ (((g30 25 7).toInt = (h 25 7).toInt + 1 ∧ (g30 25 6).toInt = (h 25 6).toInt ∧ (g30 25 8).toInt = (h 25 8).toInt) ∧ (g30 26) = (h 26) ∧ (g30 27) = upd (h 27) (h 25 7).toInt.toNat x ∧ (g30 28) = upd (h 28) (h 25 7).toInt.toNat y ∧ (g30 29) = upd (h 29) (h 25 7).toInt.toNat z)); have hv0 := (numR_ok o8.1 (by omega)).1; have hv1 := (numR_ok o21.1 (by omega)).1; exact ⟨Or.inl rfl, e24_g30, by omega, Or.inl (by omega), (g4 23 9), (g17 23 9), (g30 23 9), tieQ_n3 (by omega) o8.1 (by omega) (by omega) rfl o21.1 (by omega) (by omega) rfl o34.1 (by omega) rfl, Or.inl (by omega)⟩)⟩⟩
          · have := ti_eqK 0 rfl c28
            refine tx_78 X g17 (3 : Int32) (g17 23 8) trivial _ (fun r54 g55 p56 => ?_)
            have f57 : ∀ k, (k < 23 ∨ 29 < k) → g55 k = h k := fun k hk => (p56.1 k (by omega)).trans (f19 k hk)
            have k58 : mq 25 g55 := by unfold mq; rw [p56.1 25 (by omega)]; exact k20
            have o59 : (r54 = 0 ∨ r54 = 1) ∧ r54.toInt = 0 ∧ (g55 23 4).toInt = (3 : Int32).toInt ∧ (g55 23 5).toInt = (g17 23 8).toInt ∧ ((g55 23 2).toInt = (g17 23 2).toInt) ∧ ((g55 23 3).toInt = (g17 23 3).toInt) ∧ ((g55 23 6).toInt = (g17 23 6).toInt) ∧ ((g55 23 7).toInt = (g17 23 7).toInt) ∧ ((g55 23 8).toInt = (g17 23 8).toInt) ∧ ((g55 23 9).toInt = (g17 23 9).toInt) ∧ ((g55 23 10).toInt = (g17 23 10).toInt) := p56.2
            have e24_g55 : g55 24 = h 24 := (p56.1 24 (by omega)).trans e24_g17
            have e2_g55 : (g55 23 2).toInt = (h 23 2).toInt := (by omega)
            have e25_g55 : g55 25 = h 25 := (p56.1 25 (by omega)).trans e25_g17
            have e26_g55 : g55 26 = h 26 := (p56.1 26 (by omega)).trans e26_g17
            have e27_g55 : g55 27 = h 27 := (p56.1 27 (by omega)).trans e27_g17
            have e28_g55 : g55 28 = h 28 := (p56.1 28 (by omega)).trans e28_g17
            have e29_g55 : g55 29 = h 29 := (p56.1 29 (by omega)).trans e29_g17
            (try rw [e24_g17] at o59); (try rw [e2_g17] at o59); (try rw [e25_g17] at o59); (try rw [e26_g17] at o59); (try rw [e27_g17] at o59); (try rw [e28_g17] at o59); (try rw [e29_g17] at o59)
            show (r54 = 0 ∨ r54 = 1) ∧ Q (some (.int r54)) g55
            exact ⟨p56.2.1, hq r54 g55 ⟨(by have ⟨⟨_, _⟩, _, _⟩ := hmtc; have ⟨⟨_, _⟩, ⟨_, _⟩, _, _⟩ := hm25; have ⟨⟨_, _⟩, _, _⟩ := p5.1; have ⟨⟨_, _⟩, ⟨_, _⟩, _, _⟩ := k7; have ⟨⟨_, _⟩, _, _⟩ := p18.1; have ⟨⟨_, _⟩, ⟨_, _⟩, _, _⟩ := k20; have ⟨⟨_, _⟩, ⟨_, _⟩, _, _⟩ := k58; show (0 ≤ (g55 23 2).toInt ∧ (g55 23 2).toInt ≤ 160) ∧ (0 ≤ (g55 23 6).toInt ∧ (g55 23 6).toInt ≤ (g55 23 2).toInt); have : (4 : Int32).toInt = 4 := rfl; have : (3 : Int32).toInt = 3 := rfl; omega), k58, (fun k hk => f57 k hk), (by have : (4 : Int32).toInt = 4 := rfl; have : (3 : Int32).toInt = 3 := rfl; show (r54 = 0 ∨ r54 = 1) ∧ (g55 24) = (h 24) ∧ (((g55 23 2).toInt = (h 23 2).toInt) ∧ ((g55 23 3).toInt = (h 23 3).toInt) ∧ ((g55 23 10).toInt = (h 23 10).toInt)) ∧ (r54.toInt = 0 ∨ (h 23 6).toInt ≤ (g55 23 6).toInt) ∧ ∃ x y z : Int32, tieQ (h 24) (h 23 2).toInt.toNat (h 23 8).toInt.toNat (h 23 6).toInt.toNat (h 25 7).toInt r54.toInt (g55 23 4).toInt (g55 23 5).toInt (g55 23 6).toInt x.toInt y.toInt z.toInt (h 23 4).toInt (h 23 5).toInt ∧ (r54.toInt = 0 ∨ (((g55 25 7).toInt = (h 25 7).toInt + 1 ∧ (g55 25 6).toInt = (h 25 6).toInt ∧ (g55 25 8).toInt = (h 25 8).toInt) ∧ (g55 26) = (h 26) ∧ (g55 27) = upd (h 27) (h 25 7).toInt.toNat x ∧ (g55 28) = upd (h 28) (h 25 7).toInt.toNat y ∧ (g55 29) = upd (h 29) (h 25 7).toInt.toNat z)); have hv0 := (numR_ok o8.1 (by omega)).1; have hv1 := (numR_ok o21.1 (by omega)).1; exact ⟨p56.2.1, e24_g55, by omega, Or.inl (by omega), (g4 23 9), (g17 23 9), 0, tieQ_b2 (by omega) o8.1 (by omega) (by omega) rfl o21.1 (by omega) (by omega) (by omega) (by omega) (by omega), Or.inl (by omega)⟩)⟩⟩
        · have := ti_eqK 0 rfl c23
          exact ⟨Or.inl rfl, hq 0 g17 ⟨p18.1, k20, (fun k hk => f19 k hk), (by have : (4 : Int32).toInt = 4 := rfl; have : (0 : Int32).toInt = 0 := rfl; show ((0 : Int32) = 0 ∨ (0 : Int32) = 1) ∧ (g17 24) = (h 24) ∧ (((g17 23 2).toInt = (h 23 2).toInt) ∧ ((g17 23 3).toInt = (h 23 3).toInt) ∧ ((g17 23 10).toInt = (h 23 10).toInt)) ∧ ((0 : Int32).toInt = 0 ∨ (h 23 6).toInt ≤ (g17 23 6).toInt) ∧ ∃ x y z : Int32, tieQ (h 24) (h 23 2).toInt.toNat (h 23 8).toInt.toNat (h 23 6).toInt.toNat (h 25 7).toInt (0 : Int32).toInt (g17 23 4).toInt (g17 23 5).toInt (g17 23 6).toInt x.toInt y.toInt z.toInt (h 23 4).toInt (h 23 5).toInt ∧ ((0 : Int32).toInt = 0 ∨ (((g17 25 7).toInt = (h 25 7).toInt + 1 ∧ (g17 25 6).toInt = (h 25 6).toInt ∧ (g17 25 8).toInt = (h 25 8).toInt) ∧ (g17 26) = (h 26) ∧ (g17 27) = upd (h 27) (h 25 7).toInt.toNat x ∧ (g17 28) = upd (h 28) (h 25 7).toInt.toNat y ∧ (g17 29) = upd (h 29) (h 25 7).toInt.toNat z)); have hv0 := (numR_ok o8.1 (by omega)).1; exact ⟨Or.inl rfl, e24_g17, by omega, Or.inl (by omega), (g4 23 9), (g17 23 9), 0, tieQ_n2 (by omega) o8.1 (by omega) (by omega) rfl o21.1 (by omega) rfl, Or.inl (by omega)⟩)⟩⟩
      · have := ti_eqK 0 rfl c15
        refine tx_78 X g4 (3 : Int32) (g4 23 8) trivial _ (fun r60 g61 p62 => ?_)
        have f63 : ∀ k, (k < 23 ∨ 29 < k) → g61 k = h k := fun k hk => (p62.1 k (by omega)).trans (f6 k hk)
        have k64 : mq 25 g61 := by unfold mq; rw [p62.1 25 (by omega)]; exact k7
        have o65 : (r60 = 0 ∨ r60 = 1) ∧ r60.toInt = 0 ∧ (g61 23 4).toInt = (3 : Int32).toInt ∧ (g61 23 5).toInt = (g4 23 8).toInt ∧ ((g61 23 2).toInt = (g4 23 2).toInt) ∧ ((g61 23 3).toInt = (g4 23 3).toInt) ∧ ((g61 23 6).toInt = (g4 23 6).toInt) ∧ ((g61 23 7).toInt = (g4 23 7).toInt) ∧ ((g61 23 8).toInt = (g4 23 8).toInt) ∧ ((g61 23 9).toInt = (g4 23 9).toInt) ∧ ((g61 23 10).toInt = (g4 23 10).toInt) := p62.2
        have e24_g61 : g61 24 = h 24 := (p62.1 24 (by omega)).trans e24_g4
        have e2_g61 : (g61 23 2).toInt = (h 23 2).toInt := (by omega)
        have e25_g61 : g61 25 = h 25 := (p62.1 25 (by omega)).trans e25_g4
        have e26_g61 : g61 26 = h 26 := (p62.1 26 (by omega)).trans e26_g4
        have e27_g61 : g61 27 = h 27 := (p62.1 27 (by omega)).trans e27_g4
        have e28_g61 : g61 28 = h 28 := (p62.1 28 (by omega)).trans e28_g4
        have e29_g61 : g61 29 = h 29 := (p62.1 29 (by omega)).trans e29_g4
        (try rw [e24_g4] at o65); (try rw [e2_g4] at o65); (try rw [e25_g4] at o65); (try rw [e26_g4] at o65); (try rw [e27_g4] at o65); (try rw [e28_g4] at o65); (try rw [e29_g4] at o65)
        show (r60 = 0 ∨ r60 = 1) ∧ Q (some (.int r60)) g61
        exact ⟨p62.2.1, hq r60 g61 ⟨(by have ⟨⟨_, _⟩, _, _⟩ := hmtc; have ⟨⟨_, _⟩, ⟨_, _⟩, _, _⟩ := hm25; have ⟨⟨_, _⟩, _, _⟩ := p5.1; have ⟨⟨_, _⟩, ⟨_, _⟩, _, _⟩ := k7; have ⟨⟨_, _⟩, ⟨_, _⟩, _, _⟩ := k64; show (0 ≤ (g61 23 2).toInt ∧ (g61 23 2).toInt ≤ 160) ∧ (0 ≤ (g61 23 6).toInt ∧ (g61 23 6).toInt ≤ (g61 23 2).toInt); have : (4 : Int32).toInt = 4 := rfl; have : (3 : Int32).toInt = 3 := rfl; omega), k64, (fun k hk => f63 k hk), (by have : (4 : Int32).toInt = 4 := rfl; have : (3 : Int32).toInt = 3 := rfl; show (r60 = 0 ∨ r60 = 1) ∧ (g61 24) = (h 24) ∧ (((g61 23 2).toInt = (h 23 2).toInt) ∧ ((g61 23 3).toInt = (h 23 3).toInt) ∧ ((g61 23 10).toInt = (h 23 10).toInt)) ∧ (r60.toInt = 0 ∨ (h 23 6).toInt ≤ (g61 23 6).toInt) ∧ ∃ x y z : Int32, tieQ (h 24) (h 23 2).toInt.toNat (h 23 8).toInt.toNat (h 23 6).toInt.toNat (h 25 7).toInt r60.toInt (g61 23 4).toInt (g61 23 5).toInt (g61 23 6).toInt x.toInt y.toInt z.toInt (h 23 4).toInt (h 23 5).toInt ∧ (r60.toInt = 0 ∨ (((g61 25 7).toInt = (h 25 7).toInt + 1 ∧ (g61 25 6).toInt = (h 25 6).toInt ∧ (g61 25 8).toInt = (h 25 8).toInt) ∧ (g61 26) = (h 26) ∧ (g61 27) = upd (h 27) (h 25 7).toInt.toNat x ∧ (g61 28) = upd (h 28) (h 25 7).toInt.toNat y ∧ (g61 29) = upd (h 29) (h 25 7).toInt.toNat z)); have hv0 := (numR_ok o8.1 (by omega)).1; exact ⟨p62.2.1, e24_g61, by omega, Or.inl (by omega), (g4 23 9), 0, 0, tieQ_b1 (by omega) o8.1 (by omega) (by omega) (by omega) (by omega) (by omega), Or.inl (by omega)⟩)⟩⟩
    · have := ti_eqK 0 rfl c10
      exact ⟨Or.inl rfl, hq 0 g4 ⟨p5.1, k7, (fun k hk => f6 k hk), (by have : (0 : Int32).toInt = 0 := rfl; show ((0 : Int32) = 0 ∨ (0 : Int32) = 1) ∧ (g4 24) = (h 24) ∧ (((g4 23 2).toInt = (h 23 2).toInt) ∧ ((g4 23 3).toInt = (h 23 3).toInt) ∧ ((g4 23 10).toInt = (h 23 10).toInt)) ∧ ((0 : Int32).toInt = 0 ∨ (h 23 6).toInt ≤ (g4 23 6).toInt) ∧ ∃ x y z : Int32, tieQ (h 24) (h 23 2).toInt.toNat (h 23 8).toInt.toNat (h 23 6).toInt.toNat (h 25 7).toInt (0 : Int32).toInt (g4 23 4).toInt (g4 23 5).toInt (g4 23 6).toInt x.toInt y.toInt z.toInt (h 23 4).toInt (h 23 5).toInt ∧ ((0 : Int32).toInt = 0 ∨ (((g4 25 7).toInt = (h 25 7).toInt + 1 ∧ (g4 25 6).toInt = (h 25 6).toInt ∧ (g4 25 8).toInt = (h 25 8).toInt) ∧ (g4 26) = (h 26) ∧ (g4 27) = upd (h 27) (h 25 7).toInt.toNat x ∧ (g4 28) = upd (h 28) (h 25 7).toInt.toNat y ∧ (g4 29) = upd (h 29) (h 25 7).toInt.toNat z)); exact ⟨Or.inl rfl, e24_g4, by omega, Or.inl (by omega), (g4 23 9), 0, 0, tieQ_n1 (by omega) o8.1 (by omega) rfl, Or.inl (by omega)⟩)⟩⟩
  · refine tx_78 X h (5 : Int32) (h 23 8) trivial _ (fun r66 g67 p68 => ?_)
    have f69 : ∀ k, (k < 23 ∨ 29 < k) → g67 k = h k := fun k hk => (p68.1 k (by omega)).trans (rfl)
    have k70 : mq 25 g67 := by unfold mq; rw [p68.1 25 (by omega)]; exact hm25
    have o71 : (r66 = 0 ∨ r66 = 1) ∧ r66.toInt = 0 ∧ (g67 23 4).toInt = (5 : Int32).toInt ∧ (g67 23 5).toInt = (h 23 8).toInt ∧ ((g67 23 2).toInt = (h 23 2).toInt) ∧ ((g67 23 3).toInt = (h 23 3).toInt) ∧ ((g67 23 6).toInt = (h 23 6).toInt) ∧ ((g67 23 7).toInt = (h 23 7).toInt) ∧ ((g67 23 8).toInt = (h 23 8).toInt) ∧ ((g67 23 9).toInt = (h 23 9).toInt) ∧ ((g67 23 10).toInt = (h 23 10).toInt) := p68.2
    have e24_g67 : g67 24 = h 24 := (p68.1 24 (by omega))
    have e2_g67 : (g67 23 2).toInt = (h 23 2).toInt := (by omega)
    have e25_g67 : g67 25 = h 25 := (p68.1 25 (by omega))
    have e26_g67 : g67 26 = h 26 := (p68.1 26 (by omega))
    have e27_g67 : g67 27 = h 27 := (p68.1 27 (by omega))
    have e28_g67 : g67 28 = h 28 := (p68.1 28 (by omega))
    have e29_g67 : g67 29 = h 29 := (p68.1 29 (by omega))
    show (r66 = 0 ∨ r66 = 1) ∧ Q (some (.int r66)) g67
    exact ⟨p68.2.1, hq r66 g67 ⟨(by have ⟨⟨_, _⟩, _, _⟩ := hmtc; have ⟨⟨_, _⟩, ⟨_, _⟩, _, _⟩ := hm25; have ⟨⟨_, _⟩, ⟨_, _⟩, _, _⟩ := k70; show (0 ≤ (g67 23 2).toInt ∧ (g67 23 2).toInt ≤ 160) ∧ (0 ≤ (g67 23 6).toInt ∧ (g67 23 6).toInt ≤ (g67 23 2).toInt); have : (5 : Int32).toInt = 5 := rfl; omega), k70, (fun k hk => f69 k hk), (by have : (5 : Int32).toInt = 5 := rfl; show (r66 = 0 ∨ r66 = 1) ∧ (g67 24) = (h 24) ∧ (((g67 23 2).toInt = (h 23 2).toInt) ∧ ((g67 23 3).toInt = (h 23 3).toInt) ∧ ((g67 23 10).toInt = (h 23 10).toInt)) ∧ (r66.toInt = 0 ∨ (h 23 6).toInt ≤ (g67 23 6).toInt) ∧ ∃ x y z : Int32, tieQ (h 24) (h 23 2).toInt.toNat (h 23 8).toInt.toNat (h 23 6).toInt.toNat (h 25 7).toInt r66.toInt (g67 23 4).toInt (g67 23 5).toInt (g67 23 6).toInt x.toInt y.toInt z.toInt (h 23 4).toInt (h 23 5).toInt ∧ (r66.toInt = 0 ∨ (((g67 25 7).toInt = (h 25 7).toInt + 1 ∧ (g67 25 6).toInt = (h 25 6).toInt ∧ (g67 25 8).toInt = (h 25 8).toInt) ∧ (g67 26) = (h 26) ∧ (g67 27) = upd (h 27) (h 25 7).toInt.toNat x ∧ (g67 28) = upd (h 28) (h 25 7).toInt.toNat y ∧ (g67 29) = upd (h 29) (h 25 7).toInt.toNat z)); exact ⟨p68.2.1, e24_g67, by omega, Or.inl (by omega), 0, 0, 0, tieQ_full (by omega) (by omega) (by omega) (by omega), Or.inl (by omega)⟩)⟩⟩
-- ThreadBank$TextReader.wordRead()I
set_option maxRecDepth 100000 in
set_option maxHeartbeats 4000000 in
theorem tx_88 (X : qm_X) (h : qm_H) (hp : tc h ∧ (0 ≤ (h 23 8).toInt ∧ (h 23 8).toInt ≤ (h 23 6).toInt)) (Q : qm_Q) (hq : ∀ r : Int32, (r.toInt = wd (h 24) (h 23 8).toInt.toNat (h 23 6).toInt.toNat ∧ (-4 ≤ r.toInt ∧ r.toInt ≤ 5)) → Q (some (.int r)) h) : qm_PW X 88 [.ref 23] h Q := by
  have hmtc : tc h := hp.1
  have ⟨⟨_, _⟩, _, _⟩ := hmtc
  have hp0 : 0 ≤ (h 23 8).toInt ∧ (h 23 8).toInt ≤ (h 23 6).toInt := hp.2
  refine qm_seg_ok (C := qc_88) (rt := some .int) rfl rfl (cuts := []) 400 _ _ _ _ ?_
  show qm_PW X 89 [.ref 23, .ref 110] h _
  refine tx_89_0 X h  ⟨hmtc, (by omega)⟩ _ (fun r1 p2 => ?_)
  show (r1 = 0 → (qm_PW X 89 [.ref 23, .ref 111] h _)) ∧ (¬ r1 = 0 → (Q (some (.int 0)) h))
  refine ⟨fun c3 => ?_, fun c4 => ?_⟩
  · have := p2.2.2 c3
    refine tx_89_1 X h  ⟨hmtc, (by omega)⟩ _ (fun r5 p6 => ?_)
    show (r5 = 0 → (qm_PW X 89 [.ref 23, .ref 112] h _)) ∧ (¬ r5 = 0 → (Q (some (.int 1)) h))
    refine ⟨fun c7 => ?_, fun c8 => ?_⟩
    · have := p6.2.2 c7
      refine tx_89_2 X h  ⟨hmtc, (by omega)⟩ _ (fun r9 p10 => ?_)
      show (r9 = 0 → (qm_PW X 89 [.ref 23, .ref 113] h _)) ∧ (¬ r9 = 0 → (Q (some (.int 2)) h))
      refine ⟨fun c11 => ?_, fun c12 => ?_⟩
      · have := p10.2.2 c11
        refine tx_89_3 X h  ⟨hmtc, (by omega)⟩ _ (fun r13 p14 => ?_)
        show (r13 = 0 → (qm_PW X 89 [.ref 23, .ref 114] h _)) ∧ (¬ r13 = 0 → (Q (some (.int 3)) h))
        refine ⟨fun c15 => ?_, fun c16 => ?_⟩
        · have := p14.2.2 c15
          refine tx_89_4 X h  ⟨hmtc, (by omega)⟩ _ (fun r17 p18 => ?_)
          show (r17 = 0 → (qm_PW X 89 [.ref 23, .ref 115] h _)) ∧ (¬ r17 = 0 → (Q (some (.int 4)) h))
          refine ⟨fun c19 => ?_, fun c20 => ?_⟩
          · have := p18.2.2 c19
            refine tx_89_5 X h  ⟨hmtc, (by omega)⟩ _ (fun r21 p22 => ?_)
            show (r21 = 0 → (Q (some (.int (-4 : Int32))) h)) ∧ (¬ r21 = 0 → (Q (some (.int 5)) h))
            refine ⟨fun c23 => ?_, fun c24 => ?_⟩
            · have := p22.2.2 c23
              exact hq (-4 : Int32) (by show (-4 : Int32).toInt = wd (h 24) (h 23 8).toInt.toNat (h 23 6).toInt.toNat ∧ (-4 ≤ (-4 : Int32).toInt ∧ (-4 : Int32).toInt ≤ 5); rw [ti_n4]; exact ⟨(wd_6 (by assumption) (by assumption) (by assumption) (by assumption) (by assumption) (by assumption)).symm, by omega⟩)
            · have := p22.2.1 c24
              exact hq 5 (by have : (5 : Int32).toInt = 5 := rfl; show (5 : Int32).toInt = wd (h 24) (h 23 8).toInt.toNat (h 23 6).toInt.toNat ∧ (-4 ≤ (5 : Int32).toInt ∧ (5 : Int32).toInt ≤ 5); exact ⟨(wd_5 (by assumption) (by assumption) (by assumption) (by assumption) (by assumption) (by assumption)).symm, by omega⟩)
          · have := p18.2.1 c20
            exact hq 4 (by have : (4 : Int32).toInt = 4 := rfl; show (4 : Int32).toInt = wd (h 24) (h 23 8).toInt.toNat (h 23 6).toInt.toNat ∧ (-4 ≤ (4 : Int32).toInt ∧ (4 : Int32).toInt ≤ 5); exact ⟨(wd_4 (by assumption) (by assumption) (by assumption) (by assumption) (by assumption)).symm, by omega⟩)
        · have := p14.2.1 c16
          exact hq 3 (by have : (3 : Int32).toInt = 3 := rfl; show (3 : Int32).toInt = wd (h 24) (h 23 8).toInt.toNat (h 23 6).toInt.toNat ∧ (-4 ≤ (3 : Int32).toInt ∧ (3 : Int32).toInt ≤ 5); exact ⟨(wd_3 (by assumption) (by assumption) (by assumption) (by assumption)).symm, by omega⟩)
      · have := p10.2.1 c12
        exact hq 2 (by have : (2 : Int32).toInt = 2 := rfl; show (2 : Int32).toInt = wd (h 24) (h 23 8).toInt.toNat (h 23 6).toInt.toNat ∧ (-4 ≤ (2 : Int32).toInt ∧ (2 : Int32).toInt ≤ 5); exact ⟨(wd_2 (by assumption) (by assumption) (by assumption)).symm, by omega⟩)
    · have := p6.2.1 c8
      exact hq 1 (by have : (1 : Int32).toInt = 1 := rfl; show (1 : Int32).toInt = wd (h 24) (h 23 8).toInt.toNat (h 23 6).toInt.toNat ∧ (-4 ≤ (1 : Int32).toInt ∧ (1 : Int32).toInt ≤ 5); exact ⟨(wd_1 (by assumption) (by assumption)).symm, by omega⟩)
  · have := p2.2.1 c4
    exact hq 0 (by have : (0 : Int32).toInt = 0 := rfl; show (0 : Int32).toInt = wd (h 24) (h 23 8).toInt.toNat (h 23 6).toInt.toNat ∧ (-4 ≤ (0 : Int32).toInt ∧ (0 : Int32).toInt ≤ 5); exact ⟨(wd_0 (by assumption)).symm, by omega⟩)
-- ThreadBank$TextReader.readLine()Z
set_option maxRecDepth 100000 in
set_option maxHeartbeats 4000000 in
theorem tx_79 (X : qm_X) (h : qm_H) (hp : tc h ∧ mq 25 h ∧ (0 ≤ (h 23 8).toInt ∧ (h 23 8).toInt ≤ (h 23 6).toInt)) (Q : qm_Q) (hq : ∀ r : Int32, ∀ h' : qm_H, (tc h' ∧ mq 25 h' ∧ (∀ k, (k < 23 ∨ 29 < k) → h' k = h k) ∧ ((r = 0 ∨ r = 1) ∧ (h' 24) = (h 24) ∧ (((h' 23 2).toInt = (h 23 2).toInt) ∧ ((h' 23 3).toInt = (h 23 3).toInt)) ∧ lineQ (h 24) (h 23 2).toInt.toNat (h 23 8).toInt.toNat (h 23 6).toInt.toNat (h 23 7).toInt (h 25 6).toInt (h 25 7).toInt (h 23 10).toInt r.toInt (h' 23 4).toInt (h' 23 5).toInt (h' 23 6).toInt (h 23 4).toInt (h 23 5).toInt h h')) → Q (some (.int r)) h') : qm_PW X 79 [.ref 23] h Q := by
  have hmtc : tc h := hp.1
  have ⟨⟨_, _⟩, _, _⟩ := hmtc
  have hm25 : mq 25 h := hp.2.1
  have ⟨⟨_, _⟩, ⟨_, _⟩, _, _⟩ := hm25
  have hp0 : 0 ≤ (h 23 8).toInt ∧ (h 23 8).toInt ≤ (h 23 6).toInt := hp.2.2
  refine qm_seg_ok (C := qc_79) (rt := some .boolean) rfl rfl (cuts := []) 400 _ _ _ _ ?_
  show (¬ (h 23 7) = 1 → ((((-4 : Int32) = (-4 : Int32) → (qm_PW X 78 [.ref 23, .int 2, .int (h 23 8)] h _)) ∧ (¬ (-4 : Int32) = (-4 : Int32) → (((-4 : Int32) = 4 → (qm_PW X 80 [.ref 23] h _)) ∧ (¬ (-4 : Int32) = 4 → (((-4 : Int32) = 5 → (qm_PW X 81 [.ref 23] h _)) ∧ (¬ (-4 : Int32) = 5 → (qm_PW X 44 [.ref 25, .int (-4 : Int32)] h _))))))))) ∧ ((h 23 7) = 1 → (qm_PW X 88 [.ref 23] h _))
  refine ⟨fun c1 => ?_, fun c2 => ?_⟩
  · have := ti_neK 1 rfl c1
    refine ⟨fun c3 => ?_, fun c4 => ?_⟩
    · refine tx_78 X h (2 : Int32) (h 23 8) trivial _ (fun r5 g6 p7 => ?_)
      have f8 : ∀ k, (k < 23 ∨ 29 < k) → g6 k = h k := fun k hk => (p7.1 k (by omega)).trans (rfl)
      have k9 : mq 25 g6 := by unfold mq; rw [p7.1 25 (by omega)]; exact hm25
      have o10 : (r5 = 0 ∨ r5 = 1) ∧ r5.toInt = 0 ∧ (g6 23 4).toInt = (2 : Int32).toInt ∧ (g6 23 5).toInt = (h 23 8).toInt ∧ ((g6 23 2).toInt = (h 23 2).toInt) ∧ ((g6 23 3).toInt = (h 23 3).toInt) ∧ ((g6 23 6).toInt = (h 23 6).toInt) ∧ ((g6 23 7).toInt = (h 23 7).toInt) ∧ ((g6 23 8).toInt = (h 23 8).toInt) ∧ ((g6 23 9).toInt = (h 23 9).toInt) ∧ ((g6 23 10).toInt = (h 23 10).toInt) := p7.2
      have e24_g6 : g6 24 = h 24 := (p7.1 24 (by omega))
      have e2_g6 : (g6 23 2).toInt = (h 23 2).toInt := (by omega)
      have e25_g6 : g6 25 = h 25 := (p7.1 25 (by omega))
      have e26_g6 : g6 26 = h 26 := (p7.1 26 (by omega))
      have e27_g6 : g6 27 = h 27 := (p7.1 27 (by omega))
      have e28_g6 : g6 28 = h 28 := (p7.1 28 (by omega))
      have e29_g6 : g6 29 = h 29 := (p7.1 29 (by omega))
      show (r5 = 0 ∨ r5 = 1) ∧ Q (some (.int r5)) g6
      exact ⟨p7.2.1, hq r5 g6 ⟨(by have ⟨⟨_, _⟩, _, _⟩ := hmtc; have ⟨⟨_, _⟩, ⟨_, _⟩, _, _⟩ := hm25; have ⟨⟨_, _⟩, ⟨_, _⟩, _, _⟩ := k9; show (0 ≤ (g6 23 2).toInt ∧ (g6 23 2).toInt ≤ 160) ∧ (0 ≤ (g6 23 6).toInt ∧ (g6 23 6).toInt ≤ (g6 23 2).toInt); have : (2 : Int32).toInt = 2 := rfl; omega), k9, (fun k hk => f8 k hk), (by have : (2 : Int32).toInt = 2 := rfl; show (r5 = 0 ∨ r5 = 1) ∧ (g6 24) = (h 24) ∧ (((g6 23 2).toInt = (h 23 2).toInt) ∧ ((g6 23 3).toInt = (h 23 3).toInt)) ∧ lineQ (h 24) (h 23 2).toInt.toNat (h 23 8).toInt.toNat (h 23 6).toInt.toNat (h 23 7).toInt (h 25 6).toInt (h 25 7).toInt (h 23 10).toInt r5.toInt (g6 23 4).toInt (g6 23 5).toInt (g6 23 6).toInt (h 23 4).toInt (h 23 5).toInt h g6; exact ⟨p7.2.1, e24_g6, by omega, lineQ_none (Or.inl (by omega)) (by omega) (by omega) (by omega)⟩)⟩⟩
    · exact absurd rfl c4
  · have := ti_eqK 1 rfl c2
    refine tx_88 X h  ⟨hmtc, (by show 0 ≤ (h 23 8).toInt ∧ (h 23 8).toInt ≤ (h 23 6).toInt; omega)⟩ _ (fun r11 p12 => ?_)
    have o13 : r11.toInt = wd (h 24) (h 23 8).toInt.toNat (h 23 6).toInt.toNat ∧ (-4 ≤ r11.toInt ∧ r11.toInt ≤ 5) := p12
    show ((r11 = (-4 : Int32) → (qm_PW X 78 [.ref 23, .int 2, .int (h 23 8)] h _)) ∧ (¬ r11 = (-4 : Int32) → ((r11 = 4 → (qm_PW X 80 [.ref 23] h _)) ∧ (¬ r11 = 4 → ((r11 = 5 → (qm_PW X 81 [.ref 23] h _)) ∧ (¬ r11 = 5 → (qm_PW X 44 [.ref 25, .int r11] h _)))))))
    refine ⟨fun c14 => ?_, fun c15 => ?_⟩
    · have := ti_eqK (-4) ti_n4 c14
      refine tx_78 X h (2 : Int32) (h 23 8) trivial _ (fun r16 g17 p18 => ?_)
      have f19 : ∀ k, (k < 23 ∨ 29 < k) → g17 k = h k := fun k hk => (p18.1 k (by omega)).trans (rfl)
      have k20 : mq 25 g17 := by unfold mq; rw [p18.1 25 (by omega)]; exact hm25
      have o21 : (r16 = 0 ∨ r16 = 1) ∧ r16.toInt = 0 ∧ (g17 23 4).toInt = (2 : Int32).toInt ∧ (g17 23 5).toInt = (h 23 8).toInt ∧ ((g17 23 2).toInt = (h 23 2).toInt) ∧ ((g17 23 3).toInt = (h 23 3).toInt) ∧ ((g17 23 6).toInt = (h 23 6).toInt) ∧ ((g17 23 7).toInt = (h 23 7).toInt) ∧ ((g17 23 8).toInt = (h 23 8).toInt) ∧ ((g17 23 9).toInt = (h 23 9).toInt) ∧ ((g17 23 10).toInt = (h 23 10).toInt) := p18.2
      have e24_g17 : g17 24 = h 24 := (p18.1 24 (by omega))
      have e2_g17 : (g17 23 2).toInt = (h 23 2).toInt := (by omega)
      have e25_g17 : g17 25 = h 25 := (p18.1 25 (by omega))
      have e26_g17 : g17 26 = h 26 := (p18.1 26 (by omega))
      have e27_g17 : g17 27 = h 27 := (p18.1 27 (by omega))
      have e28_g17 : g17 28 = h 28 := (p18.1 28 (by omega))
      have e29_g17 : g17 29 = h 29 := (p18.1 29 (by omega))
      show (r16 = 0 ∨ r16 = 1) ∧ Q (some (.int r16)) g17
      exact ⟨p18.2.1, hq r16 g17 ⟨(by have ⟨⟨_, _⟩, _, _⟩ := hmtc; have ⟨⟨_, _⟩, ⟨_, _⟩, _, _⟩ := hm25; have ⟨⟨_, _⟩, ⟨_, _⟩, _, _⟩ := k20; show (0 ≤ (g17 23 2).toInt ∧ (g17 23 2).toInt ≤ 160) ∧ (0 ≤ (g17 23 6).toInt ∧ (g17 23 6).toInt ≤ (g17 23 2).toInt); have : (2 : Int32).toInt = 2 := rfl; omega), k20, (fun k hk => f19 k hk), (by have : (2 : Int32).toInt = 2 := rfl; show (r16 = 0 ∨ r16 = 1) ∧ (g17 24) = (h 24) ∧ (((g17 23 2).toInt = (h 23 2).toInt) ∧ ((g17 23 3).toInt = (h 23 3).toInt)) ∧ lineQ (h 24) (h 23 2).toInt.toNat (h 23 8).toInt.toNat (h 23 6).toInt.toNat (h 23 7).toInt (h 25 6).toInt (h 25 7).toInt (h 23 10).toInt r16.toInt (g17 23 4).toInt (g17 23 5).toInt (g17 23 6).toInt (h 23 4).toInt (h 23 5).toInt h g17; exact ⟨p18.2.1, e24_g17, by omega, lineQ_none (Or.inr (by omega)) (by omega) (by omega) (by omega)⟩)⟩⟩
    · have := ti_neK (-4) ti_n4 c15
      refine ⟨fun c22 => ?_, fun c23 => ?_⟩
      · have := ti_eqK 4 rfl c22
        refine tx_80 X h  ⟨hmtc, hm25, (by show 0 ≤ (h 23 8).toInt; omega)⟩ _ (fun r24 g25 p26 => ?_)
        have f27 : ∀ k, (k < 23 ∨ 29 < k) → g25 k = h k := fun k hk => (p26.2.2.1 k (by omega)).trans (rfl)
        have o28 : (r24 = 0 ∨ r24 = 1) ∧ (g25 24) = (h 24) ∧ (((g25 23 2).toInt = (h 23 2).toInt) ∧ ((g25 23 3).toInt = (h 23 3).toInt) ∧ (g25 25 6).toInt = (h 25 6).toInt ∧ (g25 25 7).toInt = (h 25 7).toInt) ∧ dayQ (h 24) (h 23 2).toInt.toNat (h 23 8).toInt.toNat (h 23 6).toInt.toNat (h 23 10).toInt r24.toInt (g25 23 4).toInt (g25 23 5).toInt (g25 23 6).toInt (g25 25 8).toInt (g25 23 10).toInt (h 23 4).toInt (h 23 5).toInt ∧ (r24.toInt = 0 ∨ (h 23 6).toInt ≤ (g25 23 6).toInt) := p26.2.2.2
        have e24_g25 : g25 24 = h 24 := o28.2.1
        have e2_g25 : (g25 23 2).toInt = (h 23 2).toInt := (by omega)
        have e26_g25 : g25 26 = h 26 := (p26.2.2.1 26 (by omega))
        have e27_g25 : g25 27 = h 27 := (p26.2.2.1 27 (by omega))
        have e28_g25 : g25 28 = h 28 := (p26.2.2.1 28 (by omega))
        have e29_g25 : g25 29 = h 29 := (p26.2.2.1 29 (by omega))
        show (r24 = 0 → (((0 : Int32) = 0 ∨ (0 : Int32) = 1) ∧ Q (some (.int 0)) g25)) ∧ (¬ r24 = 0 → (qm_PW X 83 [.ref 23] g25 _))
        refine ⟨fun c29 => ?_, fun c30 => ?_⟩
        · have := ti_eqK 0 rfl c29
          exact ⟨Or.inl rfl, hq 0 g25 ⟨p26.1, p26.2.1, (fun k hk => f27 k hk), (by have : (0 : Int32).toInt = 0 := rfl; show ((0 : Int32) = 0 ∨ (0 : Int32) = 1) ∧ (g25 24) = (h 24) ∧ (((g25 23 2).toInt = (h 23 2).toInt) ∧ ((g25 23 3).toInt = (h 23 3).toInt)) ∧ lineQ (h 24) (h 23 2).toInt.toNat (h 23 8).toInt.toNat (h 23 6).toInt.toNat (h 23 7).toInt (h 25 6).toInt (h 25 7).toInt (h 23 10).toInt (0 : Int32).toInt (g25 23 4).toInt (g25 23 5).toInt (g25 23 6).toInt (h 23 4).toInt (h 23 5).toInt h g25; exact ⟨Or.inl rfl, e24_g25, by omega, lineQ_d0 (by omega) (by omega) o28.2.2.2.1 (by omega) rfl⟩)⟩⟩
        · have := ti_neK 0 rfl c30
          refine tx_83 X g25  p26.1 _ (fun r31 g32 p33 => ?_)
          have f34 : ∀ k, (k < 23 ∨ 29 < k) → g32 k = h k := fun k hk => (p33.2.1 k (by omega)).trans (f27 k hk)
          have k35 : mq 25 g32 := by unfold mq; rw [p33.2.1 25 (by omega)]; exact p26.2.1
          have o36 : stopR (g25 24) (g25 23 2).toInt.toNat (g25 23 6).toInt.toNat r31.toInt (g32 23 6).toInt (g32 23 4).toInt (g32 23 5).toInt (g25 23 4).toInt (g25 23 5).toInt ∧ (r31 = 0 ∨ r31 = 1) ∧ ((g32 23 2).toInt = (g25 23 2).toInt) ∧ ((g32 23 3).toInt = (g25 23 3).toInt) ∧ ((g32 23 10).toInt = (g25 23 10).toInt) := p33.2.2
          have e24_g32 : g32 24 = h 24 := (p33.2.1 24 (by omega)).trans e24_g25
          have e2_g32 : (g32 23 2).toInt = (h 23 2).toInt := (by omega)
          have d25_g32 : g32 25 = (g25 25) := p33.2.1 25 (by omega)
          have e26_g32 : g32 26 = h 26 := (p33.2.1 26 (by omega)).trans e26_g25
          have e27_g32 : g32 27 = h 27 := (p33.2.1 27 (by omega)).trans e27_g25
          have e28_g32 : g32 28 = h 28 := (p33.2.1 28 (by omega)).trans e28_g25
          have e29_g32 : g32 29 = h 29 := (p33.2.1 29 (by omega)).trans e29_g25
          (try rw [e24_g25] at o36); (try rw [e2_g25] at o36); (try rw [e26_g25] at o36); (try rw [e27_g25] at o36); (try rw [e28_g25] at o36); (try rw [e29_g25] at o36)
          show (r31 = 0 → (((0 : Int32) = 0 ∨ (0 : Int32) = 1) ∧ Q (some (.int 0)) g32)) ∧ (¬ r31 = 0 → (((1 : Int32) = 0 ∨ (1 : Int32) = 1) ∧ Q (some (.int 1)) g32))
          refine ⟨fun c37 => ?_, fun c38 => ?_⟩
          · have := ti_eqK 0 rfl c37
            exact ⟨Or.inl rfl, hq 0 g32 ⟨p33.1, k35, (fun k hk => f34 k hk), (by have : (0 : Int32).toInt = 0 := rfl; show ((0 : Int32) = 0 ∨ (0 : Int32) = 1) ∧ (g32 24) = (h 24) ∧ (((g32 23 2).toInt = (h 23 2).toInt) ∧ ((g32 23 3).toInt = (h 23 3).toInt)) ∧ lineQ (h 24) (h 23 2).toInt.toNat (h 23 8).toInt.toNat (h 23 6).toInt.toNat (h 23 7).toInt (h 25 6).toInt (h 25 7).toInt (h 23 10).toInt (0 : Int32).toInt (g32 23 4).toInt (g32 23 5).toInt (g32 23 6).toInt (h 23 4).toInt (h 23 5).toInt h g32; exact ⟨Or.inl rfl, e24_g32, by omega, lineQ_d1 (by omega) (by omega) o28.2.2.2.1 (by omega) rfl o36.1 (by omega) rfl⟩)⟩⟩
          · have := ti_neK 0 rfl c38
            exact ⟨Or.inr rfl, hq 1 g32 ⟨p33.1, k35, (fun k hk => f34 k hk), (by have : (1 : Int32).toInt = 1 := rfl; show ((1 : Int32) = 0 ∨ (1 : Int32) = 1) ∧ (g32 24) = (h 24) ∧ (((g32 23 2).toInt = (h 23 2).toInt) ∧ ((g32 23 3).toInt = (h 23 3).toInt)) ∧ lineQ (h 24) (h 23 2).toInt.toNat (h 23 8).toInt.toNat (h 23 6).toInt.toNat (h 23 7).toInt (h 25 6).toInt (h 25 7).toInt (h 23 10).toInt (1 : Int32).toInt (g32 23 4).toInt (g32 23 5).toInt (g32 23 6).toInt (h 23 4).toInt (h 23 5).toInt h g32; exact ⟨Or.inr rfl, e24_g32, by omega, lineQ_d2 (by omega) (by omega) o28.2.2.2.1 (by omega) rfl (by omega) o36.1 (by omega) rfl (fun S hS hd => cT_day hS rfl (by rw [d25_g32]; omega) (by rw [d25_g32]; omega) (by rw [d25_g32]) (by omega) e26_g32 e27_g32 e28_g32 e29_g32)⟩)⟩⟩
      · have := ti_neK 4 rfl c23
        refine ⟨fun c39 => ?_, fun c40 => ?_⟩
        · have := ti_eqK 5 rfl c39
          refine tx_81 X h  ⟨hmtc, hm25, (by show 0 ≤ (h 23 8).toInt; omega)⟩ _ (fun r41 g42 p43 => ?_)
          have f44 : ∀ k, (k < 23 ∨ 29 < k) → g42 k = h k := fun k hk => (p43.2.2.1 k (by omega)).trans (rfl)
          have o45 : (r41 = 0 ∨ r41 = 1) ∧ (g42 24) = (h 24) ∧ (((g42 23 2).toInt = (h 23 2).toInt) ∧ ((g42 23 3).toInt = (h 23 3).toInt) ∧ ((g42 23 10).toInt = (h 23 10).toInt)) ∧ (r41.toInt = 0 ∨ (h 23 6).toInt ≤ (g42 23 6).toInt) ∧ ∃ x y z : Int32, tieQ (h 24) (h 23 2).toInt.toNat (h 23 8).toInt.toNat (h 23 6).toInt.toNat (h 25 7).toInt r41.toInt (g42 23 4).toInt (g42 23 5).toInt (g42 23 6).toInt x.toInt y.toInt z.toInt (h 23 4).toInt (h 23 5).toInt ∧ (r41.toInt = 0 ∨ (((g42 25 7).toInt = (h 25 7).toInt + 1 ∧ (g42 25 6).toInt = (h 25 6).toInt ∧ (g42 25 8).toInt = (h 25 8).toInt) ∧ (g42 26) = (h 26) ∧ (g42 27) = upd (h 27) (h 25 7).toInt.toNat x ∧ (g42 28) = upd (h 28) (h 25 7).toInt.toNat y ∧ (g42 29) = upd (h 29) (h 25 7).toInt.toNat z)) := p43.2.2.2
          have e24_g42 : g42 24 = h 24 := o45.2.1
          have e2_g42 : (g42 23 2).toInt = (h 23 2).toInt := (by omega)
          show (r41 = 0 → (((0 : Int32) = 0 ∨ (0 : Int32) = 1) ∧ Q (some (.int 0)) g42)) ∧ (¬ r41 = 0 → (qm_PW X 83 [.ref 23] g42 _))
          refine ⟨fun c46 => ?_, fun c47 => ?_⟩
          · have := ti_eqK 0 rfl c46
            exact ⟨Or.inl rfl, hq 0 g42 ⟨p43.1, p43.2.1, (fun k hk => f44 k hk), (by have : (0 : Int32).toInt = 0 := rfl; show ((0 : Int32) = 0 ∨ (0 : Int32) = 1) ∧ (g42 24) = (h 24) ∧ (((g42 23 2).toInt = (h 23 2).toInt) ∧ ((g42 23 3).toInt = (h 23 3).toInt)) ∧ lineQ (h 24) (h 23 2).toInt.toNat (h 23 8).toInt.toNat (h 23 6).toInt.toNat (h 23 7).toInt (h 25 6).toInt (h 25 7).toInt (h 23 10).toInt (0 : Int32).toInt (g42 23 4).toInt (g42 23 5).toInt (g42 23 6).toInt (h 23 4).toInt (h 23 5).toInt h g42; obtain ⟨x, y, z, hty, hrw⟩ := o45.2.2.2.2; exact ⟨Or.inl rfl, e24_g42, by omega, lineQ_t0 (by omega) (by omega) hty (by omega) rfl⟩)⟩⟩
          · have := ti_neK 0 rfl c47
            refine tx_83 X g42  p43.1 _ (fun r48 g49 p50 => ?_)
            have f51 : ∀ k, (k < 23 ∨ 29 < k) → g49 k = h k := fun k hk => (p50.2.1 k (by omega)).trans (f44 k hk)
            have k52 : mq 25 g49 := by unfold mq; rw [p50.2.1 25 (by omega)]; exact p43.2.1
            have o53 : stopR (g42 24) (g42 23 2).toInt.toNat (g42 23 6).toInt.toNat r48.toInt (g49 23 6).toInt (g49 23 4).toInt (g49 23 5).toInt (g42 23 4).toInt (g42 23 5).toInt ∧ (r48 = 0 ∨ r48 = 1) ∧ ((g49 23 2).toInt = (g42 23 2).toInt) ∧ ((g49 23 3).toInt = (g42 23 3).toInt) ∧ ((g49 23 10).toInt = (g42 23 10).toInt) := p50.2.2
            have e24_g49 : g49 24 = h 24 := (p50.2.1 24 (by omega)).trans e24_g42
            have e2_g49 : (g49 23 2).toInt = (h 23 2).toInt := (by omega)
            have d25_g49 : g49 25 = (g42 25) := p50.2.1 25 (by omega)
            have d26_g49 : g49 26 = (g42 26) := p50.2.1 26 (by omega)
            have d27_g49 : g49 27 = (g42 27) := p50.2.1 27 (by omega)
            have d28_g49 : g49 28 = (g42 28) := p50.2.1 28 (by omega)
            have d29_g49 : g49 29 = (g42 29) := p50.2.1 29 (by omega)
            (try rw [e24_g42] at o53); (try rw [e2_g42] at o53)
            show (r48 = 0 → (((0 : Int32) = 0 ∨ (0 : Int32) = 1) ∧ Q (some (.int 0)) g49)) ∧ (¬ r48 = 0 → (((1 : Int32) = 0 ∨ (1 : Int32) = 1) ∧ Q (some (.int 1)) g49))
            refine ⟨fun c54 => ?_, fun c55 => ?_⟩
            · have := ti_eqK 0 rfl c54
              exact ⟨Or.inl rfl, hq 0 g49 ⟨p50.1, k52, (fun k hk => f51 k hk), (by have : (0 : Int32).toInt = 0 := rfl; show ((0 : Int32) = 0 ∨ (0 : Int32) = 1) ∧ (g49 24) = (h 24) ∧ (((g49 23 2).toInt = (h 23 2).toInt) ∧ ((g49 23 3).toInt = (h 23 3).toInt)) ∧ lineQ (h 24) (h 23 2).toInt.toNat (h 23 8).toInt.toNat (h 23 6).toInt.toNat (h 23 7).toInt (h 25 6).toInt (h 25 7).toInt (h 23 10).toInt (0 : Int32).toInt (g49 23 4).toInt (g49 23 5).toInt (g49 23 6).toInt (h 23 4).toInt (h 23 5).toInt h g49; obtain ⟨x, y, z, hty, hrw⟩ := o45.2.2.2.2; exact ⟨Or.inl rfl, e24_g49, by omega, lineQ_t1 (by omega) (by omega) hty (by omega) rfl o53.1 (by omega) rfl⟩)⟩⟩
            · have := ti_neK 0 rfl c55
              exact ⟨Or.inr rfl, hq 1 g49 ⟨p50.1, k52, (fun k hk => f51 k hk), (by have : (1 : Int32).toInt = 1 := rfl; show ((1 : Int32) = 0 ∨ (1 : Int32) = 1) ∧ (g49 24) = (h 24) ∧ (((g49 23 2).toInt = (h 23 2).toInt) ∧ ((g49 23 3).toInt = (h 23 3).toInt)) ∧ lineQ (h 24) (h 23 2).toInt.toNat (h 23 8).toInt.toNat (h 23 6).toInt.toNat (h 23 7).toInt (h 25 6).toInt (h 25 7).toInt (h 23 10).toInt (1 : Int32).toInt (g49 23 4).toInt (g49 23 5).toInt (g49 23 6).toInt (h 23 4).toInt (h 23 5).toInt h g49; obtain ⟨x, y, z, hty, hrw⟩ := o45.2.2.2.2; have hrx := hrw.resolve_left (by omega); have hr7 := hrx.1; exact ⟨Or.inr rfl, e24_g49, by omega, lineQ_t2 (by omega) (by omega) hty (by omega) rfl (by omega) o53.1 (by omega) rfl (fun S hS => cT_tie hS rfl rfl rfl rfl (by rw [d25_g49]; omega) (by rw [d25_g49]; omega) (by rw [d25_g49]; omega) (by omega) (d26_g49.trans hrx.2.1) (d27_g49.trans hrx.2.2.1) (d28_g49.trans hrx.2.2.2.1) (d29_g49.trans hrx.2.2.2.2))⟩)⟩⟩
        · have := ti_neK 5 rfl c40
          refine tx_44 X h r11 hm25 _ (fun r56 g57 p58 => ?_)
          have f59 : ∀ k, (k < 23 ∨ 29 < k) → g57 k = h k := fun k hk => (p58.2.1 k (by omega)).trans (rfl)
          have k60 : tc g57 := by unfold tc; rw [p58.2.1 23 (by omega)]; exact hmtc
          have o61 : (r56 = 0 ∨ r56 = 1) ∧ ((r56.toInt = 0 ∧ 4 ≤ (h 25 6).toInt) ∨ (r56.toInt = 1 ∧ (h 25 6).toInt < 4 ∧ (g57 25 6).toInt = (h 25 6).toInt + 1 ∧ (g57 25 7).toInt = (h 25 7).toInt ∧ (g57 25 8).toInt = (h 25 8).toInt)) ∧ (r56.toInt = 0 ∨ (g57 26) = upd (h 26) (h 25 6).toInt.toNat r11) := p58.2.2
          have e24_g57 : g57 24 = h 24 := (p58.2.1 24 (by omega))
          have e23_g57 : g57 23 = h 23 := (p58.2.1 23 (by omega))
          have d23_g57 : g57 23 = (h 23) := p58.2.1 23 (by omega)
          have e2_g57 : (g57 23 2).toInt = (h 23 2).toInt := by rw [d23_g57]
          have e27_g57 : g57 27 = h 27 := (p58.2.1 27 (by omega))
          have e28_g57 : g57 28 = h 28 := (p58.2.1 28 (by omega))
          have e29_g57 : g57 29 = h 29 := (p58.2.1 29 (by omega))
          show (¬ r56 = 0 → (qm_PW X 83 [.ref 23] g57 _)) ∧ (r56 = 0 → (qm_PW X 78 [.ref 23, .int 5, .int (g57 23 8)] g57 _))
          refine ⟨fun c62 => ?_, fun c63 => ?_⟩
          · have := ti_neK 0 rfl c62
            refine tx_83 X g57  k60 _ (fun r64 g65 p66 => ?_)
            have f67 : ∀ k, (k < 23 ∨ 29 < k) → g65 k = h k := fun k hk => (p66.2.1 k (by omega)).trans (f59 k hk)
            have k68 : mq 25 g65 := by unfold mq; rw [p66.2.1 25 (by omega)]; exact p58.1
            have o69 : stopR (g57 24) (g57 23 2).toInt.toNat (g57 23 6).toInt.toNat r64.toInt (g65 23 6).toInt (g65 23 4).toInt (g65 23 5).toInt (g57 23 4).toInt (g57 23 5).toInt ∧ (r64 = 0 ∨ r64 = 1) ∧ ((g65 23 2).toInt = (g57 23 2).toInt) ∧ ((g65 23 3).toInt = (g57 23 3).toInt) ∧ ((g65 23 10).toInt = (g57 23 10).toInt) := p66.2.2
            have e24_g65 : g65 24 = h 24 := (p66.2.1 24 (by omega)).trans e24_g57
            have e2_g65 : (g65 23 2).toInt = (h 23 2).toInt := (by omega)
            have d25_g65 : g65 25 = (g57 25) := p66.2.1 25 (by omega)
            have d26_g65 : g65 26 = (g57 26) := p66.2.1 26 (by omega)
            have e27_g65 : g65 27 = h 27 := (p66.2.1 27 (by omega)).trans e27_g57
            have e28_g65 : g65 28 = h 28 := (p66.2.1 28 (by omega)).trans e28_g57
            have e29_g65 : g65 29 = h 29 := (p66.2.1 29 (by omega)).trans e29_g57
            (try rw [e24_g57] at o69); (try rw [e2_g57] at o69); (try rw [e23_g57] at o69); (try rw [e27_g57] at o69); (try rw [e28_g57] at o69); (try rw [e29_g57] at o69)
            show (r64 = 0 → (((0 : Int32) = 0 ∨ (0 : Int32) = 1) ∧ Q (some (.int 0)) g65)) ∧ (¬ r64 = 0 → (((1 : Int32) = 0 ∨ (1 : Int32) = 1) ∧ Q (some (.int 1)) g65))
            refine ⟨fun c70 => ?_, fun c71 => ?_⟩
            · have := ti_eqK 0 rfl c70
              exact ⟨Or.inl rfl, hq 0 g65 ⟨p66.1, k68, (fun k hk => f67 k hk), (by have : (0 : Int32).toInt = 0 := rfl; show ((0 : Int32) = 0 ∨ (0 : Int32) = 1) ∧ (g65 24) = (h 24) ∧ (((g65 23 2).toInt = (h 23 2).toInt) ∧ ((g65 23 3).toInt = (h 23 3).toInt)) ∧ lineQ (h 24) (h 23 2).toInt.toNat (h 23 8).toInt.toNat (h 23 6).toInt.toNat (h 23 7).toInt (h 25 6).toInt (h 25 7).toInt (h 23 10).toInt (0 : Int32).toInt (g65 23 4).toInt (g65 23 5).toInt (g65 23 6).toInt (h 23 4).toInt (h 23 5).toInt h g65; exact ⟨Or.inl rfl, e24_g65, by omega, lineQ_c1 (by omega) (by omega) (by omega) o69.1 (by omega) rfl⟩)⟩⟩
            · have := ti_neK 0 rfl c71
              exact ⟨Or.inr rfl, hq 1 g65 ⟨p66.1, k68, (fun k hk => f67 k hk), (by have : (1 : Int32).toInt = 1 := rfl; show ((1 : Int32) = 0 ∨ (1 : Int32) = 1) ∧ (g65 24) = (h 24) ∧ (((g65 23 2).toInt = (h 23 2).toInt) ∧ ((g65 23 3).toInt = (h 23 3).toInt)) ∧ lineQ (h 24) (h 23 2).toInt.toNat (h 23 8).toInt.toNat (h 23 6).toInt.toNat (h 23 7).toInt (h 25 6).toInt (h 25 7).toInt (h 23 10).toInt (1 : Int32).toInt (g65 23 4).toInt (g65 23 5).toInt (g65 23 6).toInt (h 23 4).toInt (h 23 5).toInt h g65; exact ⟨Or.inr rfl, e24_g65, by omega, lineQ_c2 (by omega) (by omega) (by omega) o69.1 (by omega) rfl (fun S hS => cT_clk (x := r11) hS (by omega) (by omega) (by rw [d25_g65]; omega) (by rw [d25_g65]; omega) (by rw [d25_g65]; omega) (by omega) (d26_g65.trans (o61.2.2.resolve_left (by omega))) e27_g65 e28_g65 e29_g65)⟩)⟩⟩
          · have := ti_eqK 0 rfl c63
            refine tx_78 X g57 (5 : Int32) (g57 23 8) trivial _ (fun r72 g73 p74 => ?_)
            have f75 : ∀ k, (k < 23 ∨ 29 < k) → g73 k = h k := fun k hk => (p74.1 k (by omega)).trans (f59 k hk)
            have k76 : mq 25 g73 := by unfold mq; rw [p74.1 25 (by omega)]; exact p58.1
            have o77 : (r72 = 0 ∨ r72 = 1) ∧ r72.toInt = 0 ∧ (g73 23 4).toInt = (5 : Int32).toInt ∧ (g73 23 5).toInt = (g57 23 8).toInt ∧ ((g73 23 2).toInt = (g57 23 2).toInt) ∧ ((g73 23 3).toInt = (g57 23 3).toInt) ∧ ((g73 23 6).toInt = (g57 23 6).toInt) ∧ ((g73 23 7).toInt = (g57 23 7).toInt) ∧ ((g73 23 8).toInt = (g57 23 8).toInt) ∧ ((g73 23 9).toInt = (g57 23 9).toInt) ∧ ((g73 23 10).toInt = (g57 23 10).toInt) := p74.2
            have e24_g73 : g73 24 = h 24 := (p74.1 24 (by omega)).trans e24_g57
            have e2_g73 : (g73 23 2).toInt = (h 23 2).toInt := (by omega)
            have d25_g73 : g73 25 = (g57 25) := p74.1 25 (by omega)
            have d26_g73 : g73 26 = (g57 26) := p74.1 26 (by omega)
            have e27_g73 : g73 27 = h 27 := (p74.1 27 (by omega)).trans e27_g57
            have e28_g73 : g73 28 = h 28 := (p74.1 28 (by omega)).trans e28_g57
            have e29_g73 : g73 29 = h 29 := (p74.1 29 (by omega)).trans e29_g57
            (try rw [e24_g57] at o77); (try rw [e2_g57] at o77); (try rw [e23_g57] at o77); (try rw [e27_g57] at o77); (try rw [e28_g57] at o77); (try rw [e29_g57] at o77)
            show (r72 = 0 → (((0 : Int32) = 0 ∨ (0 : Int32) = 1) ∧ Q (some (.int 0)) g73)) ∧ (¬ r72 = 0 → (qm_PW X 83 [.ref 23] g73 _))
            refine ⟨fun c78 => ?_, fun c79 => ?_⟩
            · have := ti_eqK 0 rfl c78
              exact ⟨Or.inl rfl, hq 0 g73 ⟨(by have ⟨⟨_, _⟩, _, _⟩ := hmtc; have ⟨⟨_, _⟩, ⟨_, _⟩, _, _⟩ := hm25; have ⟨⟨_, _⟩, ⟨_, _⟩, _, _⟩ := p58.1; have ⟨⟨_, _⟩, _, _⟩ := k60; have ⟨⟨_, _⟩, ⟨_, _⟩, _, _⟩ := k76; show (0 ≤ (g73 23 2).toInt ∧ (g73 23 2).toInt ≤ 160) ∧ (0 ≤ (g73 23 6).toInt ∧ (g73 23 6).toInt ≤ (g73 23 2).toInt); have : (5 : Int32).toInt = 5 := rfl; omega), k76, (fun k hk => f75 k hk), (by have : (5 : Int32).toInt = 5 := rfl; have : (0 : Int32).toInt = 0 := rfl; show ((0 : Int32) = 0 ∨ (0 : Int32) = 1) ∧ (g73 24) = (h 24) ∧ (((g73 23 2).toInt = (h 23 2).toInt) ∧ ((g73 23 3).toInt = (h 23 3).toInt)) ∧ lineQ (h 24) (h 23 2).toInt.toNat (h 23 8).toInt.toNat (h 23 6).toInt.toNat (h 23 7).toInt (h 25 6).toInt (h 25 7).toInt (h 23 10).toInt (0 : Int32).toInt (g73 23 4).toInt (g73 23 5).toInt (g73 23 6).toInt (h 23 4).toInt (h 23 5).toInt h g73; exact ⟨Or.inl rfl, e24_g73, by omega, lineQ_c0 (by omega) (by omega) (by omega) rfl (by omega) (by omega)⟩)⟩⟩
            · have := ti_neK 0 rfl c79
              refine tx_83 X g73  (by have ⟨⟨_, _⟩, _, _⟩ := hmtc; have ⟨⟨_, _⟩, ⟨_, _⟩, _, _⟩ := hm25; have ⟨⟨_, _⟩, ⟨_, _⟩, _, _⟩ := p58.1; have ⟨⟨_, _⟩, _, _⟩ := k60; have ⟨⟨_, _⟩, ⟨_, _⟩, _, _⟩ := k76; show (0 ≤ (g73 23 2).toInt ∧ (g73 23 2).toInt ≤ 160) ∧ (0 ≤ (g73 23 6).toInt ∧ (g73 23 6).toInt ≤ (g73 23 2).toInt); have : (5 : Int32).toInt = 5 := rfl; omega) _ (fun r80 g81 p82 => ?_)
              have f83 : ∀ k, (k < 23 ∨ 29 < k) → g81 k = h k := fun k hk => (p82.2.1 k (by omega)).trans (f75 k hk)
              have k84 : mq 25 g81 := by unfold mq; rw [p82.2.1 25 (by omega)]; exact k76
              have o85 : stopR (g73 24) (g73 23 2).toInt.toNat (g73 23 6).toInt.toNat r80.toInt (g81 23 6).toInt (g81 23 4).toInt (g81 23 5).toInt (g73 23 4).toInt (g73 23 5).toInt ∧ (r80 = 0 ∨ r80 = 1) ∧ ((g81 23 2).toInt = (g73 23 2).toInt) ∧ ((g81 23 3).toInt = (g73 23 3).toInt) ∧ ((g81 23 10).toInt = (g73 23 10).toInt) := p82.2.2
              have e24_g81 : g81 24 = h 24 := (p82.2.1 24 (by omega)).trans e24_g73
              have e2_g81 : (g81 23 2).toInt = (h 23 2).toInt := (by omega)
              have d25_g81 : g81 25 = (g73 25) := p82.2.1 25 (by omega)
              have d26_g81 : g81 26 = (g73 26) := p82.2.1 26 (by omega)
              have e27_g81 : g81 27 = h 27 := (p82.2.1 27 (by omega)).trans e27_g73
              have e28_g81 : g81 28 = h 28 := (p82.2.1 28 (by omega)).trans e28_g73
              have e29_g81 : g81 29 = h 29 := (p82.2.1 29 (by omega)).trans e29_g73
              (try rw [e24_g73] at o85); (try rw [e2_g73] at o85); (try rw [e27_g73] at o85); (try rw [e28_g73] at o85); (try rw [e29_g73] at o85)
              show (r80 = 0 → (((0 : Int32) = 0 ∨ (0 : Int32) = 1) ∧ Q (some (.int 0)) g81)) ∧ (¬ r80 = 0 → (((1 : Int32) = 0 ∨ (1 : Int32) = 1) ∧ Q (some (.int 1)) g81))
              refine ⟨fun c86 => ?_, fun c87 => ?_⟩
              · have := ti_eqK 0 rfl c86
                exact ⟨Or.inl rfl, hq 0 g81 ⟨p82.1, k84, (fun k hk => f83 k hk), (by have : (5 : Int32).toInt = 5 := rfl; have : (0 : Int32).toInt = 0 := rfl; show ((0 : Int32) = 0 ∨ (0 : Int32) = 1) ∧ (g81 24) = (h 24) ∧ (((g81 23 2).toInt = (h 23 2).toInt) ∧ ((g81 23 3).toInt = (h 23 3).toInt)) ∧ lineQ (h 24) (h 23 2).toInt.toNat (h 23 8).toInt.toNat (h 23 6).toInt.toNat (h 23 7).toInt (h 25 6).toInt (h 25 7).toInt (h 23 10).toInt (0 : Int32).toInt (g81 23 4).toInt (g81 23 5).toInt (g81 23 6).toInt (h 23 4).toInt (h 23 5).toInt h g81; exfalso; omega)⟩⟩
              · have := ti_neK 0 rfl c87
                exact ⟨Or.inr rfl, hq 1 g81 ⟨p82.1, k84, (fun k hk => f83 k hk), (by have : (5 : Int32).toInt = 5 := rfl; have : (1 : Int32).toInt = 1 := rfl; show ((1 : Int32) = 0 ∨ (1 : Int32) = 1) ∧ (g81 24) = (h 24) ∧ (((g81 23 2).toInt = (h 23 2).toInt) ∧ ((g81 23 3).toInt = (h 23 3).toInt)) ∧ lineQ (h 24) (h 23 2).toInt.toNat (h 23 8).toInt.toNat (h 23 6).toInt.toNat (h 23 7).toInt (h 25 6).toInt (h 25 7).toInt (h 23 10).toInt (1 : Int32).toInt (g81 23 4).toInt (g81 23 5).toInt (g81 23 6).toInt (h 23 4).toInt (h 23 5).toInt h g81; exfalso; omega)⟩⟩
