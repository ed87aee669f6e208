-- ThreadBank$TextReader.isWhole()Z
set_option maxRecDepth 100000 in
set_option maxHeartbeats 4000000 in
theorem tx_84_c (X : qm_X) (h : qm_H) (hp : tc h ∧ mq 25 h) (Q : qm_Q) (hq : ∀ r : Int32, ∀ h' : qm_H, (tc h' ∧ mq 25 h' ∧ (∀ k, (k < 23 ∨ 23 < k) → h' k = h k) ∧ ((r = 0 ∨ r = 1) ∧ (((h' 23 2).toInt = (h 23 2).toInt) ∧ ((h' 23 3).toInt = (h 23 3).toInt) ∧ ((h' 23 6).toInt = (h 23 6).toInt) ∧ ((h' 23 10).toInt = (h 23 10).toInt)) ∧ whQ r.toInt (h' 23 4).toInt (h' 23 5).toInt (h 23 4).toInt (h 23 5).toInt (h 23 2).toInt h)) → Q (some (.int r)) h') : ∀ n : Nat, (∀ (l1 : Int32), ((0 ≤ l1.toInt ∧ l1.toInt ≤ (h 25 7).toInt) ∧ ∀ j : Nat, (j : Int) < l1.toInt → ((0 ≤ (h 27 j).toInt ∧ (h 27 j).toInt / 10 < (h 25 6).toInt ∧ (h 27 j).toInt % 10 < 5) ∧ (0 ≤ (h 28 j).toInt ∧ (h 28 j).toInt / 10 < (h 25 6).toInt ∧ (h 28 j).toInt % 10 < (h 25 6).toInt ∧ ¬ (h 28 j).toInt / 10 = (h 28 j).toInt % 10))) → (30 - l1.toInt).toNat < n → qm_PA X 84 2 [(0, .ref 23), (1, .int l1)] [] h Q) ∧ (∀ (l1 : Int32), ((0 ≤ l1.toInt ∧ l1.toInt ≤ (h 25 7).toInt) ∧ (∀ j : Nat, (j : Int) < (h 25 7).toInt → ((0 ≤ (h 27 j).toInt ∧ (h 27 j).toInt / 10 < (h 25 6).toInt ∧ (h 27 j).toInt % 10 < 5) ∧ (0 ≤ (h 28 j).toInt ∧ (h 28 j).toInt / 10 < (h 25 6).toInt ∧ (h 28 j).toInt % 10 < (h 25 6).toInt ∧ ¬ (h 28 j).toInt / 10 = (h 28 j).toInt % 10))) ∧ ∀ j : Nat, (j : Int) < l1.toInt → cntR (h 27) (h 25 7).toInt.toNat (h 27 j).toInt ≤ rmC (h 26 ((h 27 j).toInt / 10).toNat).toInt ((h 27 j).toInt % 10)) → (10 - l1.toInt).toNat < n → qm_PA X 84 70 [(0, .ref 23), (1, .int l1)] [] h Q) := by
  have hmtc : tc h := hp.1
  have ⟨⟨_, _⟩, _, _⟩ := hmtc
  have hm25 : mq 25 h := hp.2
  have ⟨⟨_, _⟩, ⟨_, _⟩, _, _⟩ := hm25
  intro n
  induction n with
  | zero => exact ⟨fun _ _ h0 => absurd h0 (Nat.not_lt_zero _), fun _ _ h0 => absurd h0 (Nat.not_lt_zero _)⟩
  | succ n ih =>
    refine ⟨?_, ?_⟩
    · intro l1 hi hr
      refine qm_seg_ok (C := qc_84) (rt := some .boolean) rfl rfl (cuts := [(2, [0, 1]), (70, [0, 1])]) 400 _ _ _ _ ?_
      show ((h 25 7).toInt ≤ l1.toInt → (qm_PA X 84 70 [(0, .ref 23), (1, .int 0)] [] h Q)) ∧ (l1.toInt < (h 25 7).toInt → ((0 ≤ l1.toInt ∧ l1.toInt < 10) ∧ (qm_PW X 30 [.ref 25, .int (h 27 l1.toInt.toNat)] h _)))
      refine ⟨fun c1 => ?_, fun c2 => ?_⟩
      · exact ih.2 (0 : Int32) (by have : (0 : Int32).toInt = 0 := rfl; first | exact ⟨by have : (0 : Int32).toInt = 0 := rfl; omega, fun j hj => hi.2 j (by omega), fun j hj => absurd hj (by have : (0 : Int32).toInt = 0 := rfl; omega)⟩ | exact ⟨by omega, hi.2.1, fun j hj => if hj2 : (j : Int) < l1.toInt then hi.2.2 j hj2 else (by rw [show j = l1.toInt.toNat by omega]; have q3 := hi.2.1 l1.toInt.toNat (by omega); omega)⟩) (by have : (0 : Int32).toInt = 0 := rfl; omega)
      · refine ⟨(by omega), ?_⟩
        refine tx_30_25 X h (h 27 l1.toInt.toNat) trivial _ (fun r3 p4 => ?_)
        have o5 : (r3 = 0 ∨ r3 = 1) ∧ ((r3.toInt = 1 ∧ 0 ≤ (h 27 l1.toInt.toNat).toInt ∧ (h 27 l1.toInt.toNat).toInt / 10 < (h 25 6).toInt ∧ (h 27 l1.toInt.toNat).toInt % 10 < 5) ∨ (r3.toInt = 0 ∧ ¬ (0 ≤ (h 27 l1.toInt.toNat).toInt ∧ (h 27 l1.toInt.toNat).toInt / 10 < (h 25 6).toInt ∧ (h 27 l1.toInt.toNat).toInt % 10 < 5))) := p4
        show (r3 = 0 → (qm_PW X 78 [.ref 23, .int 6, .int (h 23 2)] h _)) ∧ (¬ r3 = 0 → ((0 ≤ l1.toInt ∧ l1.toInt < 10) ∧ (qm_PW X 31 [.ref 25, .int (h 28 l1.toInt.toNat)] h _)))
        refine ⟨fun c6 => ?_, fun c7 => ?_⟩
        · have := ti_eqK 0 rfl c6
          refine tx_78 X h (6 : Int32) (h 23 2) trivial _ (fun r8 g9 p10 => ?_)
          have f11 : ∀ k, (k < 23 ∨ 23 < k) → g9 k = h k := fun k hk => (p10.1 k (by omega)).trans (rfl)
          have k12 : mq 25 g9 := by unfold mq; rw [p10.1 25 (by omega)]; exact hm25
          have o13 : (r8 = 0 ∨ r8 = 1) ∧ r8.toInt = 0 ∧ (g9 23 4).toInt = (6 : Int32).toInt ∧ (g9 23 5).toInt = (h 23 2).toInt ∧ ((g9 23 2).toInt = (h 23 2).toInt) ∧ ((g9 23 3).toInt = (h 23 3).toInt) ∧ ((g9 23 6).toInt = (h 23 6).toInt) ∧ ((g9 23 7).toInt = (h 23 7).toInt) ∧ ((g9 23 8).toInt = (h 23 8).toInt) ∧ ((g9 23 9).toInt = (h 23 9).toInt) ∧ ((g9 23 10).toInt = (h 23 10).toInt) := p10.2
          have e24_g9 : g9 24 = h 24 := (p10.1 24 (by omega))
          have e2_g9 : (g9 23 2).toInt = (h 23 2).toInt := (by omega)
          show (r8 = 0 ∨ r8 = 1) ∧ Q (some (.int r8)) g9
          exact ⟨p10.2.1, hq r8 g9 ⟨(by have ⟨⟨_, _⟩, _, _⟩ := hmtc; have ⟨⟨_, _⟩, ⟨_, _⟩, _, _⟩ := hm25; have ⟨⟨_, _⟩, ⟨_, _⟩, _, _⟩ := k12; show (0 ≤ (g9 23 2).toInt ∧ (g9 23 2).toInt ≤ 160) ∧ (0 ≤ (g9 23 6).toInt ∧ (g9 23 6).toInt ≤ (g9 23 2).toInt); have : (6 : Int32).toInt = 6 := rfl; omega), k12, (fun k hk => f11 k hk), (by have : (6 : Int32).toInt = 6 := rfl; show (r8 = 0 ∨ r8 = 1) ∧ (((g9 23 2).toInt = (h 23 2).toInt) ∧ ((g9 23 3).toInt = (h 23 3).toInt) ∧ ((g9 23 6).toInt = (h 23 6).toInt) ∧ ((g9 23 10).toInt = (h 23 10).toInt)) ∧ whQ r8.toInt (g9 23 4).toInt (g9 23 5).toInt (h 23 4).toInt (h 23 5).toInt (h 23 2).toInt h; exact ⟨p10.2.1, by omega, Or.inr (Or.inl ⟨by omega, fun q => by have q2 := q l1.toInt.toNat (by omega); omega, by omega, by omega⟩)⟩)⟩⟩
        · have := ti_neK 0 rfl c7
          refine ⟨(by omega), ?_⟩
          refine tx_31_25 X h (h 28 l1.toInt.toNat) trivial _ (fun r14 p15 => ?_)
          have o16 : (r14 = 0 ∨ r14 = 1) ∧ ((r14.toInt = 1 ∧ 0 ≤ (h 28 l1.toInt.toNat).toInt ∧ (h 28 l1.toInt.toNat).toInt / 10 < (h 25 6).toInt ∧ (h 28 l1.toInt.toNat).toInt % 10 < (h 25 6).toInt ∧ ¬ (h 28 l1.toInt.toNat).toInt / 10 = (h 28 l1.toInt.toNat).toInt % 10) ∨ (r14.toInt = 0 ∧ ¬ (0 ≤ (h 28 l1.toInt.toNat).toInt ∧ (h 28 l1.toInt.toNat).toInt / 10 < (h 25 6).toInt ∧ (h 28 l1.toInt.toNat).toInt % 10 < (h 25 6).toInt ∧ ¬ (h 28 l1.toInt.toNat).toInt / 10 = (h 28 l1.toInt.toNat).toInt % 10))) := p15
          show (¬ r14 = 0 → (qm_PA X 84 2 [(0, .ref 23), (1, .int (l1 + 1))] [] h Q)) ∧ (r14 = 0 → (qm_PW X 78 [.ref 23, .int 6, .int (h 23 2)] h _))
          refine ⟨fun c17 => ?_, fun c18 => ?_⟩
          · have := ti_neK 0 rfl c17
            exact ih.1 (l1 + 1) (by have := ti_addK l1 (1 : Int32) 1 rfl; first | exact ⟨by have : (0 : Int32).toInt = 0 := rfl; omega, fun j hj => absurd hj (by have : (0 : Int32).toInt = 0 := rfl; omega)⟩ | exact ⟨by omega, fun j hj => if hj2 : (j : Int) < l1.toInt then hi.2 j hj2 else (by rw [show j = l1.toInt.toNat by omega]; omega)⟩) (by have := ti_addK l1 (1 : Int32) 1 rfl; omega)
          · have := ti_eqK 0 rfl c18
            refine tx_78 X h (6 : Int32) (h 23 2) trivial _ (fun r19 g20 p21 => ?_)
            have f22 : ∀ k, (k < 23 ∨ 23 < k) → g20 k = h k := fun k hk => (p21.1 k (by omega)).trans (rfl)
            have k23 : mq 25 g20 := by unfold mq; rw [p21.1 25 (by omega)]; exact hm25
            have o24 : (r19 = 0 ∨ r19 = 1) ∧ r19.toInt = 0 ∧ (g20 23 4).toInt = (6 : Int32).toInt ∧ (g20 23 5).toInt = (h 23 2).toInt ∧ ((g20 23 2).toInt = (h 23 2).toInt) ∧ ((g20 23 3).toInt = (h 23 3).toInt) ∧ ((g20 23 6).toInt = (h 23 6).toInt) ∧ ((g20 23 7).toInt = (h 23 7).toInt) ∧ ((g20 23 8).toInt = (h 23 8).toInt) ∧ ((g20 23 9).toInt = (h 23 9).toInt) ∧ ((g20 23 10).toInt = (h 23 10).toInt) := p21.2
            have e24_g20 : g20 24 = h 24 := (p21.1 24 (by omega))
            have e2_g20 : (g20 23 2).toInt = (h 23 2).toInt := (by omega)
            show (r19 = 0 ∨ r19 = 1) ∧ Q (some (.int r19)) g20
            exact ⟨p21.2.1, hq r19 g20 ⟨(by have ⟨⟨_, _⟩, _, _⟩ := hmtc; have ⟨⟨_, _⟩, ⟨_, _⟩, _, _⟩ := hm25; have ⟨⟨_, _⟩, ⟨_, _⟩, _, _⟩ := k23; show (0 ≤ (g20 23 2).toInt ∧ (g20 23 2).toInt ≤ 160) ∧ (0 ≤ (g20 23 6).toInt ∧ (g20 23 6).toInt ≤ (g20 23 2).toInt); have : (6 : Int32).toInt = 6 := rfl; omega), k23, (fun k hk => f22 k hk), (by have : (6 : Int32).toInt = 6 := rfl; show (r19 = 0 ∨ r19 = 1) ∧ (((g20 23 2).toInt = (h 23 2).toInt) ∧ ((g20 23 3).toInt = (h 23 3).toInt) ∧ ((g20 23 6).toInt = (h 23 6).toInt) ∧ ((g20 23 10).toInt = (h 23 10).toInt)) ∧ whQ r19.toInt (g20 23 4).toInt (g20 23 5).toInt (h 23 4).toInt (h 23 5).toInt (h 23 2).toInt h; exact ⟨p21.2.1, by omega, Or.inr (Or.inl ⟨by omega, fun q => by have q2 := q l1.toInt.toNat (by omega); omega, by omega, by omega⟩)⟩)⟩⟩
    · intro l1 hi hr
      refine qm_seg_ok (C := qc_84) (rt := some .boolean) rfl rfl (cuts := [(2, [0, 1]), (70, [0, 1])]) 400 _ _ _ _ ?_
      show ((h 25 7).toInt ≤ l1.toInt → (((1 : Int32) = 0 ∨ (1 : Int32) = 1) ∧ Q (some (.int 1)) h)) ∧ (l1.toInt < (h 25 7).toInt → ((0 ≤ l1.toInt ∧ l1.toInt < 10) ∧ (qm_PW X 40 [.ref 25, .int (h 27 l1.toInt.toNat)] h _)))
      refine ⟨fun c1 => ?_, fun c2 => ?_⟩
      · exact ⟨Or.inr rfl, hq 1 h ⟨hmtc, hm25, (fun k hk => rfl), (by have : (1 : Int32).toInt = 1 := rfl; show ((1 : Int32) = 0 ∨ (1 : Int32) = 1) ∧ (((h 23 2).toInt = (h 23 2).toInt) ∧ ((h 23 3).toInt = (h 23 3).toInt) ∧ ((h 23 6).toInt = (h 23 6).toInt) ∧ ((h 23 10).toInt = (h 23 10).toInt)) ∧ whQ (1 : Int32).toInt (h 23 4).toInt (h 23 5).toInt (h 23 4).toInt (h 23 5).toInt (h 23 2).toInt h; exact ⟨Or.inr rfl, by omega, Or.inl ⟨rfl, hi.2.1, fun j hj => hi.2.2 j (by omega), rfl, rfl⟩⟩)⟩⟩
      · refine ⟨(by omega), ?_⟩
        refine tx_40_25 X h (h 27 l1.toInt.toNat) hm25 _ (fun r3 p4 => ?_)
        have o5 : ((0 ≤ (h 27 l1.toInt.toNat).toInt ∧ (h 27 l1.toInt.toNat).toInt / 10 < (h 25 6).toInt ∧ (h 27 l1.toInt.toNat).toInt % 10 < 5) ∧ r3.toInt = rmC (h 26 ((h 27 l1.toInt.toNat).toInt / 10).toNat).toInt ((h 27 l1.toInt.toNat).toInt % 10) - cntR (h 27) (h 25 7).toInt.toNat (h 27 l1.toInt.toNat).toInt) ∨ (¬ (0 ≤ (h 27 l1.toInt.toNat).toInt ∧ (h 27 l1.toInt.toNat).toInt / 10 < (h 25 6).toInt ∧ (h 27 l1.toInt.toNat).toInt % 10 < 5) ∧ r3.toInt = - cntR (h 27) (h 25 7).toInt.toNat (h 27 l1.toInt.toNat).toInt) := p4
        show (0 ≤ r3.toInt → (qm_PA X 84 70 [(0, .ref 23), (1, .int (l1 + 1))] [] h Q)) ∧ (r3.toInt < 0 → (qm_PW X 78 [.ref 23, .int 7, .int (h 23 2)] h _))
        refine ⟨fun c6 => ?_, fun c7 => ?_⟩
        · exact ih.2 (l1 + 1) (by have := ti_addK l1 (1 : Int32) 1 rfl; first | exact ⟨by have : (0 : Int32).toInt = 0 := rfl; omega, fun j hj => hi.2 j (by omega), fun j hj => absurd hj (by have : (0 : Int32).toInt = 0 := rfl; omega)⟩ | exact ⟨by omega, hi.2.1, fun j hj => if hj2 : (j : Int) < l1.toInt then hi.2.2 j hj2 else (by rw [show j = l1.toInt.toNat by omega]; have q3 := hi.2.1 l1.toInt.toNat (by omega); omega)⟩) (by have := ti_addK l1 (1 : Int32) 1 rfl; omega)
        · refine tx_78 X h (7 : Int32) (h 23 2) trivial _ (fun r8 g9 p10 => ?_)
          have f11 : ∀ k, (k < 23 ∨ 23 < k) → g9 k = h k := fun k hk => (p10.1 k (by omega)).trans (rfl)
          have k12 : mq 25 g9 := by unfold mq; rw [p10.1 25 (by omega)]; exact hm25
          have o13 : (r8 = 0 ∨ r8 = 1) ∧ r8.toInt = 0 ∧ (g9 23 4).toInt = (7 : Int32).toInt ∧ (g9 23 5).toInt = (h 23 2).toInt ∧ ((g9 23 2).toInt = (h 23 2).toInt) ∧ ((g9 23 3).toInt = (h 23 3).toInt) ∧ ((g9 23 6).toInt = (h 23 6).toInt) ∧ ((g9 23 7).toInt = (h 23 7).toInt) ∧ ((g9 23 8).toInt = (h 23 8).toInt) ∧ ((g9 23 9).toInt = (h 23 9).toInt) ∧ ((g9 23 10).toInt = (h 23 10).toInt) := p10.2
          have e24_g9 : g9 24 = h 24 := (p10.1 24 (by omega))
          have e2_g9 : (g9 23 2).toInt = (h 23 2).toInt := (by omega)
          show (r8 = 0 ∨ r8 = 1) ∧ Q (some (.int r8)) g9
          exact ⟨p10.2.1, hq r8 g9 ⟨(by have ⟨⟨_, _⟩, _, _⟩ := hmtc; have ⟨⟨_, _⟩, ⟨_, _⟩, _, _⟩ := hm25; have ⟨⟨_, _⟩, ⟨_, _⟩, _, _⟩ := k12; show (0 ≤ (g9 23 2).toInt ∧ (g9 23 2).toInt ≤ 160) ∧ (0 ≤ (g9 23 6).toInt ∧ (g9 23 6).toInt ≤ (g9 23 2).toInt); have : (7 : Int32).toInt = 7 := rfl; omega), k12, (fun k hk => f11 k hk), (by have : (7 : Int32).toInt = 7 := rfl; show (r8 = 0 ∨ r8 = 1) ∧ (((g9 23 2).toInt = (h 23 2).toInt) ∧ ((g9 23 3).toInt = (h 23 3).toInt) ∧ ((g9 23 6).toInt = (h 23 6).toInt) ∧ ((g9 23 10).toInt = (h 23 10).toInt)) ∧ whQ r8.toInt (g9 23 4).toInt (g9 23 5).toInt (h 23 4).toInt (h 23 5).toInt (h 23 2).toInt h; exact ⟨p10.2.1, by omega, Or.inr (Or.inr ⟨by omega, hi.2.1, fun q => by have q2 := q l1.toInt.toNat (by omega); have q3 := hi.2.1 l1.toInt.toNat (by omega); omega, by omega, by omega⟩)⟩)⟩⟩
set_option maxRecDepth 100000 in
set_option maxHeartbeats 4000000 in
theorem tx_84 (X : qm_X) (h : qm_H) (hp : tc h ∧ mq 25 h) (Q : qm_Q) (hq : ∀ r : Int32, ∀ h' : qm_H, (tc h' ∧ mq 25 h' ∧ (∀ k, (k < 23 ∨ 23 < k) → h' k = h k) ∧ ((r = 0 ∨ r = 1) ∧ (((h' 23 2).toInt = (h 23 2).toInt) ∧ ((h' 23 3).toInt = (h 23 3).toInt) ∧ ((h' 23 6).toInt = (h 23 6).toInt) ∧ ((h' 23 10).toInt = (h 23 10).toInt)) ∧ whQ r.toInt (h' 23 4).toInt (h' 23 5).toInt (h 23 4).toInt (h 23 5).toInt (h 23 2).toInt h)) → Q (some (.int r)) h') : qm_PW X 84 [.ref 23] h Q := by
  have hmtc : tc h := hp.1
  have ⟨⟨_, _⟩, _, _⟩ := hmtc
  have hm25 : mq 25 h := hp.2
  have ⟨⟨_, _⟩, ⟨_, _⟩, _, _⟩ := hm25
  refine qm_seg_ok (C := qc_84) (rt := some .boolean) rfl rfl (cuts := [(2, [0, 1]), (70, [0, 1])]) 400 _ _ _ _ ?_
  show qm_PA X 84 2 [(0, .ref 23), (1, .int 0)] [] h Q
  exact (tx_84_c X h hp Q hq _).1 (0 : Int32) (by have : (0 : Int32).toInt = 0 := rfl; first | exact ⟨by have : (0 : Int32).toInt = 0 := rfl; omega, fun j hj => absurd hj (by have : (0 : Int32).toInt = 0 := rfl; omega)⟩ | exact ⟨by omega, fun j hj => if hj2 : (j : Int) < l1.toInt then hi.2 j hj2 else (by rw [show j = l1.toInt.toNat by omega]; omega)⟩) (Nat.lt_succ_self _)
-- ThreadBank$Memory.wipe()V
set_option maxRecDepth 100000 in
set_option maxHeartbeats 4000000 in
theorem tx_22 (X : qm_X) (h : qm_H) (hp : True) (Q : qm_Q) (hq : ∀ h' : qm_H, (mq 25 h' ∧ z9 h' ∧ (∀ k, (k < 25 ∨ 25 < k) → h' k = h k) ∧ ((h' 25 6).toInt = 0 ∧ (h' 25 7).toInt = 0 ∧ (h' 25 8).toInt = 0 ∧ (h' 25 9).toInt = 0)) → Q none h') : qm_PW X 22 [.ref 25] h Q := by
  refine qm_seg_ok (C := qc_22) (rt := none) rfl rfl (cuts := []) 400 _ _ _ _ ?_
  show Q none (qm_row (qm_row (qm_row (qm_row h 25 (upd (h 25) 6 0)) 25 (upd (upd (h 25) 6 0) 7 0)) 25 (upd (upd (upd (h 25) 6 0) 7 0) 8 0)) 25 (upd (upd (upd (upd (h 25) 6 0) 7 0) 8 0) 9 0))
  exact hq (qm_row (qm_row (qm_row (qm_row h 25 (upd (h 25) 6 0)) 25 (upd (upd (h 25) 6 0) 7 0)) 25 (upd (upd (upd (h 25) 6 0) 7 0) 8 0)) 25 (upd (upd (upd (upd (h 25) 6 0) 7 0) 8 0) 9 0)) ⟨(by show (0 ≤ (0 : Int) ∧ (0 : Int) ≤ 4) ∧ (0 ≤ (0 : Int) ∧ (0 : Int) ≤ 10) ∧ (0 ≤ (0 : Int) ∧ (0 : Int) ≤ 6); omega), (by show (0 ≤ (0 : Int) ∧ (0 : Int) ≤ 0); omega), (fun k hk => by simp only [qm_row]; rw [if_neg (by omega)]; rw [if_neg (by omega)]; rw [if_neg (by omega)]; rw [if_neg (by omega)]), (by have : (0 : Int32).toInt = 0 := rfl; show (0 : Int32).toInt = 0 ∧ (0 : Int32).toInt = 0 ∧ (0 : Int32).toInt = 0 ∧ (0 : Int32).toInt = 0; omega)⟩
-- ThreadBank$TextReader.begin()V
set_option maxRecDepth 100000 in
set_option maxHeartbeats 4000000 in
theorem tx_77 (X : qm_X) (h : qm_H) (hp : 0 ≤ (h 23 2).toInt ∧ (h 23 2).toInt ≤ 160) (Q : qm_Q) (hq : ∀ h' : qm_H, (tc h' ∧ mq 25 h' ∧ z9 h' ∧ (∀ k, (k < 23 ∨ 25 < k) → h' k = h k) ∧ ((h' 24) = (h 24) ∧ (((h' 23 2).toInt = (h 23 2).toInt) ∧ (h' 23 3).toInt = 0 ∧ (h' 23 4).toInt = 0 ∧ (h' 23 5).toInt = 0 ∧ (h' 23 6).toInt = 0 ∧ (h' 23 10).toInt = 0 ∧ (h' 25 6).toInt = 0 ∧ (h' 25 7).toInt = 0 ∧ (h' 25 8).toInt = 0 ∧ (h' 25 9).toInt = 0))) → Q none h') : qm_PW X 77 [.ref 23] h Q := by
  have hp0 : 0 ≤ (h 23 2).toInt ∧ (h 23 2).toInt ≤ 160 := hp
  refine qm_seg_ok (C := qc_77) (rt := none) rfl rfl (cuts := []) 400 _ _ _ _ ?_
  show qm_PW X 22 [.ref 25] h _
  refine tx_22 X h  trivial _ (fun g1 p2 => ?_)
  have f3 : ∀ k, (k < 23 ∨ 25 < k) → g1 k = h k := fun k hk => (p2.2.2.1 k (by omega)).trans (rfl)
  have o4 : (g1 25 6).toInt = 0 ∧ (g1 25 7).toInt = 0 ∧ (g1 25 8).toInt = 0 ∧ (g1 25 9).toInt = 0 := p2.2.2.2
  have e24_g1 : g1 24 = h 24 := (p2.2.2.1 24 (by omega))
  have e23_g1 : g1 23 = h 23 := (p2.2.2.1 23 (by omega))
  have d23_g1 : g1 23 = (h 23) := p2.2.2.1 23 (by omega)
  have e2_g1 : (g1 23 2).toInt = (h 23 2).toInt := by rw [d23_g1]
  show ((0 : Int32) = 0 ∨ (0 : Int32) = 1) ∧ (Q none (qm_row (qm_row (qm_row (qm_row (qm_row g1 23 (upd (g1 23) 3 0)) 23 (upd (upd (g1 23) 3 0) 4 0)) 23 (upd (upd (upd (g1 23) 3 0) 4 0) 5 0)) 23 (upd (upd (upd (upd (g1 23) 3 0) 4 0) 5 0) 6 0)) 23 (upd (upd (upd (upd (upd (g1 23) 3 0) 4 0) 5 0) 6 0) 10 0)))
  refine ⟨Or.inl rfl, ?_⟩
  exact hq (qm_row (qm_row (qm_row (qm_row (qm_row g1 23 (upd (g1 23) 3 0)) 23 (upd (upd (g1 23) 3 0) 4 0)) 23 (upd (upd (upd (g1 23) 3 0) 4 0) 5 0)) 23 (upd (upd (upd (upd (g1 23) 3 0) 4 0) 5 0) 6 0)) 23 (upd (upd (upd (upd (upd (g1 23) 3 0) 4 0) 5 0) 6 0) 10 0)) ⟨(by have ⟨⟨_, _⟩, ⟨_, _⟩, _, _⟩ := p2.1; have ⟨_, _⟩ := p2.2.1; show (0 ≤ (g1 23 2).toInt ∧ (g1 23 2).toInt ≤ 160) ∧ (0 ≤ (0 : Int) ∧ (0 : Int) ≤ (g1 23 2).toInt); omega), (by exact p2.1), (by exact p2.2.1), (fun k hk => by simp only [qm_row]; rw [if_neg (by omega)]; rw [if_neg (by omega)]; rw [if_neg (by omega)]; rw [if_neg (by omega)]; rw [if_neg (by omega)]; exact f3 k hk), (by have : (0 : Int32).toInt = 0 := rfl; show (g1 24) = (h 24) ∧ (((g1 23 2).toInt = (h 23 2).toInt) ∧ (0 : Int32).toInt = 0 ∧ (0 : Int32).toInt = 0 ∧ (0 : Int32).toInt = 0 ∧ (0 : Int32).toInt = 0 ∧ (0 : Int32).toInt = 0 ∧ (g1 25 6).toInt = 0 ∧ (g1 25 7).toInt = 0 ∧ (g1 25 8).toInt = 0 ∧ (g1 25 9).toInt = 0); exact ⟨e24_g1, by first | omega | (refine ⟨?_, ?_, ?_, ?_, ?_, ?_, ?_⟩ <;> first | rfl | omega)⟩)⟩
-- ThreadBank$TextReader.readAll()Z
set_option maxRecDepth 100000 in
set_option maxHeartbeats 4000000 in
theorem tx_76_c (X : qm_X) (h : qm_H) (hp : 0 ≤ (h 23 2).toInt ∧ (h 23 2).toInt ≤ 160) (Q : qm_Q) (hq : ∀ r : Int32, ∀ h' : qm_H, (tc h' ∧ mq 25 h' ∧ z9 h' ∧ (∀ k, (k < 23 ∨ 31 < k) → h' k = h k) ∧ ((r = 0 ∨ r = 1) ∧ (h' 24) = (h 24) ∧ (((h' 23 2).toInt = (h 23 2).toInt)) ∧ rdQ (txF (h 24) (h 23 2).toInt.toNat 161 0 0 txS) r.toInt (h' 23 4).toInt (h' 23 5).toInt (h' 23 3).toInt (h 23 2).toInt h')) → Q (some (.int r)) h') : ∀ n : Nat, (∀ (l1 : Int32) (g : qm_H), ((rdI (h 24) (h 23 2).toInt.toNat l1.toInt (g 23 6).toInt g ∧ ((0 ≤ l1.toInt ∧ l1.toInt ≤ (g 23 6).toInt) ∧ (g 23 3).toInt = l1.toInt ∧ (g 23 4).toInt = 0 ∧ (g 23 5).toInt = 0 ∧ (g 23 2).toInt = (h 23 2).toInt) ∧ g 24 = h 24) ∧ tc g ∧ mq 25 g ∧ z9 g ∧ ∀ k, (k < 23 ∨ 31 < k) → g k = h k) → (161 - l1.toInt).toNat < n → qm_PA X 76 6 [(0, .ref 23), (1, .int l1)] [] g Q) := by
  have hp0 : 0 ≤ (h 23 2).toInt ∧ (h 23 2).toInt ≤ 160 := hp
  intro n
  induction n with
  | zero => exact fun _ _ _ h0 => absurd h0 (Nat.not_lt_zero _)
  | succ n ih =>
    intro l1 g hi hr
    obtain ⟨hi0, hgtc, hg25, hgz9, hgf⟩ := hi
    have ⟨⟨_, _⟩, _, _⟩ := hgtc
    have ⟨⟨_, _⟩, ⟨_, _⟩, _, _⟩ := hg25
    have ⟨_, _⟩ := hgz9
    have e24_g : g 24 = h 24 := hi0.2.2
    have hi2 := hi0.2.1
    have e2_g : (g 23 2).toInt = (h 23 2).toInt := (by omega)
    refine qm_seg_ok (C := qc_76) (rt := some .boolean) rfl rfl (cuts := [(6, [0, 1])]) 400 _ _ _ _ ?_
    show (160 < l1.toInt → (((0 : Int32) = 0 ∨ (0 : Int32) = 1) ∧ Q (some (.int 0)) g)) ∧ (l1.toInt ≤ 160 → (qm_PW X 85 [.ref 23] g _))
    refine ⟨fun c1 => ?_, fun c2 => ?_⟩
    · exact ⟨Or.inl rfl, hq 0 g ⟨hgtc, hg25, hgz9, (fun k hk => hgf k hk), (by have : (0 : Int32).toInt = 0 := rfl; show ((0 : Int32) = 0 ∨ (0 : Int32) = 1) ∧ (g 24) = (h 24) ∧ (((g 23 2).toInt = (h 23 2).toInt)) ∧ rdQ (txF (h 24) (h 23 2).toInt.toNat 161 0 0 txS) (0 : Int32).toInt (g 23 4).toInt (g 23 5).toInt (g 23 3).toInt (h 23 2).toInt g; exfalso; omega)⟩⟩
    · refine tx_85 X g  hgtc _ (fun r3 g4 p5 => ?_)
      have f6 : ∀ k, (k < 23 ∨ 31 < k) → g4 k = h k := fun k hk => (p5.2.1 k (by omega)).trans (hgf k hk)
      have k7 : mq 25 g4 := by unfold mq; rw [p5.2.1 25 (by omega)]; exact hg25
      have k8 : z9 g4 := by unfold z9; rw [p5.2.1 25 (by omega)]; exact hgz9
      have o9 : tkR (g 24) (g 23 2).toInt.toNat (g 23 6).toInt.toNat r3.toInt (g4 23 8).toInt (g4 23 7).toInt (g4 23 6).toInt (g4 23 4).toInt (g4 23 5).toInt (g 23 4).toInt (g 23 5).toInt ∧ (r3 = 0 ∨ r3 = 1) ∧ ((g4 23 2).toInt = (g 23 2).toInt) ∧ ((g4 23 3).toInt = (g 23 3).toInt) ∧ ((g4 23 10).toInt = (g 23 10).toInt) := p5.2.2
      have e24_g4 : g4 24 = h 24 := (p5.2.1 24 (by omega)).trans e24_g
      have e2_g4 : (g4 23 2).toInt = (h 23 2).toInt := (by omega)
      have hle_g4 := tkR_le o9.1
      have d25_g4 : g4 25 = (g 25) := p5.2.1 25 (by omega)
      have d26_g4 : g4 26 = (g 26) := p5.2.1 26 (by omega)
      have d27_g4 : g4 27 = (g 27) := p5.2.1 27 (by omega)
      have d28_g4 : g4 28 = (g 28) := p5.2.1 28 (by omega)
      have d29_g4 : g4 29 = (g 29) := p5.2.1 29 (by omega)
      (try rw [e24_g] at o9); (try rw [e2_g] at o9)
      show (¬ r3 = 0 → ((¬ (g4 23 7) = 0 → (qm_PW X 79 [.ref 23] g4 _)) ∧ ((g4 23 7) = 0 → (qm_PW X 84 [.ref 23] g4 _)))) ∧ (r3 = 0 → (((0 : Int32) = 0 ∨ (0 : Int32) = 1) ∧ Q (some (.int 0)) g4))
      refine ⟨fun c10 => ?_, fun c11 => ?_⟩
      · have := ti_neK 0 rfl c10
        refine ⟨fun c12 => ?_, fun c13 => ?_⟩
        · have := ti_neK 0 rfl c12
          refine tx_79 X g4  ⟨p5.1, k7, k8, (by show 0 ≤ (g4 23 8).toInt ∧ (g4 23 8).toInt ≤ (g4 23 6).toInt; omega)⟩ _ (fun r14 g15 p16 => ?_)
          have f17 : ∀ k, (k < 23 ∨ 31 < k) → g15 k = h k := fun k hk => (p16.2.2.2.1 k (by omega)).trans (f6 k hk)
          have o18 : (r14 = 0 ∨ r14 = 1) ∧ (g15 24) = (g4 24) ∧ (((g15 23 2).toInt = (g4 23 2).toInt) ∧ ((g15 23 3).toInt = (g4 23 3).toInt)) ∧ lineQ (g4 24) (g4 23 2).toInt.toNat (g4 23 8).toInt.toNat (g4 23 6).toInt.toNat (g4 23 7).toInt (g4 25 6).toInt (g4 25 7).toInt (g4 23 10).toInt r14.toInt (g15 23 4).toInt (g15 23 5).toInt (g15 23 6).toInt (g4 23 4).toInt (g4 23 5).toInt g4 g15 := p16.2.2.2.2
          have e24_g15 : g15 24 = h 24 := (o18.2.1).trans e24_g4
          have e2_g15 : (g15 23 2).toInt = (h 23 2).toInt := (by omega)
          (try rw [e24_g4] at o18); (try rw [e2_g4] at o18)
          show (¬ r14 = 0 → (qm_PA X 76 6 [(0, .ref 23), (1, .int (l1 + 1))] [] (qm_row g15 23 (upd (g15 23) 3 ((g15 23 3) + 1))) Q)) ∧ (r14 = 0 → (((0 : Int32) = 0 ∨ (0 : Int32) = 1) ∧ Q (some (.int 0)) g15))
          refine ⟨fun c19 => ?_, fun c20 => ?_⟩
          · have := ti_neK 0 rfl c19
            exact ih (l1 + 1) (qm_row g15 23 (upd (g15 23) 3 ((g15 23 3) + 1))) ⟨(by have := ti_addK l1 (1 : Int32) 1 rfl; have := ti_addK (g15 23 3) (1 : Int32) 1 rfl; show rdI (h 24) (h 23 2).toInt.toNat (l1 + 1).toInt (g15 23 6).toInt (qm_row g15 23 (upd (g15 23) 3 ((g15 23 3) + 1))) ∧ ((0 ≤ (l1 + 1).toInt ∧ (l1 + 1).toInt ≤ (g15 23 6).toInt) ∧ ((g15 23 3) + 1).toInt = (l1 + 1).toInt ∧ (g15 23 4).toInt = 0 ∧ (g15 23 5).toInt = 0 ∧ (g15 23 2).toInt = (h 23 2).toInt) ∧ (qm_row g15 23 (upd (g15 23) 3 ((g15 23 3) + 1))) 24 = h 24; have hL := rdI_line (g4 := (qm_row g15 23 (upd (g15 23) 3 ((g15 23 3) + 1)))) (i2 := (l1 + 1).toInt) hi0.1 (by omega) o9.1 (by omega) (by omega) (by omega) (by omega) o18.2.2.2 (by omega) (fun S c => cT_eq c d25_g4 d26_g4 d27_g4 d28_g4 d29_g4 (by omega)) (fun S c => by have c1 := c.1; rw [d25_g4]; omega) (fun S c => cT_eq c rfl rfl rfl rfl rfl rfl) (by omega); have hL2 := hL.2; exact ⟨hL.1, by omega, e24_g15⟩), (by have ⟨⟨_, _⟩, _, _⟩ := hgtc; have ⟨⟨_, _⟩, ⟨_, _⟩, _, _⟩ := hg25; have ⟨_, _⟩ := hgz9; have ⟨⟨_, _⟩, _, _⟩ := p5.1; have ⟨⟨_, _⟩, ⟨_, _⟩, _, _⟩ := k7; have ⟨_, _⟩ := k8; have ⟨⟨_, _⟩, _, _⟩ := p16.1; have ⟨⟨_, _⟩, ⟨_, _⟩, _, _⟩ := p16.2.1; have ⟨_, _⟩ := p16.2.2.1; show (0 ≤ (g15 23 2).toInt ∧ (g15 23 2).toInt ≤ 160) ∧ (0 ≤ (g15 23 6).toInt ∧ (g15 23 6).toInt ≤ (g15 23 2).toInt); omega), (by exact p16.2.1), (by exact p16.2.2.1), (fun k hk => by simp only [qm_row]; rw [if_neg (by omega)]; exact f17 k hk)⟩ (by have := ti_addK l1 (1 : Int32) 1 rfl; show (161 - (l1 + 1).toInt).toNat < n; omega)
          · have := ti_eqK 0 rfl c20
            exact ⟨Or.inl rfl, hq 0 g15 ⟨p16.1, p16.2.1, p16.2.2.1, (fun k hk => f17 k hk), (by have : (0 : Int32).toInt = 0 := rfl; show ((0 : Int32) = 0 ∨ (0 : Int32) = 1) ∧ (g15 24) = (h 24) ∧ (((g15 23 2).toInt = (h 23 2).toInt)) ∧ rdQ (txF (h 24) (h 23 2).toInt.toNat 161 0 0 txS) (0 : Int32).toInt (g15 23 4).toInt (g15 23 5).toInt (g15 23 3).toInt (h 23 2).toInt g15; exact ⟨Or.inl rfl, e24_g15, by omega, rdI_bad hi0.1 (by omega) o9.1 (by omega) (by omega) (by omega) (by omega) o18.2.2.2 (by omega) rfl (fun S c => by have c1 := c.1; rw [d25_g4]; omega)⟩)⟩⟩
        · have := ti_eqK 0 rfl c13
          refine tx_84 X g4  ⟨p5.1, k7⟩ _ (fun r21 g22 p23 => ?_)
          have f24 : ∀ k, (k < 23 ∨ 31 < k) → g22 k = h k := fun k hk => (p23.2.2.1 k (by omega)).trans (f6 k hk)
          have k25 : z9 g22 := by unfold z9; rw [p23.2.2.1 25 (by omega)]; exact k8
          have o26 : (r21 = 0 ∨ r21 = 1) ∧ (((g22 23 2).toInt = (g4 23 2).toInt) ∧ ((g22 23 3).toInt = (g4 23 3).toInt) ∧ ((g22 23 6).toInt = (g4 23 6).toInt) ∧ ((g22 23 10).toInt = (g4 23 10).toInt)) ∧ whQ r21.toInt (g22 23 4).toInt (g22 23 5).toInt (g4 23 4).toInt (g4 23 5).toInt (g4 23 2).toInt g4 := p23.2.2.2
          have e24_g22 : g22 24 = h 24 := (p23.2.2.1 24 (by omega)).trans e24_g4
          have e2_g22 : (g22 23 2).toInt = (h 23 2).toInt := (by omega)
          have d25_g22 : g22 25 = (g4 25) := p23.2.2.1 25 (by omega)
          have d26_g22 : g22 26 = (g4 26) := p23.2.2.1 26 (by omega)
          have d27_g22 : g22 27 = (g4 27) := p23.2.2.1 27 (by omega)
          have d28_g22 : g22 28 = (g4 28) := p23.2.2.1 28 (by omega)
          have d29_g22 : g22 29 = (g4 29) := p23.2.2.1 29 (by omega)
          (try rw [e24_g4] at o26); (try rw [e2_g4] at o26)
          show (r21 = 0 ∨ r21 = 1) ∧ Q (some (.int r21)) g22
          exact ⟨p23.2.2.2.1, hq r21 g22 ⟨p23.1, p23.2.1, k25, (fun k hk => f24 k hk), (by show (r21 = 0 ∨ r21 = 1) ∧ (g22 24) = (h 24) ∧ (((g22 23 2).toInt = (h 23 2).toInt)) ∧ rdQ (txF (h 24) (h 23 2).toInt.toNat 161 0 0 txS) r21.toInt (g22 23 4).toInt (g22 23 5).toInt (g22 23 3).toInt (h 23 2).toInt g22; exact ⟨p23.2.2.2.1, e24_g22, by omega, rdI_end hi0.1 (by omega) o9.1 (by omega) (by omega) o26.2.2 rfl (by omega) (by omega) (fun S c => ⟨cT_eq c d25_g4 d26_g4 d27_g4 d28_g4 d29_g4 (by omega), cT_eq (cT_eq c d25_g4 d26_g4 d27_g4 d28_g4 d29_g4 (by omega)) d25_g22 d26_g22 d27_g22 d28_g22 d29_g22 (by omega)⟩)⟩)⟩⟩
      · have := ti_eqK 0 rfl c11
        exact ⟨Or.inl rfl, hq 0 g4 ⟨p5.1, k7, k8, (fun k hk => f6 k hk), (by have : (0 : Int32).toInt = 0 := rfl; show ((0 : Int32) = 0 ∨ (0 : Int32) = 1) ∧ (g4 24) = (h 24) ∧ (((g4 23 2).toInt = (h 23 2).toInt)) ∧ rdQ (txF (h 24) (h 23 2).toInt.toNat 161 0 0 txS) (0 : Int32).toInt (g4 23 4).toInt (g4 23 5).toInt (g4 23 3).toInt (h 23 2).toInt g4; exact ⟨Or.inl rfl, e24_g4, by omega, rdI_no hi0.1 (by omega) o9.1 (by omega) rfl⟩)⟩⟩
set_option maxRecDepth 100000 in
set_option maxHeartbeats 4000000 in
theorem tx_76 (X : qm_X) (h : qm_H) (hp : 0 ≤ (h 23 2).toInt ∧ (h 23 2).toInt ≤ 160) (Q : qm_Q) (hq : ∀ r : Int32, ∀ h' : qm_H, (tc h' ∧ mq 25 h' ∧ z9 h' ∧ (∀ k, (k < 23 ∨ 31 < k) → h' k = h k) ∧ ((r = 0 ∨ r = 1) ∧ (h' 24) = (h 24) ∧ (((h' 23 2).toInt = (h 23 2).toInt)) ∧ rdQ (txF (h 24) (h 23 2).toInt.toNat 161 0 0 txS) r.toInt (h' 23 4).toInt (h' 23 5).toInt (h' 23 3).toInt (h 23 2).toInt h')) → Q (some (.int r)) h') : qm_PW X 76 [.ref 23] h Q := by
  have hp0 : 0 ≤ (h 23 2).toInt ∧ (h 23 2).toInt ≤ 160 := hp
  refine qm_seg_ok (C := qc_76) (rt := some .boolean) rfl rfl (cuts := [(6, [0, 1])]) 400 _ _ _ _ ?_
  show qm_PW X 77 [.ref 23] h _
  refine tx_77 X h  (by show 0 ≤ (h 23 2).toInt ∧ (h 23 2).toInt ≤ 160; omega) _ (fun g1 p2 => ?_)
  have f3 : ∀ k, (k < 23 ∨ 31 < k) → g1 k = h k := fun k hk => (p2.2.2.2.1 k (by omega)).trans (rfl)
  have o4 : (g1 24) = (h 24) ∧ (((g1 23 2).toInt = (h 23 2).toInt) ∧ (g1 23 3).toInt = 0 ∧ (g1 23 4).toInt = 0 ∧ (g1 23 5).toInt = 0 ∧ (g1 23 6).toInt = 0 ∧ (g1 23 10).toInt = 0 ∧ (g1 25 6).toInt = 0 ∧ (g1 25 7).toInt = 0 ∧ (g1 25 8).toInt = 0 ∧ (g1 25 9).toInt = 0) := p2.2.2.2.2
  have e24_g1 : g1 24 = h 24 := o4.1
  have e2_g1 : (g1 23 2).toInt = (h 23 2).toInt := (by omega)
  have e26_g1 : g1 26 = h 26 := (p2.2.2.2.1 26 (by omega))
  have e27_g1 : g1 27 = h 27 := (p2.2.2.2.1 27 (by omega))
  have e28_g1 : g1 28 = h 28 := (p2.2.2.2.1 28 (by omega))
  have e29_g1 : g1 29 = h 29 := (p2.2.2.2.1 29 (by omega))
  show qm_PA X 76 6 [(0, .ref 23), (1, .int 0)] [] g1 Q
  exact (tx_76_c X h hp Q hq _) (0 : Int32) g1 ⟨(by have : (0 : Int32).toInt = 0 := rfl; show rdI (h 24) (h 23 2).toInt.toNat (0 : Int32).toInt (g1 23 6).toInt g1 ∧ ((0 ≤ (0 : Int32).toInt ∧ (0 : Int32).toInt ≤ (g1 23 6).toInt) ∧ (g1 23 3).toInt = (0 : Int32).toInt ∧ (g1 23 4).toInt = 0 ∧ (g1 23 5).toInt = 0 ∧ (g1 23 2).toInt = (h 23 2).toInt) ∧ g1 24 = h 24; exact ⟨rdI_0 rfl (by omega) (cT_0 (by omega) (by omega) (by omega) (by omega)), by omega, e24_g1⟩), p2.1, p2.2.1, p2.2.2.1, (fun k hk => f3 k hk)⟩ (Nat.lt_succ_self _)
