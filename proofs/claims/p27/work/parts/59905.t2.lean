-- ThreadBank$TextReader.isWord(Ljava/lang/String;)Z
set_option maxRecDepth 100000 in
set_option maxHeartbeats 4000000 in
theorem tx_89_0_c (X : qm_X) (h : qm_H) (hp : tc h ∧ (0 ≤ (h 23 8).toInt ∧ (h 23 8).toInt ≤ (h 23 6).toInt)) (Q : qm_Q) (hq : ∀ r : Int32, ((r = 0 ∨ r = 1) ∧ (¬ r = 0 → wis (h 24) (h 23 8).toInt.toNat (h 23 6).toInt.toNat (qm_sbyt.getD 0 [])) ∧ (r = 0 → ¬ wis (h 24) (h 23 8).toInt.toNat (h 23 6).toInt.toNat (qm_sbyt.getD 0 []))) → Q (some (.int r)) h) : ∀ n : Nat, (∀ (l2 : Int32), ((0 ≤ l2.toInt ∧ l2.toInt ≤ 5) ∧ (h 23 6).toInt = (h 23 8).toInt + 5 ∧ ∀ j : Nat, (j : Int) < l2.toInt → (h 24 ((h 23 8).toInt.toNat + j)).toInt = ((qm_sbyt.getD 0 []).getD j 0).toInt) → (5 - l2.toInt).toNat < n → qm_PA X 89 20 [(0, .ref 23), (1, .ref 110), (2, .int l2)] [] h Q) := by
  have hmtc : tc h := hp.1
  have ⟨⟨_, _⟩, _, _⟩ := hmtc
  have hp0 : 0 ≤ (h 23 8).toInt ∧ (h 23 8).toInt ≤ (h 23 6).toInt := hp.2
  intro n
  induction n with
  | zero => exact fun _ _ h0 => absurd h0 (Nat.not_lt_zero _)
  | succ n ih =>
    intro l2 hi hr
    refine qm_seg_ok (C := qc_89) (rt := some .boolean) rfl rfl (cuts := [(20, [0, 1, 2])]) 400 _ _ _ _ ?_
    show qm_PW X 3 [.ref 110] h _
    refine sf_3_110 X h  trivial _ (fun r1 p2 => ?_)
    show (r1.toInt ≤ l2.toInt → (((1 : Int32) = 0 ∨ (1 : Int32) = 1) ∧ Q (some (.int 1)) h)) ∧ (l2.toInt < r1.toInt → (qm_PW X 87 [.ref 23, .int ((h 23 8) + l2)] h _))
    refine ⟨fun c3 => ?_, fun c4 => ?_⟩
    · exact ⟨Or.inr rfl, hq 1 (by have hE : (h 23 6).toInt.toNat = (h 23 8).toInt.toNat + 5 := (by omega); have hN : ∀ j : Nat, j < 5 → (j : Int) < l2.toInt := fun j hj => (by omega); exact ⟨Or.inr rfl, fun _ => ⟨hE, fun j hj => hi.2.2 j (hN j hj)⟩, fun hc => absurd hc (by decide)⟩)⟩
    · refine tx_87 X h ((h 23 8) + l2) (by show 0 ≤ (h 23 2).toInt ∧ (h 23 2).toInt ≤ 160; omega) _ (fun r5 p6 => ?_)
      have o7 : ((0 ≤ ((h 23 8) + l2).toInt ∧ ((h 23 8) + l2).toInt < (h 23 2).toInt) ∧ r5.toInt = (h 24 ((h 23 8) + l2).toInt.toNat).toInt) ∨ ((((h 23 8) + l2).toInt < 0 ∨ (h 23 2).toInt ≤ ((h 23 8) + l2).toInt) ∧ r5.toInt = -1) := p6
      show qm_PW X 6 [.ref 110, .int l2] h _
      refine tx_6_0 X h l2 (by have := ti_add (h 23 8) l2; omega) _ (fun r8 p9 => ?_)
      have o10 : r8 = (qm_sbyt.getD 0 []).getD l2.toInt.toNat 0 := p9
      show (r5 = r8 → (qm_PA X 89 20 [(0, .ref 23), (1, .ref 110), (2, .int (l2 + 1))] [] h Q)) ∧ (¬ r5 = r8 → (((0 : Int32) = 0 ∨ (0 : Int32) = 1) ∧ Q (some (.int 0)) h))
      refine ⟨fun c11 => ?_, fun c12 => ?_⟩
      · exact ih (l2 + 1) (by have := ti_addK l2 (1 : Int32) 1 rfl; have := ti_add (h 23 8) l2; have hA : r5.toInt = (h 24 ((h 23 8).toInt.toNat + l2.toInt.toNat)).toInt := (by rw [show (h 23 8).toInt.toNat + l2.toInt.toNat = ((h 23 8) + l2).toInt.toNat by omega]; omega); have hbc : r5 = r8 := (by assumption); have h1 : 0 ≤ (l2 + 1).toInt ∧ (l2 + 1).toInt ≤ 5 := (by omega); have hJ : ∀ j : Nat, (j : Int) < (l2 + 1).toInt → (j : Int) < l2.toInt ∨ j = l2.toInt.toNat := fun j hj => (by omega); exact ⟨h1, hi.2.1, fun j hj => (hJ j hj).elim (fun q => hi.2.2 j q) (fun q => by rw [q]; exact hA.symm.trans (congrArg Int32.toInt (hbc.trans o10)))⟩) (by have := ti_addK l2 (1 : Int32) 1 rfl; have := ti_add (h 23 8) l2; omega)
      · exact ⟨Or.inl rfl, hq 0 (by have := ti_add (h 23 8) l2; have hA : r5.toInt = (h 24 ((h 23 8).toInt.toNat + l2.toInt.toNat)).toInt := (by rw [show (h 23 8).toInt.toNat + l2.toInt.toNat = ((h 23 8) + l2).toInt.toNat by omega]; omega); have hk : l2.toInt.toNat < 5 := (by omega); exact ⟨Or.inl rfl, fun hc => absurd rfl hc, fun _ q => absurd (Int32.toInt_inj.mp (hA.trans ((q.2 l2.toInt.toNat hk).trans (congrArg Int32.toInt o10).symm))) (by assumption)⟩)⟩
set_option maxRecDepth 100000 in
set_option maxHeartbeats 4000000 in
theorem tx_89_0 (X : qm_X) (h : qm_H) (hp : tc h ∧ (0 ≤ (h 23 8).toInt ∧ (h 23 8).toInt ≤ (h 23 6).toInt)) (Q : qm_Q) (hq : ∀ r : Int32, ((r = 0 ∨ r = 1) ∧ (¬ r = 0 → wis (h 24) (h 23 8).toInt.toNat (h 23 6).toInt.toNat (qm_sbyt.getD 0 [])) ∧ (r = 0 → ¬ wis (h 24) (h 23 8).toInt.toNat (h 23 6).toInt.toNat (qm_sbyt.getD 0 []))) → Q (some (.int r)) h) : qm_PW X 89 [.ref 23, .ref 110] h Q := by
  have hmtc : tc h := hp.1
  have ⟨⟨_, _⟩, _, _⟩ := hmtc
  have hp0 : 0 ≤ (h 23 8).toInt ∧ (h 23 8).toInt ≤ (h 23 6).toInt := hp.2
  refine qm_seg_ok (C := qc_89) (rt := some .boolean) rfl rfl (cuts := [(20, [0, 1, 2])]) 400 _ _ _ _ ?_
  show qm_PW X 3 [.ref 110] h _
  refine sf_3_110 X h  trivial _ (fun r1 p2 => ?_)
  show (((h 23 6) - (h 23 8)) = r1 → (qm_PA X 89 20 [(0, .ref 23), (1, .ref 110), (2, .int 0)] [] h Q)) ∧ (¬ ((h 23 6) - (h 23 8)) = r1 → (((0 : Int32) = 0 ∨ (0 : Int32) = 1) ∧ Q (some (.int 0)) h))
  refine ⟨fun c3 => ?_, fun c4 => ?_⟩
  · exact (tx_89_0_c X h hp Q hq _) (0 : Int32) (by have : (0 : Int32).toInt = 0 := rfl; have hsb := ti_sub (h 23 6) (h 23 8); have hce := congrArg Int32.toInt (show ((h 23 6) - (h 23 8)) = r1 from by assumption); exact ⟨⟨by decide, by decide⟩, by omega, fun j hj => absurd hj (by have : (0 : Int32).toInt = 0 := rfl; omega)⟩) (Nat.lt_succ_self _)
  · exact ⟨Or.inl rfl, hq 0 (by have hsb := ti_sub (h 23 6) (h 23 8); have hne : ¬ (h 23 6).toInt.toNat = (h 23 8).toInt.toNat + 5 := fun q => absurd (Int32.toInt_inj.mp (show ((h 23 6) - (h 23 8)).toInt = r1.toInt from by omega)) (by assumption); exact ⟨Or.inl rfl, fun hc => absurd rfl hc, fun _ q => hne q.1⟩)⟩
-- ThreadBank$TextReader.isWord(Ljava/lang/String;)Z
set_option maxRecDepth 100000 in
set_option maxHeartbeats 4000000 in
theorem tx_89_1_c (X : qm_X) (h : qm_H) (hp : tc h ∧ (0 ≤ (h 23 8).toInt ∧ (h 23 8).toInt ≤ (h 23 6).toInt)) (Q : qm_Q) (hq : ∀ r : Int32, ((r = 0 ∨ r = 1) ∧ (¬ r = 0 → wis (h 24) (h 23 8).toInt.toNat (h 23 6).toInt.toNat (qm_sbyt.getD 1 [])) ∧ (r = 0 → ¬ wis (h 24) (h 23 8).toInt.toNat (h 23 6).toInt.toNat (qm_sbyt.getD 1 []))) → Q (some (.int r)) h) : ∀ n : Nat, (∀ (l2 : Int32), ((0 ≤ l2.toInt ∧ l2.toInt ≤ 4) ∧ (h 23 6).toInt = (h 23 8).toInt + 4 ∧ ∀ j : Nat, (j : Int) < l2.toInt → (h 24 ((h 23 8).toInt.toNat + j)).toInt = ((qm_sbyt.getD 1 []).getD j 0).toInt) → (4 - l2.toInt).toNat < n → qm_PA X 89 20 [(0, .ref 23), (1, .ref 111), (2, .int l2)] [] h Q) := by
  have hmtc : tc h := hp.1
  have ⟨⟨_, _⟩, _, _⟩ := hmtc
  have hp0 : 0 ≤ (h 23 8).toInt ∧ (h 23 8).toInt ≤ (h 23 6).toInt := hp.2
  intro n
  induction n with
  | zero => exact fun _ _ h0 => absurd h0 (Nat.not_lt_zero _)
  | succ n ih =>
    intro l2 hi hr
    refine qm_seg_ok (C := qc_89) (rt := some .boolean) rfl rfl (cuts := [(20, [0, 1, 2])]) 400 _ _ _ _ ?_
    show qm_PW X 3 [.ref 111] h _
    refine sf_3_111 X h  trivial _ (fun r1 p2 => ?_)
    show (r1.toInt ≤ l2.toInt → (((1 : Int32) = 0 ∨ (1 : Int32) = 1) ∧ Q (some (.int 1)) h)) ∧ (l2.toInt < r1.toInt → (qm_PW X 87 [.ref 23, .int ((h 23 8) + l2)] h _))
    refine ⟨fun c3 => ?_, fun c4 => ?_⟩
    · exact ⟨Or.inr rfl, hq 1 (by have hE : (h 23 6).toInt.toNat = (h 23 8).toInt.toNat + 4 := (by omega); have hN : ∀ j : Nat, j < 4 → (j : Int) < l2.toInt := fun j hj => (by omega); exact ⟨Or.inr rfl, fun _ => ⟨hE, fun j hj => hi.2.2 j (hN j hj)⟩, fun hc => absurd hc (by decide)⟩)⟩
    · refine tx_87 X h ((h 23 8) + l2) (by show 0 ≤ (h 23 2).toInt ∧ (h 23 2).toInt ≤ 160; omega) _ (fun r5 p6 => ?_)
      have o7 : ((0 ≤ ((h 23 8) + l2).toInt ∧ ((h 23 8) + l2).toInt < (h 23 2).toInt) ∧ r5.toInt = (h 24 ((h 23 8) + l2).toInt.toNat).toInt) ∨ ((((h 23 8) + l2).toInt < 0 ∨ (h 23 2).toInt ≤ ((h 23 8) + l2).toInt) ∧ r5.toInt = -1) := p6
      show qm_PW X 6 [.ref 111, .int l2] h _
      refine tx_6_1 X h l2 (by have := ti_add (h 23 8) l2; omega) _ (fun r8 p9 => ?_)
      have o10 : r8 = (qm_sbyt.getD 1 []).getD l2.toInt.toNat 0 := p9
      show (r5 = r8 → (qm_PA X 89 20 [(0, .ref 23), (1, .ref 111), (2, .int (l2 + 1))] [] h Q)) ∧ (¬ r5 = r8 → (((0 : Int32) = 0 ∨ (0 : Int32) = 1) ∧ Q (some (.int 0)) h))
      refine ⟨fun c11 => ?_, fun c12 => ?_⟩
      · exact ih (l2 + 1) (by have := ti_addK l2 (1 : Int32) 1 rfl; have := ti_add (h 23 8) l2; have hA : r5.toInt = (h 24 ((h 23 8).toInt.toNat + l2.toInt.toNat)).toInt := (by rw [show (h 23 8).toInt.toNat + l2.toInt.toNat = ((h 23 8) + l2).toInt.toNat by omega]; omega); have hbc : r5 = r8 := (by assumption); have h1 : 0 ≤ (l2 + 1).toInt ∧ (l2 + 1).toInt ≤ 4 := (by omega); have hJ : ∀ j : Nat, (j : Int) < (l2 + 1).toInt → (j : Int) < l2.toInt ∨ j = l2.toInt.toNat := fun j hj => (by omega); exact ⟨h1, hi.2.1, fun j hj => (hJ j hj).elim (fun q => hi.2.2 j q) (fun q => by rw [q]; exact hA.symm.trans (congrArg Int32.toInt (hbc.trans o10)))⟩) (by have := ti_addK l2 (1 : Int32) 1 rfl; have := ti_add (h 23 8) l2; omega)
      · exact ⟨Or.inl rfl, hq 0 (by have := ti_add (h 23 8) l2; have hA : r5.toInt = (h 24 ((h 23 8).toInt.toNat + l2.toInt.toNat)).toInt := (by rw [show (h 23 8).toInt.toNat + l2.toInt.toNat = ((h 23 8) + l2).toInt.toNat by omega]; omega); have hk : l2.toInt.toNat < 4 := (by omega); exact ⟨Or.inl rfl, fun hc => absurd rfl hc, fun _ q => absurd (Int32.toInt_inj.mp (hA.trans ((q.2 l2.toInt.toNat hk).trans (congrArg Int32.toInt o10).symm))) (by assumption)⟩)⟩
set_option maxRecDepth 100000 in
set_option maxHeartbeats 4000000 in
theorem tx_89_1 (X : qm_X) (h : qm_H) (hp : tc h ∧ (0 ≤ (h 23 8).toInt ∧ (h 23 8).toInt ≤ (h 23 6).toInt)) (Q : qm_Q) (hq : ∀ r : Int32, ((r = 0 ∨ r = 1) ∧ (¬ r = 0 → wis (h 24) (h 23 8).toInt.toNat (h 23 6).toInt.toNat (qm_sbyt.getD 1 [])) ∧ (r = 0 → ¬ wis (h 24) (h 23 8).toInt.toNat (h 23 6).toInt.toNat (qm_sbyt.getD 1 []))) → Q (some (.int r)) h) : qm_PW X 89 [.ref 23, .ref 111] h Q := by
  have hmtc : tc h := hp.1
  have ⟨⟨_, _⟩, _, _⟩ := hmtc
  have hp0 : 0 ≤ (h 23 8).toInt ∧ (h 23 8).toInt ≤ (h 23 6).toInt := hp.2
  refine qm_seg_ok (C := qc_89) (rt := some .boolean) rfl rfl (cuts := [(20, [0, 1, 2])]) 400 _ _ _ _ ?_
  show qm_PW X 3 [.ref 111] h _
  refine sf_3_111 X h  trivial _ (fun r1 p2 => ?_)
  show (((h 23 6) - (h 23 8)) = r1 → (qm_PA X 89 20 [(0, .ref 23), (1, .ref 111), (2, .int 0)] [] h Q)) ∧ (¬ ((h 23 6) - (h 23 8)) = r1 → (((0 : Int32) = 0 ∨ (0 : Int32) = 1) ∧ Q (some (.int 0)) h))
  refine ⟨fun c3 => ?_, fun c4 => ?_⟩
  · exact (tx_89_1_c X h hp Q hq _) (0 : Int32) (by have : (0 : Int32).toInt = 0 := rfl; have hsb := ti_sub (h 23 6) (h 23 8); have hce := congrArg Int32.toInt (show ((h 23 6) - (h 23 8)) = r1 from by assumption); exact ⟨⟨by decide, by decide⟩, by omega, fun j hj => absurd hj (by have : (0 : Int32).toInt = 0 := rfl; omega)⟩) (Nat.lt_succ_self _)
  · exact ⟨Or.inl rfl, hq 0 (by have hsb := ti_sub (h 23 6) (h 23 8); have hne : ¬ (h 23 6).toInt.toNat = (h 23 8).toInt.toNat + 4 := fun q => absurd (Int32.toInt_inj.mp (show ((h 23 6) - (h 23 8)).toInt = r1.toInt from by omega)) (by assumption); exact ⟨Or.inl rfl, fun hc => absurd rfl hc, fun _ q => hne q.1⟩)⟩
-- ThreadBank$TextReader.isWord(Ljava/lang/String;)Z
set_option maxRecDepth 100000 in
set_option maxHeartbeats 4000000 in
theorem tx_89_2_c (X : qm_X) (h : qm_H) (hp : tc h ∧ (0 ≤ (h 23 8).toInt ∧ (h 23 8).toInt ≤ (h 23 6).toInt)) (Q : qm_Q) (hq : ∀ r : Int32, ((r = 0 ∨ r = 1) ∧ (¬ r = 0 → wis (h 24) (h 23 8).toInt.toNat (h 23 6).toInt.toNat (qm_sbyt.getD 2 [])) ∧ (r = 0 → ¬ wis (h 24) (h 23 8).toInt.toNat (h 23 6).toInt.toNat (qm_sbyt.getD 2 []))) → Q (some (.int r)) h) : ∀ n : Nat, (∀ (l2 : Int32), ((0 ≤ l2.toInt ∧ l2.toInt ≤ 3) ∧ (h 23 6).toInt = (h 23 8).toInt + 3 ∧ ∀ j : Nat, (j : Int) < l2.toInt → (h 24 ((h 23 8).toInt.toNat + j)).toInt = ((qm_sbyt.getD 2 []).getD j 0).toInt) → (3 - l2.toInt).toNat < n → qm_PA X 89 20 [(0, .ref 23), (1, .ref 112), (2, .int l2)] [] h Q) := by
  have hmtc : tc h := hp.1
  have ⟨⟨_, _⟩, _, _⟩ := hmtc
  have hp0 : 0 ≤ (h 23 8).toInt ∧ (h 23 8).toInt ≤ (h 23 6).toInt := hp.2
  intro n
  induction n with
  | zero => exact fun _ _ h0 => absurd h0 (Nat.not_lt_zero _)
  | succ n ih =>
    intro l2 hi hr
    refine qm_seg_ok (C := qc_89) (rt := some .boolean) rfl rfl (cuts := [(20, [0, 1, 2])]) 400 _ _ _ _ ?_
    show qm_PW X 3 [.ref 112] h _
    refine sf_3_112 X h  trivial _ (fun r1 p2 => ?_)
    show (r1.toInt ≤ l2.toInt → (((1 : Int32) = 0 ∨ (1 : Int32) = 1) ∧ Q (some (.int 1)) h)) ∧ (l2.toInt < r1.toInt → (qm_PW X 87 [.ref 23, .int ((h 23 8) + l2)] h _))
    refine ⟨fun c3 => ?_, fun c4 => ?_⟩
    · exact ⟨Or.inr rfl, hq 1 (by have hE : (h 23 6).toInt.toNat = (h 23 8).toInt.toNat + 3 := (by omega); have hN : ∀ j : Nat, j < 3 → (j : Int) < l2.toInt := fun j hj => (by omega); exact ⟨Or.inr rfl, fun _ => ⟨hE, fun j hj => hi.2.2 j (hN j hj)⟩, fun hc => absurd hc (by decide)⟩)⟩
    · refine tx_87 X h ((h 23 8) + l2) (by show 0 ≤ (h 23 2).toInt ∧ (h 23 2).toInt ≤ 160; omega) _ (fun r5 p6 => ?_)
      have o7 : ((0 ≤ ((h 23 8) + l2).toInt ∧ ((h 23 8) + l2).toInt < (h 23 2).toInt) ∧ r5.toInt = (h 24 ((h 23 8) + l2).toInt.toNat).toInt) ∨ ((((h 23 8) + l2).toInt < 0 ∨ (h 23 2).toInt ≤ ((h 23 8) + l2).toInt) ∧ r5.toInt = -1) := p6
      show qm_PW X 6 [.ref 112, .int l2] h _
      refine tx_6_2 X h l2 (by have := ti_add (h 23 8) l2; omega) _ (fun r8 p9 => ?_)
      have o10 : r8 = (qm_sbyt.getD 2 []).getD l2.toInt.toNat 0 := p9
      show (r5 = r8 → (qm_PA X 89 20 [(0, .ref 23), (1, .ref 112), (2, .int (l2 + 1))] [] h Q)) ∧ (¬ r5 = r8 → (((0 : Int32) = 0 ∨ (0 : Int32) = 1) ∧ Q (some (.int 0)) h))
      refine ⟨fun c11 => ?_, fun c12 => ?_⟩
      · exact ih (l2 + 1) (by have := ti_addK l2 (1 : Int32) 1 rfl; have := ti_add (h 23 8) l2; have hA : r5.toInt = (h 24 ((h 23 8).toInt.toNat + l2.toInt.toNat)).toInt := (by rw [show (h 23 8).toInt.toNat + l2.toInt.toNat = ((h 23 8) + l2).toInt.toNat by omega]; omega); have hbc : r5 = r8 := (by assumption); have h1 : 0 ≤ (l2 + 1).toInt ∧ (l2 + 1).toInt ≤ 3 := (by omega); have hJ : ∀ j : Nat, (j : Int) < (l2 + 1).toInt → (j : Int) < l2.toInt ∨ j = l2.toInt.toNat := fun j hj => (by omega); exact ⟨h1, hi.2.1, fun j hj => (hJ j hj).elim (fun q => hi.2.2 j q) (fun q => by rw [q]; exact hA.symm.trans (congrArg Int32.toInt (hbc.trans o10)))⟩) (by have := ti_addK l2 (1 : Int32) 1 rfl; have := ti_add (h 23 8) l2; omega)
      · exact ⟨Or.inl rfl, hq 0 (by have := ti_add (h 23 8) l2; have hA : r5.toInt = (h 24 ((h 23 8).toInt.toNat + l2.toInt.toNat)).toInt := (by rw [show (h 23 8).toInt.toNat + l2.toInt.toNat = ((h 23 8) + l2).toInt.toNat by omega]; omega); have hk : l2.toInt.toNat < 3 := (by omega); exact ⟨Or.inl rfl, fun hc => absurd rfl hc, fun _ q => absurd (Int32.toInt_inj.mp (hA.trans ((q.2 l2.toInt.toNat hk).trans (congrArg Int32.toInt o10).symm))) (by assumption)⟩)⟩
set_option maxRecDepth 100000 in
set_option maxHeartbeats 4000000 in
theorem tx_89_2 (X : qm_X) (h : qm_H) (hp : tc h ∧ (0 ≤ (h 23 8).toInt ∧ (h 23 8).toInt ≤ (h 23 6).toInt)) (Q : qm_Q) (hq : ∀ r : Int32, ((r = 0 ∨ r = 1) ∧ (¬ r = 0 → wis (h 24) (h 23 8).toInt.toNat (h 23 6).toInt.toNat (qm_sbyt.getD 2 [])) ∧ (r = 0 → ¬ wis (h 24) (h 23 8).toInt.toNat (h 23 6).toInt.toNat (qm_sbyt.getD 2 []))) → Q (some (.int r)) h) : qm_PW X 89 [.ref 23, .ref 112] h Q := by
  have hmtc : tc h := hp.1
  have ⟨⟨_, _⟩, _, _⟩ := hmtc
  have hp0 : 0 ≤ (h 23 8).toInt ∧ (h 23 8).toInt ≤ (h 23 6).toInt := hp.2
  refine qm_seg_ok (C := qc_89) (rt := some .boolean) rfl rfl (cuts := [(20, [0, 1, 2])]) 400 _ _ _ _ ?_
  show qm_PW X 3 [.ref 112] h _
  refine sf_3_112 X h  trivial _ (fun r1 p2 => ?_)
  show (((h 23 6) - (h 23 8)) = r1 → (qm_PA X 89 20 [(0, .ref 23), (1, .ref 112), (2, .int 0)] [] h Q)) ∧ (¬ ((h 23 6) - (h 23 8)) = r1 → (((0 : Int32) = 0 ∨ (0 : Int32) = 1) ∧ Q (some (.int 0)) h))
  refine ⟨fun c3 => ?_, fun c4 => ?_⟩
  · exact (tx_89_2_c X h hp Q hq _) (0 : Int32) (by have : (0 : Int32).toInt = 0 := rfl; have hsb := ti_sub (h 23 6) (h 23 8); have hce := congrArg Int32.toInt (show ((h 23 6) - (h 23 8)) = r1 from by assumption); exact ⟨⟨by decide, by decide⟩, by omega, fun j hj => absurd hj (by have : (0 : Int32).toInt = 0 := rfl; omega)⟩) (Nat.lt_succ_self _)
  · exact ⟨Or.inl rfl, hq 0 (by have hsb := ti_sub (h 23 6) (h 23 8); have hne : ¬ (h 23 6).toInt.toNat = (h 23 8).toInt.toNat + 3 := fun q => absurd (Int32.toInt_inj.mp (show ((h 23 6) - (h 23 8)).toInt = r1.toInt from by omega)) (by assumption); exact ⟨Or.inl rfl, fun hc => absurd rfl hc, fun _ q => hne q.1⟩)⟩
-- ThreadBank$TextReader.isWord(Ljava/lang/String;)Z
set_option maxRecDepth 100000 in
set_option maxHeartbeats 4000000 in
theorem tx_89_3_c (X : qm_X) (h : qm_H) (hp : tc h ∧ (0 ≤ (h 23 8).toInt ∧ (h 23 8).toInt ≤ (h 23 6).toInt)) (Q : qm_Q) (hq : ∀ r : Int32, ((r = 0 ∨ r = 1) ∧ (¬ r = 0 → wis (h 24) (h 23 8).toInt.toNat (h 23 6).toInt.toNat (qm_sbyt.getD 3 [])) ∧ (r = 0 → ¬ wis (h 24) (h 23 8).toInt.toNat (h 23 6).toInt.toNat (qm_sbyt.getD 3 []))) → Q (some (.int r)) h) : ∀ n : Nat, (∀ (l2 : Int32), ((0 ≤ l2.toInt ∧ l2.toInt ≤ 7) ∧ (h 23 6).toInt = (h 23 8).toInt + 7 ∧ ∀ j : Nat, (j : Int) < l2.toInt → (h 24 ((h 23 8).toInt.toNat + j)).toInt = ((qm_sbyt.getD 3 []).getD j 0).toInt) → (7 - l2.toInt).toNat < n → qm_PA X 89 20 [(0, .ref 23), (1, .ref 113), (2, .int l2)] [] h Q) := by
  have hmtc : tc h := hp.1
  have ⟨⟨_, _⟩, _, _⟩ := hmtc
  have hp0 : 0 ≤ (h 23 8).toInt ∧ (h 23 8).toInt ≤ (h 23 6).toInt := hp.2
  intro n
  induction n with
  | zero => exact fun _ _ h0 => absurd h0 (Nat.not_lt_zero _)
  | succ n ih =>
    intro l2 hi hr
    refine qm_seg_ok (C := qc_89) (rt := some .boolean) rfl rfl (cuts := [(20, [0, 1, 2])]) 400 _ _ _ _ ?_
    show qm_PW X 3 [.ref 113] h _
    refine sf_3_113 X h  trivial _ (fun r1 p2 => ?_)
    show (r1.toInt ≤ l2.toInt → (((1 : Int32) = 0 ∨ (1 : Int32) = 1) ∧ Q (some (.int 1)) h)) ∧ (l2.toInt < r1.toInt → (qm_PW X 87 [.ref 23, .int ((h 23 8) + l2)] h _))
    refine ⟨fun c3 => ?_, fun c4 => ?_⟩
    · exact ⟨Or.inr rfl, hq 1 (by have hE : (h 23 6).toInt.toNat = (h 23 8).toInt.toNat + 7 := (by omega); have hN : ∀ j : Nat, j < 7 → (j : Int) < l2.toInt := fun j hj => (by omega); exact ⟨Or.inr rfl, fun _ => ⟨hE, fun j hj => hi.2.2 j (hN j hj)⟩, fun hc => absurd hc (by decide)⟩)⟩
    · refine tx_87 X h ((h 23 8) + l2) (by show 0 ≤ (h 23 2).toInt ∧ (h 23 2).toInt ≤ 160; omega) _ (fun r5 p6 => ?_)
      have o7 : ((0 ≤ ((h 23 8) + l2).toInt ∧ ((h 23 8) + l2).toInt < (h 23 2).toInt) ∧ r5.toInt = (h 24 ((h 23 8) + l2).toInt.toNat).toInt) ∨ ((((h 23 8) + l2).toInt < 0 ∨ (h 23 2).toInt ≤ ((h 23 8) + l2).toInt) ∧ r5.toInt = -1) := p6
      show qm_PW X 6 [.ref 113, .int l2] h _
      refine tx_6_3 X h l2 (by have := ti_add (h 23 8) l2; omega) _ (fun r8 p9 => ?_)
      have o10 : r8 = (qm_sbyt.getD 3 []).getD l2.toInt.toNat 0 := p9
      show (r5 = r8 → (qm_PA X 89 20 [(0, .ref 23), (1, .ref 113), (2, .int (l2 + 1))] [] h Q)) ∧ (¬ r5 = r8 → (((0 : Int32) = 0 ∨ (0 : Int32) = 1) ∧ Q (some (.int 0)) h))
      refine ⟨fun c11 => ?_, fun c12 => ?_⟩
      · exact ih (l2 + 1) (by have := ti_addK l2 (1 : Int32) 1 rfl; have := ti_add (h 23 8) l2; have hA : r5.toInt = (h 24 ((h 23 8).toInt.toNat + l2.toInt.toNat)).toInt := (by rw [show (h 23 8).toInt.toNat + l2.toInt.toNat = ((h 23 8) + l2).toInt.toNat by omega]; omega); have hbc : r5 = r8 := (by assumption); have h1 : 0 ≤ (l2 + 1).toInt ∧ (l2 + 1).toInt ≤ 7 := (by omega); have hJ : ∀ j : Nat, (j : Int) < (l2 + 1).toInt → (j : Int) < l2.toInt ∨ j = l2.toInt.toNat := fun j hj => (by omega); exact ⟨h1, hi.2.1, fun j hj => (hJ j hj).elim (fun q => hi.2.2 j q) (fun q => by rw [q]; exact hA.symm.trans (congrArg Int32.toInt (hbc.trans o10)))⟩) (by have := ti_addK l2 (1 : Int32) 1 rfl; have := ti_add (h 23 8) l2; omega)
      · exact ⟨Or.inl rfl, hq 0 (by have := ti_add (h 23 8) l2; have hA : r5.toInt = (h 24 ((h 23 8).toInt.toNat + l2.toInt.toNat)).toInt := (by rw [show (h 23 8).toInt.toNat + l2.toInt.toNat = ((h 23 8) + l2).toInt.toNat by omega]; omega); have hk : l2.toInt.toNat < 7 := (by omega); exact ⟨Or.inl rfl, fun hc => absurd rfl hc, fun _ q => absurd (Int32.toInt_inj.mp (hA.trans ((q.2 l2.toInt.toNat hk).trans (congrArg Int32.toInt o10).symm))) (by assumption)⟩)⟩
set_option maxRecDepth 100000 in
set_option maxHeartbeats 4000000 in
theorem tx_89_3 (X : qm_X) (h : qm_H) (hp : tc h ∧ (0 ≤ (h 23 8).toInt ∧ (h 23 8).toInt ≤ (h 23 6).toInt)) (Q : qm_Q) (hq : ∀ r : Int32, ((r = 0 ∨ r = 1) ∧ (¬ r = 0 → wis (h 24) (h 23 8).toInt.toNat (h 23 6).toInt.toNat (qm_sbyt.getD 3 [])) ∧ (r = 0 → ¬ wis (h 24) (h 23 8).toInt.toNat (h 23 6).toInt.toNat (qm_sbyt.getD 3 []))) → Q (some (.int r)) h) : qm_PW X 89 [.ref 23, .ref 113] h Q := by
  have hmtc : tc h := hp.1
  have ⟨⟨_, _⟩, _, _⟩ := hmtc
  have hp0 : 0 ≤ (h 23 8).toInt ∧ (h 23 8).toInt ≤ (h 23 6).toInt := hp.2
  refine qm_seg_ok (C := qc_89) (rt := some .boolean) rfl rfl (cuts := [(20, [0, 1, 2])]) 400 _ _ _ _ ?_
  show qm_PW X 3 [.ref 113] h _
  refine sf_3_113 X h  trivial _ (fun r1 p2 => ?_)
  show (((h 23 6) - (h 23 8)) = r1 → (qm_PA X 89 20 [(0, .ref 23), (1, .ref 113), (2, .int 0)] [] h Q)) ∧ (¬ ((h 23 6) - (h 23 8)) = r1 → (((0 : Int32) = 0 ∨ (0 : Int32) = 1) ∧ Q (some (.int 0)) h))
  refine ⟨fun c3 => ?_, fun c4 => ?_⟩
  · exact (tx_89_3_c X h hp Q hq _) (0 : Int32) (by have : (0 : Int32).toInt = 0 := rfl; have hsb := ti_sub (h 23 6) (h 23 8); have hce := congrArg Int32.toInt (show ((h 23 6) - (h 23 8)) = r1 from by assumption); exact ⟨⟨by decide, by decide⟩, by omega, fun j hj => absurd hj (by have : (0 : Int32).toInt = 0 := rfl; omega)⟩) (Nat.lt_succ_self _)
  · exact ⟨Or.inl rfl, hq 0 (by have hsb := ti_sub (h 23 6) (h 23 8); have hne : ¬ (h 23 6).toInt.toNat = (h 23 8).toInt.toNat + 7 := fun q => absurd (Int32.toInt_inj.mp (show ((h 23 6) - (h 23 8)).toInt = r1.toInt from by omega)) (by assumption); exact ⟨Or.inl rfl, fun hc => absurd rfl hc, fun _ q => hne q.1⟩)⟩
-- ThreadBank$TextReader.isWord(Ljava/lang/String;)Z
set_option maxRecDepth 100000 in
set_option maxHeartbeats 4000000 in
theorem tx_89_4_c (X : qm_X) (h : qm_H) (hp : tc h ∧ (0 ≤ (h 23 8).toInt ∧ (h 23 8).toInt ≤ (h 23 6).toInt)) (Q : qm_Q) (hq : ∀ r : Int32, ((r = 0 ∨ r = 1) ∧ (¬ r = 0 → wis (h 24) (h 23 8).toInt.toNat (h 23 6).toInt.toNat (qm_sbyt.getD 4 [])) ∧ (r = 0 → ¬ wis (h 24) (h 23 8).toInt.toNat (h 23 6).toInt.toNat (qm_sbyt.getD 4 []))) → Q (some (.int r)) h) : ∀ n : Nat, (∀ (l2 : Int32), ((0 ≤ l2.toInt ∧ l2.toInt ≤ 3) ∧ (h 23 6).toInt = (h 23 8).toInt + 3 ∧ ∀ j : Nat, (j : Int) < l2.toInt → (h 24 ((h 23 8).toInt.toNat + j)).toInt = ((qm_sbyt.getD 4 []).getD j 0).toInt) → (3 - l2.toInt).toNat < n → qm_PA X 89 20 [(0, .ref 23), (1, .ref 114), (2, .int l2)] [] h Q) := by
  have hmtc : tc h := hp.1
  have ⟨⟨_, _⟩, _, _⟩ := hmtc
  have hp0 : 0 ≤ (h 23 8).toInt ∧ (h 23 8).toInt ≤ (h 23 6).toInt := hp.2
  intro n
  induction n with
  | zero => exact fun _ _ h0 => absurd h0 (Nat.not_lt_zero _)
  | succ n ih =>
    intro l2 hi hr
    refine qm_seg_ok (C := qc_89) (rt := some .boolean) rfl rfl (cuts := [(20, [0, 1, 2])]) 400 _ _ _ _ ?_
    show qm_PW X 3 [.ref 114] h _
    refine sf_3_114 X h  trivial _ (fun r1 p2 => ?_)
    show (r1.toInt ≤ l2.toInt → (((1 : Int32) = 0 ∨ (1 : Int32) = 1) ∧ Q (some (.int 1)) h)) ∧ (l2.toInt < r1.toInt → (qm_PW X 87 [.ref 23, .int ((h 23 8) + l2)] h _))
    refine ⟨fun c3 => ?_, fun c4 => ?_⟩
    · exact ⟨Or.inr rfl, hq 1 (by have hE : (h 23 6).toInt.toNat = (h 23 8).toInt.toNat + 3 := (by omega); have hN : ∀ j : Nat, j < 3 → (j : Int) < l2.toInt := fun j hj => (by omega); exact ⟨Or.inr rfl, fun _ => ⟨hE, fun j hj => hi.2.2 j (hN j hj)⟩, fun hc => absurd hc (by decide)⟩)⟩
    · refine tx_87 X h ((h 23 8) + l2) (by show 0 ≤ (h 23 2).toInt ∧ (h 23 2).toInt ≤ 160; omega) _ (fun r5 p6 => ?_)
      have o7 : ((0 ≤ ((h 23 8) + l2).toInt ∧ ((h 23 8) + l2).toInt < (h 23 2).toInt) ∧ r5.toInt = (h 24 ((h 23 8) + l2).toInt.toNat).toInt) ∨ ((((h 23 8) + l2).toInt < 0 ∨ (h 23 2).toInt ≤ ((h 23 8) + l2).toInt) ∧ r5.toInt = -1) := p6
      show qm_PW X 6 [.ref 114, .int l2] h _
      refine tx_6_4 X h l2 (by have := ti_add (h 23 8) l2; omega) _ (fun r8 p9 => ?_)
      have o10 : r8 = (qm_sbyt.getD 4 []).getD l2.toInt.toNat 0 := p9
      show (r5 = r8 → (qm_PA X 89 20 [(0, .ref 23), (1, .ref 114), (2, .int (l2 + 1))] [] h Q)) ∧ (¬ r5 = r8 → (((0 : Int32) = 0 ∨ (0 : Int32) = 1) ∧ Q (some (.int 0)) h))
      refine ⟨fun c11 => ?_, fun c12 => ?_⟩
      · exact ih (l2 + 1) (by have := ti_addK l2 (1 : Int32) 1 rfl; have := ti_add (h 23 8) l2; have hA : r5.toInt = (h 24 ((h 23 8).toInt.toNat + l2.toInt.toNat)).toInt := (by rw [show (h 23 8).toInt.toNat + l2.toInt.toNat = ((h 23 8) + l2).toInt.toNat by omega]; omega); have hbc : r5 = r8 := (by assumption); have h1 : 0 ≤ (l2 + 1).toInt ∧ (l2 + 1).toInt ≤ 3 := (by omega); have hJ : ∀ j : Nat, (j : Int) < (l2 + 1).toInt → (j : Int) < l2.toInt ∨ j = l2.toInt.toNat := fun j hj => (by omega); exact ⟨h1, hi.2.1, fun j hj => (hJ j hj).elim (fun q => hi.2.2 j q) (fun q => by rw [q]; exact hA.symm.trans (congrArg Int32.toInt (hbc.trans o10)))⟩) (by have := ti_addK l2 (1 : Int32) 1 rfl; have := ti_add (h 23 8) l2; omega)
      · exact ⟨Or.inl rfl, hq 0 (by have := ti_add (h 23 8) l2; have hA : r5.toInt = (h 24 ((h 23 8).toInt.toNat + l2.toInt.toNat)).toInt := (by rw [show (h 23 8).toInt.toNat + l2.toInt.toNat = ((h 23 8) + l2).toInt.toNat by omega]; omega); have hk : l2.toInt.toNat < 3 := (by omega); exact ⟨Or.inl rfl, fun hc => absurd rfl hc, fun _ q => absurd (Int32.toInt_inj.mp (hA.trans ((q.2 l2.toInt.toNat hk).trans (congrArg Int32.toInt o10).symm))) (by assumption)⟩)⟩
set_option maxRecDepth 100000 in
set_option maxHeartbeats 4000000 in
theorem tx_89_4 (X : qm_X) (h : qm_H) (hp : tc h ∧ (0 ≤ (h 23 8).toInt ∧ (h 23 8).toInt ≤ (h 23 6).toInt)) (Q : qm_Q) (hq : ∀ r : Int32, ((r = 0 ∨ r = 1) ∧ (¬ r = 0 → wis (h 24) (h 23 8).toInt.toNat (h 23 6).toInt.toNat (qm_sbyt.getD 4 [])) ∧ (r = 0 → ¬ wis (h 24) (h 23 8).toInt.toNat (h 23 6).toInt.toNat (qm_sbyt.getD 4 []))) → Q (some (.int r)) h) : qm_PW X 89 [.ref 23, .ref 114] h Q := by
  have hmtc : tc h := hp.1
  have ⟨⟨_, _⟩, _, _⟩ := hmtc
  have hp0 : 0 ≤ (h 23 8).toInt ∧ (h 23 8).toInt ≤ (h 23 6).toInt := hp.2
  refine qm_seg_ok (C := qc_89) (rt := some .boolean) rfl rfl (cuts := [(20, [0, 1, 2])]) 400 _ _ _ _ ?_
  show qm_PW X 3 [.ref 114] h _
  refine sf_3_114 X h  trivial _ (fun r1 p2 => ?_)
  show (((h 23 6) - (h 23 8)) = r1 → (qm_PA X 89 20 [(0, .ref 23), (1, .ref 114), (2, .int 0)] [] h Q)) ∧ (¬ ((h 23 6) - (h 23 8)) = r1 → (((0 : Int32) = 0 ∨ (0 : Int32) = 1) ∧ Q (some (.int 0)) h))
  refine ⟨fun c3 => ?_, fun c4 => ?_⟩
  · exact (tx_89_4_c X h hp Q hq _) (0 : Int32) (by have : (0 : Int32).toInt = 0 := rfl; have hsb := ti_sub (h 23 6) (h 23 8); have hce := congrArg Int32.toInt (show ((h 23 6) - (h 23 8)) = r1 from by assumption); exact ⟨⟨by decide, by decide⟩, by omega, fun j hj => absurd hj (by have : (0 : Int32).toInt = 0 := rfl; omega)⟩) (Nat.lt_succ_self _)
  · exact ⟨Or.inl rfl, hq 0 (by have hsb := ti_sub (h 23 6) (h 23 8); have hne : ¬ (h 23 6).toInt.toNat = (h 23 8).toInt.toNat + 3 := fun q => absurd (Int32.toInt_inj.mp (show ((h 23 6) - (h 23 8)).toInt = r1.toInt from by omega)) (by assumption); exact ⟨Or.inl rfl, fun hc => absurd rfl hc, fun _ q => hne q.1⟩)⟩
-- ThreadBank$TextReader.isWord(Ljava/lang/String;)Z
set_option maxRecDepth 100000 in
set_option maxHeartbeats 4000000 in
theorem tx_89_5_c (X : qm_X) (h : qm_H) (hp : tc h ∧ (0 ≤ (h 23 8).toInt ∧ (h 23 8).toInt ≤ (h 23 6).toInt)) (Q : qm_Q) (hq : ∀ r : Int32, ((r = 0 ∨ r = 1) ∧ (¬ r = 0 → wis (h 24) (h 23 8).toInt.toNat (h 23 6).toInt.toNat (qm_sbyt.getD 5 [])) ∧ (r = 0 → ¬ wis (h 24) (h 23 8).toInt.toNat (h 23 6).toInt.toNat (qm_sbyt.getD 5 []))) → Q (some (.int r)) h) : ∀ n : Nat, (∀ (l2 : Int32), ((0 ≤ l2.toInt ∧ l2.toInt ≤ 3) ∧ (h 23 6).toInt = (h 23 8).toInt + 3 ∧ ∀ j : Nat, (j : Int) < l2.toInt → (h 24 ((h 23 8).toInt.toNat + j)).toInt = ((qm_sbyt.getD 5 []).getD j 0).toInt) → (3 - l2.toInt).toNat < n → qm_PA X 89 20 [(0, .ref 23), (1, .ref 115), (2, .int l2)] [] h Q) := by
  have hmtc : tc h := hp.1
  have ⟨⟨_, _⟩, _, _⟩ := hmtc
  have hp0 : 0 ≤ (h 23 8).toInt ∧ (h 23 8).toInt ≤ (h 23 6).toInt := hp.2
  intro n
  induction n with
  | zero => exact fun _ _ h0 => absurd h0 (Nat.not_lt_zero _)
  | succ n ih =>
    intro l2 hi hr
    refine qm_seg_ok (C := qc_89) (rt := some .boolean) rfl rfl (cuts := [(20, [0, 1, 2])]) 400 _ _ _ _ ?_
    show qm_PW X 3 [.ref 115] h _
    refine sf_3_115 X h  trivial _ (fun r1 p2 => ?_)
    show (r1.toInt ≤ l2.toInt → (((1 : Int32) = 0 ∨ (1 : Int32) = 1) ∧ Q (some (.int 1)) h)) ∧ (l2.toInt < r1.toInt → (qm_PW X 87 [.ref 23, .int ((h 23 8) + l2)] h _))
    refine ⟨fun c3 => ?_, fun c4 => ?_⟩
    · exact ⟨Or.inr rfl, hq 1 (by have hE : (h 23 6).toInt.toNat = (h 23 8).toInt.toNat + 3 := (by omega); have hN : ∀ j : Nat, j < 3 → (j : Int) < l2.toInt := fun j hj => (by omega); exact ⟨Or.inr rfl, fun _ => ⟨hE, fun j hj => hi.2.2 j (hN j hj)⟩, fun hc => absurd hc (by decide)⟩)⟩
    · refine tx_87 X h ((h 23 8) + l2) (by show 0 ≤ (h 23 2).toInt ∧ (h 23 2).toInt ≤ 160; omega) _ (fun r5 p6 => ?_)
      have o7 : ((0 ≤ ((h 23 8) + l2).toInt ∧ ((h 23 8) + l2).toInt < (h 23 2).toInt) ∧ r5.toInt = (h 24 ((h 23 8) + l2).toInt.toNat).toInt) ∨ ((((h 23 8) + l2).toInt < 0 ∨ (h 23 2).toInt ≤ ((h 23 8) + l2).toInt) ∧ r5.toInt = -1) := p6
      show qm_PW X 6 [.ref 115, .int l2] h _
      refine tx_6_5 X h l2 (by have := ti_add (h 23 8) l2; omega) _ (fun r8 p9 => ?_)
      have o10 : r8 = (qm_sbyt.getD 5 []).getD l2.toInt.toNat 0 := p9
      show (r5 = r8 → (qm_PA X 89 20 [(0, .ref 23), (1, .ref 115), (2, .int (l2 + 1))] [] h Q)) ∧ (¬ r5 = r8 → (((0 : Int32) = 0 ∨ (0 : Int32) = 1) ∧ Q (some (.int 0)) h))
      refine ⟨fun c11 => ?_, fun c12 => ?_⟩
      · exact ih (l2 + 1) (by have := ti_addK l2 (1 : Int32) 1 rfl; have := ti_add (h 23 8) l2; have hA : r5.toInt = (h 24 ((h 23 8).toInt.toNat + l2.toInt.toNat)).toInt := (by rw [show (h 23 8).toInt.toNat + l2.toInt.toNat = ((h 23 8) + l2).toInt.toNat by omega]; omega); have hbc : r5 = r8 := (by assumption); have h1 : 0 ≤ (l2 + 1).toInt ∧ (l2 + 1).toInt ≤ 3 := (by omega); have hJ : ∀ j : Nat, (j : Int) < (l2 + 1).toInt → (j : Int) < l2.toInt ∨ j = l2.toInt.toNat := fun j hj => (by omega); exact ⟨h1, hi.2.1, fun j hj => (hJ j hj).elim (fun q => hi.2.2 j q) (fun q => by rw [q]; exact hA.symm.trans (congrArg Int32.toInt (hbc.trans o10)))⟩) (by have := ti_addK l2 (1 : Int32) 1 rfl; have := ti_add (h 23 8) l2; omega)
      · exact ⟨Or.inl rfl, hq 0 (by have := ti_add (h 23 8) l2; have hA : r5.toInt = (h 24 ((h 23 8).toInt.toNat + l2.toInt.toNat)).toInt := (by rw [show (h 23 8).toInt.toNat + l2.toInt.toNat = ((h 23 8) + l2).toInt.toNat by omega]; omega); have hk : l2.toInt.toNat < 3 := (by omega); exact ⟨Or.inl rfl, fun hc => absurd rfl hc, fun _ q => absurd (Int32.toInt_inj.mp (hA.trans ((q.2 l2.toInt.toNat hk).trans (congrArg Int32.toInt o10).symm))) (by assumption)⟩)⟩
set_option maxRecDepth 100000 in
set_option maxHeartbeats 4000000 in
theorem tx_89_5 (X : qm_X) (h : qm_H) (hp : tc h ∧ (0 ≤ (h 23 8).toInt ∧ (h 23 8).toInt ≤ (h 23 6).toInt)) (Q : qm_Q) (hq : ∀ r : Int32, ((r = 0 ∨ r = 1) ∧ (¬ r = 0 → wis (h 24) (h 23 8).toInt.toNat (h 23 6).toInt.toNat (qm_sbyt.getD 5 [])) ∧ (r = 0 → ¬ wis (h 24) (h 23 8).toInt.toNat (h 23 6).toInt.toNat (qm_sbyt.getD 5 []))) → Q (some (.int r)) h) : qm_PW X 89 [.ref 23, .ref 115] h Q := by
  have hmtc : tc h := hp.1
  have ⟨⟨_, _⟩, _, _⟩ := hmtc
  have hp0 : 0 ≤ (h 23 8).toInt ∧ (h 23 8).toInt ≤ (h 23 6).toInt := hp.2
  refine qm_seg_ok (C := qc_89) (rt := some .boolean) rfl rfl (cuts := [(20, [0, 1, 2])]) 400 _ _ _ _ ?_
  show qm_PW X 3 [.ref 115] h _
  refine sf_3_115 X h  trivial _ (fun r1 p2 => ?_)
  show (((h 23 6) - (h 23 8)) = r1 → (qm_PA X 89 20 [(0, .ref 23), (1, .ref 115), (2, .int 0)] [] h Q)) ∧ (¬ ((h 23 6) - (h 23 8)) = r1 → (((0 : Int32) = 0 ∨ (0 : Int32) = 1) ∧ Q (some (.int 0)) h))
  refine ⟨fun c3 => ?_, fun c4 => ?_⟩
  · exact (tx_89_5_c X h hp Q hq _) (0 : Int32) (by have : (0 : Int32).toInt = 0 := rfl; have hsb := ti_sub (h 23 6) (h 23 8); have hce := congrArg Int32.toInt (show ((h 23 6) - (h 23 8)) = r1 from by assumption); exact ⟨⟨by decide, by decide⟩, by omega, fun j hj => absurd hj (by have : (0 : Int32).toInt = 0 := rfl; omega)⟩) (Nat.lt_succ_self _)
  · exact ⟨Or.inl rfl, hq 0 (by have hsb := ti_sub (h 23 6) (h 23 8); have hne : ¬ (h 23 6).toInt.toNat = (h 23 8).toInt.toNat + 3 := fun q => absurd (Int32.toInt_inj.mp (show ((h 23 6) - (h 23 8)).toInt = r1.toInt from by omega)) (by assumption); exact ⟨Or.inl rfl, fun hc => absurd rfl hc, fun _ q => hne q.1⟩)⟩
