-- ThreadBankModel.of(II)I
set_option maxRecDepth 100000 in
set_option maxHeartbeats 4000000 in
theorem sf_171_39 (X : qm_X) (h : qm_H) (a : Int32) (b : Int32) (hp : am h ∧ ((0 ≤ a.toInt ∧ a.toInt ≤ 9) ∧ (0 ≤ b.toInt ∧ b.toInt ≤ 2))) (Q : qm_Q) (hq : ∀ r : Int32, (((b.toInt = 0 → 0 ≤ r.toInt ∧ r.toInt ≤ 39) ∧ (b.toInt = 1 → 0 ≤ r.toInt ∧ r.toInt / 10 ≤ 3 ∧ r.toInt % 10 ≤ 3) ∧ (b.toInt = 2 → 0 ≤ r.toInt ∧ r.toInt ≤ 99))) → Q (some (.int r)) h) : qm_PW X 171 [.ref 39, .int a, .int b] h Q := by
  have hmam : am h := hp.1
  have ⟨⟨_, _⟩, ⟨_, _⟩, _, _, _⟩ := hmam
  have hp0 : (0 ≤ a.toInt ∧ a.toInt ≤ 9) ∧ (0 ≤ b.toInt ∧ b.toInt ≤ 2) := hp.2
  have hof := am_of hmam hp0.1 hp0.2
  refine qm_seg_ok (C := qc_171) (rt := some .int) rfl rfl (cuts := []) 400 _ _ _ _ ?_
  show (0 ≤ ((6 + (3 * a)) + b).toInt ∧ ((6 + (3 * a)) + b).toInt < 49) ∧ (Q (some (.int (h 41 ((6 + (3 * a)) + b).toInt.toNat))) h)
  refine ⟨(by have := ti_mulL (3 : Int32) 3 rfl a; have := ti_addL (3 * a) (6 : Int32) 6 rfl; have := ti_add (6 + (3 * a)) b; omega), ?_⟩
  exact hq (h 41 ((6 + (3 * a)) + b).toInt.toNat) (by have := ti_mulL (3 : Int32) 3 rfl a; have := ti_addL (3 * a) (6 : Int32) 6 rfl; have := ti_add (6 + (3 * a)) b; exact hof.2)
-- ThreadBankModel.handOf(I)I
set_option maxRecDepth 100000 in
set_option maxHeartbeats 4000000 in
theorem sf_172_39 (X : qm_X) (h : qm_H) (a : Int32) (hp : am h ∧ (0 ≤ a.toInt ∧ a.toInt ≤ 9)) (Q : qm_Q) (hq : ∀ r : Int32, (0 ≤ r.toInt ∧ r.toInt ≤ 3) → Q (some (.int r)) h) : qm_PW X 172 [.ref 39, .int a] h Q := by
  have hmam : am h := hp.1
  have ⟨⟨_, _⟩, ⟨_, _⟩, _, _, _⟩ := hmam
  have hp0 : 0 ≤ a.toInt ∧ a.toInt ≤ 9 := hp.2
  refine qm_seg_ok (C := qc_172) (rt := some .int) rfl rfl (cuts := []) 400 _ _ _ _ ?_
  show qm_PW X 171 [.ref 39, .int a, .int 0] h _
  refine sf_171_39 X h a (0 : Int32) ⟨hmam, (by have : (0 : Int32).toInt = 0 := rfl; omega)⟩ _ (fun r1 p2 => ?_)
  replace p2 := p2.1 rfl
  show ¬ (10 : Int32) = 0 ∧ (Q (some (.int (r1 / 10))) h)
  refine ⟨by decide, ?_⟩
  exact hq (r1 / 10) (by have := ti_div (10 : Int32) 10 rfl r1 (by decide); omega)
-- ThreadBankModel.room(I)I
set_option maxRecDepth 100000 in
set_option maxHeartbeats 4000000 in
theorem sf_173_39 (X : qm_X) (h : qm_H) (a : Int32) (hp : am h ∧ (0 ≤ a.toInt ∧ a.toInt ≤ 39)) (Q : qm_Q) (hq : ∀ r : Int32, (True) → Q (some (.int r)) h) : qm_PW X 173 [.ref 39, .int a] h Q := by
  have hmam : am h := hp.1
  have ⟨⟨_, _⟩, ⟨_, _⟩, _, _, _⟩ := hmam
  have hp0 : 0 ≤ a.toInt ∧ a.toInt ≤ 39 := hp.2
  refine qm_seg_ok (C := qc_173) (rt := some .int) rfl rfl (cuts := []) 400 _ _ _ _ ?_
  show ¬ (10 : Int32) = 0 ∧ ((0 ≤ (0 + (a / 10)).toInt ∧ (0 + (a / 10)).toInt < 49) ∧ (¬ (10 : Int32) = 0 ∧ (qm_PW X 160 [.int (h 41 (0 + (a / 10)).toInt.toNat), .int (a - a / 10 * 10)] h _)))
  refine ⟨by decide, ?_⟩
  refine ⟨(by have := ti_div (10 : Int32) 10 rfl a (by decide); have := ti_addL (a / 10) (0 : Int32) 0 rfl; omega), ?_⟩
  refine ⟨by decide, ?_⟩
  refine sf_160 X h (h 41 (0 + (a / 10)).toInt.toNat) (a - a / 10 * 10) trivial _ (fun r1 p2 => ?_)
  show Q (some (.int r1)) h
  exact hq r1 trivial
-- ThreadBankModel.tiedAt(I)I
set_option maxRecDepth 100000 in
set_option maxHeartbeats 4000000 in
theorem sf_174_39_c (X : qm_X) (h : qm_H) (a : Int32) (hp : am h) (Q : qm_Q) (hq : ∀ r : Int32, (True) → Q (some (.int r)) h) : ∀ n : Nat, (∀ (l2 : Int32) (l3 : Int32), (0 ≤ l3.toInt ∧ l3.toInt ≤ 10) → (10 - l3.toInt).toNat < n → qm_PA X 174 4 [(0, .ref 39), (1, .int a), (2, .int l2), (3, .int l3)] [] h Q) := by
  have hmam : am h := hp
  have ⟨⟨_, _⟩, ⟨_, _⟩, _, _, _⟩ := hmam
  intro n
  induction n with
  | zero => exact fun _ _ _ h0 => absurd h0 (Nat.not_lt_zero _)
  | succ n ih =>
    intro l2 l3 hi hr
    have ti_l3 := ti_rng l3
    refine qm_seg_ok (C := qc_174) (rt := some .int) rfl rfl (cuts := [(4, [0, 1, 2, 3])]) 400 _ _ _ _ ?_
    show (0 ≤ (4 : Int) ∧ (4 : Int) < 49) ∧ (((h 41 4).toInt ≤ l3.toInt → (Q (some (.int l2)) h)) ∧ (l3.toInt < (h 41 4).toInt → (qm_PW X 171 [.ref 39, .int l3, .int 0] h _)))
    refine ⟨by decide, ?_⟩
    refine ⟨fun c1 => ?_, fun c2 => ?_⟩
    · exact hq l2 trivial
    · refine sf_171_39 X h l3 (0 : Int32) ⟨hmam, (by have : (0 : Int32).toInt = 0 := rfl; omega)⟩ _ (fun r3 p4 => ?_)
      replace p4 := p4.1 rfl
      show (¬ r3 = a → (qm_PW X 142 [.int 0] h _)) ∧ (r3 = a → (qm_PW X 142 [.int 1] h _))
      refine ⟨fun c5 => ?_, fun c6 => ?_⟩
      · refine sf_142 X h (0 : Int32) trivial _ (fun r7 p8 => ?_)
        show qm_PA X 174 4 [(0, .ref 39), (1, .int a), (2, .int (l2 + r7)), (3, .int (l3 + 1))] [] h Q
        exact ih (l2 + r7) (l3 + 1) (by have := ti_addK l3 (1 : Int32) 1 rfl; omega) (by have := ti_addK l3 (1 : Int32) 1 rfl; omega)
      · refine sf_142 X h (1 : Int32) trivial _ (fun r9 p10 => ?_)
        show qm_PA X 174 4 [(0, .ref 39), (1, .int a), (2, .int (l2 + r9)), (3, .int (l3 + 1))] [] h Q
        exact ih (l2 + r9) (l3 + 1) (by have := ti_addK l3 (1 : Int32) 1 rfl; omega) (by have := ti_addK l3 (1 : Int32) 1 rfl; omega)
set_option maxRecDepth 100000 in
set_option maxHeartbeats 4000000 in
theorem sf_174_39 (X : qm_X) (h : qm_H) (a : Int32) (hp : am h) (Q : qm_Q) (hq : ∀ r : Int32, (True) → Q (some (.int r)) h) : qm_PW X 174 [.ref 39, .int a] h Q := by
  have hmam : am h := hp
  have ⟨⟨_, _⟩, ⟨_, _⟩, _, _, _⟩ := hmam
  refine qm_seg_ok (C := qc_174) (rt := some .int) rfl rfl (cuts := [(4, [0, 1, 2, 3])]) 400 _ _ _ _ ?_
  show qm_PA X 174 4 [(0, .ref 39), (1, .int a), (2, .int 0), (3, .int 0)] [] h Q
  exact (sf_174_39_c X h a hp Q hq _) (0 : Int32) (0 : Int32) (by have : (0 : Int32).toInt = 0 := rfl; omega) (Nat.lt_succ_self _)
-- ThreadBankModel.tiedOn(I)I
set_option maxRecDepth 100000 in
set_option maxHeartbeats 4000000 in
theorem sf_175_39_c (X : qm_X) (h : qm_H) (a : Int32) (hp : am h) (Q : qm_Q) (hq : ∀ r : Int32, (True) → Q (some (.int r)) h) : ∀ n : Nat, (∀ (l2 : Int32) (l3 : Int32), (0 ≤ l3.toInt ∧ l3.toInt ≤ 10) → (10 - l3.toInt).toNat < n → qm_PA X 175 4 [(0, .ref 39), (1, .int a), (2, .int l2), (3, .int l3)] [] h Q) := by
  have hmam : am h := hp
  have ⟨⟨_, _⟩, ⟨_, _⟩, _, _, _⟩ := hmam
  intro n
  induction n with
  | zero => exact fun _ _ _ h0 => absurd h0 (Nat.not_lt_zero _)
  | succ n ih =>
    intro l2 l3 hi hr
    have ti_l3 := ti_rng l3
    refine qm_seg_ok (C := qc_175) (rt := some .int) rfl rfl (cuts := [(4, [0, 1, 2, 3])]) 400 _ _ _ _ ?_
    show (0 ≤ (4 : Int) ∧ (4 : Int) < 49) ∧ (((h 41 4).toInt ≤ l3.toInt → (Q (some (.int l2)) h)) ∧ (l3.toInt < (h 41 4).toInt → (qm_PW X 172 [.ref 39, .int l3] h _)))
    refine ⟨by decide, ?_⟩
    refine ⟨fun c1 => ?_, fun c2 => ?_⟩
    · exact hq l2 trivial
    · refine sf_172_39 X h l3 ⟨hmam, (by omega)⟩ _ (fun r3 p4 => ?_)
      show (¬ r3 = a → (qm_PW X 142 [.int 0] h _)) ∧ (r3 = a → (qm_PW X 142 [.int 1] h _))
      refine ⟨fun c5 => ?_, fun c6 => ?_⟩
      · refine sf_142 X h (0 : Int32) trivial _ (fun r7 p8 => ?_)
        show qm_PA X 175 4 [(0, .ref 39), (1, .int a), (2, .int (l2 + r7)), (3, .int (l3 + 1))] [] h Q
        exact ih (l2 + r7) (l3 + 1) (by have := ti_addK l3 (1 : Int32) 1 rfl; omega) (by have := ti_addK l3 (1 : Int32) 1 rfl; omega)
      · refine sf_142 X h (1 : Int32) trivial _ (fun r9 p10 => ?_)
        show qm_PA X 175 4 [(0, .ref 39), (1, .int a), (2, .int (l2 + r9)), (3, .int (l3 + 1))] [] h Q
        exact ih (l2 + r9) (l3 + 1) (by have := ti_addK l3 (1 : Int32) 1 rfl; omega) (by have := ti_addK l3 (1 : Int32) 1 rfl; omega)
set_option maxRecDepth 100000 in
set_option maxHeartbeats 4000000 in
theorem sf_175_39 (X : qm_X) (h : qm_H) (a : Int32) (hp : am h) (Q : qm_Q) (hq : ∀ r : Int32, (True) → Q (some (.int r)) h) : qm_PW X 175 [.ref 39, .int a] h Q := by
  have hmam : am h := hp
  have ⟨⟨_, _⟩, ⟨_, _⟩, _, _, _⟩ := hmam
  refine qm_seg_ok (C := qc_175) (rt := some .int) rfl rfl (cuts := [(4, [0, 1, 2, 3])]) 400 _ _ _ _ ?_
  show qm_PA X 175 4 [(0, .ref 39), (1, .int a), (2, .int 0), (3, .int 0)] [] h Q
  exact (sf_175_39_c X h a hp Q hq _) (0 : Int32) (0 : Int32) (by have : (0 : Int32).toInt = 0 := rfl; omega) (Nat.lt_succ_self _)
-- ThreadBankModel.handRoom(I)I
set_option maxRecDepth 100000 in
set_option maxHeartbeats 4000000 in
theorem sf_176_39_c (X : qm_X) (h : qm_H) (a : Int32) (hp : am h ∧ (0 ≤ a.toInt ∧ a.toInt ≤ 3)) (Q : qm_Q) (hq : ∀ r : Int32, (True) → Q (some (.int r)) h) : ∀ n : Nat, (∀ (l2 : Int32) (l3 : Int32), (0 ≤ l3.toInt ∧ l3.toInt ≤ 5) → (5 - l3.toInt).toNat < n → qm_PA X 176 4 [(0, .ref 39), (1, .int a), (2, .int l2), (3, .int l3)] [] h Q) := by
  have hmam : am h := hp.1
  have ⟨⟨_, _⟩, ⟨_, _⟩, _, _, _⟩ := hmam
  have hp0 : 0 ≤ a.toInt ∧ a.toInt ≤ 3 := hp.2
  intro n
  induction n with
  | zero => exact fun _ _ _ h0 => absurd h0 (Nat.not_lt_zero _)
  | succ n ih =>
    intro l2 l3 hi hr
    have ti_l3 := ti_rng l3
    refine qm_seg_ok (C := qc_176) (rt := some .int) rfl rfl (cuts := [(4, [0, 1, 2, 3])]) 400 _ _ _ _ ?_
    show (5 ≤ l3.toInt → (Q (some (.int l2)) h)) ∧ (l3.toInt < 5 → (qm_PW X 173 [.ref 39, .int ((10 * a) + l3)] h _))
    refine ⟨fun c1 => ?_, fun c2 => ?_⟩
    · exact hq l2 trivial
    · refine sf_173_39 X h ((10 * a) + l3) ⟨hmam, (by have := ti_mulL (10 : Int32) 10 rfl a; have := ti_add (10 * a) l3; omega)⟩ _ (fun r3 p4 => ?_)
      show qm_PA X 176 4 [(0, .ref 39), (1, .int a), (2, .int (l2 + r3)), (3, .int (l3 + 1))] [] h Q
      exact ih (l2 + r3) (l3 + 1) (by have := ti_addK l3 (1 : Int32) 1 rfl; omega) (by have := ti_addK l3 (1 : Int32) 1 rfl; omega)
set_option maxRecDepth 100000 in
set_option maxHeartbeats 4000000 in
theorem sf_176_39 (X : qm_X) (h : qm_H) (a : Int32) (hp : am h ∧ (0 ≤ a.toInt ∧ a.toInt ≤ 3)) (Q : qm_Q) (hq : ∀ r : Int32, (True) → Q (some (.int r)) h) : qm_PW X 176 [.ref 39, .int a] h Q := by
  have hmam : am h := hp.1
  have ⟨⟨_, _⟩, ⟨_, _⟩, _, _, _⟩ := hmam
  have hp0 : 0 ≤ a.toInt ∧ a.toInt ≤ 3 := hp.2
  refine qm_seg_ok (C := qc_176) (rt := some .int) rfl rfl (cuts := [(4, [0, 1, 2, 3])]) 400 _ _ _ _ ?_
  show qm_PA X 176 4 [(0, .ref 39), (1, .int a), (2, .int 0), (3, .int 0)] [] h Q
  exact (sf_176_39_c X h a hp Q hq _) (0 : Int32) (0 : Int32) (by have : (0 : Int32).toInt = 0 := rfl; omega) (Nat.lt_succ_self _)
-- ThreadBankModel.areAlike(II)Z
set_option maxRecDepth 100000 in
set_option maxHeartbeats 4000000 in
theorem sf_178_39 (X : qm_X) (h : qm_H) (a : Int32) (b : Int32) (hp : am h ∧ ((0 ≤ a.toInt ∧ a.toInt ≤ 9) ∧ (0 ≤ b.toInt ∧ b.toInt ≤ 9))) (Q : qm_Q) (hq : ∀ r : Int32, (r = 0 ∨ r = 1) → Q (some (.int r)) h) : qm_PW X 178 [.ref 39, .int a, .int b] h Q := by
  have hmam : am h := hp.1
  have ⟨⟨_, _⟩, ⟨_, _⟩, _, _, _⟩ := hmam
  have hp0 : (0 ≤ a.toInt ∧ a.toInt ≤ 9) ∧ (0 ≤ b.toInt ∧ b.toInt ≤ 9) := hp.2
  refine qm_seg_ok (C := qc_178) (rt := some .boolean) rfl rfl (cuts := []) 400 _ _ _ _ ?_
  show qm_PW X 171 [.ref 39, .int a, .int 1] h _
  refine sf_171_39 X h a (1 : Int32) ⟨hmam, (by have : (1 : Int32).toInt = 1 := rfl; omega)⟩ _ (fun r1 p2 => ?_)
  replace p2 := p2.2.1 rfl
  show qm_PW X 171 [.ref 39, .int b, .int 1] h _
  refine sf_171_39 X h b (1 : Int32) ⟨hmam, (by have : (1 : Int32).toInt = 1 := rfl; omega)⟩ _ (fun r3 p4 => ?_)
  replace p4 := p4.2.1 rfl
  show (¬ r1 = r3 → (((0 : Int32) = 0 ∨ (0 : Int32) = 1) ∧ Q (some (.int 0)) h)) ∧ (r1 = r3 → (qm_PW X 171 [.ref 39, .int a, .int 2] h _))
  refine ⟨fun c5 => ?_, fun c6 => ?_⟩
  · exact ⟨Or.inl rfl, hq 0 (Or.inl rfl)⟩
  · refine sf_171_39 X h a (2 : Int32) ⟨hmam, (by have : (2 : Int32).toInt = 2 := rfl; omega)⟩ _ (fun r7 p8 => ?_)
    replace p8 := p8.2.2 rfl
    show qm_PW X 171 [.ref 39, .int b, .int 2] h _
    refine sf_171_39 X h b (2 : Int32) ⟨hmam, (by have : (2 : Int32).toInt = 2 := rfl; omega)⟩ _ (fun r9 p10 => ?_)
    replace p10 := p10.2.2 rfl
    show (¬ r7 = r9 → (((0 : Int32) = 0 ∨ (0 : Int32) = 1) ∧ Q (some (.int 0)) h)) ∧ (r7 = r9 → (((1 : Int32) = 0 ∨ (1 : Int32) = 1) ∧ Q (some (.int 1)) h))
    refine ⟨fun c11 => ?_, fun c12 => ?_⟩
    · exact ⟨Or.inl rfl, hq 0 (Or.inl rfl)⟩
    · exact ⟨Or.inr rfl, hq 1 (Or.inr rfl)⟩
-- ThreadBankModel.isCopy(I)Z
set_option maxRecDepth 100000 in
set_option maxHeartbeats 4000000 in
theorem sf_179_39_c (X : qm_X) (h : qm_H) (a : Int32) (hp : am h ∧ (0 ≤ a.toInt ∧ a.toInt ≤ 9)) (Q : qm_Q) (hq : ∀ r : Int32, (r = 0 ∨ r = 1) → Q (some (.int r)) h) : ∀ n : Nat, (∀ (l2 : Int32) (l3 : Int32), ((0 ≤ l3.toInt ∧ l3.toInt ≤ 9) ∧ (l2 = 0 ∨ l2 = 1)) → (9 - l3.toInt).toNat < n → qm_PA X 179 4 [(0, .ref 39), (1, .int a), (2, .int l2), (3, .int l3)] [] h Q) := by
  have hmam : am h := hp.1
  have ⟨⟨_, _⟩, ⟨_, _⟩, _, _, _⟩ := hmam
  have hp0 : 0 ≤ a.toInt ∧ a.toInt ≤ 9 := hp.2
  intro n
  induction n with
  | zero => exact fun _ _ _ h0 => absurd h0 (Nat.not_lt_zero _)
  | succ n ih =>
    intro l2 l3 hi hr
    obtain ⟨hi0, hb2⟩ := hi
    have ti_l3 := ti_rng l3
    refine qm_seg_ok (C := qc_179) (rt := some .boolean) rfl rfl (cuts := [(4, [0, 1, 2, 3])]) 400 _ _ _ _ ?_
    show (a.toInt ≤ l3.toInt → ((l2 = 0 ∨ l2 = 1) ∧ Q (some (.int l2)) h)) ∧ (l3.toInt < a.toInt → ((¬ l2 = 0 → (qm_PA X 179 4 [(0, .ref 39), (1, .int a), (2, .int 1), (3, .int (l3 + 1))] [] h Q)) ∧ (l2 = 0 → (qm_PW X 178 [.ref 39, .int a, .int l3] h _))))
    refine ⟨fun c1 => ?_, fun c2 => ?_⟩
    · exact ⟨hb2, hq l2 hb2⟩
    · refine ⟨fun c3 => ?_, fun c4 => ?_⟩
      · exact ih (1 : Int32) (l3 + 1) ⟨(by have := ti_addK l3 (1 : Int32) 1 rfl; show 0 ≤ (l3 + 1).toInt ∧ (l3 + 1).toInt ≤ 9; omega), (Or.inr rfl)⟩ (by have := ti_addK l3 (1 : Int32) 1 rfl; omega)
      · refine sf_178_39 X h a l3 ⟨hmam, (by omega)⟩ _ (fun r5 p6 => ?_)
        show (r5 = 0 → (qm_PA X 179 4 [(0, .ref 39), (1, .int a), (2, .int 0), (3, .int (l3 + 1))] [] h Q)) ∧ (¬ r5 = 0 → (qm_PW X 172 [.ref 39, .int l3] h _))
        refine ⟨fun c7 => ?_, fun c8 => ?_⟩
        · exact ih (0 : Int32) (l3 + 1) ⟨(by have := ti_addK l3 (1 : Int32) 1 rfl; show 0 ≤ (l3 + 1).toInt ∧ (l3 + 1).toInt ≤ 9; omega), (Or.inl rfl)⟩ (by have := ti_addK l3 (1 : Int32) 1 rfl; omega)
        · refine sf_172_39 X h l3 ⟨hmam, (by omega)⟩ _ (fun r9 p10 => ?_)
          show qm_PW X 172 [.ref 39, .int a] h _
          refine sf_172_39 X h a ⟨hmam, (by omega)⟩ _ (fun r11 p12 => ?_)
          show (r9 = r11 → (qm_PA X 179 4 [(0, .ref 39), (1, .int a), (2, .int 0), (3, .int (l3 + 1))] [] h Q)) ∧ (¬ r9 = r11 → (qm_PA X 179 4 [(0, .ref 39), (1, .int a), (2, .int 1), (3, .int (l3 + 1))] [] h Q))
          refine ⟨fun c13 => ?_, fun c14 => ?_⟩
          · exact ih (0 : Int32) (l3 + 1) ⟨(by have := ti_addK l3 (1 : Int32) 1 rfl; show 0 ≤ (l3 + 1).toInt ∧ (l3 + 1).toInt ≤ 9; omega), (Or.inl rfl)⟩ (by have := ti_addK l3 (1 : Int32) 1 rfl; omega)
          · exact ih (1 : Int32) (l3 + 1) ⟨(by have := ti_addK l3 (1 : Int32) 1 rfl; show 0 ≤ (l3 + 1).toInt ∧ (l3 + 1).toInt ≤ 9; omega), (Or.inr rfl)⟩ (by have := ti_addK l3 (1 : Int32) 1 rfl; omega)
set_option maxRecDepth 100000 in
set_option maxHeartbeats 4000000 in
theorem sf_179_39 (X : qm_X) (h : qm_H) (a : Int32) (hp : am h ∧ (0 ≤ a.toInt ∧ a.toInt ≤ 9)) (Q : qm_Q) (hq : ∀ r : Int32, (r = 0 ∨ r = 1) → Q (some (.int r)) h) : qm_PW X 179 [.ref 39, .int a] h Q := by
  have hmam : am h := hp.1
  have ⟨⟨_, _⟩, ⟨_, _⟩, _, _, _⟩ := hmam
  have hp0 : 0 ≤ a.toInt ∧ a.toInt ≤ 9 := hp.2
  refine qm_seg_ok (C := qc_179) (rt := some .boolean) rfl rfl (cuts := [(4, [0, 1, 2, 3])]) 400 _ _ _ _ ?_
  show qm_PA X 179 4 [(0, .ref 39), (1, .int a), (2, .int 0), (3, .int 0)] [] h Q
  exact (sf_179_39_c X h a hp Q hq _) (0 : Int32) (0 : Int32) ⟨(by have : (0 : Int32).toInt = 0 := rfl; show 0 ≤ (0 : Int32).toInt ∧ (0 : Int32).toInt ≤ 9; omega), (Or.inl rfl)⟩ (Nat.lt_succ_self _)
-- ThreadBankModel.isFirst(I)Z
set_option maxRecDepth 100000 in
set_option maxHeartbeats 4000000 in
theorem sf_213_39_c (X : qm_X) (h : qm_H) (a : Int32) (hp : am h ∧ (0 ≤ a.toInt ∧ a.toInt ≤ 9)) (Q : qm_Q) (hq : ∀ r : Int32, (r = 0 ∨ r = 1) → Q (some (.int r)) h) : ∀ n : Nat, (∀ (l2 : Int32) (l3 : Int32), ((0 ≤ l3.toInt ∧ l3.toInt ≤ 9) ∧ (l2 = 0 ∨ l2 = 1)) → (9 - l3.toInt).toNat < n → qm_PA X 213 4 [(0, .ref 39), (1, .int a), (2, .int l2), (3, .int l3)] [] h Q) := by
  have hmam : am h := hp.1
  have ⟨⟨_, _⟩, ⟨_, _⟩, _, _, _⟩ := hmam
  have hp0 : 0 ≤ a.toInt ∧ a.toInt ≤ 9 := hp.2
  intro n
  induction n with
  | zero => exact fun _ _ _ h0 => absurd h0 (Nat.not_lt_zero _)
  | succ n ih =>
    intro l2 l3 hi hr
    obtain ⟨hi0, hb2⟩ := hi
    have ti_l3 := ti_rng l3
    refine qm_seg_ok (C := qc_213) (rt := some .boolean) rfl rfl (cuts := [(4, [0, 1, 2, 3])]) 400 _ _ _ _ ?_
    show (a.toInt ≤ l3.toInt → ((l2 = 0 ∨ l2 = 1) ∧ Q (some (.int l2)) h)) ∧ (l3.toInt < a.toInt → ((l2 = 0 → (qm_PA X 213 4 [(0, .ref 39), (1, .int a), (2, .int 0), (3, .int (l3 + 1))] [] h Q)) ∧ (¬ l2 = 0 → (qm_PW X 178 [.ref 39, .int a, .int l3] h _))))
    refine ⟨fun c1 => ?_, fun c2 => ?_⟩
    · exact ⟨hb2, hq l2 hb2⟩
    · refine ⟨fun c3 => ?_, fun c4 => ?_⟩
      · exact ih (0 : Int32) (l3 + 1) ⟨(by have := ti_addK l3 (1 : Int32) 1 rfl; show 0 ≤ (l3 + 1).toInt ∧ (l3 + 1).toInt ≤ 9; omega), (Or.inl rfl)⟩ (by have := ti_addK l3 (1 : Int32) 1 rfl; omega)
      · refine sf_178_39 X h a l3 ⟨hmam, (by omega)⟩ _ (fun r5 p6 => ?_)
        show (¬ r5 = 0 → (qm_PA X 213 4 [(0, .ref 39), (1, .int a), (2, .int 0), (3, .int (l3 + 1))] [] h Q)) ∧ (r5 = 0 → (qm_PA X 213 4 [(0, .ref 39), (1, .int a), (2, .int 1), (3, .int (l3 + 1))] [] h Q))
        refine ⟨fun c7 => ?_, fun c8 => ?_⟩
        · exact ih (0 : Int32) (l3 + 1) ⟨(by have := ti_addK l3 (1 : Int32) 1 rfl; show 0 ≤ (l3 + 1).toInt ∧ (l3 + 1).toInt ≤ 9; omega), (Or.inl rfl)⟩ (by have := ti_addK l3 (1 : Int32) 1 rfl; omega)
        · exact ih (1 : Int32) (l3 + 1) ⟨(by have := ti_addK l3 (1 : Int32) 1 rfl; show 0 ≤ (l3 + 1).toInt ∧ (l3 + 1).toInt ≤ 9; omega), (Or.inr rfl)⟩ (by have := ti_addK l3 (1 : Int32) 1 rfl; omega)
set_option maxRecDepth 100000 in
set_option maxHeartbeats 4000000 in
theorem sf_213_39 (X : qm_X) (h : qm_H) (a : Int32) (hp : am h ∧ (0 ≤ a.toInt ∧ a.toInt ≤ 9)) (Q : qm_Q) (hq : ∀ r : Int32, (r = 0 ∨ r = 1) → Q (some (.int r)) h) : qm_PW X 213 [.ref 39, .int a] h Q := by
  have hmam : am h := hp.1
  have ⟨⟨_, _⟩, ⟨_, _⟩, _, _, _⟩ := hmam
  have hp0 : 0 ≤ a.toInt ∧ a.toInt ≤ 9 := hp.2
  refine qm_seg_ok (C := qc_213) (rt := some .boolean) rfl rfl (cuts := [(4, [0, 1, 2, 3])]) 400 _ _ _ _ ?_
  show qm_PA X 213 4 [(0, .ref 39), (1, .int a), (2, .int 1), (3, .int 0)] [] h Q
  exact (sf_213_39_c X h a hp Q hq _) (1 : Int32) (0 : Int32) ⟨(by have : (0 : Int32).toInt = 0 := rfl; show 0 ≤ (0 : Int32).toInt ∧ (0 : Int32).toInt ≤ 9; omega), (Or.inr rfl)⟩ (Nat.lt_succ_self _)
-- ThreadBankModel.handsOf(I)I
set_option maxRecDepth 100000 in
set_option maxHeartbeats 4000000 in
theorem sf_212_39_c (X : qm_X) (h : qm_H) (a : Int32) (hp : am h ∧ (0 ≤ a.toInt ∧ a.toInt ≤ 9)) (Q : qm_Q) (hq : ∀ r : Int32, (True) → Q (some (.int r)) h) : ∀ n : Nat, (∀ (l2 : Int32) (l3 : Int32), (0 ≤ l3.toInt ∧ l3.toInt ≤ 10) → (10 - l3.toInt).toNat < n → qm_PA X 212 4 [(0, .ref 39), (1, .int a), (2, .int l2), (3, .int l3)] [] h Q) := by
  have hmam : am h := hp.1
  have ⟨⟨_, _⟩, ⟨_, _⟩, _, _, _⟩ := hmam
  have hp0 : 0 ≤ a.toInt ∧ a.toInt ≤ 9 := hp.2
  intro n
  induction n with
  | zero => exact fun _ _ _ h0 => absurd h0 (Nat.not_lt_zero _)
  | succ n ih =>
    intro l2 l3 hi hr
    have ti_l3 := ti_rng l3
    refine qm_seg_ok (C := qc_212) (rt := some .int) rfl rfl (cuts := [(4, [0, 1, 2, 3])]) 400 _ _ _ _ ?_
    show (0 ≤ (4 : Int) ∧ (4 : Int) < 49) ∧ (((h 41 4).toInt ≤ l3.toInt → (Q (some (.int l2)) h)) ∧ (l3.toInt < (h 41 4).toInt → (qm_PW X 178 [.ref 39, .int a, .int l3] h _)))
    refine ⟨by decide, ?_⟩
    refine ⟨fun c1 => ?_, fun c2 => ?_⟩
    · exact hq l2 trivial
    · refine sf_178_39 X h a l3 ⟨hmam, (by omega)⟩ _ (fun r3 p4 => ?_)
      show qm_PW X 142 [.int r3] h _
      refine sf_142 X h r3 trivial _ (fun r5 p6 => ?_)
      show qm_PW X 172 [.ref 39, .int l3] h _
      refine sf_172_39 X h l3 ⟨hmam, (by omega)⟩ _ (fun r7 p8 => ?_)
      show qm_PA X 212 4 [(0, .ref 39), (1, .int a), (2, .int (l2 ||| (r5 <<< (r7 &&& 31)))), (3, .int (l3 + 1))] [] h Q
      exact ih (l2 ||| (r5 <<< (r7 &&& 31))) (l3 + 1) (by have := ti_addK l3 (1 : Int32) 1 rfl; omega) (by have := ti_addK l3 (1 : Int32) 1 rfl; omega)
set_option maxRecDepth 100000 in
set_option maxHeartbeats 4000000 in
theorem sf_212_39 (X : qm_X) (h : qm_H) (a : Int32) (hp : am h ∧ (0 ≤ a.toInt ∧ a.toInt ≤ 9)) (Q : qm_Q) (hq : ∀ r : Int32, (True) → Q (some (.int r)) h) : qm_PW X 212 [.ref 39, .int a] h Q := by
  have hmam : am h := hp.1
  have ⟨⟨_, _⟩, ⟨_, _⟩, _, _, _⟩ := hmam
  have hp0 : 0 ≤ a.toInt ∧ a.toInt ≤ 9 := hp.2
  refine qm_seg_ok (C := qc_212) (rt := some .int) rfl rfl (cuts := [(4, [0, 1, 2, 3])]) 400 _ _ _ _ ?_
  show qm_PA X 212 4 [(0, .ref 39), (1, .int a), (2, .int 0), (3, .int 0)] [] h Q
  exact (sf_212_39_c X h a hp Q hq _) (0 : Int32) (0 : Int32) (by have : (0 : Int32).toInt = 0 := rfl; omega) (Nat.lt_succ_self _)
-- ThreadBankModel.atRisk(I)I
set_option maxRecDepth 100000 in
set_option maxHeartbeats 4000000 in
theorem sf_214_39_c (X : qm_X) (h : qm_H) (a : Int32) (hp : am h) (Q : qm_Q) (hq : ∀ r : Int32, (True) → Q (some (.int r)) h) : ∀ n : Nat, (∀ (l2 : Int32) (l3 : Int32), (0 ≤ l3.toInt ∧ l3.toInt ≤ 10) → (10 - l3.toInt).toNat < n → qm_PA X 214 4 [(0, .ref 39), (1, .int a), (2, .int l2), (3, .int l3)] [] h Q) := by
  have hmam : am h := hp
  have ⟨⟨_, _⟩, ⟨_, _⟩, _, _, _⟩ := hmam
  intro n
  induction n with
  | zero => exact fun _ _ _ h0 => absurd h0 (Nat.not_lt_zero _)
  | succ n ih =>
    intro l2 l3 hi hr
    have ti_l3 := ti_rng l3
    refine qm_seg_ok (C := qc_214) (rt := some .int) rfl rfl (cuts := [(4, [0, 1, 2, 3])]) 400 _ _ _ _ ?_
    show (0 ≤ (4 : Int) ∧ (4 : Int) < 49) ∧ (((h 41 4).toInt ≤ l3.toInt → (Q (some (.int l2)) h)) ∧ (l3.toInt < (h 41 4).toInt → (qm_PW X 213 [.ref 39, .int l3] h _)))
    refine ⟨by decide, ?_⟩
    refine ⟨fun c1 => ?_, fun c2 => ?_⟩
    · exact hq l2 trivial
    · refine sf_213_39 X h l3 ⟨hmam, (by omega)⟩ _ (fun r3 p4 => ?_)
      show (r3 = 0 → (qm_PW X 142 [.int 0] h _)) ∧ (¬ r3 = 0 → (qm_PW X 212 [.ref 39, .int l3] h _))
      refine ⟨fun c5 => ?_, fun c6 => ?_⟩
      · refine sf_142 X h (0 : Int32) trivial _ (fun r7 p8 => ?_)
        show qm_PA X 214 4 [(0, .ref 39), (1, .int a), (2, .int (l2 + r7)), (3, .int (l3 + 1))] [] h Q
        exact ih (l2 + r7) (l3 + 1) (by have := ti_addK l3 (1 : Int32) 1 rfl; omega) (by have := ti_addK l3 (1 : Int32) 1 rfl; omega)
      · refine sf_212_39 X h l3 ⟨hmam, (by omega)⟩ _ (fun r9 p10 => ?_)
        show (¬ r9 = (1 <<< (a &&& 31)) → (qm_PW X 142 [.int 0] h _)) ∧ (r9 = (1 <<< (a &&& 31)) → (qm_PW X 142 [.int 1] h _))
        refine ⟨fun c11 => ?_, fun c12 => ?_⟩
        · refine sf_142 X h (0 : Int32) trivial _ (fun r13 p14 => ?_)
          show qm_PA X 214 4 [(0, .ref 39), (1, .int a), (2, .int (l2 + r13)), (3, .int (l3 + 1))] [] h Q
          exact ih (l2 + r13) (l3 + 1) (by have := ti_addK l3 (1 : Int32) 1 rfl; omega) (by have := ti_addK l3 (1 : Int32) 1 rfl; omega)
        · refine sf_142 X h (1 : Int32) trivial _ (fun r15 p16 => ?_)
          show qm_PA X 214 4 [(0, .ref 39), (1, .int a), (2, .int (l2 + r15)), (3, .int (l3 + 1))] [] h Q
          exact ih (l2 + r15) (l3 + 1) (by have := ti_addK l3 (1 : Int32) 1 rfl; omega) (by have := ti_addK l3 (1 : Int32) 1 rfl; omega)
set_option maxRecDepth 100000 in
set_option maxHeartbeats 4000000 in
theorem sf_214_39 (X : qm_X) (h : qm_H) (a : Int32) (hp : am h) (Q : qm_Q) (hq : ∀ r : Int32, (True) → Q (some (.int r)) h) : qm_PW X 214 [.ref 39, .int a] h Q := by
  have hmam : am h := hp
  have ⟨⟨_, _⟩, ⟨_, _⟩, _, _, _⟩ := hmam
  refine qm_seg_ok (C := qc_214) (rt := some .int) rfl rfl (cuts := [(4, [0, 1, 2, 3])]) 400 _ _ _ _ ?_
  show qm_PA X 214 4 [(0, .ref 39), (1, .int a), (2, .int 0), (3, .int 0)] [] h Q
  exact (sf_214_39_c X h a hp Q hq _) (0 : Int32) (0 : Int32) (by have : (0 : Int32).toInt = 0 := rfl; omega) (Nat.lt_succ_self _)
-- ThreadBankModel.slipOf(II)I
set_option maxRecDepth 100000 in
set_option maxHeartbeats 4000000 in
theorem sf_221_39 (X : qm_X) (h : qm_H) (a : Int32) (b : Int32) (hp : am h ∧ (0 ≤ a.toInt ∧ a.toInt ≤ 9)) (Q : qm_Q) (hq : ∀ r : Int32, (True) → Q (some (.int r)) h) : qm_PW X 221 [.ref 39, .int a, .int b] h Q := by
  have hmam : am h := hp.1
  have ⟨⟨_, _⟩, ⟨_, _⟩, _, _, _⟩ := hmam
  have hp0 : 0 ≤ a.toInt ∧ a.toInt ≤ 9 := hp.2
  refine qm_seg_ok (C := qc_221) (rt := some .int) rfl rfl (cuts := []) 400 _ _ _ _ ?_
  show qm_PW X 172 [.ref 39, .int a] h _
  refine sf_172_39 X h a ⟨hmam, (by omega)⟩ _ (fun r1 p2 => ?_)
  show (0 ≤ (0 + r1).toInt ∧ (0 + r1).toInt < 49) ∧ ((¬ (h 41 (0 + r1).toInt.toNat) = 3 → ((¬ (h 41 (0 + r1).toInt.toNat) = 2 → (Q (some (.int (2 * b))) h)) ∧ ((h 41 (0 + r1).toInt.toNat) = 2 → (Q (some (.int b)) h)))) ∧ ((h 41 (0 + r1).toInt.toNat) = 3 → (Q (some (.int 0)) h)))
  refine ⟨(by have := ti_addL r1 (0 : Int32) 0 rfl; omega), ?_⟩
  refine ⟨fun c3 => ?_, fun c4 => ?_⟩
  · refine ⟨fun c5 => ?_, fun c6 => ?_⟩
    · exact hq (2 * b) trivial
    · exact hq b trivial
  · exact hq 0 trivial
