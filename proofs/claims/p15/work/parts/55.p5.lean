-- ThreadBankModel.doFit()Z
set_option maxRecDepth 100000 in
set_option maxHeartbeats 4000000 in
theorem sf_161_39_c (X : qm_X) (h : qm_H) (hp : pp h ∧ dd h) (Q : qm_Q) (hq : ∀ r : Int32, (r = 0 ∨ r = 1) → Q (some (.int r)) h) : ∀ n : Nat, (∀ (l1 : Int32) (l2 : Int32), ((0 ≤ l2.toInt ∧ l2.toInt ≤ 4) ∧ (l1 = 0 ∨ l1 = 1)) → ((4 - l2.toInt) * 10000 + 9000).toNat < n → qm_PA X 161 4 [(0, .ref 39), (1, .int l1), (2, .int l2)] [] h Q) ∧ (∀ (l1 : Int32) (l2 : Int32) (l3 : Int32), ((0 ≤ l2.toInt ∧ l2.toInt ≤ 3 ∧ 0 ≤ l3.toInt ∧ l3.toInt ≤ 5) ∧ (l1 = 0 ∨ l1 = 1)) → ((4 - l2.toInt) * 10000 + (5 - l3.toInt) * 100 + 50).toNat < n → qm_PA X 161 14 [(0, .ref 39), (1, .int l1), (2, .int l2), (3, .int l3)] [] h Q) ∧ (∀ (l1 : Int32) (l2 : Int32) (l3 : Int32) (l4 : Int32) (l5 : Int32), ((0 ≤ l2.toInt ∧ l2.toInt ≤ 3 ∧ 0 ≤ l3.toInt ∧ l3.toInt ≤ 4 ∧ 0 ≤ l5.toInt ∧ l5.toInt ≤ 10) ∧ (l1 = 0 ∨ l1 = 1)) → ((4 - l2.toInt) * 10000 + (5 - l3.toInt) * 100 + 40 - l5.toInt).toNat < n → qm_PA X 161 25 [(0, .ref 39), (1, .int l1), (2, .int l2), (3, .int l3), (4, .int l4), (5, .int l5)] [] h Q) := by
  have hmpp : pp h := hp.1
  have ⟨⟨_, _⟩, ⟨_, _⟩, _, _⟩ := hmpp
  have hmdd : dd h := hp.2
  have ⟨⟨_, _⟩, _, _⟩ := hmdd
  intro n
  induction n with
  | zero => exact ⟨fun _ _ _ h0 => absurd h0 (Nat.not_lt_zero _), fun _ _ _ _ h0 => absurd h0 (Nat.not_lt_zero _), fun _ _ _ _ _ _ h0 => absurd h0 (Nat.not_lt_zero _)⟩
  | succ n ih =>
    refine ⟨?_, ?_, ?_⟩
    · intro l1 l2 hi hr
      obtain ⟨hi0, hb1⟩ := hi
      refine qm_seg_ok (C := qc_161) (rt := some .boolean) rfl rfl (cuts := [(4, [0, 1, 2]), (14, [0, 1, 2, 3]), (25, [0, 1, 2, 3, 4, 5])]) 400 _ _ _ _ ?_
      show ((h 39 5).toInt ≤ l2.toInt → ((l1 = 0 ∨ l1 = 1) ∧ Q (some (.int l1)) h)) ∧ (l2.toInt < (h 39 5).toInt → (qm_PA X 161 14 [(0, .ref 39), (1, .int l1), (2, .int l2), (3, .int 0)] [] h Q))
      refine ⟨fun c1 => ?_, fun c2 => ?_⟩
      · exact ⟨hb1, hq l1 hb1⟩
      · exact ih.2.1 l1 l2 (0 : Int32) ⟨(by have : (0 : Int32).toInt = 0 := rfl; show 0 ≤ l2.toInt ∧ l2.toInt ≤ 3 ∧ 0 ≤ (0 : Int32).toInt ∧ (0 : Int32).toInt ≤ 5; omega), (hb1)⟩ (by have : (0 : Int32).toInt = 0 := rfl; omega)
    · intro l1 l2 l3 hi hr
      obtain ⟨hi0, hb1⟩ := hi
      refine qm_seg_ok (C := qc_161) (rt := some .boolean) rfl rfl (cuts := [(4, [0, 1, 2]), (14, [0, 1, 2, 3]), (25, [0, 1, 2, 3, 4, 5])]) 400 _ _ _ _ ?_
      show (5 ≤ l3.toInt → (qm_PA X 161 4 [(0, .ref 39), (1, .int l1), (2, .int (l2 + 1))] [] h Q)) ∧ (l3.toInt < 5 → (qm_PA X 161 25 [(0, .ref 39), (1, .int l1), (2, .int l2), (3, .int l3), (4, .int 0), (5, .int 0)] [] h Q))
      refine ⟨fun c1 => ?_, fun c2 => ?_⟩
      · exact ih.1 l1 (l2 + 1) ⟨(by have := ti_addK l2 (1 : Int32) 1 rfl; show 0 ≤ (l2 + 1).toInt ∧ (l2 + 1).toInt ≤ 4; omega), (hb1)⟩ (by have := ti_addK l2 (1 : Int32) 1 rfl; omega)
      · exact ih.2.2 l1 l2 l3 (0 : Int32) (0 : Int32) ⟨(by have : (0 : Int32).toInt = 0 := rfl; show 0 ≤ l2.toInt ∧ l2.toInt ≤ 3 ∧ 0 ≤ l3.toInt ∧ l3.toInt ≤ 4 ∧ 0 ≤ (0 : Int32).toInt ∧ (0 : Int32).toInt ≤ 10; omega), (hb1)⟩ (by have : (0 : Int32).toInt = 0 := rfl; omega)
    · intro l1 l2 l3 l4 l5 hi hr
      obtain ⟨hi0, hb1⟩ := hi
      refine qm_seg_ok (C := qc_161) (rt := some .boolean) rfl rfl (cuts := [(4, [0, 1, 2]), (14, [0, 1, 2, 3]), (25, [0, 1, 2, 3, 4, 5])]) 400 _ _ _ _ ?_
      show (0 ≤ (4 : Int) ∧ (4 : Int) < 49) ∧ (((h 43 4).toInt ≤ l5.toInt → ((l1 = 0 → (qm_PA X 161 14 [(0, .ref 39), (1, .int 0), (2, .int l2), (3, .int (l3 + 1))] [] h Q)) ∧ (¬ l1 = 0 → ((0 ≤ (0 + l2).toInt ∧ (0 + l2).toInt < 49) ∧ (qm_PW X 160 [.int (h 43 (0 + l2).toInt.toNat), .int l3] h _))))) ∧ (l5.toInt < (h 43 4).toInt → ((0 ≤ ((6 + (3 * l5)) + 0).toInt ∧ ((6 + (3 * l5)) + 0).toInt < 49) ∧ ((¬ (h 43 ((6 + (3 * l5)) + 0).toInt.toNat) = ((10 * l2) + l3) → (qm_PW X 142 [.int 0] h _)) ∧ ((h 43 ((6 + (3 * l5)) + 0).toInt.toNat) = ((10 * l2) + l3) → (qm_PW X 142 [.int 1] h _))))))
      refine ⟨by decide, ?_⟩
      refine ⟨fun c1 => ?_, fun c2 => ?_⟩
      · refine ⟨fun c3 => ?_, fun c4 => ?_⟩
        · exact ih.2.1 (0 : Int32) l2 (l3 + 1) ⟨(by have := ti_addK l3 (1 : Int32) 1 rfl; show 0 ≤ l2.toInt ∧ l2.toInt ≤ 3 ∧ 0 ≤ (l3 + 1).toInt ∧ (l3 + 1).toInt ≤ 5; omega), (Or.inl rfl)⟩ (by have := ti_addK l3 (1 : Int32) 1 rfl; omega)
        · refine ⟨(by have := ti_addL l2 (0 : Int32) 0 rfl; omega), ?_⟩
          refine sf_160 X h (h 43 (0 + l2).toInt.toNat) l3 trivial _ (fun r5 p6 => ?_)
          show (r5.toInt < l4.toInt → (qm_PA X 161 14 [(0, .ref 39), (1, .int 0), (2, .int l2), (3, .int (l3 + 1))] [] h Q)) ∧ (l4.toInt ≤ r5.toInt → (qm_PA X 161 14 [(0, .ref 39), (1, .int 1), (2, .int l2), (3, .int (l3 + 1))] [] h Q))
          refine ⟨fun c7 => ?_, fun c8 => ?_⟩
          · exact ih.2.1 (0 : Int32) l2 (l3 + 1) ⟨(by have := ti_addK l3 (1 : Int32) 1 rfl; show 0 ≤ l2.toInt ∧ l2.toInt ≤ 3 ∧ 0 ≤ (l3 + 1).toInt ∧ (l3 + 1).toInt ≤ 5; omega), (Or.inl rfl)⟩ (by have := ti_addK l3 (1 : Int32) 1 rfl; omega)
          · exact ih.2.1 (1 : Int32) l2 (l3 + 1) ⟨(by have := ti_addK l3 (1 : Int32) 1 rfl; show 0 ≤ l2.toInt ∧ l2.toInt ≤ 3 ∧ 0 ≤ (l3 + 1).toInt ∧ (l3 + 1).toInt ≤ 5; omega), (Or.inr rfl)⟩ (by have := ti_addK l3 (1 : Int32) 1 rfl; omega)
      · refine ⟨(by have := ti_mulL (3 : Int32) 3 rfl l5; have := ti_addL (3 * l5) (6 : Int32) 6 rfl; have := ti_addK (6 + (3 * l5)) (0 : Int32) 0 rfl; omega), ?_⟩
        refine ⟨fun c9 => ?_, fun c10 => ?_⟩
        · refine sf_142 X h (0 : Int32) trivial _ (fun r11 p12 => ?_)
          show qm_PA X 161 25 [(0, .ref 39), (1, .int l1), (2, .int l2), (3, .int l3), (4, .int (l4 + r11)), (5, .int (l5 + 1))] [] h Q
          exact ih.2.2 l1 l2 l3 (l4 + r11) (l5 + 1) ⟨(by have := ti_addK l5 (1 : Int32) 1 rfl; have := ti_mulL (3 : Int32) 3 rfl l5; have := ti_addL (3 * l5) (6 : Int32) 6 rfl; have := ti_addK (6 + (3 * l5)) (0 : Int32) 0 rfl; have := ti_mulL (10 : Int32) 10 rfl l2; show 0 ≤ l2.toInt ∧ l2.toInt ≤ 3 ∧ 0 ≤ l3.toInt ∧ l3.toInt ≤ 4 ∧ 0 ≤ (l5 + 1).toInt ∧ (l5 + 1).toInt ≤ 10; omega), (hb1)⟩ (by have := ti_addK l5 (1 : Int32) 1 rfl; have := ti_mulL (3 : Int32) 3 rfl l5; have := ti_addL (3 * l5) (6 : Int32) 6 rfl; have := ti_addK (6 + (3 * l5)) (0 : Int32) 0 rfl; have := ti_mulL (10 : Int32) 10 rfl l2; omega)
        · refine sf_142 X h (1 : Int32) trivial _ (fun r13 p14 => ?_)
          show qm_PA X 161 25 [(0, .ref 39), (1, .int l1), (2, .int l2), (3, .int l3), (4, .int (l4 + r13)), (5, .int (l5 + 1))] [] h Q
          exact ih.2.2 l1 l2 l3 (l4 + r13) (l5 + 1) ⟨(by have := ti_addK l5 (1 : Int32) 1 rfl; have := ti_mulL (3 : Int32) 3 rfl l5; have := ti_addL (3 * l5) (6 : Int32) 6 rfl; have := ti_addK (6 + (3 * l5)) (0 : Int32) 0 rfl; have := ti_mulL (10 : Int32) 10 rfl l2; show 0 ≤ l2.toInt ∧ l2.toInt ≤ 3 ∧ 0 ≤ l3.toInt ∧ l3.toInt ≤ 4 ∧ 0 ≤ (l5 + 1).toInt ∧ (l5 + 1).toInt ≤ 10; omega), (hb1)⟩ (by have := ti_addK l5 (1 : Int32) 1 rfl; have := ti_mulL (3 : Int32) 3 rfl l5; have := ti_addL (3 * l5) (6 : Int32) 6 rfl; have := ti_addK (6 + (3 * l5)) (0 : Int32) 0 rfl; have := ti_mulL (10 : Int32) 10 rfl l2; omega)
set_option maxRecDepth 100000 in
set_option maxHeartbeats 4000000 in
theorem sf_161_39 (X : qm_X) (h : qm_H) (hp : pp h ∧ dd h) (Q : qm_Q) (hq : ∀ r : Int32, (r = 0 ∨ r = 1) → Q (some (.int r)) h) : qm_PW X 161 [.ref 39] h Q := by
  have hmpp : pp h := hp.1
  have ⟨⟨_, _⟩, ⟨_, _⟩, _, _⟩ := hmpp
  have hmdd : dd h := hp.2
  have ⟨⟨_, _⟩, _, _⟩ := hmdd
  refine qm_seg_ok (C := qc_161) (rt := some .boolean) rfl rfl (cuts := [(4, [0, 1, 2]), (14, [0, 1, 2, 3]), (25, [0, 1, 2, 3, 4, 5])]) 400 _ _ _ _ ?_
  show qm_PA X 161 4 [(0, .ref 39), (1, .int 1), (2, .int 0)] [] h Q
  exact (sf_161_39_c X h hp Q hq _).1 (1 : Int32) (0 : Int32) ⟨(by have : (0 : Int32).toInt = 0 := rfl; show 0 ≤ (0 : Int32).toInt ∧ (0 : Int32).toInt ≤ 4; omega), (Or.inr rfl)⟩ (Nat.lt_succ_self _)
-- ThreadBankModel.readLine()V
set_option maxRecDepth 100000 in
set_option maxHeartbeats 4000000 in
theorem sf_159_39_c (X : qm_X) (h : qm_H) (hp : mi h ∧ pp h ∧ dd h ∧ dp h ∧ sm h ∧ ((h 39 14).toInt = 0)) (Q : qm_Q) (hq : ∀ h' : qm_H, (mi h' ∧ pp h' ∧ dd h' ∧ dp h' ∧ sm h' ∧ (∀ k, (k < 39 ∨ 43 < k ∨ k = 40 ∨ k = 41 ∨ k = 42) → h' k = h k) ∧ (((h' 39 14).toInt = 0 → (h 39 10).toInt < (h' 39 10).toInt))) → Q none h') : ∀ n : Nat, (∀ (l1 : Int32) (g : qm_H), (((h 39 14).toInt = 0 ∧ (h 39 10).toInt = (g 39 10).toInt) ∧ mi g ∧ pp g ∧ dd g ∧ dp g ∧ sm g ∧ ∀ k, (k < 39 ∨ 43 < k ∨ k = 40 ∨ k = 41 ∨ k = 42) → g k = h k) → 10 < n → qm_PA X 159 18 [(0, .ref 39), (1, .int l1)] [] g Q) ∧ (∀ (l1 : Int32) (g : qm_H), (((h 39 14).toInt = 0 ∧ (h 39 10).toInt = (g 39 10).toInt) ∧ mi g ∧ pp g ∧ dd g ∧ dp g ∧ sm g ∧ ∀ k, (k < 39 ∨ 43 < k ∨ k = 40 ∨ k = 41 ∨ k = 42) → g k = h k) → 9 < n → qm_PA X 159 34 [(0, .ref 39), (1, .int l1)] [] g Q) ∧ (∀ (l1 : Int32) (g : qm_H), (((h 39 14).toInt = 0 ∧ (h 39 10).toInt = (g 39 10).toInt ∧ ((g 39 14).toInt = 0 → (l1.toInt = 4 ∨ (l1.toInt = 5 ∧ (g 43 4).toInt < 10) ∨ (¬ l1.toInt = 4 ∧ ¬ l1.toInt = 5 ∧ (g 39 5).toInt < 4)))) ∧ mi g ∧ pp g ∧ dd g ∧ dp g ∧ sm g ∧ ∀ k, (k < 39 ∨ 43 < k ∨ k = 40 ∨ k = 41 ∨ k = 42) → g k = h k) → 8 < n → qm_PA X 159 81 [(0, .ref 39), (1, .int l1)] [] g Q) ∧ (∀ (l1 : Int32) (g : qm_H), (((h 39 14).toInt = 0 ∧ (h 39 10).toInt = (g 39 10).toInt ∧ ((g 39 14).toInt = 0 → (l1.toInt = 4 ∨ (l1.toInt = 5 ∧ (g 43 4).toInt < 10) ∨ (¬ l1.toInt = 4 ∧ ¬ l1.toInt = 5 ∧ (g 39 5).toInt < 4)))) ∧ mi g ∧ pp g ∧ dd g ∧ dp g ∧ sm g ∧ ∀ k, (k < 39 ∨ 43 < k ∨ k = 40 ∨ k = 41 ∨ k = 42) → g k = h k) → 7 < n → qm_PA X 159 103 [(0, .ref 39), (1, .int l1)] [] g Q) ∧ (∀ (l1 : Int32) (g : qm_H), (((h 39 14).toInt = 0 ∧ (h 39 10).toInt = (g 39 10).toInt ∧ ((g 39 14).toInt = 0 → (l1.toInt = 4 ∨ (l1.toInt = 5 ∧ (g 43 4).toInt < 10) ∨ (¬ l1.toInt = 4 ∧ ¬ l1.toInt = 5 ∧ (g 39 5).toInt < 4)))) ∧ mi g ∧ pp g ∧ dd g ∧ dp g ∧ sm g ∧ ∀ k, (k < 39 ∨ 43 < k ∨ k = 40 ∨ k = 41 ∨ k = 42) → g k = h k) → 6 < n → qm_PA X 159 124 [(0, .ref 39), (1, .int l1)] [] g Q) := by
  have hmmi : mi h := hp.1
  have ⟨⟨_, _⟩, ⟨_, _⟩, ⟨_, _⟩, ⟨_, _⟩, _, _⟩ := hmmi
  have hmpp : pp h := hp.2.1
  have ⟨⟨_, _⟩, ⟨_, _⟩, _, _⟩ := hmpp
  have hmdd : dd h := hp.2.2.1
  have ⟨⟨_, _⟩, _, _⟩ := hmdd
  have hmdp : dp h := hp.2.2.2.1
  have hmsm : sm h := hp.2.2.2.2.1
  have ⟨⟨⟨_, _⟩, _, _⟩, _, _, _⟩ := hmsm
  have hp0 : (h 39 14).toInt = 0 := hp.2.2.2.2.2
  intro n
  induction n with
  | zero => exact ⟨fun _ _ _ h0 => absurd h0 (Nat.not_lt_zero _), fun _ _ _ h0 => absurd h0 (Nat.not_lt_zero _), fun _ _ _ h0 => absurd h0 (Nat.not_lt_zero _), fun _ _ _ h0 => absurd h0 (Nat.not_lt_zero _), fun _ _ _ h0 => absurd h0 (Nat.not_lt_zero _)⟩
  | succ n ih =>
    refine ⟨?_, ?_, ?_, ?_, ?_⟩
    · intro l1 g hi hr
      obtain ⟨hi0, hgmi, hgpp, hgdd, hgdp, hgsm, hgf⟩ := hi
      have ⟨⟨_, _⟩, ⟨_, _⟩, ⟨_, _⟩, ⟨_, _⟩, _, _⟩ := hgmi
      have ⟨⟨_, _⟩, ⟨_, _⟩, _, _⟩ := hgpp
      have ⟨⟨_, _⟩, _, _⟩ := hgdd
      have ⟨⟨⟨_, _⟩, _, _⟩, _, _, _⟩ := hgsm
      refine qm_seg_ok (C := qc_159) (rt := none) rfl rfl (cuts := [(18, [0, 1]), (34, [0, 1]), (81, [0, 1]), (103, [0, 1]), (124, [0, 1])]) 400 _ _ _ _ ?_
      show (l1 = (-4 : Int32) → (qm_PW X 147 [.ref 39, .int 0, .int 2] g _)) ∧ (¬ l1 = (-4 : Int32) → (qm_PW X 147 [.ref 39, .int 1, .int 2] g _))
      refine ⟨fun c1 => ?_, fun c2 => ?_⟩
      · have := ti_eqK (-4) ti_n4 c1
        refine sf_147_39 X g (0 : Int32) (2 : Int32) ⟨hgmi, hgpp, (by have : (2 : Int32).toInt = 2 := rfl; omega)⟩ _ (fun g3 p4 => ?_)
        have f5 : ∀ k, (k < 39 ∨ 43 < k ∨ k = 40 ∨ k = 41 ∨ k = 42) → g3 k = h k := fun k hk => (p4.2.2.1 k (by omega)).trans (hgf k hk)
        have k6 : dd g3 := by unfold dd; rw [p4.2.2.1 43 (by omega)]; exact hgdd
        have k7 : sm g3 := by unfold sm; rw [p4.2.2.1 40 (by omega)]; exact hgsm
        have o8 : ((g 39 14).toInt ≤ (g3 39 14).toInt) ∧ ((0 : Int32).toInt = 0 → 1 ≤ (g3 39 14).toInt) ∧ ((g3 39 10).toInt = (g 39 10).toInt) ∧ ((g3 39 12).toInt = (g 39 12).toInt) ∧ ((g3 39 13).toInt = (g 39 13).toInt) ∧ ((g3 39 5).toInt = (g 39 5).toInt) := p4.2.2.2
        have kdp_g3 : dp g3 := fun hf => by rw [p4.2.2.1 43 (by omega)]; exact hgdp (by have := (hgpp).2.2; have : (0 : Int32).toInt = 0 := rfl; omega)
        have e434_g3 : (g3 43 4).toInt = (g 43 4).toInt := congrArg (fun f : Nat → Int32 => (f 4).toInt) (p4.2.2.1 43 (by omega))
        show qm_PA X 159 34 [(0, .ref 39), (1, .int l1)] [] g3 Q
        exact ih.2.1 l1 g3 ⟨(by have : (0 : Int32).toInt = 0 := rfl; show (h 39 14).toInt = 0 ∧ (h 39 10).toInt = (g3 39 10).toInt; omega), p4.1, p4.2.1, k6, kdp_g3, k7, (fun k hk => f5 k hk)⟩ (by have : (0 : Int32).toInt = 0 := rfl; show 9 < n; omega)
      · have := ti_neK (-4) ti_n4 c2
        refine sf_147_39 X g (1 : Int32) (2 : Int32) ⟨hgmi, hgpp, (by have : (2 : Int32).toInt = 2 := rfl; omega)⟩ _ (fun g9 p10 => ?_)
        have f11 : ∀ k, (k < 39 ∨ 43 < k ∨ k = 40 ∨ k = 41 ∨ k = 42) → g9 k = h k := fun k hk => (p10.2.2.1 k (by omega)).trans (hgf k hk)
        have k12 : dd g9 := by unfold dd; rw [p10.2.2.1 43 (by omega)]; exact hgdd
        have k13 : sm g9 := by unfold sm; rw [p10.2.2.1 40 (by omega)]; exact hgsm
        have o14 : ((g 39 14).toInt ≤ (g9 39 14).toInt) ∧ ((1 : Int32).toInt = 0 → 1 ≤ (g9 39 14).toInt) ∧ ((g9 39 10).toInt = (g 39 10).toInt) ∧ ((g9 39 12).toInt = (g 39 12).toInt) ∧ ((g9 39 13).toInt = (g 39 13).toInt) ∧ ((g9 39 5).toInt = (g 39 5).toInt) := p10.2.2.2
        have kdp_g9 : dp g9 := fun hf => by rw [p10.2.2.1 43 (by omega)]; exact hgdp (by have := (hgpp).2.2; have : (0 : Int32).toInt = 0 := rfl; omega)
        have e434_g9 : (g9 43 4).toInt = (g 43 4).toInt := congrArg (fun f : Nat → Int32 => (f 4).toInt) (p10.2.2.1 43 (by omega))
        show qm_PA X 159 34 [(0, .ref 39), (1, .int l1)] [] g9 Q
        exact ih.2.1 l1 g9 ⟨(by have : (1 : Int32).toInt = 1 := rfl; show (h 39 14).toInt = 0 ∧ (h 39 10).toInt = (g9 39 10).toInt; omega), p10.1, p10.2.1, k12, kdp_g9, k13, (fun k hk => f11 k hk)⟩ (by have : (1 : Int32).toInt = 1 := rfl; show 9 < n; omega)
    · intro l1 g hi hr
      obtain ⟨hi0, hgmi, hgpp, hgdd, hgdp, hgsm, hgf⟩ := hi
      have ⟨⟨_, _⟩, ⟨_, _⟩, ⟨_, _⟩, ⟨_, _⟩, _, _⟩ := hgmi
      have ⟨⟨_, _⟩, ⟨_, _⟩, _, _⟩ := hgpp
      have ⟨⟨_, _⟩, _, _⟩ := hgdd
      have ⟨⟨⟨_, _⟩, _, _⟩, _, _, _⟩ := hgsm
      refine qm_seg_ok (C := qc_159) (rt := none) rfl rfl (cuts := [(18, [0, 1]), (34, [0, 1]), (81, [0, 1]), (103, [0, 1]), (124, [0, 1])]) 400 _ _ _ _ ?_
      show (¬ l1 = 5 → ((l1 = 4 → (qm_PW X 147 [.ref 39, .int 1, .int 5] g _)) ∧ (¬ l1 = 4 → ((4 ≤ (g 39 5).toInt → (qm_PW X 147 [.ref 39, .int 0, .int 5] g _)) ∧ ((g 39 5).toInt < 4 → (qm_PW X 147 [.ref 39, .int 1, .int 5] g _)))))) ∧ (l1 = 5 → ((0 ≤ (4 : Int) ∧ (4 : Int) < 49) ∧ ((10 ≤ (g 43 4).toInt → (qm_PW X 147 [.ref 39, .int 0, .int 5] g _)) ∧ ((g 43 4).toInt < 10 → (qm_PW X 147 [.ref 39, .int 1, .int 5] g _)))))
      refine ⟨fun c1 => ?_, fun c2 => ?_⟩
      · have := ti_neK 5 rfl c1
        refine ⟨fun c3 => ?_, fun c4 => ?_⟩
        · have := ti_eqK 4 rfl c3
          refine sf_147_39 X g (1 : Int32) (5 : Int32) ⟨hgmi, hgpp, (by have : (5 : Int32).toInt = 5 := rfl; omega)⟩ _ (fun g5 p6 => ?_)
          have f7 : ∀ k, (k < 39 ∨ 43 < k ∨ k = 40 ∨ k = 41 ∨ k = 42) → g5 k = h k := fun k hk => (p6.2.2.1 k (by omega)).trans (hgf k hk)
          have k8 : dd g5 := by unfold dd; rw [p6.2.2.1 43 (by omega)]; exact hgdd
          have k9 : sm g5 := by unfold sm; rw [p6.2.2.1 40 (by omega)]; exact hgsm
          have o10 : ((g 39 14).toInt ≤ (g5 39 14).toInt) ∧ ((1 : Int32).toInt = 0 → 1 ≤ (g5 39 14).toInt) ∧ ((g5 39 10).toInt = (g 39 10).toInt) ∧ ((g5 39 12).toInt = (g 39 12).toInt) ∧ ((g5 39 13).toInt = (g 39 13).toInt) ∧ ((g5 39 5).toInt = (g 39 5).toInt) := p6.2.2.2
          have kdp_g5 : dp g5 := fun hf => by rw [p6.2.2.1 43 (by omega)]; exact hgdp (by have := (hgpp).2.2; have : (0 : Int32).toInt = 0 := rfl; omega)
          have e434_g5 : (g5 43 4).toInt = (g 43 4).toInt := congrArg (fun f : Nat → Int32 => (f 4).toInt) (p6.2.2.1 43 (by omega))
          show qm_PA X 159 81 [(0, .ref 39), (1, .int l1)] [] g5 Q
          exact ih.2.2.1 l1 g5 ⟨(by have : (1 : Int32).toInt = 1 := rfl; show (h 39 14).toInt = 0 ∧ (h 39 10).toInt = (g5 39 10).toInt ∧ ((g5 39 14).toInt = 0 → (l1.toInt = 4 ∨ (l1.toInt = 5 ∧ (g5 43 4).toInt < 10) ∨ (¬ l1.toInt = 4 ∧ ¬ l1.toInt = 5 ∧ (g5 39 5).toInt < 4))); omega), p6.1, p6.2.1, k8, kdp_g5, k9, (fun k hk => f7 k hk)⟩ (by have : (1 : Int32).toInt = 1 := rfl; show 8 < n; omega)
        · have := ti_neK 4 rfl c4
          refine ⟨fun c11 => ?_, fun c12 => ?_⟩
          · refine sf_147_39 X g (0 : Int32) (5 : Int32) ⟨hgmi, hgpp, (by have : (5 : Int32).toInt = 5 := rfl; omega)⟩ _ (fun g13 p14 => ?_)
            have f15 : ∀ k, (k < 39 ∨ 43 < k ∨ k = 40 ∨ k = 41 ∨ k = 42) → g13 k = h k := fun k hk => (p14.2.2.1 k (by omega)).trans (hgf k hk)
            have k16 : dd g13 := by unfold dd; rw [p14.2.2.1 43 (by omega)]; exact hgdd
            have k17 : sm g13 := by unfold sm; rw [p14.2.2.1 40 (by omega)]; exact hgsm
            have o18 : ((g 39 14).toInt ≤ (g13 39 14).toInt) ∧ ((0 : Int32).toInt = 0 → 1 ≤ (g13 39 14).toInt) ∧ ((g13 39 10).toInt = (g 39 10).toInt) ∧ ((g13 39 12).toInt = (g 39 12).toInt) ∧ ((g13 39 13).toInt = (g 39 13).toInt) ∧ ((g13 39 5).toInt = (g 39 5).toInt) := p14.2.2.2
            have kdp_g13 : dp g13 := fun hf => by rw [p14.2.2.1 43 (by omega)]; exact hgdp (by have := (hgpp).2.2; have : (0 : Int32).toInt = 0 := rfl; omega)
            have e434_g13 : (g13 43 4).toInt = (g 43 4).toInt := congrArg (fun f : Nat → Int32 => (f 4).toInt) (p14.2.2.1 43 (by omega))
            show qm_PA X 159 81 [(0, .ref 39), (1, .int l1)] [] g13 Q
            exact ih.2.2.1 l1 g13 ⟨(by have : (0 : Int32).toInt = 0 := rfl; show (h 39 14).toInt = 0 ∧ (h 39 10).toInt = (g13 39 10).toInt ∧ ((g13 39 14).toInt = 0 → (l1.toInt = 4 ∨ (l1.toInt = 5 ∧ (g13 43 4).toInt < 10) ∨ (¬ l1.toInt = 4 ∧ ¬ l1.toInt = 5 ∧ (g13 39 5).toInt < 4))); omega), p14.1, p14.2.1, k16, kdp_g13, k17, (fun k hk => f15 k hk)⟩ (by have : (0 : Int32).toInt = 0 := rfl; show 8 < n; omega)
          · refine sf_147_39 X g (1 : Int32) (5 : Int32) ⟨hgmi, hgpp, (by have : (5 : Int32).toInt = 5 := rfl; omega)⟩ _ (fun g19 p20 => ?_)
            have f21 : ∀ k, (k < 39 ∨ 43 < k ∨ k = 40 ∨ k = 41 ∨ k = 42) → g19 k = h k := fun k hk => (p20.2.2.1 k (by omega)).trans (hgf k hk)
            have k22 : dd g19 := by unfold dd; rw [p20.2.2.1 43 (by omega)]; exact hgdd
            have k23 : sm g19 := by unfold sm; rw [p20.2.2.1 40 (by omega)]; exact hgsm
            have o24 : ((g 39 14).toInt ≤ (g19 39 14).toInt) ∧ ((1 : Int32).toInt = 0 → 1 ≤ (g19 39 14).toInt) ∧ ((g19 39 10).toInt = (g 39 10).toInt) ∧ ((g19 39 12).toInt = (g 39 12).toInt) ∧ ((g19 39 13).toInt = (g 39 13).toInt) ∧ ((g19 39 5).toInt = (g 39 5).toInt) := p20.2.2.2
            have kdp_g19 : dp g19 := fun hf => by rw [p20.2.2.1 43 (by omega)]; exact hgdp (by have := (hgpp).2.2; have : (0 : Int32).toInt = 0 := rfl; omega)
            have e434_g19 : (g19 43 4).toInt = (g 43 4).toInt := congrArg (fun f : Nat → Int32 => (f 4).toInt) (p20.2.2.1 43 (by omega))
            show qm_PA X 159 81 [(0, .ref 39), (1, .int l1)] [] g19 Q
            exact ih.2.2.1 l1 g19 ⟨(by have : (1 : Int32).toInt = 1 := rfl; show (h 39 14).toInt = 0 ∧ (h 39 10).toInt = (g19 39 10).toInt ∧ ((g19 39 14).toInt = 0 → (l1.toInt = 4 ∨ (l1.toInt = 5 ∧ (g19 43 4).toInt < 10) ∨ (¬ l1.toInt = 4 ∧ ¬ l1.toInt = 5 ∧ (g19 39 5).toInt < 4))); omega), p20.1, p20.2.1, k22, kdp_g19, k23, (fun k hk => f21 k hk)⟩ (by have : (1 : Int32).toInt = 1 := rfl; show 8 < n; omega)
      · have := ti_eqK 5 rfl c2
        refine ⟨by decide, ?_⟩
        refine ⟨fun c25 => ?_, fun c26 => ?_⟩
        · refine sf_147_39 X g (0 : Int32) (5 : Int32) ⟨hgmi, hgpp, (by have : (5 : Int32).toInt = 5 := rfl; omega)⟩ _ (fun g27 p28 => ?_)
          have f29 : ∀ k, (k < 39 ∨ 43 < k ∨ k = 40 ∨ k = 41 ∨ k = 42) → g27 k = h k := fun k hk => (p28.2.2.1 k (by omega)).trans (hgf k hk)
          have k30 : dd g27 := by unfold dd; rw [p28.2.2.1 43 (by omega)]; exact hgdd
          have k31 : sm g27 := by unfold sm; rw [p28.2.2.1 40 (by omega)]; exact hgsm
          have o32 : ((g 39 14).toInt ≤ (g27 39 14).toInt) ∧ ((0 : Int32).toInt = 0 → 1 ≤ (g27 39 14).toInt) ∧ ((g27 39 10).toInt = (g 39 10).toInt) ∧ ((g27 39 12).toInt = (g 39 12).toInt) ∧ ((g27 39 13).toInt = (g 39 13).toInt) ∧ ((g27 39 5).toInt = (g 39 5).toInt) := p28.2.2.2
          have kdp_g27 : dp g27 := fun hf => by rw [p28.2.2.1 43 (by omega)]; exact hgdp (by have := (hgpp).2.2; have : (0 : Int32).toInt = 0 := rfl; omega)
          have e434_g27 : (g27 43 4).toInt = (g 43 4).toInt := congrArg (fun f : Nat → Int32 => (f 4).toInt) (p28.2.2.1 43 (by omega))
          show qm_PA X 159 81 [(0, .ref 39), (1, .int l1)] [] g27 Q
          exact ih.2.2.1 l1 g27 ⟨(by have : (0 : Int32).toInt = 0 := rfl; show (h 39 14).toInt = 0 ∧ (h 39 10).toInt = (g27 39 10).toInt ∧ ((g27 39 14).toInt = 0 → (l1.toInt = 4 ∨ (l1.toInt = 5 ∧ (g27 43 4).toInt < 10) ∨ (¬ l1.toInt = 4 ∧ ¬ l1.toInt = 5 ∧ (g27 39 5).toInt < 4))); omega), p28.1, p28.2.1, k30, kdp_g27, k31, (fun k hk => f29 k hk)⟩ (by have : (0 : Int32).toInt = 0 := rfl; show 8 < n; omega)
        · refine sf_147_39 X g (1 : Int32) (5 : Int32) ⟨hgmi, hgpp, (by have : (5 : Int32).toInt = 5 := rfl; omega)⟩ _ (fun g33 p34 => ?_)
          have f35 : ∀ k, (k < 39 ∨ 43 < k ∨ k = 40 ∨ k = 41 ∨ k = 42) → g33 k = h k := fun k hk => (p34.2.2.1 k (by omega)).trans (hgf k hk)
          have k36 : dd g33 := by unfold dd; rw [p34.2.2.1 43 (by omega)]; exact hgdd
          have k37 : sm g33 := by unfold sm; rw [p34.2.2.1 40 (by omega)]; exact hgsm
          have o38 : ((g 39 14).toInt ≤ (g33 39 14).toInt) ∧ ((1 : Int32).toInt = 0 → 1 ≤ (g33 39 14).toInt) ∧ ((g33 39 10).toInt = (g 39 10).toInt) ∧ ((g33 39 12).toInt = (g 39 12).toInt) ∧ ((g33 39 13).toInt = (g 39 13).toInt) ∧ ((g33 39 5).toInt = (g 39 5).toInt) := p34.2.2.2
          have kdp_g33 : dp g33 := fun hf => by rw [p34.2.2.1 43 (by omega)]; exact hgdp (by have := (hgpp).2.2; have : (0 : Int32).toInt = 0 := rfl; omega)
          have e434_g33 : (g33 43 4).toInt = (g 43 4).toInt := congrArg (fun f : Nat → Int32 => (f 4).toInt) (p34.2.2.1 43 (by omega))
          show qm_PA X 159 81 [(0, .ref 39), (1, .int l1)] [] g33 Q
          exact ih.2.2.1 l1 g33 ⟨(by have : (1 : Int32).toInt = 1 := rfl; show (h 39 14).toInt = 0 ∧ (h 39 10).toInt = (g33 39 10).toInt ∧ ((g33 39 14).toInt = 0 → (l1.toInt = 4 ∨ (l1.toInt = 5 ∧ (g33 43 4).toInt < 10) ∨ (¬ l1.toInt = 4 ∧ ¬ l1.toInt = 5 ∧ (g33 39 5).toInt < 4))); omega), p34.1, p34.2.1, k36, kdp_g33, k37, (fun k hk => f35 k hk)⟩ (by have : (1 : Int32).toInt = 1 := rfl; show 8 < n; omega)
    · intro l1 g hi hr
      obtain ⟨hi0, hgmi, hgpp, hgdd, hgdp, hgsm, hgf⟩ := hi
      have ⟨⟨_, _⟩, ⟨_, _⟩, ⟨_, _⟩, ⟨_, _⟩, _, _⟩ := hgmi
      have ⟨⟨_, _⟩, ⟨_, _⟩, _, _⟩ := hgpp
      have ⟨⟨_, _⟩, _, _⟩ := hgdd
      have ⟨⟨⟨_, _⟩, _, _⟩, _, _, _⟩ := hgsm
      refine qm_seg_ok (C := qc_159) (rt := none) rfl rfl (cuts := [(18, [0, 1]), (34, [0, 1]), (81, [0, 1]), (103, [0, 1]), (124, [0, 1])]) 400 _ _ _ _ ?_
      show (¬ l1 = 4 → (qm_PW X 147 [.ref 39, .int 1, .int 4] g _)) ∧ (l1 = 4 → ((¬ (g 39 6) = 0 → (qm_PW X 147 [.ref 39, .int 0, .int 4] g _)) ∧ ((g 39 6) = 0 → (qm_PW X 147 [.ref 39, .int 1, .int 4] g _))))
      refine ⟨fun c1 => ?_, fun c2 => ?_⟩
      · have := ti_neK 4 rfl c1
        refine sf_147_39 X g (1 : Int32) (4 : Int32) ⟨hgmi, hgpp, (by have : (4 : Int32).toInt = 4 := rfl; omega)⟩ _ (fun g3 p4 => ?_)
        have f5 : ∀ k, (k < 39 ∨ 43 < k ∨ k = 40 ∨ k = 41 ∨ k = 42) → g3 k = h k := fun k hk => (p4.2.2.1 k (by omega)).trans (hgf k hk)
        have k6 : dd g3 := by unfold dd; rw [p4.2.2.1 43 (by omega)]; exact hgdd
        have k7 : sm g3 := by unfold sm; rw [p4.2.2.1 40 (by omega)]; exact hgsm
        have o8 : ((g 39 14).toInt ≤ (g3 39 14).toInt) ∧ ((1 : Int32).toInt = 0 → 1 ≤ (g3 39 14).toInt) ∧ ((g3 39 10).toInt = (g 39 10).toInt) ∧ ((g3 39 12).toInt = (g 39 12).toInt) ∧ ((g3 39 13).toInt = (g 39 13).toInt) ∧ ((g3 39 5).toInt = (g 39 5).toInt) := p4.2.2.2
        have kdp_g3 : dp g3 := fun hf => by rw [p4.2.2.1 43 (by omega)]; exact hgdp (by have := (hgpp).2.2; have : (0 : Int32).toInt = 0 := rfl; omega)
        have e434_g3 : (g3 43 4).toInt = (g 43 4).toInt := congrArg (fun f : Nat → Int32 => (f 4).toInt) (p4.2.2.1 43 (by omega))
        show qm_PA X 159 103 [(0, .ref 39), (1, .int l1)] [] g3 Q
        exact ih.2.2.2.1 l1 g3 ⟨(by have : (1 : Int32).toInt = 1 := rfl; show (h 39 14).toInt = 0 ∧ (h 39 10).toInt = (g3 39 10).toInt ∧ ((g3 39 14).toInt = 0 → (l1.toInt = 4 ∨ (l1.toInt = 5 ∧ (g3 43 4).toInt < 10) ∨ (¬ l1.toInt = 4 ∧ ¬ l1.toInt = 5 ∧ (g3 39 5).toInt < 4))); omega), p4.1, p4.2.1, k6, kdp_g3, k7, (fun k hk => f5 k hk)⟩ (by have : (1 : Int32).toInt = 1 := rfl; show 7 < n; omega)
      · have := ti_eqK 4 rfl c2
        refine ⟨fun c9 => ?_, fun c10 => ?_⟩
        · have := ti_neK 0 rfl c9
          refine sf_147_39 X g (0 : Int32) (4 : Int32) ⟨hgmi, hgpp, (by have : (4 : Int32).toInt = 4 := rfl; omega)⟩ _ (fun g11 p12 => ?_)
          have f13 : ∀ k, (k < 39 ∨ 43 < k ∨ k = 40 ∨ k = 41 ∨ k = 42) → g11 k = h k := fun k hk => (p12.2.2.1 k (by omega)).trans (hgf k hk)
          have k14 : dd g11 := by unfold dd; rw [p12.2.2.1 43 (by omega)]; exact hgdd
          have k15 : sm g11 := by unfold sm; rw [p12.2.2.1 40 (by omega)]; exact hgsm
          have o16 : ((g 39 14).toInt ≤ (g11 39 14).toInt) ∧ ((0 : Int32).toInt = 0 → 1 ≤ (g11 39 14).toInt) ∧ ((g11 39 10).toInt = (g 39 10).toInt) ∧ ((g11 39 12).toInt = (g 39 12).toInt) ∧ ((g11 39 13).toInt = (g 39 13).toInt) ∧ ((g11 39 5).toInt = (g 39 5).toInt) := p12.2.2.2
          have kdp_g11 : dp g11 := fun hf => by rw [p12.2.2.1 43 (by omega)]; exact hgdp (by have := (hgpp).2.2; have : (0 : Int32).toInt = 0 := rfl; omega)
          have e434_g11 : (g11 43 4).toInt = (g 43 4).toInt := congrArg (fun f : Nat → Int32 => (f 4).toInt) (p12.2.2.1 43 (by omega))
          show qm_PA X 159 103 [(0, .ref 39), (1, .int l1)] [] g11 Q
          exact ih.2.2.2.1 l1 g11 ⟨(by have : (0 : Int32).toInt = 0 := rfl; show (h 39 14).toInt = 0 ∧ (h 39 10).toInt = (g11 39 10).toInt ∧ ((g11 39 14).toInt = 0 → (l1.toInt = 4 ∨ (l1.toInt = 5 ∧ (g11 43 4).toInt < 10) ∨ (¬ l1.toInt = 4 ∧ ¬ l1.toInt = 5 ∧ (g11 39 5).toInt < 4))); omega), p12.1, p12.2.1, k14, kdp_g11, k15, (fun k hk => f13 k hk)⟩ (by have : (0 : Int32).toInt = 0 := rfl; show 7 < n; omega)
        · have := ti_eqK 0 rfl c10
          refine sf_147_39 X g (1 : Int32) (4 : Int32) ⟨hgmi, hgpp, (by have : (4 : Int32).toInt = 4 := rfl; omega)⟩ _ (fun g17 p18 => ?_)
          have f19 : ∀ k, (k < 39 ∨ 43 < k ∨ k = 40 ∨ k = 41 ∨ k = 42) → g17 k = h k := fun k hk => (p18.2.2.1 k (by omega)).trans (hgf k hk)
          have k20 : dd g17 := by unfold dd; rw [p18.2.2.1 43 (by omega)]; exact hgdd
          have k21 : sm g17 := by unfold sm; rw [p18.2.2.1 40 (by omega)]; exact hgsm
          have o22 : ((g 39 14).toInt ≤ (g17 39 14).toInt) ∧ ((1 : Int32).toInt = 0 → 1 ≤ (g17 39 14).toInt) ∧ ((g17 39 10).toInt = (g 39 10).toInt) ∧ ((g17 39 12).toInt = (g 39 12).toInt) ∧ ((g17 39 13).toInt = (g 39 13).toInt) ∧ ((g17 39 5).toInt = (g 39 5).toInt) := p18.2.2.2
          have kdp_g17 : dp g17 := fun hf => by rw [p18.2.2.1 43 (by omega)]; exact hgdp (by have := (hgpp).2.2; have : (0 : Int32).toInt = 0 := rfl; omega)
          have e434_g17 : (g17 43 4).toInt = (g 43 4).toInt := congrArg (fun f : Nat → Int32 => (f 4).toInt) (p18.2.2.1 43 (by omega))
          show qm_PA X 159 103 [(0, .ref 39), (1, .int l1)] [] g17 Q
          exact ih.2.2.2.1 l1 g17 ⟨(by have : (1 : Int32).toInt = 1 := rfl; show (h 39 14).toInt = 0 ∧ (h 39 10).toInt = (g17 39 10).toInt ∧ ((g17 39 14).toInt = 0 → (l1.toInt = 4 ∨ (l1.toInt = 5 ∧ (g17 43 4).toInt < 10) ∨ (¬ l1.toInt = 4 ∧ ¬ l1.toInt = 5 ∧ (g17 39 5).toInt < 4))); omega), p18.1, p18.2.1, k20, kdp_g17, k21, (fun k hk => f19 k hk)⟩ (by have : (1 : Int32).toInt = 1 := rfl; show 7 < n; omega)
    · intro l1 g hi hr
      obtain ⟨hi0, hgmi, hgpp, hgdd, hgdp, hgsm, hgf⟩ := hi
      have ⟨⟨_, _⟩, ⟨_, _⟩, ⟨_, _⟩, ⟨_, _⟩, _, _⟩ := hgmi
      have ⟨⟨_, _⟩, ⟨_, _⟩, _, _⟩ := hgpp
      have ⟨⟨_, _⟩, _, _⟩ := hgdd
      have ⟨⟨⟨_, _⟩, _, _⟩, _, _, _⟩ := hgsm
      refine qm_seg_ok (C := qc_159) (rt := none) rfl rfl (cuts := [(18, [0, 1]), (34, [0, 1]), (81, [0, 1]), (103, [0, 1]), (124, [0, 1])]) 400 _ _ _ _ ?_
      show (¬ (g 39 6) = 0 → (((1 : Int32) = 0 ∨ (1 : Int32) = 1) ∧ (qm_PA X 159 124 [(0, .ref 39), (1, .int l1)] [] (qm_row g 39 (upd (g 39) 6 1)) Q))) ∧ ((g 39 6) = 0 → ((¬ l1 = 4 → (((0 : Int32) = 0 ∨ (0 : Int32) = 1) ∧ (qm_PA X 159 124 [(0, .ref 39), (1, .int l1)] [] (qm_row g 39 (upd (g 39) 6 0)) Q))) ∧ (l1 = 4 → (((1 : Int32) = 0 ∨ (1 : Int32) = 1) ∧ (qm_PA X 159 124 [(0, .ref 39), (1, .int l1)] [] (qm_row g 39 (upd (g 39) 6 1)) Q)))))
      refine ⟨fun c1 => ?_, fun c2 => ?_⟩
      · have := ti_neK 0 rfl c1
        refine ⟨Or.inr rfl, ?_⟩
        exact ih.2.2.2.2 l1 (qm_row g 39 (upd (g 39) 6 1)) ⟨(by show (h 39 14).toInt = 0 ∧ (h 39 10).toInt = (g 39 10).toInt ∧ ((g 39 14).toInt = 0 → (l1.toInt = 4 ∨ (l1.toInt = 5 ∧ (g 43 4).toInt < 10) ∨ (¬ l1.toInt = 4 ∧ ¬ l1.toInt = 5 ∧ (g 39 5).toInt < 4))); omega), (by have ⟨⟨_, _⟩, ⟨_, _⟩, ⟨_, _⟩, ⟨_, _⟩, _, _⟩ := hmmi; have ⟨⟨_, _⟩, ⟨_, _⟩, _, _⟩ := hmpp; have ⟨⟨_, _⟩, _, _⟩ := hmdd; have ⟨⟨⟨_, _⟩, _, _⟩, _, _, _⟩ := hmsm; have ⟨⟨_, _⟩, ⟨_, _⟩, ⟨_, _⟩, ⟨_, _⟩, _, _⟩ := hgmi; have ⟨⟨_, _⟩, ⟨_, _⟩, _, _⟩ := hgpp; have ⟨⟨_, _⟩, _, _⟩ := hgdd; have ⟨⟨⟨_, _⟩, _, _⟩, _, _, _⟩ := hgsm; show (0 ≤ (g 39 3).toInt ∧ (g 39 3).toInt ≤ 4) ∧ (0 ≤ (g 39 9).toInt ∧ (g 39 9).toInt ≤ 160) ∧ (0 ≤ (g 39 19).toInt ∧ (g 39 19).toInt ≤ 4) ∧ (0 ≤ (g 39 20).toInt ∧ (g 39 20).toInt ≤ 255) ∧ (0 ≤ (g 39 11).toInt ∧ (g 39 11).toInt ≤ 160); omega), (by have ⟨⟨_, _⟩, ⟨_, _⟩, ⟨_, _⟩, ⟨_, _⟩, _, _⟩ := hmmi; have ⟨⟨_, _⟩, ⟨_, _⟩, _, _⟩ := hmpp; have ⟨⟨_, _⟩, _, _⟩ := hmdd; have ⟨⟨⟨_, _⟩, _, _⟩, _, _, _⟩ := hmsm; have ⟨⟨_, _⟩, ⟨_, _⟩, ⟨_, _⟩, ⟨_, _⟩, _, _⟩ := hgmi; have ⟨⟨_, _⟩, ⟨_, _⟩, _, _⟩ := hgpp; have ⟨⟨_, _⟩, _, _⟩ := hgdd; have ⟨⟨⟨_, _⟩, _, _⟩, _, _, _⟩ := hgsm; show (0 ≤ (g 39 5).toInt ∧ (g 39 5).toInt ≤ 4) ∧ (0 ≤ (g 39 10).toInt ∧ (g 39 10).toInt ≤ 160) ∧ (0 ≤ (g 39 14).toInt ∧ (g 39 14).toInt ≤ 7); omega), (by exact hgdd), (by exact hgdp), (by exact hgsm), (fun k hk => by simp only [qm_row]; rw [if_neg (by omega)]; exact hgf k hk)⟩ (by show 6 < n; omega)
      · have := ti_eqK 0 rfl c2
        refine ⟨fun c3 => ?_, fun c4 => ?_⟩
        · have := ti_neK 4 rfl c3
          refine ⟨Or.inl rfl, ?_⟩
          exact ih.2.2.2.2 l1 (qm_row g 39 (upd (g 39) 6 0)) ⟨(by show (h 39 14).toInt = 0 ∧ (h 39 10).toInt = (g 39 10).toInt ∧ ((g 39 14).toInt = 0 → (l1.toInt = 4 ∨ (l1.toInt = 5 ∧ (g 43 4).toInt < 10) ∨ (¬ l1.toInt = 4 ∧ ¬ l1.toInt = 5 ∧ (g 39 5).toInt < 4))); omega), (by have ⟨⟨_, _⟩, ⟨_, _⟩, ⟨_, _⟩, ⟨_, _⟩, _, _⟩ := hmmi; have ⟨⟨_, _⟩, ⟨_, _⟩, _, _⟩ := hmpp; have ⟨⟨_, _⟩, _, _⟩ := hmdd; have ⟨⟨⟨_, _⟩, _, _⟩, _, _, _⟩ := hmsm; have ⟨⟨_, _⟩, ⟨_, _⟩, ⟨_, _⟩, ⟨_, _⟩, _, _⟩ := hgmi; have ⟨⟨_, _⟩, ⟨_, _⟩, _, _⟩ := hgpp; have ⟨⟨_, _⟩, _, _⟩ := hgdd; have ⟨⟨⟨_, _⟩, _, _⟩, _, _, _⟩ := hgsm; show (0 ≤ (g 39 3).toInt ∧ (g 39 3).toInt ≤ 4) ∧ (0 ≤ (g 39 9).toInt ∧ (g 39 9).toInt ≤ 160) ∧ (0 ≤ (g 39 19).toInt ∧ (g 39 19).toInt ≤ 4) ∧ (0 ≤ (g 39 20).toInt ∧ (g 39 20).toInt ≤ 255) ∧ (0 ≤ (g 39 11).toInt ∧ (g 39 11).toInt ≤ 160); omega), (by have ⟨⟨_, _⟩, ⟨_, _⟩, ⟨_, _⟩, ⟨_, _⟩, _, _⟩ := hmmi; have ⟨⟨_, _⟩, ⟨_, _⟩, _, _⟩ := hmpp; have ⟨⟨_, _⟩, _, _⟩ := hmdd; have ⟨⟨⟨_, _⟩, _, _⟩, _, _, _⟩ := hmsm; have ⟨⟨_, _⟩, ⟨_, _⟩, ⟨_, _⟩, ⟨_, _⟩, _, _⟩ := hgmi; have ⟨⟨_, _⟩, ⟨_, _⟩, _, _⟩ := hgpp; have ⟨⟨_, _⟩, _, _⟩ := hgdd; have ⟨⟨⟨_, _⟩, _, _⟩, _, _, _⟩ := hgsm; show (0 ≤ (g 39 5).toInt ∧ (g 39 5).toInt ≤ 4) ∧ (0 ≤ (g 39 10).toInt ∧ (g 39 10).toInt ≤ 160) ∧ (0 ≤ (g 39 14).toInt ∧ (g 39 14).toInt ≤ 7); omega), (by exact hgdd), (by exact hgdp), (by exact hgsm), (fun k hk => by simp only [qm_row]; rw [if_neg (by omega)]; exact hgf k hk)⟩ (by show 6 < n; omega)
        · have := ti_eqK 4 rfl c4
          refine ⟨Or.inr rfl, ?_⟩
          exact ih.2.2.2.2 l1 (qm_row g 39 (upd (g 39) 6 1)) ⟨(by show (h 39 14).toInt = 0 ∧ (h 39 10).toInt = (g 39 10).toInt ∧ ((g 39 14).toInt = 0 → (l1.toInt = 4 ∨ (l1.toInt = 5 ∧ (g 43 4).toInt < 10) ∨ (¬ l1.toInt = 4 ∧ ¬ l1.toInt = 5 ∧ (g 39 5).toInt < 4))); omega), (by have ⟨⟨_, _⟩, ⟨_, _⟩, ⟨_, _⟩, ⟨_, _⟩, _, _⟩ := hmmi; have ⟨⟨_, _⟩, ⟨_, _⟩, _, _⟩ := hmpp; have ⟨⟨_, _⟩, _, _⟩ := hmdd; have ⟨⟨⟨_, _⟩, _, _⟩, _, _, _⟩ := hmsm; have ⟨⟨_, _⟩, ⟨_, _⟩, ⟨_, _⟩, ⟨_, _⟩, _, _⟩ := hgmi; have ⟨⟨_, _⟩, ⟨_, _⟩, _, _⟩ := hgpp; have ⟨⟨_, _⟩, _, _⟩ := hgdd; have ⟨⟨⟨_, _⟩, _, _⟩, _, _, _⟩ := hgsm; show (0 ≤ (g 39 3).toInt ∧ (g 39 3).toInt ≤ 4) ∧ (0 ≤ (g 39 9).toInt ∧ (g 39 9).toInt ≤ 160) ∧ (0 ≤ (g 39 19).toInt ∧ (g 39 19).toInt ≤ 4) ∧ (0 ≤ (g 39 20).toInt ∧ (g 39 20).toInt ≤ 255) ∧ (0 ≤ (g 39 11).toInt ∧ (g 39 11).toInt ≤ 160); omega), (by have ⟨⟨_, _⟩, ⟨_, _⟩, ⟨_, _⟩, ⟨_, _⟩, _, _⟩ := hmmi; have ⟨⟨_, _⟩, ⟨_, _⟩, _, _⟩ := hmpp; have ⟨⟨_, _⟩, _, _⟩ := hmdd; have ⟨⟨⟨_, _⟩, _, _⟩, _, _, _⟩ := hmsm; have ⟨⟨_, _⟩, ⟨_, _⟩, ⟨_, _⟩, ⟨_, _⟩, _, _⟩ := hgmi; have ⟨⟨_, _⟩, ⟨_, _⟩, _, _⟩ := hgpp; have ⟨⟨_, _⟩, _, _⟩ := hgdd; have ⟨⟨⟨_, _⟩, _, _⟩, _, _, _⟩ := hgsm; show (0 ≤ (g 39 5).toInt ∧ (g 39 5).toInt ≤ 4) ∧ (0 ≤ (g 39 10).toInt ∧ (g 39 10).toInt ≤ 160) ∧ (0 ≤ (g 39 14).toInt ∧ (g 39 14).toInt ≤ 7); omega), (by exact hgdd), (by exact hgdp), (by exact hgsm), (fun k hk => by simp only [qm_row]; rw [if_neg (by omega)]; exact hgf k hk)⟩ (by show 6 < n; omega)
    · intro l1 g hi hr
      obtain ⟨hi0, hgmi, hgpp, hgdd, hgdp, hgsm, hgf⟩ := hi
      have ⟨⟨_, _⟩, ⟨_, _⟩, ⟨_, _⟩, ⟨_, _⟩, _, _⟩ := hgmi
      have ⟨⟨_, _⟩, ⟨_, _⟩, _, _⟩ := hgpp
      have ⟨⟨_, _⟩, _, _⟩ := hgdd
      have ⟨⟨⟨_, _⟩, _, _⟩, _, _, _⟩ := hgsm
      refine qm_seg_ok (C := qc_159) (rt := none) rfl rfl (cuts := [(18, [0, 1]), (34, [0, 1]), (81, [0, 1]), (103, [0, 1]), (124, [0, 1])]) 400 _ _ _ _ ?_
      show qm_PW X 152 [.ref 39] g _
      refine sf_152_39 X g  ⟨hgmi, hgpp⟩ _ (fun g1 p2 => ?_)
      have f3 : ∀ k, (k < 39 ∨ 43 < k ∨ k = 40 ∨ k = 41 ∨ k = 42) → g1 k = h k := fun k hk => (p2.2.2.1 k (by omega)).trans (hgf k hk)
      have k4 : dd g1 := by unfold dd; rw [p2.2.2.1 43 (by omega)]; exact hgdd
      have k5 : sm g1 := by unfold sm; rw [p2.2.2.1 40 (by omega)]; exact hgsm
      have o6 : ((g 39 14).toInt ≤ (g1 39 14).toInt) ∧ ((g1 39 5).toInt = (g 39 5).toInt) ∧ ((g 39 10).toInt ≤ (g1 39 10).toInt) ∧ (((g1 39 14).toInt = 0 ∧ ¬ (g1 39 12).toInt = 0) → (g 39 10).toInt < (g1 39 10).toInt) := p2.2.2.2
      have kdp_g1 : dp g1 := fun hf => by rw [p2.2.2.1 43 (by omega)]; exact hgdp (by have := (hgpp).2.2; have : (0 : Int32).toInt = 0 := rfl; omega)
      have e434_g1 : (g1 43 4).toInt = (g 43 4).toInt := congrArg (fun f : Nat → Int32 => (f 4).toInt) (p2.2.2.1 43 (by omega))
      show ((g1 39 14).toInt ≤ 0 → (qm_PW X 158 [.ref 39, .int l1] g1 _)) ∧ (0 < (g1 39 14).toInt → (Q none g1))
      refine ⟨fun c7 => ?_, fun c8 => ?_⟩
      · refine sf_158_39 X g1 l1 ⟨p2.1, p2.2.1, k4, kdp_g1, k5, (by show l1.toInt = 4 ∨ (l1.toInt = 5 ∧ (g1 43 4).toInt < 10) ∨ (¬ l1.toInt = 4 ∧ ¬ l1.toInt = 5 ∧ (g1 39 5).toInt < 4); omega)⟩ _ (fun g9 p10 => ?_)
        have f11 : ∀ k, (k < 39 ∨ 43 < k ∨ k = 40 ∨ k = 41 ∨ k = 42) → g9 k = h k := fun k hk => (p10.2.2.2.2.2.1 k (by omega)).trans (f3 k hk)
        have o12 : ((g1 39 14).toInt ≤ (g9 39 14).toInt) ∧ ((g1 39 10).toInt ≤ (g9 39 10).toInt) ∧ (((g9 39 14).toInt = 0 ∧ ¬ (g9 39 12).toInt = 0) → ((g1 39 10).toInt < (g9 39 10).toInt ∨ ((g9 39 12).toInt = (g1 39 12).toInt ∧ (g9 39 10).toInt = (g1 39 10).toInt))) := p10.2.2.2.2.2.2
        show (¬ (g9 39 14) = 0 → (qm_PW X 152 [.ref 39] g9 _)) ∧ ((g9 39 14) = 0 → ((¬ (g9 39 12) = 3 → (qm_PW X 147 [.ref 39, .int 0, .int 2] g9 _)) ∧ ((g9 39 12) = 3 → (qm_PW X 147 [.ref 39, .int 1, .int 2] g9 _))))
        refine ⟨fun c13 => ?_, fun c14 => ?_⟩
        · have := ti_neK 0 rfl c13
          refine sf_152_39 X g9  ⟨p10.1, p10.2.1⟩ _ (fun g15 p16 => ?_)
          have f17 : ∀ k, (k < 39 ∨ 43 < k ∨ k = 40 ∨ k = 41 ∨ k = 42) → g15 k = h k := fun k hk => (p16.2.2.1 k (by omega)).trans (f11 k hk)
          have k18 : dd g15 := by unfold dd; rw [p16.2.2.1 43 (by omega)]; exact p10.2.2.1
          have k19 : sm g15 := by unfold sm; rw [p16.2.2.1 40 (by omega)]; exact p10.2.2.2.2.1
          have o20 : ((g9 39 14).toInt ≤ (g15 39 14).toInt) ∧ ((g15 39 5).toInt = (g9 39 5).toInt) ∧ ((g9 39 10).toInt ≤ (g15 39 10).toInt) ∧ (((g15 39 14).toInt = 0 ∧ ¬ (g15 39 12).toInt = 0) → (g9 39 10).toInt < (g15 39 10).toInt) := p16.2.2.2
          have kdp_g15 : dp g15 := fun hf => by rw [p16.2.2.1 43 (by omega)]; exact p10.2.2.2.1 (by have := (p10.2.1).2.2; have : (0 : Int32).toInt = 0 := rfl; omega)
          have e434_g15 : (g15 43 4).toInt = (g9 43 4).toInt := congrArg (fun f : Nat → Int32 => (f 4).toInt) (p16.2.2.1 43 (by omega))
          show Q none g15
          exact hq g15 ⟨p16.1, p16.2.1, k18, kdp_g15, k19, (fun k hk => f17 k hk), (by show ((g15 39 14).toInt = 0 → (h 39 10).toInt < (g15 39 10).toInt); omega)⟩
        · have := ti_eqK 0 rfl c14
          refine ⟨fun c21 => ?_, fun c22 => ?_⟩
          · have := ti_neK 3 rfl c21
            refine sf_147_39 X g9 (0 : Int32) (2 : Int32) ⟨p10.1, p10.2.1, (by have : (2 : Int32).toInt = 2 := rfl; omega)⟩ _ (fun g23 p24 => ?_)
            have f25 : ∀ k, (k < 39 ∨ 43 < k ∨ k = 40 ∨ k = 41 ∨ k = 42) → g23 k = h k := fun k hk => (p24.2.2.1 k (by omega)).trans (f11 k hk)
            have k26 : dd g23 := by unfold dd; rw [p24.2.2.1 43 (by omega)]; exact p10.2.2.1
            have k27 : sm g23 := by unfold sm; rw [p24.2.2.1 40 (by omega)]; exact p10.2.2.2.2.1
            have o28 : ((g9 39 14).toInt ≤ (g23 39 14).toInt) ∧ ((0 : Int32).toInt = 0 → 1 ≤ (g23 39 14).toInt) ∧ ((g23 39 10).toInt = (g9 39 10).toInt) ∧ ((g23 39 12).toInt = (g9 39 12).toInt) ∧ ((g23 39 13).toInt = (g9 39 13).toInt) ∧ ((g23 39 5).toInt = (g9 39 5).toInt) := p24.2.2.2
            have kdp_g23 : dp g23 := fun hf => by rw [p24.2.2.1 43 (by omega)]; exact p10.2.2.2.1 (by have := (p10.2.1).2.2; have : (0 : Int32).toInt = 0 := rfl; omega)
            have e434_g23 : (g23 43 4).toInt = (g9 43 4).toInt := congrArg (fun f : Nat → Int32 => (f 4).toInt) (p24.2.2.1 43 (by omega))
            show qm_PW X 152 [.ref 39] g23 _
            refine sf_152_39 X g23  ⟨p24.1, p24.2.1⟩ _ (fun g29 p30 => ?_)
            have f31 : ∀ k, (k < 39 ∨ 43 < k ∨ k = 40 ∨ k = 41 ∨ k = 42) → g29 k = h k := fun k hk => (p30.2.2.1 k (by omega)).trans (f25 k hk)
            have k32 : dd g29 := by unfold dd; rw [p30.2.2.1 43 (by omega)]; exact k26
            have k33 : sm g29 := by unfold sm; rw [p30.2.2.1 40 (by omega)]; exact k27
            have o34 : ((g23 39 14).toInt ≤ (g29 39 14).toInt) ∧ ((g29 39 5).toInt = (g23 39 5).toInt) ∧ ((g23 39 10).toInt ≤ (g29 39 10).toInt) ∧ (((g29 39 14).toInt = 0 ∧ ¬ (g29 39 12).toInt = 0) → (g23 39 10).toInt < (g29 39 10).toInt) := p30.2.2.2
            have kdp_g29 : dp g29 := fun hf => by rw [p30.2.2.1 43 (by omega)]; exact kdp_g23 (by have := (p24.2.1).2.2; have : (0 : Int32).toInt = 0 := rfl; omega)
            have e434_g29 : (g29 43 4).toInt = (g23 43 4).toInt := congrArg (fun f : Nat → Int32 => (f 4).toInt) (p30.2.2.1 43 (by omega))
            show Q none g29
            exact hq g29 ⟨p30.1, p30.2.1, k32, kdp_g29, k33, (fun k hk => f31 k hk), (by have : (0 : Int32).toInt = 0 := rfl; show ((g29 39 14).toInt = 0 → (h 39 10).toInt < (g29 39 10).toInt); omega)⟩
          · have := ti_eqK 3 rfl c22
            refine sf_147_39 X g9 (1 : Int32) (2 : Int32) ⟨p10.1, p10.2.1, (by have : (2 : Int32).toInt = 2 := rfl; omega)⟩ _ (fun g35 p36 => ?_)
            have f37 : ∀ k, (k < 39 ∨ 43 < k ∨ k = 40 ∨ k = 41 ∨ k = 42) → g35 k = h k := fun k hk => (p36.2.2.1 k (by omega)).trans (f11 k hk)
            have k38 : dd g35 := by unfold dd; rw [p36.2.2.1 43 (by omega)]; exact p10.2.2.1
            have k39 : sm g35 := by unfold sm; rw [p36.2.2.1 40 (by omega)]; exact p10.2.2.2.2.1
            have o40 : ((g9 39 14).toInt ≤ (g35 39 14).toInt) ∧ ((1 : Int32).toInt = 0 → 1 ≤ (g35 39 14).toInt) ∧ ((g35 39 10).toInt = (g9 39 10).toInt) ∧ ((g35 39 12).toInt = (g9 39 12).toInt) ∧ ((g35 39 13).toInt = (g9 39 13).toInt) ∧ ((g35 39 5).toInt = (g9 39 5).toInt) := p36.2.2.2
            have kdp_g35 : dp g35 := fun hf => by rw [p36.2.2.1 43 (by omega)]; exact p10.2.2.2.1 (by have := (p10.2.1).2.2; have : (0 : Int32).toInt = 0 := rfl; omega)
            have e434_g35 : (g35 43 4).toInt = (g9 43 4).toInt := congrArg (fun f : Nat → Int32 => (f 4).toInt) (p36.2.2.1 43 (by omega))
            show qm_PW X 152 [.ref 39] g35 _
            refine sf_152_39 X g35  ⟨p36.1, p36.2.1⟩ _ (fun g41 p42 => ?_)
            have f43 : ∀ k, (k < 39 ∨ 43 < k ∨ k = 40 ∨ k = 41 ∨ k = 42) → g41 k = h k := fun k hk => (p42.2.2.1 k (by omega)).trans (f37 k hk)
            have k44 : dd g41 := by unfold dd; rw [p42.2.2.1 43 (by omega)]; exact k38
            have k45 : sm g41 := by unfold sm; rw [p42.2.2.1 40 (by omega)]; exact k39
            have o46 : ((g35 39 14).toInt ≤ (g41 39 14).toInt) ∧ ((g41 39 5).toInt = (g35 39 5).toInt) ∧ ((g35 39 10).toInt ≤ (g41 39 10).toInt) ∧ (((g41 39 14).toInt = 0 ∧ ¬ (g41 39 12).toInt = 0) → (g35 39 10).toInt < (g41 39 10).toInt) := p42.2.2.2
            have kdp_g41 : dp g41 := fun hf => by rw [p42.2.2.1 43 (by omega)]; exact kdp_g35 (by have := (p36.2.1).2.2; have : (0 : Int32).toInt = 0 := rfl; omega)
            have e434_g41 : (g41 43 4).toInt = (g35 43 4).toInt := congrArg (fun f : Nat → Int32 => (f 4).toInt) (p42.2.2.1 43 (by omega))
            show Q none g41
            exact hq g41 ⟨p42.1, p42.2.1, k44, kdp_g41, k45, (fun k hk => f43 k hk), (by have : (1 : Int32).toInt = 1 := rfl; show ((g41 39 14).toInt = 0 → (h 39 10).toInt < (g41 39 10).toInt); omega)⟩
      · exact hq g1 ⟨p2.1, p2.2.1, k4, kdp_g1, k5, (fun k hk => f3 k hk), (by show ((g1 39 14).toInt = 0 → (h 39 10).toInt < (g1 39 10).toInt); omega)⟩
set_option maxRecDepth 100000 in
set_option maxHeartbeats 4000000 in
theorem sf_159_39 (X : qm_X) (h : qm_H) (hp : mi h ∧ pp h ∧ dd h ∧ dp h ∧ sm h ∧ ((h 39 14).toInt = 0)) (Q : qm_Q) (hq : ∀ h' : qm_H, (mi h' ∧ pp h' ∧ dd h' ∧ dp h' ∧ sm h' ∧ (∀ k, (k < 39 ∨ 43 < k ∨ k = 40 ∨ k = 41 ∨ k = 42) → h' k = h k) ∧ (((h' 39 14).toInt = 0 → (h 39 10).toInt < (h' 39 10).toInt))) → Q none h') : qm_PW X 159 [.ref 39] h Q := by
  have hmmi : mi h := hp.1
  have ⟨⟨_, _⟩, ⟨_, _⟩, ⟨_, _⟩, ⟨_, _⟩, _, _⟩ := hmmi
  have hmpp : pp h := hp.2.1
  have ⟨⟨_, _⟩, ⟨_, _⟩, _, _⟩ := hmpp
  have hmdd : dd h := hp.2.2.1
  have ⟨⟨_, _⟩, _, _⟩ := hmdd
  have hmdp : dp h := hp.2.2.2.1
  have hmsm : sm h := hp.2.2.2.2.1
  have ⟨⟨⟨_, _⟩, _, _⟩, _, _, _⟩ := hmsm
  have hp0 : (h 39 14).toInt = 0 := hp.2.2.2.2.2
  refine qm_seg_ok (C := qc_159) (rt := none) rfl rfl (cuts := [(18, [0, 1]), (34, [0, 1]), (81, [0, 1]), (103, [0, 1]), (124, [0, 1])]) 400 _ _ _ _ ?_
  show (¬ (h 39 12) = 1 → (qm_PA X 159 18 [(0, .ref 39), (1, .int (-4 : Int32))] [] h Q)) ∧ ((h 39 12) = 1 → (qm_PW X 151 [.ref 39] h _))
  refine ⟨fun c1 => ?_, fun c2 => ?_⟩
  · have := ti_neK 1 rfl c1
    exact (sf_159_39_c X h hp Q hq _).1 (-4 : Int32) h ⟨(by show (h 39 14).toInt = 0 ∧ (h 39 10).toInt = (h 39 10).toInt; omega), hmmi, hmpp, hmdd, hmdp, hmsm, (fun k hk => rfl)⟩ (Nat.lt_succ_self _)
  · have := ti_eqK 1 rfl c2
    refine sf_151_39 X h  ⟨hmmi, hmpp⟩ _ (fun r3 p4 => ?_)
    show qm_PA X 159 18 [(0, .ref 39), (1, .int r3)] [] h Q
    exact (sf_159_39_c X h hp Q hq _).1 r3 h ⟨(by show (h 39 14).toInt = 0 ∧ (h 39 10).toInt = (h 39 10).toInt; omega), hmmi, hmpp, hmdd, hmdp, hmsm, (fun k hk => rfl)⟩ (Nat.lt_succ_self _)
