-- ThreadBankModel.roomOf(II)I
set_option maxRecDepth 100000 in
set_option maxHeartbeats 4000000 in
theorem tx_160 (X : qm_X) (h : qm_H) (a : Int32) (b : Int32) (hp : True) (Q : qm_Q) (hq : ∀ r : Int32, (r.toInt = rmF a.toInt b.toInt) → Q (some (.int r)) h) : qm_PW X 160 [.int a, .int b] h Q := by
  refine qm_seg_ok (C := qc_160) (rt := some .int) rfl rfl (cuts := []) 400 _ _ _ _ ?_
  show ((a = 1 → ((¬ b = 3 → (Q (some (.int 2)) h)) ∧ (b = 3 → (Q (some (.int 0)) h)))) ∧ (¬ a = 1 → ((a = 2 → ((¬ b = 3 → (Q (some (.int 3)) h)) ∧ (b = 3 → (Q (some (.int 0)) h)))) ∧ (¬ a = 2 → ((a = 3 → (Q (some (.int 1)) h)) ∧ (¬ a = 3 → (Q (some (.int 2)) h)))))))
  refine ⟨fun c1 => ?_, fun c2 => ?_⟩
  · have := ti_eqK 1 rfl c1
    refine ⟨fun c3 => ?_, fun c4 => ?_⟩
    · have := ti_neK 3 rfl c3
      exact hq 2 (by have : (2 : Int32).toInt = 2 := rfl; show (2 : Int32).toInt = rmF a.toInt b.toInt; first | exact ((rmF_1 (by omega)).1 (by omega)).symm | exact ((rmF_1 (by omega)).2 (by omega)).symm | exact ((rmF_2 (by omega)).1 (by omega)).symm | exact ((rmF_2 (by omega)).2 (by omega)).symm | exact (rmF_3 (by omega)).symm | exact (rmF_d (by omega)).symm)
    · have := ti_eqK 3 rfl c4
      exact hq 0 (by have : (0 : Int32).toInt = 0 := rfl; show (0 : Int32).toInt = rmF a.toInt b.toInt; first | exact ((rmF_1 (by omega)).1 (by omega)).symm | exact ((rmF_1 (by omega)).2 (by omega)).symm | exact ((rmF_2 (by omega)).1 (by omega)).symm | exact ((rmF_2 (by omega)).2 (by omega)).symm | exact (rmF_3 (by omega)).symm | exact (rmF_d (by omega)).symm)
  · have := ti_neK 1 rfl c2
    refine ⟨fun c5 => ?_, fun c6 => ?_⟩
    · have := ti_eqK 2 rfl c5
      refine ⟨fun c7 => ?_, fun c8 => ?_⟩
      · have := ti_neK 3 rfl c7
        exact hq 3 (by have : (3 : Int32).toInt = 3 := rfl; show (3 : Int32).toInt = rmF a.toInt b.toInt; first | exact ((rmF_1 (by omega)).1 (by omega)).symm | exact ((rmF_1 (by omega)).2 (by omega)).symm | exact ((rmF_2 (by omega)).1 (by omega)).symm | exact ((rmF_2 (by omega)).2 (by omega)).symm | exact (rmF_3 (by omega)).symm | exact (rmF_d (by omega)).symm)
      · have := ti_eqK 3 rfl c8
        exact hq 0 (by have : (0 : Int32).toInt = 0 := rfl; show (0 : Int32).toInt = rmF a.toInt b.toInt; first | exact ((rmF_1 (by omega)).1 (by omega)).symm | exact ((rmF_1 (by omega)).2 (by omega)).symm | exact ((rmF_2 (by omega)).1 (by omega)).symm | exact ((rmF_2 (by omega)).2 (by omega)).symm | exact (rmF_3 (by omega)).symm | exact (rmF_d (by omega)).symm)
    · have := ti_neK 2 rfl c6
      refine ⟨fun c9 => ?_, fun c10 => ?_⟩
      · have := ti_eqK 3 rfl c9
        exact hq 1 (by have : (1 : Int32).toInt = 1 := rfl; show (1 : Int32).toInt = rmF a.toInt b.toInt; first | exact ((rmF_1 (by omega)).1 (by omega)).symm | exact ((rmF_1 (by omega)).2 (by omega)).symm | exact ((rmF_2 (by omega)).1 (by omega)).symm | exact ((rmF_2 (by omega)).2 (by omega)).symm | exact (rmF_3 (by omega)).symm | exact (rmF_d (by omega)).symm)
      · have := ti_neK 3 rfl c10
        exact hq 2 (by have : (2 : Int32).toInt = 2 := rfl; show (2 : Int32).toInt = rmF a.toInt b.toInt; first | exact ((rmF_1 (by omega)).1 (by omega)).symm | exact ((rmF_1 (by omega)).2 (by omega)).symm | exact ((rmF_2 (by omega)).1 (by omega)).symm | exact ((rmF_2 (by omega)).2 (by omega)).symm | exact (rmF_3 (by omega)).symm | exact (rmF_d (by omega)).symm)
-- ThreadBankModel.flag(Z)I
set_option maxRecDepth 100000 in
set_option maxHeartbeats 4000000 in
theorem tx_142 (X : qm_X) (h : qm_H) (a : Int32) (hp : True) (Q : qm_Q) (hq : ∀ r : Int32, ((a.toInt = 0 ∧ r.toInt = 0) ∨ (¬ a.toInt = 0 ∧ r.toInt = 1)) → Q (some (.int r)) h) : qm_PW X 142 [.int a] h Q := by
  refine qm_seg_ok (C := qc_142) (rt := some .int) rfl rfl (cuts := []) 400 _ _ _ _ ?_
  show (a = 0 → (Q (some (.int 0)) h)) ∧ (¬ a = 0 → (Q (some (.int 1)) h))
  refine ⟨fun c1 => ?_, fun c2 => ?_⟩
  · have := ti_eqK 0 rfl c1
    exact hq 0 (by have : (0 : Int32).toInt = 0 := rfl; show (a.toInt = 0 ∧ (0 : Int32).toInt = 0) ∨ (¬ a.toInt = 0 ∧ (0 : Int32).toInt = 1); omega)
  · have := ti_neK 0 rfl c2
    exact hq 1 (by have : (1 : Int32).toInt = 1 := rfl; show (a.toInt = 0 ∧ (1 : Int32).toInt = 0) ∨ (¬ a.toInt = 0 ∧ (1 : Int32).toInt = 1); omega)
-- ThreadBankModel.doFit()Z
set_option maxRecDepth 100000 in
set_option maxHeartbeats 4000000 in
theorem tx_161_c (X : qm_X) (h : qm_H) (hp : pp h ∧ dd h) (Q : qm_Q) (hq : ∀ r : Int32, (ftQ r (h 43) (h 43 4).toInt.toNat (h 39 5).toInt.toNat) → Q (some (.int r)) h) : ∀ n : Nat, (∀ (l1 : Int32) (l2 : Int32), ((ftI (h 43) (h 43 4).toInt.toNat (h 39 5).toInt.toNat l1.toInt l2.toInt 0 ∧ (0 ≤ l2.toInt ∧ l2.toInt ≤ 4)) ∧ (l1 = 0 ∨ l1 = 1)) → ((4 - l2.toInt) * 10000 + 9000).toNat < n → qm_PA X 161 4 [(0, .ref 39), (1, .int l1), (2, .int l2)] [] h Q) ∧ (∀ (l1 : Int32) (l2 : Int32) (l3 : Int32), ((ftI (h 43) (h 43 4).toInt.toNat (h 39 5).toInt.toNat l1.toInt l2.toInt l3.toInt ∧ ((0 ≤ l2.toInt ∧ l2.toInt < (h 39 5).toInt) ∧ (0 ≤ l3.toInt ∧ l3.toInt ≤ 5))) ∧ (l1 = 0 ∨ l1 = 1)) → ((4 - l2.toInt) * 10000 + (5 - l3.toInt) * 100 + 50).toNat < n → qm_PA X 161 14 [(0, .ref 39), (1, .int l1), (2, .int l2), (3, .int l3)] [] h Q) ∧ (∀ (l1 : Int32) (l2 : Int32) (l3 : Int32) (l4 : Int32) (l5 : Int32), ((ftI (h 43) (h 43 4).toInt.toNat (h 39 5).toInt.toNat l1.toInt l2.toInt l3.toInt ∧ (0 ≤ l2.toInt ∧ l2.toInt < (h 39 5).toInt) ∧ (0 ≤ l3.toInt ∧ l3.toInt ≤ 4) ∧ (0 ≤ l5.toInt ∧ l5.toInt ≤ (h 43 4).toInt) ∧ l4.toInt = cntD (h 43) l5.toInt.toNat (10 * l2.toInt + l3.toInt)) ∧ (l1 = 0 ∨ l1 = 1)) → ((4 - l2.toInt) * 10000 + (5 - l3.toInt) * 100 + 40 - l5.toInt).toNat < n → qm_PA X 161 25 [(0, .ref 39), (1, .int l1), (2, .int l2), (3, .int l3), (4, .int l4), (5, .int l5)] [] h Q) := by
  have hmpp : pp h := hp.1
  have ⟨⟨_, _⟩, ⟨_, _⟩, _, _⟩ := hmpp
  have hmdd : dd h := hp.2
  have ⟨⟨_, _⟩, _, _⟩ := hmdd
  intro n
  induction n with
  | zero => exact ⟨fun _ _ _ h0 => absurd h0 (Nat.not_lt_zero _), fun _ _ _ _ h0 => absurd h0 (Nat.not_lt_zero _), fun _ _ _ _ _ _ h0 => absurd h0 (Nat.not_lt_zero _)⟩
  | succ n ih =>
    refine ⟨?_, ?_, ?_⟩
    · intro l1 l2 hi hr
      obtain ⟨hi0, hb1⟩ := hi
      refine qm_seg_ok (C := qc_161) (rt := some .boolean) rfl rfl (cuts := [(4, [0, 1, 2]), (14, [0, 1, 2, 3]), (25, [0, 1, 2, 3, 4, 5])]) 400 _ _ _ _ ?_
      show ((h 39 5).toInt ≤ l2.toInt → ((l1 = 0 ∨ l1 = 1) ∧ Q (some (.int l1)) h)) ∧ (l2.toInt < (h 39 5).toInt → (qm_PA X 161 14 [(0, .ref 39), (1, .int l1), (2, .int l2), (3, .int 0)] [] h Q))
      refine ⟨fun c1 => ?_, fun c2 => ?_⟩
      · exact ⟨hb1, hq l1 (by show ftQ l1 (h 43) (h 43 4).toInt.toNat (h 39 5).toInt.toNat; exact ftQ_mk (ftI_e hi0.1 (by omega)))⟩
      · exact ih.2.1 l1 l2 (0 : Int32) ⟨(by have : (0 : Int32).toInt = 0 := rfl; show ftI (h 43) (h 43 4).toInt.toNat (h 39 5).toInt.toNat l1.toInt l2.toInt (0 : Int32).toInt ∧ ((0 ≤ l2.toInt ∧ l2.toInt < (h 39 5).toInt) ∧ (0 ≤ (0 : Int32).toInt ∧ (0 : Int32).toInt ≤ 5)); exact ⟨ftI_b0 hi0.1 rfl, by have : (0 : Int32).toInt = 0 := rfl; omega⟩), (hb1)⟩ (by have : (0 : Int32).toInt = 0 := rfl; omega)
    · intro l1 l2 l3 hi hr
      obtain ⟨hi0, hb1⟩ := hi
      refine qm_seg_ok (C := qc_161) (rt := some .boolean) rfl rfl (cuts := [(4, [0, 1, 2]), (14, [0, 1, 2, 3]), (25, [0, 1, 2, 3, 4, 5])]) 400 _ _ _ _ ?_
      show (5 ≤ l3.toInt → (qm_PA X 161 4 [(0, .ref 39), (1, .int l1), (2, .int (l2 + 1))] [] h Q)) ∧ (l3.toInt < 5 → (qm_PA X 161 25 [(0, .ref 39), (1, .int l1), (2, .int l2), (3, .int l3), (4, .int 0), (5, .int 0)] [] h Q))
      refine ⟨fun c1 => ?_, fun c2 => ?_⟩
      · exact ih.1 l1 (l2 + 1) ⟨(by have := ti_addK l2 (1 : Int32) 1 rfl; show ftI (h 43) (h 43 4).toInt.toNat (h 39 5).toInt.toNat l1.toInt (l2 + 1).toInt 0 ∧ (0 ≤ (l2 + 1).toInt ∧ (l2 + 1).toInt ≤ 4); exact ⟨ftI_up hi0.1 (by omega) (by omega), by omega⟩), (hb1)⟩ (by have := ti_addK l2 (1 : Int32) 1 rfl; omega)
      · exact ih.2.2 l1 l2 l3 (0 : Int32) (0 : Int32) ⟨(by have : (0 : Int32).toInt = 0 := rfl; show ftI (h 43) (h 43 4).toInt.toNat (h 39 5).toInt.toNat l1.toInt l2.toInt l3.toInt ∧ (0 ≤ l2.toInt ∧ l2.toInt < (h 39 5).toInt) ∧ (0 ≤ l3.toInt ∧ l3.toInt ≤ 4) ∧ (0 ≤ (0 : Int32).toInt ∧ (0 : Int32).toInt ≤ (h 43 4).toInt) ∧ (0 : Int32).toInt = cntD (h 43) (0 : Int32).toInt.toNat (10 * l2.toInt + l3.toInt); exact ⟨hi0.1, by omega, by omega, by have : (0 : Int32).toInt = 0 := rfl; omega, rfl⟩), (hb1)⟩ (by have : (0 : Int32).toInt = 0 := rfl; omega)
    · intro l1 l2 l3 l4 l5 hi hr
      obtain ⟨hi0, hb1⟩ := hi
      have hcr := cntD_rng (f := h 43) (x := 10 * l2.toInt + l3.toInt) l5.toInt.toNat
      refine qm_seg_ok (C := qc_161) (rt := some .boolean) rfl rfl (cuts := [(4, [0, 1, 2]), (14, [0, 1, 2, 3]), (25, [0, 1, 2, 3, 4, 5])]) 400 _ _ _ _ ?_
      show (0 ≤ (4 : Int) ∧ (4 : Int) < 49) ∧ (((h 43 4).toInt ≤ l5.toInt → ((l1 = 0 → (qm_PA X 161 14 [(0, .ref 39), (1, .int 0), (2, .int l2), (3, .int (l3 + 1))] [] h Q)) ∧ (¬ l1 = 0 → ((0 ≤ (0 + l2).toInt ∧ (0 + l2).toInt < 49) ∧ (qm_PW X 160 [.int (h 43 (0 + l2).toInt.toNat), .int l3] h _))))) ∧ (l5.toInt < (h 43 4).toInt → ((0 ≤ ((6 + (3 * l5)) + 0).toInt ∧ ((6 + (3 * l5)) + 0).toInt < 49) ∧ ((¬ (h 43 ((6 + (3 * l5)) + 0).toInt.toNat) = ((10 * l2) + l3) → (qm_PW X 142 [.int 0] h _)) ∧ ((h 43 ((6 + (3 * l5)) + 0).toInt.toNat) = ((10 * l2) + l3) → (qm_PW X 142 [.int 1] h _))))))
      refine ⟨by decide, ?_⟩
      refine ⟨fun c1 => ?_, fun c2 => ?_⟩
      · refine ⟨fun c3 => ?_, fun c4 => ?_⟩
        · have := ti_eqK 0 rfl c3
          exact ih.2.1 (0 : Int32) l2 (l3 + 1) ⟨(by have : (0 : Int32).toInt = 0 := rfl; have := ti_addK l3 (1 : Int32) 1 rfl; show ftI (h 43) (h 43 4).toInt.toNat (h 39 5).toInt.toNat (0 : Int32).toInt l2.toInt (l3 + 1).toInt ∧ ((0 ≤ l2.toInt ∧ l2.toInt < (h 39 5).toInt) ∧ (0 ≤ (l3 + 1).toInt ∧ (l3 + 1).toInt ≤ 5)); exact ⟨ftI_no hi0.1 (by omega) rfl, by omega⟩), (Or.inl rfl)⟩ (by have := ti_addK l3 (1 : Int32) 1 rfl; omega)
        · have := ti_neK 0 rfl c4
          refine ⟨(by have := ti_addL l2 (0 : Int32) 0 rfl; omega), ?_⟩
          refine tx_160 X h (h 43 (0 + l2).toInt.toNat) l3 trivial _ (fun r5 p6 => ?_)
          have o7 : r5.toInt = rmF (h 43 (0 + l2).toInt.toNat).toInt l3.toInt := p6
          show (r5.toInt < l4.toInt → (qm_PA X 161 14 [(0, .ref 39), (1, .int 0), (2, .int l2), (3, .int (l3 + 1))] [] h Q)) ∧ (l4.toInt ≤ r5.toInt → (qm_PA X 161 14 [(0, .ref 39), (1, .int 1), (2, .int l2), (3, .int (l3 + 1))] [] h Q))
          refine ⟨fun c8 => ?_, fun c9 => ?_⟩
          · exact ih.2.1 (0 : Int32) l2 (l3 + 1) ⟨(by have : (0 : Int32).toInt = 0 := rfl; have := ti_addK l3 (1 : Int32) 1 rfl; have := ti_addL l2 (0 : Int32) 0 rfl; show ftI (h 43) (h 43 4).toInt.toNat (h 39 5).toInt.toNat (0 : Int32).toInt l2.toInt (l3 + 1).toInt ∧ ((0 ≤ l2.toInt ∧ l2.toInt < (h 39 5).toInt) ∧ (0 ≤ (l3 + 1).toInt ∧ (l3 + 1).toInt ≤ 5)); have hz0 := ti_addL l2 (0 : Int32) 0 rfl; exact ⟨ftI_st (m := l4.toInt) (r := r5.toInt) hi0.1 (by omega) (by omega) (by omega) (by rw [show (h 43 4).toInt.toNat = l5.toInt.toNat by omega]; exact hi0.2.2.2.2) (by rw [show l2.toInt.toNat = (0 + l2).toInt.toNat by omega]; exact o7) (by omega) (by first | exact Or.inl ⟨by omega, rfl⟩ | exact Or.inr ⟨by omega, rfl⟩), by omega⟩), (Or.inl rfl)⟩ (by have := ti_addK l3 (1 : Int32) 1 rfl; have := ti_addL l2 (0 : Int32) 0 rfl; omega)
          · exact ih.2.1 (1 : Int32) l2 (l3 + 1) ⟨(by have : (1 : Int32).toInt = 1 := rfl; have := ti_addK l3 (1 : Int32) 1 rfl; have := ti_addL l2 (0 : Int32) 0 rfl; show ftI (h 43) (h 43 4).toInt.toNat (h 39 5).toInt.toNat (1 : Int32).toInt l2.toInt (l3 + 1).toInt ∧ ((0 ≤ l2.toInt ∧ l2.toInt < (h 39 5).toInt) ∧ (0 ≤ (l3 + 1).toInt ∧ (l3 + 1).toInt ≤ 5)); have hz0 := ti_addL l2 (0 : Int32) 0 rfl; exact ⟨ftI_st (m := l4.toInt) (r := r5.toInt) hi0.1 (by omega) (by omega) (by omega) (by rw [show (h 43 4).toInt.toNat = l5.toInt.toNat by omega]; exact hi0.2.2.2.2) (by rw [show l2.toInt.toNat = (0 + l2).toInt.toNat by omega]; exact o7) (by omega) (by first | exact Or.inl ⟨by omega, rfl⟩ | exact Or.inr ⟨by omega, rfl⟩), by omega⟩), (Or.inr rfl)⟩ (by have := ti_addK l3 (1 : Int32) 1 rfl; have := ti_addL l2 (0 : Int32) 0 rfl; omega)
      · refine ⟨(by have := ti_mulL (3 : Int32) 3 rfl l5; have := ti_addL (3 * l5) (6 : Int32) 6 rfl; have := ti_addK (6 + (3 * l5)) (0 : Int32) 0 rfl; omega), ?_⟩
        refine ⟨fun c10 => ?_, fun c11 => ?_⟩
        · have : ¬ (h 43 ((6 + (3 * l5)) + 0).toInt.toNat).toInt = ((10 * l2) + l3).toInt := fun q => c10 (Int32.toInt_inj.mp q)
          refine tx_142 X h (0 : Int32) trivial _ (fun r12 p13 => ?_)
          have o14 : ((0 : Int32).toInt = 0 ∧ r12.toInt = 0) ∨ (¬ (0 : Int32).toInt = 0 ∧ r12.toInt = 1) := p13
          show qm_PA X 161 25 [(0, .ref 39), (1, .int l1), (2, .int l2), (3, .int l3), (4, .int (l4 + r12)), (5, .int (l5 + 1))] [] h Q
          exact ih.2.2 l1 l2 l3 (l4 + r12) (l5 + 1) ⟨(by have : (0 : Int32).toInt = 0 := rfl; have := ti_addK l5 (1 : Int32) 1 rfl; have := ti_add l4 r12; have := ti_mulL (3 : Int32) 3 rfl l5; have := ti_addL (3 * l5) (6 : Int32) 6 rfl; have := ti_addK (6 + (3 * l5)) (0 : Int32) 0 rfl; have := ti_mulL (10 : Int32) 10 rfl l2; have := ti_add (10 * l2) l3; show ftI (h 43) (h 43 4).toInt.toNat (h 39 5).toInt.toNat l1.toInt l2.toInt l3.toInt ∧ (0 ≤ l2.toInt ∧ l2.toInt < (h 39 5).toInt) ∧ (0 ≤ l3.toInt ∧ l3.toInt ≤ 4) ∧ (0 ≤ (l5 + 1).toInt ∧ (l5 + 1).toInt ≤ (h 43 4).toInt) ∧ (l4 + r12).toInt = cntD (h 43) (l5 + 1).toInt.toNat (10 * l2.toInt + l3.toInt); have hx := ti_mulL (10 : Int32) 10 rfl l2; have hx2 := ti_add (10 * l2) l3; have hy := ti_mulL (3 : Int32) 3 rfl l5; have hy6 := ti_addL (3 * l5) (6 : Int32) 6 rfl; have hy0 := ti_addK (6 + (3 * l5)) (0 : Int32) 0 rfl; have h01 : (0 : Int32).toInt = 0 := rfl; have h11 : (1 : Int32).toInt = 1 := rfl; have hix : ((6 + (3 * l5)) + 0).toInt.toNat = 6 + 3 * l5.toInt.toNat := (by omega); have hc : ¬ (h 43 (6 + 3 * l5.toInt.toNat)).toInt = 10 * l2.toInt + l3.toInt := (by rw [← hix]; omega); exact ⟨hi0.1, by omega, by omega, by omega, by rw [show (l5 + 1).toInt.toNat = l5.toInt.toNat + 1 by omega, cntD_neg hc]; omega⟩), (hb1)⟩ (by have : (0 : Int32).toInt = 0 := rfl; have := ti_addK l5 (1 : Int32) 1 rfl; have := ti_mulL (3 : Int32) 3 rfl l5; have := ti_addL (3 * l5) (6 : Int32) 6 rfl; have := ti_addK (6 + (3 * l5)) (0 : Int32) 0 rfl; have := ti_mulL (10 : Int32) 10 rfl l2; have := ti_add (10 * l2) l3; omega)
        · have : (h 43 ((6 + (3 * l5)) + 0).toInt.toNat).toInt = ((10 * l2) + l3).toInt := congrArg Int32.toInt c11
          refine tx_142 X h (1 : Int32) trivial _ (fun r15 p16 => ?_)
          have o17 : ((1 : Int32).toInt = 0 ∧ r15.toInt = 0) ∨ (¬ (1 : Int32).toInt = 0 ∧ r15.toInt = 1) := p16
          show qm_PA X 161 25 [(0, .ref 39), (1, .int l1), (2, .int l2), (3, .int l3), (4, .int (l4 + r15)), (5, .int (l5 + 1))] [] h Q
          exact ih.2.2 l1 l2 l3 (l4 + r15) (l5 + 1) ⟨(by have : (1 : Int32).toInt = 1 := rfl; have := ti_addK l5 (1 : Int32) 1 rfl; have := ti_add l4 r15; have := ti_mulL (3 : Int32) 3 rfl l5; have := ti_addL (3 * l5) (6 : Int32) 6 rfl; have := ti_addK (6 + (3 * l5)) (0 : Int32) 0 rfl; have := ti_mulL (10 : Int32) 10 rfl l2; have := ti_add (10 * l2) l3; show ftI (h 43) (h 43 4).toInt.toNat (h 39 5).toInt.toNat l1.toInt l2.toInt l3.toInt ∧ (0 ≤ l2.toInt ∧ l2.toInt < (h 39 5).toInt) ∧ (0 ≤ l3.toInt ∧ l3.toInt ≤ 4) ∧ (0 ≤ (l5 + 1).toInt ∧ (l5 + 1).toInt ≤ (h 43 4).toInt) ∧ (l4 + r15).toInt = cntD (h 43) (l5 + 1).toInt.toNat (10 * l2.toInt + l3.toInt); have hx := ti_mulL (10 : Int32) 10 rfl l2; have hx2 := ti_add (10 * l2) l3; have hy := ti_mulL (3 : Int32) 3 rfl l5; have hy6 := ti_addL (3 * l5) (6 : Int32) 6 rfl; have hy0 := ti_addK (6 + (3 * l5)) (0 : Int32) 0 rfl; have h01 : (0 : Int32).toInt = 0 := rfl; have h11 : (1 : Int32).toInt = 1 := rfl; have hix : ((6 + (3 * l5)) + 0).toInt.toNat = 6 + 3 * l5.toInt.toNat := (by omega); have hc : (h 43 (6 + 3 * l5.toInt.toNat)).toInt = 10 * l2.toInt + l3.toInt := (by rw [← hix]; omega); exact ⟨hi0.1, by omega, by omega, by omega, by rw [show (l5 + 1).toInt.toNat = l5.toInt.toNat + 1 by omega, cntD_pos hc]; omega⟩), (hb1)⟩ (by have : (1 : Int32).toInt = 1 := rfl; have := ti_addK l5 (1 : Int32) 1 rfl; have := ti_mulL (3 : Int32) 3 rfl l5; have := ti_addL (3 * l5) (6 : Int32) 6 rfl; have := ti_addK (6 + (3 * l5)) (0 : Int32) 0 rfl; have := ti_mulL (10 : Int32) 10 rfl l2; have := ti_add (10 * l2) l3; omega)
set_option maxRecDepth 100000 in
set_option maxHeartbeats 4000000 in
theorem tx_161 (X : qm_X) (h : qm_H) (hp : pp h ∧ dd h) (Q : qm_Q) (hq : ∀ r : Int32, (ftQ r (h 43) (h 43 4).toInt.toNat (h 39 5).toInt.toNat) → Q (some (.int r)) h) : qm_PW X 161 [.ref 39] h Q := by
  have hmpp : pp h := hp.1
  have ⟨⟨_, _⟩, ⟨_, _⟩, _, _⟩ := hmpp
  have hmdd : dd h := hp.2
  have ⟨⟨_, _⟩, _, _⟩ := hmdd
  refine qm_seg_ok (C := qc_161) (rt := some .boolean) rfl rfl (cuts := [(4, [0, 1, 2]), (14, [0, 1, 2, 3]), (25, [0, 1, 2, 3, 4, 5])]) 400 _ _ _ _ ?_
  show qm_PA X 161 4 [(0, .ref 39), (1, .int 1), (2, .int 0)] [] h Q
  exact (tx_161_c X h hp Q hq _).1 (1 : Int32) (0 : Int32) ⟨(by have : (1 : Int32).toInt = 1 := rfl; have : (0 : Int32).toInt = 0 := rfl; show ftI (h 43) (h 43 4).toInt.toNat (h 39 5).toInt.toNat (1 : Int32).toInt (0 : Int32).toInt 0 ∧ (0 ≤ (0 : Int32).toInt ∧ (0 : Int32).toInt ≤ 4); exact ⟨ftI_0 rfl rfl, by decide⟩), (Or.inr rfl)⟩ (Nat.lt_succ_self _)
