-- ThreadBankModel.bitsOf(I)I
set_option maxRecDepth 100000 in
set_option maxHeartbeats 4000000 in
theorem ty_207_c (X : qm_X) (h : qm_H) (a : Int32) (hp : True) (Q : qm_Q) (hq : ∀ r : Int32, (r.toInt = popI a ∧ (0 ≤ r.toInt ∧ r.toInt ≤ 10)) → Q (some (.int r)) h) : ∀ n : Nat, (∀ (l1 : Int32) (l2 : Int32), ((0 ≤ l2.toInt ∧ l2.toInt ≤ 10) ∧ l1.toInt = sumI (pbF a) l2.toInt.toNat) → (10 - l2.toInt).toNat < n → qm_PA X 207 4 [(0, .int a), (1, .int l1), (2, .int l2)] [] h Q) := by
  intro n
  induction n with
  | zero => exact fun _ _ _ h0 => absurd h0 (Nat.not_lt_zero _)
  | succ n ih =>
    intro l1 l2 hi hr
    have ti_l2 := ti_rng l2
    have hr8 := popI_rng (a := a) (n := l2.toInt.toNat)
    refine qm_seg_ok (C := qc_207) (rt := some .int) rfl rfl (cuts := [(4, [0, 1, 2])]) 400 _ _ _ _ ?_
    show (10 ≤ l2.toInt → (Q (some (.int l1)) h)) ∧ (l2.toInt < 10 → (qm_PA X 207 4 [(0, .int a), (1, .int (l1 + ((a >>> (l2 &&& 31)) &&& 1))), (2, .int (l2 + 1))] [] h Q))
    refine ⟨fun c1 => ?_, fun c2 => ?_⟩
    · exact hq l1 (by show l1.toInt = popI a ∧ (0 ≤ l1.toInt ∧ l1.toInt ≤ 10); have hi2 := hi.2; rw [show l2.toInt.toNat = 10 by omega] at hi2; have hr9 := popI_rng (a := a) (n := 10); exact ⟨hi2, by omega⟩)
    · exact ih (l1 + ((a >>> (l2 &&& 31)) &&& 1)) (l2 + 1) (by have := ti_addK l2 (1 : Int32) 1 rfl; have := ti_add l1 ((a >>> (l2 &&& 31)) &&& 1); have el2 : l2 = nI l2.toInt.toNat := nI_is (by omega) (by omega); have hb : ((a >>> (l2 &&& 31)) &&& 1).toInt = pbF a l2.toInt.toNat := (by unfold pbF; rw [← el2]); have hr := pbF_rng (a := a) (i := l2.toInt.toNat); exact ⟨by omega, by rw [show (l2 + 1).toInt.toNat = l2.toInt.toNat + 1 by omega, sumI_s]; omega⟩) (by have := ti_addK l2 (1 : Int32) 1 rfl; omega)
set_option maxRecDepth 100000 in
set_option maxHeartbeats 4000000 in
theorem ty_207 (X : qm_X) (h : qm_H) (a : Int32) (hp : True) (Q : qm_Q) (hq : ∀ r : Int32, (r.toInt = popI a ∧ (0 ≤ r.toInt ∧ r.toInt ≤ 10)) → Q (some (.int r)) h) : qm_PW X 207 [.int a] h Q := by
  refine qm_seg_ok (C := qc_207) (rt := some .int) rfl rfl (cuts := [(4, [0, 1, 2])]) 400 _ _ _ _ ?_
  show qm_PA X 207 4 [(0, .int a), (1, .int 0), (2, .int 0)] [] h Q
  exact (ty_207_c X h a hp Q hq _) (0 : Int32) (0 : Int32) (by have : (0 : Int32).toInt = 0 := rfl; exact ⟨by have : (0 : Int32).toInt = 0 := rfl; omega, rfl⟩) (Nat.lt_succ_self _)
