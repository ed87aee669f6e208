-- ThreadBank.place()I
set_option maxRecDepth 100000 in
set_option maxHeartbeats 4000000 in
theorem sf_111_0_c (X : qm_X) (h : qm_H) (hp : mq 1 h) (Q : qm_Q) (hq : ∀ r : Int32, (True) → Q (some (.int r)) h) : ∀ n : Nat, (∀ (l1 : Int32) (l2 : Int32), (0 ≤ l2.toInt ∧ l2.toInt ≤ 4) → (4 - l2.toInt).toNat < n → qm_PA X 111 5 [(0, .ref 0), (1, .int l1), (2, .int l2)] [] h Q) := by
  have hm1 : mq 1 h := hp
  have ⟨⟨_, _⟩, ⟨_, _⟩, _, _⟩ := hm1
  intro n
  induction n with
  | zero => exact fun _ _ _ h0 => absurd h0 (Nat.not_lt_zero _)
  | succ n ih =>
    intro l1 l2 hi hr
    have ti_l2 := ti_rng l2
    refine qm_seg_ok (C := qc_111) (rt := some .int) rfl rfl (cuts := [(5, [0, 1, 2])]) 400 _ _ _ _ ?_
    show ((h 1 6).toInt ≤ l2.toInt → ((¬ l1 = (-4 : Int32) → (qm_PW X 133 [.ref 0, .int l1] h _)) ∧ (l1 = (-4 : Int32) → (Q (some (.int (-4 : Int32))) h)))) ∧ (l2.toInt < (h 1 6).toInt → ((l1 = (-4 : Int32) → (qm_PW X 41 [.ref 1, .int l2] h _)) ∧ (¬ l1 = (-4 : Int32) → (qm_PW X 36 [.ref 1, .int l2] h _))))
    refine ⟨fun c1 => ?_, fun c2 => ?_⟩
    · refine ⟨fun c3 => ?_, fun c4 => ?_⟩
      · refine sf_133_0 X h l1 hm1 _ (fun r5 p6 => ?_)
        show Q (some (.int r5)) h
        exact hq r5 trivial
      · exact hq (-4 : Int32) trivial
    · refine ⟨fun c7 => ?_, fun c8 => ?_⟩
      · refine sf_41_1 X h l2 hm1 _ (fun r9 p10 => ?_)
        show (r9.toInt ≤ 0 → (qm_PA X 111 5 [(0, .ref 0), (1, .int l1), (2, .int (l2 + 1))] [] h Q)) ∧ (0 < r9.toInt → (((1 : Int32) = 0 → (qm_PA X 111 5 [(0, .ref 0), (1, .int l1), (2, .int (l2 + 1))] [] h Q)) ∧ (¬ (1 : Int32) = 0 → (qm_PA X 111 5 [(0, .ref 0), (1, .int l2), (2, .int (l2 + 1))] [] h Q))))
        refine ⟨fun c11 => ?_, fun c12 => ?_⟩
        · exact ih l1 (l2 + 1) (by have := ti_addK l2 (1 : Int32) 1 rfl; omega) (by have := ti_addK l2 (1 : Int32) 1 rfl; omega)
        · refine ⟨fun c13 => ?_, fun c14 => ?_⟩
          · exact absurd c13 (by decide)
          · exact ih l2 (l2 + 1) (by have := ti_addK l2 (1 : Int32) 1 rfl; omega) (by have := ti_addK l2 (1 : Int32) 1 rfl; omega)
      · refine sf_36_1 X h l2 hm1 _ (fun r15 p16 => ?_)
        show qm_PW X 36 [.ref 1, .int l1] h _
        refine sf_36_1 X h l1 hm1 _ (fun r17 p18 => ?_)
        show (r17.toInt ≤ r15.toInt → (qm_PW X 41 [.ref 1, .int l2] h _)) ∧ (r15.toInt < r17.toInt → (qm_PW X 41 [.ref 1, .int l2] h _))
        refine ⟨fun c19 => ?_, fun c20 => ?_⟩
        · refine sf_41_1 X h l2 hm1 _ (fun r21 p22 => ?_)
          show (r21.toInt ≤ 0 → (qm_PA X 111 5 [(0, .ref 0), (1, .int l1), (2, .int (l2 + 1))] [] h Q)) ∧ (0 < r21.toInt → (((0 : Int32) = 0 → (qm_PA X 111 5 [(0, .ref 0), (1, .int l1), (2, .int (l2 + 1))] [] h Q)) ∧ (¬ (0 : Int32) = 0 → (qm_PA X 111 5 [(0, .ref 0), (1, .int l2), (2, .int (l2 + 1))] [] h Q))))
          refine ⟨fun c23 => ?_, fun c24 => ?_⟩
          · exact ih l1 (l2 + 1) (by have := ti_addK l2 (1 : Int32) 1 rfl; omega) (by have := ti_addK l2 (1 : Int32) 1 rfl; omega)
          · refine ⟨fun c25 => ?_, fun c26 => ?_⟩
            · exact ih l1 (l2 + 1) (by have := ti_addK l2 (1 : Int32) 1 rfl; omega) (by have := ti_addK l2 (1 : Int32) 1 rfl; omega)
            · exact absurd c26 (by decide)
        · refine sf_41_1 X h l2 hm1 _ (fun r27 p28 => ?_)
          show (r27.toInt ≤ 0 → (qm_PA X 111 5 [(0, .ref 0), (1, .int l1), (2, .int (l2 + 1))] [] h Q)) ∧ (0 < r27.toInt → (((1 : Int32) = 0 → (qm_PA X 111 5 [(0, .ref 0), (1, .int l1), (2, .int (l2 + 1))] [] h Q)) ∧ (¬ (1 : Int32) = 0 → (qm_PA X 111 5 [(0, .ref 0), (1, .int l2), (2, .int (l2 + 1))] [] h Q))))
          refine ⟨fun c29 => ?_, fun c30 => ?_⟩
          · exact ih l1 (l2 + 1) (by have := ti_addK l2 (1 : Int32) 1 rfl; omega) (by have := ti_addK l2 (1 : Int32) 1 rfl; omega)
          · refine ⟨fun c31 => ?_, fun c32 => ?_⟩
            · exact absurd c31 (by decide)
            · exact ih l2 (l2 + 1) (by have := ti_addK l2 (1 : Int32) 1 rfl; omega) (by have := ti_addK l2 (1 : Int32) 1 rfl; omega)
set_option maxRecDepth 100000 in
set_option maxHeartbeats 4000000 in
theorem sf_111_0 (X : qm_X) (h : qm_H) (hp : mq 1 h) (Q : qm_Q) (hq : ∀ r : Int32, (True) → Q (some (.int r)) h) : qm_PW X 111 [.ref 0] h Q := by
  have hm1 : mq 1 h := hp
  have ⟨⟨_, _⟩, ⟨_, _⟩, _, _⟩ := hm1
  refine qm_seg_ok (C := qc_111) (rt := some .int) rfl rfl (cuts := [(5, [0, 1, 2])]) 400 _ _ _ _ ?_
  show qm_PA X 111 5 [(0, .ref 0), (1, .int (-4 : Int32)), (2, .int 0)] [] h Q
  exact (sf_111_0_c X h hp Q hq _) (-4 : Int32) (0 : Int32) (by have : (0 : Int32).toInt = 0 := rfl; omega) (Nat.lt_succ_self _)
theorem sf_134_0 (X : qm_X) (h : qm_H) (a : Int32) (Q : qm_Q) (h8 : a = 0 → Q (some (.ref 8)) h) (h15 : ¬ a = 0 → Q (some (.ref 15)) h) : qm_PW X 134 [.ref 0, .int a] h Q := by
  refine qm_seg_ok (C := qc_134) (rt := some (.object "ThreadBank$Memory")) rfl rfl (cuts := []) 400 _ _ _ _ ?_
  show (¬ a = 0 → Q (some (.ref 15)) h) ∧ (a = 0 → Q (some (.ref 8)) h)
  exact ⟨h15, h8⟩
