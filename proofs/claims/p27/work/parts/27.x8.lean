-- ThreadBank.owed(II)I
set_option maxRecDepth 100000 in
set_option maxHeartbeats 4000000 in
theorem sf_104_0 (X : qm_X) (h : qm_H) (a : Int32) (b : Int32) (hp : mq 1 h) (Q : qm_Q) (hq : ∀ r : Int32, (True) → Q (some (.int r)) h) : qm_PW X 104 [.ref 0, .int a, .int b] h Q := by
  have hm1 : mq 1 h := hp
  have ⟨⟨_, _⟩, ⟨_, _⟩, _, _⟩ := hm1
  refine qm_seg_ok (C := qc_104) (rt := some .int) rfl rfl (cuts := []) 400 _ _ _ _ ?_
  show qm_PW X 31 [.ref 1, .int a] h _
  refine sf_31_1 X h a trivial _ (fun r1 p2 => ?_)
  show (r1 = 0 → (Q (some (.int (-1 : Int32))) h)) ∧ (¬ r1 = 0 → ((b.toInt < 0 → (Q (some (.int (-1 : Int32))) h)) ∧ (0 ≤ b.toInt → ((b.toInt ≤ 1 → ((¬ b = 0 → (qm_PW X 53 [.ref 1, .int a, .int (h 1 8)] h _)) ∧ (b = 0 → (qm_PW X 53 [.ref 1, .int a, .int 9] h _)))) ∧ (1 < b.toInt → (Q (some (.int (-1 : Int32))) h))))))
  refine ⟨fun c3 => ?_, fun c4 => ?_⟩
  · exact hq (-1 : Int32) trivial
  · refine ⟨fun c5 => ?_, fun c6 => ?_⟩
    · exact hq (-1 : Int32) trivial
    · refine ⟨fun c7 => ?_, fun c8 => ?_⟩
      · refine ⟨fun c9 => ?_, fun c10 => ?_⟩
        · refine sf_53_1 X h a (h 1 8) hm1 _ (fun r11 p12 => ?_)
          show Q (some (.int r11)) h
          exact hq r11 trivial
        · refine sf_53_1 X h a (9 : Int32) hm1 _ (fun r13 p14 => ?_)
          show Q (some (.int r13)) h
          exact hq r13 trivial
      · exact hq (-1 : Int32) trivial
-- ThreadBank.sumOfNetsAboveNothing()I
set_option maxRecDepth 100000 in
set_option maxHeartbeats 4000000 in
theorem sf_131_0_c (X : qm_X) (h : qm_H) (hp : mq 1 h) (Q : qm_Q) (hq : ∀ r : Int32, (True) → Q (some (.int r)) h) : ∀ n : Nat, (∀ (l1 : Int32) (l2 : Int32), (0 ≤ l2.toInt ∧ l2.toInt ≤ 4) → (4 - l2.toInt).toNat < n → qm_PA X 131 4 [(0, .ref 0), (1, .int l1), (2, .int l2)] [] h Q) := by
  have hm1 : mq 1 h := hp
  have ⟨⟨_, _⟩, ⟨_, _⟩, _, _⟩ := hm1
  intro n
  induction n with
  | zero => exact fun _ _ _ h0 => absurd h0 (Nat.not_lt_zero _)
  | succ n ih =>
    intro l1 l2 hi hr
    have ti_l2 := ti_rng l2
    refine qm_seg_ok (C := qc_131) (rt := some .int) rfl rfl (cuts := [(4, [0, 1, 2])]) 400 _ _ _ _ ?_
    show ((h 1 6).toInt ≤ l2.toInt → (Q (some (.int l1)) h)) ∧ (l2.toInt < (h 1 6).toInt → (qm_PW X 55 [.ref 1, .int l2] h _))
    refine ⟨fun c1 => ?_, fun c2 => ?_⟩
    · exact hq l1 trivial
    · refine sf_55_1 X h l2 hm1 _ (fun r3 p4 => ?_)
      show qm_PW X 1 [.int 0, .int r3] h _
      refine sf_1 X h (0 : Int32) r3 trivial _ (fun r5 p6 => ?_)
      show qm_PA X 131 4 [(0, .ref 0), (1, .int (l1 + r5)), (2, .int (l2 + 1))] [] h Q
      exact ih (l1 + r5) (l2 + 1) (by have : (0 : Int32).toInt = 0 := rfl; have := ti_addK l2 (1 : Int32) 1 rfl; omega) (by have : (0 : Int32).toInt = 0 := rfl; have := ti_addK l2 (1 : Int32) 1 rfl; omega)
set_option maxRecDepth 100000 in
set_option maxHeartbeats 4000000 in
theorem sf_131_0 (X : qm_X) (h : qm_H) (hp : mq 1 h) (Q : qm_Q) (hq : ∀ r : Int32, (True) → Q (some (.int r)) h) : qm_PW X 131 [.ref 0] h Q := by
  have hm1 : mq 1 h := hp
  have ⟨⟨_, _⟩, ⟨_, _⟩, _, _⟩ := hm1
  refine qm_seg_ok (C := qc_131) (rt := some .int) rfl rfl (cuts := [(4, [0, 1, 2])]) 400 _ _ _ _ ?_
  show qm_PA X 131 4 [(0, .ref 0), (1, .int 0), (2, .int 0)] [] h Q
  exact (sf_131_0_c X h hp Q hq _) (0 : Int32) (0 : Int32) (by have : (0 : Int32).toInt = 0 := rfl; omega) (Nat.lt_succ_self _)
-- ThreadBank.sum(I)I
set_option maxRecDepth 100000 in
set_option maxHeartbeats 4000000 in
theorem sf_105_0 (X : qm_X) (h : qm_H) (a : Int32) (hp : mq 1 h) (Q : qm_Q) (hq : ∀ r : Int32, (True) → Q (some (.int r)) h) : qm_PW X 105 [.ref 0, .int a] h Q := by
  have hm1 : mq 1 h := hp
  have ⟨⟨_, _⟩, ⟨_, _⟩, _, _⟩ := hm1
  refine qm_seg_ok (C := qc_105) (rt := some .int) rfl rfl (cuts := []) 400 _ _ _ _ ?_
  show ((a = 0 → (qm_PW X 54 [.ref 1, .int 9] h _)) ∧ (¬ a = 0 → ((a = 1 → (qm_PW X 54 [.ref 1, .int (h 1 8)] h _)) ∧ (¬ a = 1 → ((a = 2 → (qm_PW X 131 [.ref 0] h _)) ∧ (¬ a = 2 → (Q (some (.int (-1 : Int32))) h)))))))
  refine ⟨fun c1 => ?_, fun c2 => ?_⟩
  · refine sf_54_1 X h (9 : Int32) hm1 _ (fun r3 p4 => ?_)
    show Q (some (.int r3)) h
    exact hq r3 trivial
  · refine ⟨fun c5 => ?_, fun c6 => ?_⟩
    · refine sf_54_1 X h (h 1 8) hm1 _ (fun r7 p8 => ?_)
      show Q (some (.int r7)) h
      exact hq r7 trivial
    · refine ⟨fun c9 => ?_, fun c10 => ?_⟩
      · refine sf_131_0 X h  hm1 _ (fun r11 p12 => ?_)
        show Q (some (.int r11)) h
        exact hq r11 trivial
      · exact hq (-1 : Int32) trivial
-- ThreadBank.ring(I)I
set_option maxRecDepth 100000 in
set_option maxHeartbeats 4000000 in
theorem sf_106_0 (X : qm_X) (h : qm_H) (a : Int32) (hp : mq 1 h ∧ mq 8 h ∧ mq 15 h ∧ sq h) (Q : qm_Q) (hq : ∀ r : Int32, ∀ h' : qm_H, (mq 1 h' ∧ mq 8 h' ∧ mq 15 h' ∧ sq h' ∧ (∀ k, (k < 32 ∨ 33 < k) → h' k = h k)) → Q (some (.int r)) h') : qm_PW X 106 [.ref 0, .int a] h Q := by
  have hm1 : mq 1 h := hp.1
  have ⟨⟨_, _⟩, ⟨_, _⟩, _, _⟩ := hm1
  have hm8 : mq 8 h := hp.2.1
  have ⟨⟨_, _⟩, ⟨_, _⟩, _, _⟩ := hm8
  have hm15 : mq 15 h := hp.2.2.1
  have ⟨⟨_, _⟩, ⟨_, _⟩, _, _⟩ := hm15
  have hmsq : sq h := hp.2.2.2
  refine qm_seg_ok (C := qc_106) (rt := some .int) rfl rfl (cuts := []) 400 _ _ _ _ ?_
  show (a.toInt < 10 → ((a = 0 → (qm_PW X 10 [.ref 32, .ref 1] h _)) ∧ (¬ a = 0 → ((a = 1 → (qm_PW X 10 [.ref 32, .ref 1] h _)) ∧ (¬ a = 1 → ((¬ (0 : Int32) = 0 → (qm_PW X 10 [.ref 32, .ref 1] h _)) ∧ ((0 : Int32) = 0 → (Q (some (.int (-1 : Int32))) h)))))))) ∧ (10 ≤ a.toInt → ((a = 0 → (qm_PW X 10 [.ref 32, .ref 1] h _)) ∧ (¬ a = 0 → ((a = 1 → (qm_PW X 10 [.ref 32, .ref 1] h _)) ∧ (¬ a = 1 → ((¬ (1 : Int32) = 0 → (qm_PW X 10 [.ref 32, .ref 1] h _)) ∧ ((1 : Int32) = 0 → (Q (some (.int (-1 : Int32))) h))))))))
  refine ⟨fun c1 => ?_, fun c2 => ?_⟩
  · refine ⟨fun c3 => ?_, fun c4 => ?_⟩
    · refine sf_10_32_1 X h  hm1 _ (fun g5 p6 => ?_)
      have f7 : ∀ k, (k < 32 ∨ 33 < k) → g5 k = h k := fun k hk => (p6 k (by omega)).trans (rfl)
      have k8 : mq 1 g5 := by unfold mq; rw [p6 1 (by omega)]; exact hm1
      have k9 : mq 8 g5 := by unfold mq; rw [p6 8 (by omega)]; exact hm8
      have k10 : mq 15 g5 := by unfold mq; rw [p6 15 (by omega)]; exact hm15
      have k11 : sq g5 := by unfold sq; rw [p6 37 (by omega)]; exact hmsq
      show qm_PW X 13 [.ref 32] g5 _
      refine sf_13_32 X g5  trivial _ (fun r12 g13 p14 => ?_)
      have f15 : ∀ k, (k < 32 ∨ 33 < k) → g13 k = h k := fun k hk => (p14.1 k (by omega)).trans (f7 k hk)
      have k16 : mq 1 g13 := by unfold mq; rw [p14.1 1 (by omega)]; exact k8
      have k17 : mq 8 g13 := by unfold mq; rw [p14.1 8 (by omega)]; exact k9
      have k18 : mq 15 g13 := by unfold mq; rw [p14.1 15 (by omega)]; exact k10
      have k19 : sq g13 := by unfold sq; rw [p14.1 37 (by omega)]; exact k11
      show (¬ r12 = 0 → (((0 : Int32) = 0 → ((¬ a = 0 → (qm_PW X 15 [.ref 32] g13 _)) ∧ (a = 0 → (qm_PW X 14 [.ref 32] g13 _)))) ∧ (¬ (0 : Int32) = 0 → (qm_PW X 16 [.ref 32, .int (a - 10)] g13 _)))) ∧ (r12 = 0 → (Q (some (.int (-4 : Int32))) g13))
      refine ⟨fun c20 => ?_, fun c21 => ?_⟩
      · refine ⟨fun c22 => ?_, fun c23 => ?_⟩
        · refine ⟨fun c24 => ?_, fun c25 => ?_⟩
          · refine sf_15_32 X g13  trivial _ (fun r26 p27 => ?_)
            show Q (some (.int r26)) g13
            exact hq r26 g13 ⟨k16, k17, k18, k19, (fun k hk => f15 k hk)⟩
          · refine sf_14_32 X g13  trivial _ (fun r28 p29 => ?_)
            show Q (some (.int r28)) g13
            exact hq r28 g13 ⟨k16, k17, k18, k19, (fun k hk => f15 k hk)⟩
        · exact absurd c23 (by decide)
      · exact hq (-4 : Int32) g13 ⟨k16, k17, k18, k19, (fun k hk => f15 k hk)⟩
    · refine ⟨fun c32 => ?_, fun c33 => ?_⟩
      · refine sf_10_32_1 X h  hm1 _ (fun g34 p35 => ?_)
        have f36 : ∀ k, (k < 32 ∨ 33 < k) → g34 k = h k := fun k hk => (p35 k (by omega)).trans (rfl)
        have k37 : mq 1 g34 := by unfold mq; rw [p35 1 (by omega)]; exact hm1
        have k38 : mq 8 g34 := by unfold mq; rw [p35 8 (by omega)]; exact hm8
        have k39 : mq 15 g34 := by unfold mq; rw [p35 15 (by omega)]; exact hm15
        have k40 : sq g34 := by unfold sq; rw [p35 37 (by omega)]; exact hmsq
        show qm_PW X 13 [.ref 32] g34 _
        refine sf_13_32 X g34  trivial _ (fun r41 g42 p43 => ?_)
        have f44 : ∀ k, (k < 32 ∨ 33 < k) → g42 k = h k := fun k hk => (p43.1 k (by omega)).trans (f36 k hk)
        have k45 : mq 1 g42 := by unfold mq; rw [p43.1 1 (by omega)]; exact k37
        have k46 : mq 8 g42 := by unfold mq; rw [p43.1 8 (by omega)]; exact k38
        have k47 : mq 15 g42 := by unfold mq; rw [p43.1 15 (by omega)]; exact k39
        have k48 : sq g42 := by unfold sq; rw [p43.1 37 (by omega)]; exact k40
        show (¬ r41 = 0 → (((0 : Int32) = 0 → ((¬ a = 0 → (qm_PW X 15 [.ref 32] g42 _)) ∧ (a = 0 → (qm_PW X 14 [.ref 32] g42 _)))) ∧ (¬ (0 : Int32) = 0 → (qm_PW X 16 [.ref 32, .int (a - 10)] g42 _)))) ∧ (r41 = 0 → (Q (some (.int (-4 : Int32))) g42))
        refine ⟨fun c49 => ?_, fun c50 => ?_⟩
        · refine ⟨fun c51 => ?_, fun c52 => ?_⟩
          · refine ⟨fun c53 => ?_, fun c54 => ?_⟩
            · refine sf_15_32 X g42  trivial _ (fun r55 p56 => ?_)
              show Q (some (.int r55)) g42
              exact hq r55 g42 ⟨k45, k46, k47, k48, (fun k hk => f44 k hk)⟩
            · refine sf_14_32 X g42  trivial _ (fun r57 p58 => ?_)
              show Q (some (.int r57)) g42
              exact hq r57 g42 ⟨k45, k46, k47, k48, (fun k hk => f44 k hk)⟩
          · exact absurd c52 (by decide)
        · exact hq (-4 : Int32) g42 ⟨k45, k46, k47, k48, (fun k hk => f44 k hk)⟩
      · refine ⟨fun c61 => ?_, fun c62 => ?_⟩
        · exact absurd c61 (by decide)
        · exact hq (-1 : Int32) h ⟨hm1, hm8, hm15, hmsq, (fun k hk => rfl)⟩
  · refine ⟨fun c90 => ?_, fun c91 => ?_⟩
    · refine sf_10_32_1 X h  hm1 _ (fun g92 p93 => ?_)
      have f94 : ∀ k, (k < 32 ∨ 33 < k) → g92 k = h k := fun k hk => (p93 k (by omega)).trans (rfl)
      have k95 : mq 1 g92 := by unfold mq; rw [p93 1 (by omega)]; exact hm1
      have k96 : mq 8 g92 := by unfold mq; rw [p93 8 (by omega)]; exact hm8
      have k97 : mq 15 g92 := by unfold mq; rw [p93 15 (by omega)]; exact hm15
      have k98 : sq g92 := by unfold sq; rw [p93 37 (by omega)]; exact hmsq
      show qm_PW X 13 [.ref 32] g92 _
      refine sf_13_32 X g92  trivial _ (fun r99 g100 p101 => ?_)
      have f102 : ∀ k, (k < 32 ∨ 33 < k) → g100 k = h k := fun k hk => (p101.1 k (by omega)).trans (f94 k hk)
      have k103 : mq 1 g100 := by unfold mq; rw [p101.1 1 (by omega)]; exact k95
      have k104 : mq 8 g100 := by unfold mq; rw [p101.1 8 (by omega)]; exact k96
      have k105 : mq 15 g100 := by unfold mq; rw [p101.1 15 (by omega)]; exact k97
      have k106 : sq g100 := by unfold sq; rw [p101.1 37 (by omega)]; exact k98
      show (¬ r99 = 0 → (((1 : Int32) = 0 → ((¬ a = 0 → (qm_PW X 15 [.ref 32] g100 _)) ∧ (a = 0 → (qm_PW X 14 [.ref 32] g100 _)))) ∧ (¬ (1 : Int32) = 0 → (qm_PW X 16 [.ref 32, .int (a - 10)] g100 _)))) ∧ (r99 = 0 → (Q (some (.int (-4 : Int32))) g100))
      refine ⟨fun c107 => ?_, fun c108 => ?_⟩
      · refine ⟨fun c109 => ?_, fun c110 => ?_⟩
        · exact absurd c109 (by decide)
        · refine sf_16_32 X g100 (a - 10) trivial _ (fun r117 p118 => ?_)
          show Q (some (.int r117)) g100
          exact hq r117 g100 ⟨k103, k104, k105, k106, (fun k hk => f102 k hk)⟩
      · exact hq (-4 : Int32) g100 ⟨k103, k104, k105, k106, (fun k hk => f102 k hk)⟩
    · refine ⟨fun c119 => ?_, fun c120 => ?_⟩
      · refine sf_10_32_1 X h  hm1 _ (fun g121 p122 => ?_)
        have f123 : ∀ k, (k < 32 ∨ 33 < k) → g121 k = h k := fun k hk => (p122 k (by omega)).trans (rfl)
        have k124 : mq 1 g121 := by unfold mq; rw [p122 1 (by omega)]; exact hm1
        have k125 : mq 8 g121 := by unfold mq; rw [p122 8 (by omega)]; exact hm8
        have k126 : mq 15 g121 := by unfold mq; rw [p122 15 (by omega)]; exact hm15
        have k127 : sq g121 := by unfold sq; rw [p122 37 (by omega)]; exact hmsq
        show qm_PW X 13 [.ref 32] g121 _
        refine sf_13_32 X g121  trivial _ (fun r128 g129 p130 => ?_)
        have f131 : ∀ k, (k < 32 ∨ 33 < k) → g129 k = h k := fun k hk => (p130.1 k (by omega)).trans (f123 k hk)
        have k132 : mq 1 g129 := by unfold mq; rw [p130.1 1 (by omega)]; exact k124
        have k133 : mq 8 g129 := by unfold mq; rw [p130.1 8 (by omega)]; exact k125
        have k134 : mq 15 g129 := by unfold mq; rw [p130.1 15 (by omega)]; exact k126
        have k135 : sq g129 := by unfold sq; rw [p130.1 37 (by omega)]; exact k127
        show (¬ r128 = 0 → (((1 : Int32) = 0 → ((¬ a = 0 → (qm_PW X 15 [.ref 32] g129 _)) ∧ (a = 0 → (qm_PW X 14 [.ref 32] g129 _)))) ∧ (¬ (1 : Int32) = 0 → (qm_PW X 16 [.ref 32, .int (a - 10)] g129 _)))) ∧ (r128 = 0 → (Q (some (.int (-4 : Int32))) g129))
        refine ⟨fun c136 => ?_, fun c137 => ?_⟩
        · refine ⟨fun c138 => ?_, fun c139 => ?_⟩
          · exact absurd c138 (by decide)
          · refine sf_16_32 X g129 (a - 10) trivial _ (fun r146 p147 => ?_)
            show Q (some (.int r146)) g129
            exact hq r146 g129 ⟨k132, k133, k134, k135, (fun k hk => f131 k hk)⟩
        · exact hq (-4 : Int32) g129 ⟨k132, k133, k134, k135, (fun k hk => f131 k hk)⟩
      · refine ⟨fun c148 => ?_, fun c149 => ?_⟩
        · refine sf_10_32_1 X h  hm1 _ (fun g150 p151 => ?_)
          have f152 : ∀ k, (k < 32 ∨ 33 < k) → g150 k = h k := fun k hk => (p151 k (by omega)).trans (rfl)
          have k153 : mq 1 g150 := by unfold mq; rw [p151 1 (by omega)]; exact hm1
          have k154 : mq 8 g150 := by unfold mq; rw [p151 8 (by omega)]; exact hm8
          have k155 : mq 15 g150 := by unfold mq; rw [p151 15 (by omega)]; exact hm15
          have k156 : sq g150 := by unfold sq; rw [p151 37 (by omega)]; exact hmsq
          show qm_PW X 13 [.ref 32] g150 _
          refine sf_13_32 X g150  trivial _ (fun r157 g158 p159 => ?_)
          have f160 : ∀ k, (k < 32 ∨ 33 < k) → g158 k = h k := fun k hk => (p159.1 k (by omega)).trans (f152 k hk)
          have k161 : mq 1 g158 := by unfold mq; rw [p159.1 1 (by omega)]; exact k153
          have k162 : mq 8 g158 := by unfold mq; rw [p159.1 8 (by omega)]; exact k154
          have k163 : mq 15 g158 := by unfold mq; rw [p159.1 15 (by omega)]; exact k155
          have k164 : sq g158 := by unfold sq; rw [p159.1 37 (by omega)]; exact k156
          show (¬ r157 = 0 → (((1 : Int32) = 0 → ((¬ a = 0 → (qm_PW X 15 [.ref 32] g158 _)) ∧ (a = 0 → (qm_PW X 14 [.ref 32] g158 _)))) ∧ (¬ (1 : Int32) = 0 → (qm_PW X 16 [.ref 32, .int (a - 10)] g158 _)))) ∧ (r157 = 0 → (Q (some (.int (-4 : Int32))) g158))
          refine ⟨fun c165 => ?_, fun c166 => ?_⟩
          · refine ⟨fun c167 => ?_, fun c168 => ?_⟩
            · exact absurd c167 (by decide)
            · refine sf_16_32 X g158 (a - 10) trivial _ (fun r175 p176 => ?_)
              show Q (some (.int r175)) g158
              exact hq r175 g158 ⟨k161, k162, k163, k164, (fun k hk => f160 k hk)⟩
          · exact hq (-4 : Int32) g158 ⟨k161, k162, k163, k164, (fun k hk => f160 k hk)⟩
        · exact absurd c149 (by decide)
-- ThreadBank.clear(I)I
set_option maxRecDepth 100000 in
set_option maxHeartbeats 4000000 in
theorem sf_107_0 (X : qm_X) (h : qm_H) (a : Int32) (hp : mq 1 h ∧ mq 8 h ∧ mq 15 h ∧ sq h) (Q : qm_Q) (hq : ∀ r : Int32, ∀ h' : qm_H, (mq 1 h' ∧ mq 8 h' ∧ mq 15 h' ∧ sq h' ∧ (∀ k, (k < 32 ∨ 33 < k) → h' k = h k)) → Q (some (.int r)) h') : qm_PW X 107 [.ref 0, .int a] h Q := by
  have hm1 : mq 1 h := hp.1
  have ⟨⟨_, _⟩, ⟨_, _⟩, _, _⟩ := hm1
  have hm8 : mq 8 h := hp.2.1
  have ⟨⟨_, _⟩, ⟨_, _⟩, _, _⟩ := hm8
  have hm15 : mq 15 h := hp.2.2.1
  have ⟨⟨_, _⟩, ⟨_, _⟩, _, _⟩ := hm15
  have hmsq : sq h := hp.2.2.2
  refine qm_seg_ok (C := qc_107) (rt := some .int) rfl rfl (cuts := []) 400 _ _ _ _ ?_
  show (a.toInt < 0 → (Q (some (.int (-1 : Int32))) h)) ∧ (0 ≤ a.toInt → ((a.toInt ≤ 1 → (qm_PW X 10 [.ref 32, .ref 1] h _)) ∧ (1 < a.toInt → (Q (some (.int (-1 : Int32))) h))))
  refine ⟨fun c1 => ?_, fun c2 => ?_⟩
  · exact hq (-1 : Int32) h ⟨hm1, hm8, hm15, hmsq, (fun k hk => rfl)⟩
  · refine ⟨fun c3 => ?_, fun c4 => ?_⟩
    · refine sf_10_32_1 X h  hm1 _ (fun g5 p6 => ?_)
      have f7 : ∀ k, (k < 32 ∨ 33 < k) → g5 k = h k := fun k hk => (p6 k (by omega)).trans (rfl)
      have k8 : mq 1 g5 := by unfold mq; rw [p6 1 (by omega)]; exact hm1
      have k9 : mq 8 g5 := by unfold mq; rw [p6 8 (by omega)]; exact hm8
      have k10 : mq 15 g5 := by unfold mq; rw [p6 15 (by omega)]; exact hm15
      have k11 : sq g5 := by unfold sq; rw [p6 37 (by omega)]; exact hmsq
      show qm_PW X 17 [.ref 32] g5 _
      refine sf_17_32 X g5  trivial _ (fun r12 g13 p14 => ?_)
      have f15 : ∀ k, (k < 32 ∨ 33 < k) → g13 k = h k := fun k hk => (p14 k (by omega)).trans (f7 k hk)
      have k16 : mq 1 g13 := by unfold mq; rw [p14 1 (by omega)]; exact k8
      have k17 : mq 8 g13 := by unfold mq; rw [p14 8 (by omega)]; exact k9
      have k18 : mq 15 g13 := by unfold mq; rw [p14 15 (by omega)]; exact k10
      have k19 : sq g13 := by unfold sq; rw [p14 37 (by omega)]; exact k11
      show (¬ a = 0 → (Q (some (.int r12)) g13)) ∧ (a = 0 → (qm_PW X 12 [.ref 32] g13 _))
      refine ⟨fun c20 => ?_, fun c21 => ?_⟩
      · exact hq r12 g13 ⟨k16, k17, k18, k19, (fun k hk => f15 k hk)⟩
      · refine sf_12_32 X g13  trivial _ (fun r22 p23 => ?_)
        show Q (some (.int r22)) g13
        exact hq r22 g13 ⟨k16, k17, k18, k19, (fun k hk => f15 k hk)⟩
    · exact hq (-1 : Int32) h ⟨hm1, hm8, hm15, hmsq, (fun k hk => rfl)⟩
-- ThreadBank.left(I)I
set_option maxRecDepth 100000 in
set_option maxHeartbeats 4000000 in
theorem sf_108_0 (X : qm_X) (h : qm_H) (a : Int32) (hp : mq 1 h ∧ mq 8 h ∧ mq 15 h ∧ sq h) (Q : qm_Q) (hq : ∀ r : Int32, ∀ h' : qm_H, (mq 1 h' ∧ mq 8 h' ∧ mq 15 h' ∧ sq h' ∧ (∀ k, (k < 32 ∨ 33 < k) → h' k = h k)) → Q (some (.int r)) h') : qm_PW X 108 [.ref 0, .int a] h Q := by
  have hm1 : mq 1 h := hp.1
  have ⟨⟨_, _⟩, ⟨_, _⟩, _, _⟩ := hm1
  have hm8 : mq 8 h := hp.2.1
  have ⟨⟨_, _⟩, ⟨_, _⟩, _, _⟩ := hm8
  have hm15 : mq 15 h := hp.2.2.1
  have ⟨⟨_, _⟩, ⟨_, _⟩, _, _⟩ := hm15
  have hmsq : sq h := hp.2.2.2
  refine qm_seg_ok (C := qc_108) (rt := some .int) rfl rfl (cuts := []) 400 _ _ _ _ ?_
  show qm_PW X 31 [.ref 1, .int a] h _
  refine sf_31_1 X h a trivial _ (fun r1 p2 => ?_)
  show (¬ r1 = 0 → (qm_PW X 10 [.ref 32, .ref 1] h _)) ∧ (r1 = 0 → (Q (some (.int (-1 : Int32))) h))
  refine ⟨fun c3 => ?_, fun c4 => ?_⟩
  · refine sf_10_32_1 X h  hm1 _ (fun g5 p6 => ?_)
    have f7 : ∀ k, (k < 32 ∨ 33 < k) → g5 k = h k := fun k hk => (p6 k (by omega)).trans (rfl)
    have k8 : mq 1 g5 := by unfold mq; rw [p6 1 (by omega)]; exact hm1
    have k9 : mq 8 g5 := by unfold mq; rw [p6 8 (by omega)]; exact hm8
    have k10 : mq 15 g5 := by unfold mq; rw [p6 15 (by omega)]; exact hm15
    have k11 : sq g5 := by unfold sq; rw [p6 37 (by omega)]; exact hmsq
    show qm_PW X 17 [.ref 32] g5 _
    refine sf_17_32 X g5  trivial _ (fun r12 g13 p14 => ?_)
    have f15 : ∀ k, (k < 32 ∨ 33 < k) → g13 k = h k := fun k hk => (p14 k (by omega)).trans (f7 k hk)
    have k16 : mq 1 g13 := by unfold mq; rw [p14 1 (by omega)]; exact k8
    have k17 : mq 8 g13 := by unfold mq; rw [p14 8 (by omega)]; exact k9
    have k18 : mq 15 g13 := by unfold mq; rw [p14 15 (by omega)]; exact k10
    have k19 : sq g13 := by unfold sq; rw [p14 37 (by omega)]; exact k11
    show ¬ (10 : Int32) = 0 ∧ (¬ (10 : Int32) = 0 ∧ (qm_PW X 11 [.ref 32, .int (a / 10), .int (a - a / 10 * 10)] g13 _))
    refine ⟨by decide, ?_⟩
    refine ⟨by decide, ?_⟩
    refine sf_11_32 X g13 (a / 10) (a - a / 10 * 10) trivial _ (fun r20 p21 => ?_)
    show Q (some (.int r20)) g13
    exact hq r20 g13 ⟨k16, k17, k18, k19, (fun k hk => f15 k hk)⟩
  · exact hq (-1 : Int32) h ⟨hm1, hm8, hm15, hmsq, (fun k hk => rfl)⟩
-- ThreadBank.firstHasMate()Z
set_option maxRecDepth 100000 in
set_option maxHeartbeats 4000000 in
theorem sf_132_0_c (X : qm_X) (h : qm_H) (hp : mq 1 h) (Q : qm_Q) (hq : ∀ r : Int32, (r = 0 ∨ r = 1) → Q (some (.int r)) h) : ∀ n : Nat, (∀ (l1 : Int32), (1 ≤ l1.toInt ∧ l1.toInt ≤ 5) → (5 - l1.toInt).toNat < n → qm_PA X 132 2 [(0, .ref 0), (1, .int l1)] [] h Q) := by
  have hm1 : mq 1 h := hp
  have ⟨⟨_, _⟩, ⟨_, _⟩, _, _⟩ := hm1
  intro n
  induction n with
  | zero => exact fun _ _ h0 => absurd h0 (Nat.not_lt_zero _)
  | succ n ih =>
    intro l1 hi hr
    have ti_l1 := ti_rng l1
    refine qm_seg_ok (C := qc_132) (rt := some .boolean) rfl rfl (cuts := [(2, [0, 1])]) 400 _ _ _ _ ?_
    show ((h 1 6).toInt ≤ l1.toInt → (((0 : Int32) = 0 ∨ (0 : Int32) = 1) ∧ Q (some (.int 0)) h)) ∧ (l1.toInt < (h 1 6).toInt → (qm_PW X 55 [.ref 1, .int 0] h _))
    refine ⟨fun c1 => ?_, fun c2 => ?_⟩
    · exact ⟨Or.inl rfl, hq 0 (Or.inl rfl)⟩
    · refine sf_55_1 X h (0 : Int32) hm1 _ (fun r3 p4 => ?_)
      show qm_PW X 55 [.ref 1, .int l1] h _
      refine sf_55_1 X h l1 hm1 _ (fun r5 p6 => ?_)
      show (¬ (r3 + r5) = 0 → (qm_PA X 132 2 [(0, .ref 0), (1, .int (l1 + 1))] [] h Q)) ∧ ((r3 + r5) = 0 → (((1 : Int32) = 0 ∨ (1 : Int32) = 1) ∧ Q (some (.int 1)) h))
      refine ⟨fun c7 => ?_, fun c8 => ?_⟩
      · exact ih (l1 + 1) (by have := ti_addK l1 (1 : Int32) 1 rfl; omega) (by have := ti_addK l1 (1 : Int32) 1 rfl; omega)
      · exact ⟨Or.inr rfl, hq 1 (Or.inr rfl)⟩
set_option maxRecDepth 100000 in
set_option maxHeartbeats 4000000 in
theorem sf_132_0 (X : qm_X) (h : qm_H) (hp : mq 1 h) (Q : qm_Q) (hq : ∀ r : Int32, (r = 0 ∨ r = 1) → Q (some (.int r)) h) : qm_PW X 132 [.ref 0] h Q := by
  have hm1 : mq 1 h := hp
  have ⟨⟨_, _⟩, ⟨_, _⟩, _, _⟩ := hm1
  refine qm_seg_ok (C := qc_132) (rt := some .boolean) rfl rfl (cuts := [(2, [0, 1])]) 400 _ _ _ _ ?_
  show qm_PA X 132 2 [(0, .ref 0), (1, .int 1)] [] h Q
  exact (sf_132_0_c X h hp Q hq _) (1 : Int32) (by have : (1 : Int32).toInt = 1 := rfl; omega) (Nat.lt_succ_self _)
-- ThreadBank.pays()I
set_option maxRecDepth 100000 in
set_option maxHeartbeats 4000000 in
theorem sf_109_0_c (X : qm_X) (h : qm_H) (hp : mq 1 h) (Q : qm_Q) (hq : ∀ r : Int32, (True) → Q (some (.int r)) h) : ∀ n : Nat, (∀ (l1 : Int32) (l2 : Int32), (0 ≤ l2.toInt ∧ l2.toInt ≤ 4) → (4 - l2.toInt).toNat < n → qm_PA X 109 4 [(0, .ref 0), (1, .int l1), (2, .int l2)] [] h Q) := by
  have hm1 : mq 1 h := hp
  have ⟨⟨_, _⟩, ⟨_, _⟩, _, _⟩ := hm1
  intro n
  induction n with
  | zero => exact fun _ _ _ h0 => absurd h0 (Nat.not_lt_zero _)
  | succ n ih =>
    intro l1 l2 hi hr
    have ti_l2 := ti_rng l2
    refine qm_seg_ok (C := qc_109) (rt := some .int) rfl rfl (cuts := [(4, [0, 1, 2])]) 400 _ _ _ _ ?_
    show ((h 1 6).toInt ≤ l2.toInt → ((¬ l1 = 0 → ((¬ l1 = 4 → (Q (some (.int (l1 - 1))) h)) ∧ (l1 = 4 → (qm_PW X 132 [.ref 0] h _)))) ∧ (l1 = 0 → (Q (some (.int 0)) h)))) ∧ (l2.toInt < (h 1 6).toInt → (qm_PW X 55 [.ref 1, .int l2] h _))
    refine ⟨fun c1 => ?_, fun c2 => ?_⟩
    · refine ⟨fun c3 => ?_, fun c4 => ?_⟩
      · refine ⟨fun c5 => ?_, fun c6 => ?_⟩
        · exact hq (l1 - 1) trivial
        · refine sf_132_0 X h  hm1 _ (fun r7 p8 => ?_)
          show (r7 = 0 → (Q (some (.int (l1 - 1))) h)) ∧ (¬ r7 = 0 → (Q (some (.int (l1 - 2))) h))
          refine ⟨fun c9 => ?_, fun c10 => ?_⟩
          · exact hq (l1 - 1) trivial
          · exact hq (l1 - 2) trivial
      · exact hq 0 trivial
    · refine sf_55_1 X h l2 hm1 _ (fun r11 p12 => ?_)
      show (r11 = 0 → (qm_PA X 109 4 [(0, .ref 0), (1, .int l1), (2, .int (l2 + 1))] [] h Q)) ∧ (¬ r11 = 0 → (qm_PA X 109 4 [(0, .ref 0), (1, .int (l1 + 1)), (2, .int (l2 + 1))] [] h Q))
      refine ⟨fun c13 => ?_, fun c14 => ?_⟩
      · exact ih l1 (l2 + 1) (by have := ti_addK l2 (1 : Int32) 1 rfl; omega) (by have := ti_addK l2 (1 : Int32) 1 rfl; omega)
      · exact ih (l1 + 1) (l2 + 1) (by have := ti_addK l2 (1 : Int32) 1 rfl; omega) (by have := ti_addK l2 (1 : Int32) 1 rfl; omega)
set_option maxRecDepth 100000 in
set_option maxHeartbeats 4000000 in
theorem sf_109_0 (X : qm_X) (h : qm_H) (hp : mq 1 h) (Q : qm_Q) (hq : ∀ r : Int32, (True) → Q (some (.int r)) h) : qm_PW X 109 [.ref 0] h Q := by
  have hm1 : mq 1 h := hp
  have ⟨⟨_, _⟩, ⟨_, _⟩, _, _⟩ := hm1
  refine qm_seg_ok (C := qc_109) (rt := some .int) rfl rfl (cuts := [(4, [0, 1, 2])]) 400 _ _ _ _ ?_
  show qm_PA X 109 4 [(0, .ref 0), (1, .int 0), (2, .int 0)] [] h Q
  exact (sf_109_0_c X h hp Q hq _) (0 : Int32) (0 : Int32) (by have : (0 : Int32).toInt = 0 := rfl; omega) (Nat.lt_succ_self _)
-- ThreadBank.roomiestPlaceOn(I)I
set_option maxRecDepth 100000 in
set_option maxHeartbeats 4000000 in
theorem sf_133_0_c (X : qm_X) (h : qm_H) (a : Int32) (hp : mq 1 h) (Q : qm_Q) (hq : ∀ r : Int32, (True) → Q (some (.int r)) h) : ∀ n : Nat, (∀ (l2 : Int32) (l3 : Int32), (True) → (((10 * a) + 5).toInt - l3.toInt).toNat < n → qm_PA X 133 9 [(0, .ref 0), (1, .int a), (2, .int l2), (3, .int l3)] [] h Q) := by
  have hm1 : mq 1 h := hp
  have ⟨⟨_, _⟩, ⟨_, _⟩, _, _⟩ := hm1
  intro n
  induction n with
  | zero => exact fun _ _ _ h0 => absurd h0 (Nat.not_lt_zero _)
  | succ n ih =>
    intro l2 l3 hi hr
    have := ti_rng ((10 * a) + 5)
    have := ti_rng l3
    refine qm_seg_ok (C := qc_133) (rt := some .int) rfl rfl (cuts := [(9, [0, 1, 2, 3])]) 400 _ _ _ _ ?_
    show (((10 * a) + 5).toInt ≤ l3.toInt → (Q (some (.int l2)) h)) ∧ (l3.toInt < ((10 * a) + 5).toInt → (qm_PW X 40 [.ref 1, .int l3] h _))
    refine ⟨fun c1 => ?_, fun c2 => ?_⟩
    · exact hq l2 trivial
    · refine sf_40_1 X h l3 hm1 _ (fun r3 p4 => ?_)
      show qm_PW X 40 [.ref 1, .int l2] h _
      refine sf_40_1 X h l2 hm1 _ (fun r5 p6 => ?_)
      show (r3.toInt ≤ r5.toInt → (qm_PA X 133 9 [(0, .ref 0), (1, .int a), (2, .int l2), (3, .int (l3 + 1))] [] h Q)) ∧ (r5.toInt < r3.toInt → (qm_PA X 133 9 [(0, .ref 0), (1, .int a), (2, .int l3), (3, .int (l3 + 1))] [] h Q))
      refine ⟨fun c7 => ?_, fun c8 => ?_⟩
      · exact ih l2 (l3 + 1) trivial (by have := ti_mulL (10 : Int32) 10 rfl a; have := ti_addK (10 * a) (5 : Int32) 5 rfl; have := ti_addK l3 (1 : Int32) 1 rfl; omega)
      · exact ih l3 (l3 + 1) trivial (by have := ti_mulL (10 : Int32) 10 rfl a; have := ti_addK (10 * a) (5 : Int32) 5 rfl; have := ti_addK l3 (1 : Int32) 1 rfl; omega)
set_option maxRecDepth 100000 in
set_option maxHeartbeats 4000000 in
theorem sf_133_0 (X : qm_X) (h : qm_H) (a : Int32) (hp : mq 1 h) (Q : qm_Q) (hq : ∀ r : Int32, (True) → Q (some (.int r)) h) : qm_PW X 133 [.ref 0, .int a] h Q := by
  have hm1 : mq 1 h := hp
  have ⟨⟨_, _⟩, ⟨_, _⟩, _, _⟩ := hm1
  refine qm_seg_ok (C := qc_133) (rt := some .int) rfl rfl (cuts := [(9, [0, 1, 2, 3])]) 400 _ _ _ _ ?_
  show qm_PA X 133 9 [(0, .ref 0), (1, .int a), (2, .int (10 * a)), (3, .int ((10 * a) + 1))] [] h Q
  exact (sf_133_0_c X h a hp Q hq _) (10 * a) ((10 * a) + 1) trivial (Nat.lt_succ_self _)
-- ThreadBank.risk(I)I
set_option maxRecDepth 100000 in
set_option maxHeartbeats 4000000 in
theorem sf_112_0 (X : qm_X) (h : qm_H) (a : Int32) (hp : mq 1 h) (Q : qm_Q) (hq : ∀ r : Int32, (True) → Q (some (.int r)) h) : qm_PW X 112 [.ref 0, .int a] h Q := by
  have hm1 : mq 1 h := hp
  have ⟨⟨_, _⟩, ⟨_, _⟩, _, _⟩ := hm1
  refine qm_seg_ok (C := qc_112) (rt := some .int) rfl rfl (cuts := []) 400 _ _ _ _ ?_
  show qm_PW X 28 [.ref 1, .int a] h _
  refine sf_28_1 X h a trivial _ (fun r1 p2 => ?_)
  show (r1 = 0 → (Q (some (.int (-1 : Int32))) h)) ∧ (¬ r1 = 0 → (qm_PW X 62 [.ref 1, .int (1 <<< (a &&& 31))] h _))
  refine ⟨fun c3 => ?_, fun c4 => ?_⟩
  · exact hq (-1 : Int32) trivial
  · have := p2.2 c4
    refine sf_62_1 X h (1 <<< (a &&& 31)) hm1 _ (fun r5 p6 => ?_)
    show Q (some (.int r5)) h
    exact hq r5 trivial
-- ThreadBank.copies()I
set_option maxRecDepth 100000 in
set_option maxHeartbeats 4000000 in
theorem sf_113_0_c (X : qm_X) (h : qm_H) (hp : mq 1 h) (Q : qm_Q) (hq : ∀ r : Int32, (True) → Q (some (.int r)) h) : ∀ n : Nat, (∀ (l1 : Int32) (l2 : Int32) (l3 : Int32), (0 ≤ l3.toInt ∧ l3.toInt ≤ 4) → (14 - l3.toInt).toNat < n → qm_PA X 113 6 [(0, .ref 0), (1, .int l1), (2, .int l2), (3, .int l3)] [] h Q) ∧ (∀ (l1 : Int32) (l2 : Int32) (l3 : Int32), (0 ≤ l3.toInt ∧ l3.toInt ≤ 4) → (4 - l3.toInt).toNat < n → qm_PA X 113 71 [(0, .ref 0), (1, .int l1), (2, .int l2), (3, .int l3)] [] h Q) := by
  have hm1 : mq 1 h := hp
  have ⟨⟨_, _⟩, ⟨_, _⟩, _, _⟩ := hm1
  intro n
  induction n with
  | zero => exact ⟨fun _ _ _ _ h0 => absurd h0 (Nat.not_lt_zero _), fun _ _ _ _ h0 => absurd h0 (Nat.not_lt_zero _)⟩
  | succ n ih =>
    refine ⟨?_, ?_⟩
    · intro l1 l2 l3 hi hr
      refine qm_seg_ok (C := qc_113) (rt := some .int) rfl rfl (cuts := [(6, [0, 1, 2, 3]), (71, [0, 1, 2, 3])]) 400 _ _ _ _ ?_
      show ((h 1 6).toInt ≤ l3.toInt → ((l2.toInt < l1.toInt → (Q (some (.int (-4 : Int32))) h)) ∧ (l1.toInt ≤ l2.toInt → ((l1.toInt ≤ (10 - (h 1 7)).toInt → (qm_PA X 113 71 [(0, .ref 0), (1, .int l1), (2, .int l2), (3, .int 0)] [] h Q)) ∧ ((10 - (h 1 7)).toInt < l1.toInt → (Q (some (.int (-4 : Int32))) h)))))) ∧ (l3.toInt < (h 1 6).toInt → (qm_PW X 62 [.ref 1, .int (1 <<< (l3 &&& 31))] h _))
      refine ⟨fun c1 => ?_, fun c2 => ?_⟩
      · refine ⟨fun c3 => ?_, fun c4 => ?_⟩
        · exact hq (-4 : Int32) trivial
        · refine ⟨fun c5 => ?_, fun c6 => ?_⟩
          · exact ih.2 l1 l2 (0 : Int32) (by have : (0 : Int32).toInt = 0 := rfl; have := ti_subL (h 1 7) (10 : Int32) 10 rfl; omega) (by have : (0 : Int32).toInt = 0 := rfl; have := ti_subL (h 1 7) (10 : Int32) 10 rfl; omega)
          · exact hq (-4 : Int32) trivial
      · refine sf_62_1 X h (1 <<< (l3 &&& 31)) hm1 _ (fun r7 p8 => ?_)
        show qm_PW X 41 [.ref 1, .int l3] h _
        refine sf_41_1 X h l3 hm1 _ (fun r9 p10 => ?_)
        show qm_PA X 113 6 [(0, .ref 0), (1, .int (l1 + r7)), (2, .int (l2 + r9)), (3, .int (l3 + 1))] [] h Q
        exact ih.1 (l1 + r7) (l2 + r9) (l3 + 1) (by have := ti_addK l3 (1 : Int32) 1 rfl; omega) (by have := ti_addK l3 (1 : Int32) 1 rfl; omega)
    · intro l1 l2 l3 hi hr
      have ti_l3 := ti_rng l3
      refine qm_seg_ok (C := qc_113) (rt := some .int) rfl rfl (cuts := [(6, [0, 1, 2, 3]), (71, [0, 1, 2, 3])]) 400 _ _ _ _ ?_
      show ((h 1 6).toInt ≤ l3.toInt → (Q (some (.int l1)) h)) ∧ (l3.toInt < (h 1 6).toInt → (qm_PW X 62 [.ref 1, .int (1 <<< (l3 &&& 31))] h _))
      refine ⟨fun c1 => ?_, fun c2 => ?_⟩
      · exact hq l1 trivial
      · refine sf_62_1 X h (1 <<< (l3 &&& 31)) hm1 _ (fun r3 p4 => ?_)
        show qm_PW X 41 [.ref 1, .int l3] h _
        refine sf_41_1 X h l3 hm1 _ (fun r5 p6 => ?_)
        show (r3.toInt ≤ (l2 - r5).toInt → (qm_PA X 113 71 [(0, .ref 0), (1, .int l1), (2, .int l2), (3, .int (l3 + 1))] [] h Q)) ∧ ((l2 - r5).toInt < r3.toInt → (Q (some (.int (-4 : Int32))) h))
        refine ⟨fun c7 => ?_, fun c8 => ?_⟩
        · exact ih.2 l1 l2 (l3 + 1) (by have := ti_addK l3 (1 : Int32) 1 rfl; have := ti_sub l2 r5; omega) (by have := ti_addK l3 (1 : Int32) 1 rfl; have := ti_sub l2 r5; omega)
        · exact hq (-4 : Int32) trivial
set_option maxRecDepth 100000 in
set_option maxHeartbeats 4000000 in
theorem sf_113_0 (X : qm_X) (h : qm_H) (hp : mq 1 h) (Q : qm_Q) (hq : ∀ r : Int32, (True) → Q (some (.int r)) h) : qm_PW X 113 [.ref 0] h Q := by
  have hm1 : mq 1 h := hp
  have ⟨⟨_, _⟩, ⟨_, _⟩, _, _⟩ := hm1
  refine qm_seg_ok (C := qc_113) (rt := some .int) rfl rfl (cuts := [(6, [0, 1, 2, 3]), (71, [0, 1, 2, 3])]) 400 _ _ _ _ ?_
  show qm_PA X 113 6 [(0, .ref 0), (1, .int 0), (2, .int 0), (3, .int 0)] [] h Q
  exact (sf_113_0_c X h hp Q hq _).1 (0 : Int32) (0 : Int32) (0 : Int32) (by have : (0 : Int32).toInt = 0 := rfl; omega) (Nat.lt_succ_self _)
