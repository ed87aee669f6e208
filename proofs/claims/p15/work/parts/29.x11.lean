-- ThreadBank.keep(I)I
set_option maxRecDepth 100000 in
set_option maxHeartbeats 4000000 in
theorem sf_123_0 (X : qm_X) (h : qm_H) (a : Int32) (hp : mq 1 h ∧ mq 8 h ∧ mq 15 h ∧ sq h) (Q : qm_Q) (hq : ∀ r : Int32, ∀ h' : qm_H, (mq 1 h' ∧ mq 8 h' ∧ mq 15 h' ∧ sq h' ∧ (∀ k, (k < 8 ∨ 22 < k) → h' k = h k)) → Q (some (.int r)) h') : qm_PW X 123 [.ref 0, .int a] h Q := by
  have hm1 : mq 1 h := hp.1
  have ⟨⟨_, _⟩, ⟨_, _⟩, _, _⟩ := hm1
  have hm8 : mq 8 h := hp.2.1
  have ⟨⟨_, _⟩, ⟨_, _⟩, _, _⟩ := hm8
  have hm15 : mq 15 h := hp.2.2.1
  have ⟨⟨_, _⟩, ⟨_, _⟩, _, _⟩ := hm15
  have hmsq : sq h := hp.2.2.2
  refine qm_seg_ok (C := qc_123) (rt := some .int) rfl rfl (cuts := []) 400 _ _ _ _ ?_
  show qm_PW X 135 [.int a] h _
  refine sf_135 X h a trivial _ (fun r1 p2 => ?_)
  show (¬ r1 = 0 → ((0 ≤ a.toInt ∧ a.toInt < 2) ∧ (((h 22 a.toInt.toNat) = 0 → (qm_PW X 134 [.ref 0, .int a] h _)) ∧ (¬ (h 22 a.toInt.toNat) = 0 → (qm_PW X 134 [.ref 0, .int a] h _))))) ∧ (r1 = 0 → (Q (some (.int (-1 : Int32))) h))
  refine ⟨fun c3 => ?_, fun c4 => ?_⟩
  · have := p2.2 c3
    refine ⟨(by omega), ?_⟩
    refine ⟨fun c5 => ?_, fun c6 => ?_⟩
    · refine sf_134_0 X h a _ (fun c7 => ?_) (fun c7 => ?_)
      · show qm_PW X 23 [.ref 8, .ref 1] h _
        refine sf_23_8_1 X h  hm1 _ (fun g8 p9 => ?_)
        have f10 : ∀ k, (k < 8 ∨ 22 < k) → g8 k = h k := fun k hk => (p9.2 k (by omega)).trans (rfl)
        have k11 : mq 1 g8 := by unfold mq; rw [p9.2 1 (by omega)]; exact hm1
        have k12 : mq 15 g8 := by unfold mq; rw [p9.2 15 (by omega)]; exact hm15
        have k13 : sq g8 := by unfold sq; rw [p9.2 37 (by omega)]; exact hmsq
        show (0 ≤ a.toInt ∧ a.toInt < 2) ∧ (Q (some (.int 0)) (qm_row g8 22 (upd (g8 22) a.toInt.toNat (vp_nar .boolean 1))))
        refine ⟨(by omega), ?_⟩
        exact hq 0 (qm_row g8 22 (upd (g8 22) a.toInt.toNat (vp_nar .boolean 1))) ⟨(by exact k11), (by exact p9.1), (by exact k12), (by exact k13), (fun k hk => by simp only [qm_row]; rw [if_neg (by omega)]; exact f10 k hk)⟩
      · show qm_PW X 23 [.ref 15, .ref 1] h _
        refine sf_23_15_1 X h  hm1 _ (fun g14 p15 => ?_)
        have f16 : ∀ k, (k < 8 ∨ 22 < k) → g14 k = h k := fun k hk => (p15.2 k (by omega)).trans (rfl)
        have k17 : mq 1 g14 := by unfold mq; rw [p15.2 1 (by omega)]; exact hm1
        have k18 : mq 8 g14 := by unfold mq; rw [p15.2 8 (by omega)]; exact hm8
        have k19 : sq g14 := by unfold sq; rw [p15.2 37 (by omega)]; exact hmsq
        show (0 ≤ a.toInt ∧ a.toInt < 2) ∧ (Q (some (.int 0)) (qm_row g14 22 (upd (g14 22) a.toInt.toNat (vp_nar .boolean 1))))
        refine ⟨(by omega), ?_⟩
        exact hq 0 (qm_row g14 22 (upd (g14 22) a.toInt.toNat (vp_nar .boolean 1))) ⟨(by exact k17), (by exact k18), (by exact p15.1), (by exact k19), (fun k hk => by simp only [qm_row]; rw [if_neg (by omega)]; exact f16 k hk)⟩
    · refine sf_134_0 X h a _ (fun c20 => ?_) (fun c20 => ?_)
      · show qm_PW X 23 [.ref 8, .ref 1] h _
        refine sf_23_8_1 X h  hm1 _ (fun g21 p22 => ?_)
        have f23 : ∀ k, (k < 8 ∨ 22 < k) → g21 k = h k := fun k hk => (p22.2 k (by omega)).trans (rfl)
        have k24 : mq 1 g21 := by unfold mq; rw [p22.2 1 (by omega)]; exact hm1
        have k25 : mq 15 g21 := by unfold mq; rw [p22.2 15 (by omega)]; exact hm15
        have k26 : sq g21 := by unfold sq; rw [p22.2 37 (by omega)]; exact hmsq
        show (0 ≤ a.toInt ∧ a.toInt < 2) ∧ (Q (some (.int 1)) (qm_row g21 22 (upd (g21 22) a.toInt.toNat (vp_nar .boolean 1))))
        refine ⟨(by omega), ?_⟩
        exact hq 1 (qm_row g21 22 (upd (g21 22) a.toInt.toNat (vp_nar .boolean 1))) ⟨(by exact k24), (by exact p22.1), (by exact k25), (by exact k26), (fun k hk => by simp only [qm_row]; rw [if_neg (by omega)]; exact f23 k hk)⟩
      · show qm_PW X 23 [.ref 15, .ref 1] h _
        refine sf_23_15_1 X h  hm1 _ (fun g27 p28 => ?_)
        have f29 : ∀ k, (k < 8 ∨ 22 < k) → g27 k = h k := fun k hk => (p28.2 k (by omega)).trans (rfl)
        have k30 : mq 1 g27 := by unfold mq; rw [p28.2 1 (by omega)]; exact hm1
        have k31 : mq 8 g27 := by unfold mq; rw [p28.2 8 (by omega)]; exact hm8
        have k32 : sq g27 := by unfold sq; rw [p28.2 37 (by omega)]; exact hmsq
        show (0 ≤ a.toInt ∧ a.toInt < 2) ∧ (Q (some (.int 1)) (qm_row g27 22 (upd (g27 22) a.toInt.toNat (vp_nar .boolean 1))))
        refine ⟨(by omega), ?_⟩
        exact hq 1 (qm_row g27 22 (upd (g27 22) a.toInt.toNat (vp_nar .boolean 1))) ⟨(by exact k30), (by exact k31), (by exact p28.1), (by exact k32), (fun k hk => by simp only [qm_row]; rw [if_neg (by omega)]; exact f29 k hk)⟩
  · exact hq (-1 : Int32) h ⟨hm1, hm8, hm15, hmsq, (fun k hk => rfl)⟩
-- ThreadBank.back(I)I
set_option maxRecDepth 100000 in
set_option maxHeartbeats 4000000 in
theorem sf_124_0 (X : qm_X) (h : qm_H) (a : Int32) (hp : mq 1 h ∧ mq 8 h ∧ mq 15 h ∧ sq h) (Q : qm_Q) (hq : ∀ r : Int32, ∀ h' : qm_H, (mq 1 h' ∧ mq 8 h' ∧ mq 15 h' ∧ sq h' ∧ (∀ k, (k < 1 ∨ 7 < k) → h' k = h k)) → Q (some (.int r)) h') : qm_PW X 124 [.ref 0, .int a] h Q := by
  have hm1 : mq 1 h := hp.1
  have ⟨⟨_, _⟩, ⟨_, _⟩, _, _⟩ := hm1
  have hm8 : mq 8 h := hp.2.1
  have ⟨⟨_, _⟩, ⟨_, _⟩, _, _⟩ := hm8
  have hm15 : mq 15 h := hp.2.2.1
  have ⟨⟨_, _⟩, ⟨_, _⟩, _, _⟩ := hm15
  have hmsq : sq h := hp.2.2.2
  refine qm_seg_ok (C := qc_124) (rt := some .int) rfl rfl (cuts := []) 400 _ _ _ _ ?_
  show qm_PW X 135 [.int a] h _
  refine sf_135 X h a trivial _ (fun r1 p2 => ?_)
  show (¬ r1 = 0 → ((0 ≤ a.toInt ∧ a.toInt < 2) ∧ ((¬ (h 22 a.toInt.toNat) = 0 → (qm_PW X 134 [.ref 0, .int a] h _)) ∧ ((h 22 a.toInt.toNat) = 0 → (Q (some (.int (-2 : Int32))) h))))) ∧ (r1 = 0 → (Q (some (.int (-1 : Int32))) h))
  refine ⟨fun c3 => ?_, fun c4 => ?_⟩
  · have := p2.2 c3
    refine ⟨(by omega), ?_⟩
    refine ⟨fun c5 => ?_, fun c6 => ?_⟩
    · refine sf_134_0 X h a _ (fun c7 => ?_) (fun c7 => ?_)
      · show qm_PW X 23 [.ref 1, .ref 8] h _
        refine sf_23_1_8 X h  hm8 _ (fun g8 p9 => ?_)
        have f10 : ∀ k, (k < 1 ∨ 7 < k) → g8 k = h k := fun k hk => (p9.2 k (by omega)).trans (rfl)
        have k11 : mq 8 g8 := by unfold mq; rw [p9.2 8 (by omega)]; exact hm8
        have k12 : mq 15 g8 := by unfold mq; rw [p9.2 15 (by omega)]; exact hm15
        have k13 : sq g8 := by unfold sq; rw [p9.2 37 (by omega)]; exact hmsq
        show Q (some (.int (g8 1 7))) g8
        exact hq (g8 1 7) g8 ⟨p9.1, k11, k12, k13, (fun k hk => f10 k hk)⟩
      · show qm_PW X 23 [.ref 1, .ref 15] h _
        refine sf_23_1_15 X h  hm15 _ (fun g14 p15 => ?_)
        have f16 : ∀ k, (k < 1 ∨ 7 < k) → g14 k = h k := fun k hk => (p15.2 k (by omega)).trans (rfl)
        have k17 : mq 8 g14 := by unfold mq; rw [p15.2 8 (by omega)]; exact hm8
        have k18 : mq 15 g14 := by unfold mq; rw [p15.2 15 (by omega)]; exact hm15
        have k19 : sq g14 := by unfold sq; rw [p15.2 37 (by omega)]; exact hmsq
        show Q (some (.int (g14 1 7))) g14
        exact hq (g14 1 7) g14 ⟨p15.1, k17, k18, k19, (fun k hk => f16 k hk)⟩
    · exact hq (-2 : Int32) h ⟨hm1, hm8, hm15, hmsq, (fun k hk => rfl)⟩
  · exact hq (-1 : Int32) h ⟨hm1, hm8, hm15, hmsq, (fun k hk => rfl)⟩
