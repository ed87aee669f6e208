-- ThreadBank.keep(I)I
set_option maxRecDepth 100000 in
set_option maxHeartbeats 4000000 in
theorem ty_123 (X : qm_X) (h : qm_H) (a : Int32) (hp : mq 1 h ∧ mq 8 h ∧ mq 15 h ∧ sq h) (Q : qm_Q) (hq : ∀ r : Int32, ∀ h' : qm_H, (mq 1 h' ∧ mq 8 h' ∧ mq 15 h' ∧ sq h' ∧ (∀ k, (k < 8 ∨ 22 < k) → h' k = h k) ∧ (kpQ a r.toInt (h 22) (h' 22) ∧ kmC a h h')) → Q (some (.int r)) h') : qm_PW X 123 [.ref 0, .int a] h Q := by
  have hm1 : mq 1 h := hp.1
  have ⟨⟨_, _⟩, ⟨_, _⟩, _, _⟩ := hm1
  have hm8 : mq 8 h := hp.2.1
  have ⟨⟨_, _⟩, ⟨_, _⟩, _, _⟩ := hm8
  have hm15 : mq 15 h := hp.2.2.1
  have ⟨⟨_, _⟩, ⟨_, _⟩, _, _⟩ := hm15
  have hmsq : sq h := hp.2.2.2
  refine qm_seg_ok (C := qc_123) (rt := some .int) rfl rfl (cuts := []) 400 _ _ _ _ ?_
  show qm_PW X 135 [.int a] h _
  refine tx_135 X h a trivial _ (fun r1 p2 => ?_)
  have o3 : (r1 = 0 ∨ r1 = 1) ∧ ((r1.toInt = 1 ∧ 0 ≤ a.toInt ∧ a.toInt ≤ 1) ∨ (r1.toInt = 0 ∧ ¬ (0 ≤ a.toInt ∧ a.toInt ≤ 1))) := p2
  clear p2
  show (¬ r1 = 0 → ((0 ≤ a.toInt ∧ a.toInt < 2) ∧ (((h 22 a.toInt.toNat) = 0 → (qm_PW X 134 [.ref 0, .int a] h _)) ∧ (¬ (h 22 a.toInt.toNat) = 0 → (qm_PW X 134 [.ref 0, .int a] h _))))) ∧ (r1 = 0 → (Q (some (.int (-1 : Int32))) h))
  refine ⟨fun c4 => ?_, fun c5 => ?_⟩
  · have := ti_neK 0 rfl c4
    refine ⟨(by omega), ?_⟩
    refine ⟨fun c6 => ?_, fun c7 => ?_⟩
    · have := ti_eqK 0 rfl c6
      refine sf_134_0 X h a _ (fun c8 => ?_) (fun c8 => ?_)
      · show qm_PW X 23 [.ref 8, .ref 1] h _
        refine ty_23_8_1 X h  hm1 _ (fun g9 p10 => ?_)
        obtain ⟨p10_0, p10_1, p10_2⟩ := p10
        have f11 : ∀ k, (k < 8 ∨ 22 < k) → g9 k = h k := fun k hk => (p10_1 k (by omega)).trans (rfl)
        have k12 : mq 1 g9 := by unfold mq; rw [p10_1 1 (by omega)]; exact hm1
        have k13 : mq 15 g9 := by unfold mq; rw [p10_1 15 (by omega)]; exact hm15
        have k14 : sq g9 := by unfold sq; rw [p10_1 37 (by omega)]; exact hmsq
        have o15 : mC8 g9 = mC h := p10_2
        clear p10_2
        have n1_g9 : mC g9 = mC h := mC_of (fun k q1 q2 => p10_1 k (by omega))
        have n15_g9 : mC15 g9 = mC15 h := mC15_of (fun k q1 q2 => p10_1 k (by omega))
        have w22_g9 : g9 22 = h 22 := p10_1 22 (by omega)
        show (0 ≤ a.toInt ∧ a.toInt < 2) ∧ (Q (some (.int 0)) (qm_row g9 22 (upd (g9 22) a.toInt.toNat (vp_nar .boolean 1))))
        refine ⟨(by omega), ?_⟩
        exact hq 0 (qm_row g9 22 (upd (g9 22) a.toInt.toNat (vp_nar .boolean 1))) ⟨(by exact k12), (by exact p10_0), (by exact k13), (by exact k14), (fun k hk => by simp only [qm_row]; rw [if_neg (by omega)]; exact f11 k hk), (by have : (0 : Int32).toInt = 0 := rfl; show kpQ a (0 : Int32).toInt (h 22) (upd (g9 22) a.toInt.toNat (vp_nar .boolean 1)) ∧ kmC a h (qm_row g9 22 (upd (g9 22) a.toInt.toNat (vp_nar .boolean 1))); exact ⟨Or.inl ⟨by omega, Or.inl ⟨by assumption, rfl⟩, (show (upd (g9 22) a.toInt.toNat (vp_nar .boolean 1)) = _ from congrArg (fun f => upd f a.toInt.toNat 1) w22_g9)⟩, Or.inl ⟨congrArg Int32.toInt (show a = 0 from by assumption), o15, n15_g9⟩⟩)⟩
      · show qm_PW X 23 [.ref 15, .ref 1] h _
        refine ty_23_15_1 X h  hm1 _ (fun g16 p17 => ?_)
        obtain ⟨p17_0, p17_1, p17_2⟩ := p17
        have f18 : ∀ k, (k < 8 ∨ 22 < k) → g16 k = h k := fun k hk => (p17_1 k (by omega)).trans (rfl)
        have k19 : mq 1 g16 := by unfold mq; rw [p17_1 1 (by omega)]; exact hm1
        have k20 : mq 8 g16 := by unfold mq; rw [p17_1 8 (by omega)]; exact hm8
        have k21 : sq g16 := by unfold sq; rw [p17_1 37 (by omega)]; exact hmsq
        have o22 : mC15 g16 = mC h := p17_2
        clear p17_2
        have n1_g16 : mC g16 = mC h := mC_of (fun k q1 q2 => p17_1 k (by omega))
        have n8_g16 : mC8 g16 = mC8 h := mC8_of (fun k q1 q2 => p17_1 k (by omega))
        have w22_g16 : g16 22 = h 22 := p17_1 22 (by omega)
        show (0 ≤ a.toInt ∧ a.toInt < 2) ∧ (Q (some (.int 0)) (qm_row g16 22 (upd (g16 22) a.toInt.toNat (vp_nar .boolean 1))))
        refine ⟨(by omega), ?_⟩
        exact hq 0 (qm_row g16 22 (upd (g16 22) a.toInt.toNat (vp_nar .boolean 1))) ⟨(by exact k19), (by exact k20), (by exact p17_0), (by exact k21), (fun k hk => by simp only [qm_row]; rw [if_neg (by omega)]; exact f18 k hk), (by have : (0 : Int32).toInt = 0 := rfl; show kpQ a (0 : Int32).toInt (h 22) (upd (g16 22) a.toInt.toNat (vp_nar .boolean 1)) ∧ kmC a h (qm_row g16 22 (upd (g16 22) a.toInt.toNat (vp_nar .boolean 1))); exact ⟨Or.inl ⟨by omega, Or.inl ⟨by assumption, rfl⟩, (show (upd (g16 22) a.toInt.toNat (vp_nar .boolean 1)) = _ from congrArg (fun f => upd f a.toInt.toNat 1) w22_g16)⟩, Or.inr (Or.inl ⟨(by have := ti_neK 0 rfl (show ¬ a = 0 from by assumption); omega), o22, n8_g16⟩)⟩)⟩
    · have := ti_neK 0 rfl c7
      refine sf_134_0 X h a _ (fun c23 => ?_) (fun c23 => ?_)
      · show qm_PW X 23 [.ref 8, .ref 1] h _
        refine ty_23_8_1 X h  hm1 _ (fun g24 p25 => ?_)
        obtain ⟨p25_0, p25_1, p25_2⟩ := p25
        have f26 : ∀ k, (k < 8 ∨ 22 < k) → g24 k = h k := fun k hk => (p25_1 k (by omega)).trans (rfl)
        have k27 : mq 1 g24 := by unfold mq; rw [p25_1 1 (by omega)]; exact hm1
        have k28 : mq 15 g24 := by unfold mq; rw [p25_1 15 (by omega)]; exact hm15
        have k29 : sq g24 := by unfold sq; rw [p25_1 37 (by omega)]; exact hmsq
        have o30 : mC8 g24 = mC h := p25_2
        clear p25_2
        have n1_g24 : mC g24 = mC h := mC_of (fun k q1 q2 => p25_1 k (by omega))
        have n15_g24 : mC15 g24 = mC15 h := mC15_of (fun k q1 q2 => p25_1 k (by omega))
        have w22_g24 : g24 22 = h 22 := p25_1 22 (by omega)
        show (0 ≤ a.toInt ∧ a.toInt < 2) ∧ (Q (some (.int 1)) (qm_row g24 22 (upd (g24 22) a.toInt.toNat (vp_nar .boolean 1))))
        refine ⟨(by omega), ?_⟩
        exact hq 1 (qm_row g24 22 (upd (g24 22) a.toInt.toNat (vp_nar .boolean 1))) ⟨(by exact k27), (by exact p25_0), (by exact k28), (by exact k29), (fun k hk => by simp only [qm_row]; rw [if_neg (by omega)]; exact f26 k hk), (by have : (1 : Int32).toInt = 1 := rfl; show kpQ a (1 : Int32).toInt (h 22) (upd (g24 22) a.toInt.toNat (vp_nar .boolean 1)) ∧ kmC a h (qm_row g24 22 (upd (g24 22) a.toInt.toNat (vp_nar .boolean 1))); exact ⟨Or.inl ⟨by omega, Or.inr ⟨by assumption, rfl⟩, (show (upd (g24 22) a.toInt.toNat (vp_nar .boolean 1)) = _ from congrArg (fun f => upd f a.toInt.toNat 1) w22_g24)⟩, Or.inl ⟨congrArg Int32.toInt (show a = 0 from by assumption), o30, n15_g24⟩⟩)⟩
      · show qm_PW X 23 [.ref 15, .ref 1] h _
        refine ty_23_15_1 X h  hm1 _ (fun g31 p32 => ?_)
        obtain ⟨p32_0, p32_1, p32_2⟩ := p32
        have f33 : ∀ k, (k < 8 ∨ 22 < k) → g31 k = h k := fun k hk => (p32_1 k (by omega)).trans (rfl)
        have k34 : mq 1 g31 := by unfold mq; rw [p32_1 1 (by omega)]; exact hm1
        have k35 : mq 8 g31 := by unfold mq; rw [p32_1 8 (by omega)]; exact hm8
        have k36 : sq g31 := by unfold sq; rw [p32_1 37 (by omega)]; exact hmsq
        have o37 : mC15 g31 = mC h := p32_2
        clear p32_2
        have n1_g31 : mC g31 = mC h := mC_of (fun k q1 q2 => p32_1 k (by omega))
        have n8_g31 : mC8 g31 = mC8 h := mC8_of (fun k q1 q2 => p32_1 k (by omega))
        have w22_g31 : g31 22 = h 22 := p32_1 22 (by omega)
        show (0 ≤ a.toInt ∧ a.toInt < 2) ∧ (Q (some (.int 1)) (qm_row g31 22 (upd (g31 22) a.toInt.toNat (vp_nar .boolean 1))))
        refine ⟨(by omega), ?_⟩
        exact hq 1 (qm_row g31 22 (upd (g31 22) a.toInt.toNat (vp_nar .boolean 1))) ⟨(by exact k34), (by exact k35), (by exact p32_0), (by exact k36), (fun k hk => by simp only [qm_row]; rw [if_neg (by omega)]; exact f33 k hk), (by have : (1 : Int32).toInt = 1 := rfl; show kpQ a (1 : Int32).toInt (h 22) (upd (g31 22) a.toInt.toNat (vp_nar .boolean 1)) ∧ kmC a h (qm_row g31 22 (upd (g31 22) a.toInt.toNat (vp_nar .boolean 1))); exact ⟨Or.inl ⟨by omega, Or.inr ⟨by assumption, rfl⟩, (show (upd (g31 22) a.toInt.toNat (vp_nar .boolean 1)) = _ from congrArg (fun f => upd f a.toInt.toNat 1) w22_g31)⟩, Or.inr (Or.inl ⟨(by have := ti_neK 0 rfl (show ¬ a = 0 from by assumption); omega), o37, n8_g31⟩)⟩)⟩
  · have := ti_eqK 0 rfl c5
    exact hq (-1 : Int32) h ⟨hm1, hm8, hm15, hmsq, (fun k hk => rfl), (by show kpQ a (-1 : Int32).toInt (h 22) (h 22) ∧ kmC a h h; rw [ti_n1]; exact ⟨Or.inr ⟨by omega, rfl, rfl⟩, Or.inr (Or.inr ⟨by omega, rfl, rfl⟩)⟩)⟩
-- ThreadBank.back(I)I
set_option maxRecDepth 100000 in
set_option maxHeartbeats 4000000 in
theorem ty_124 (X : qm_X) (h : qm_H) (a : Int32) (hp : mq 1 h ∧ mq 8 h ∧ mq 15 h ∧ sq h) (Q : qm_Q) (hq : ∀ r : Int32, ∀ h' : qm_H, (mq 1 h' ∧ mq 8 h' ∧ mq 15 h' ∧ sq h' ∧ (∀ k, (k < 1 ∨ 7 < k) → h' k = h k) ∧ (bkC a r.toInt h h')) → Q (some (.int r)) h') : qm_PW X 124 [.ref 0, .int a] h Q := by
  have hm1 : mq 1 h := hp.1
  have ⟨⟨_, _⟩, ⟨_, _⟩, _, _⟩ := hm1
  have hm8 : mq 8 h := hp.2.1
  have ⟨⟨_, _⟩, ⟨_, _⟩, _, _⟩ := hm8
  have hm15 : mq 15 h := hp.2.2.1
  have ⟨⟨_, _⟩, ⟨_, _⟩, _, _⟩ := hm15
  have hmsq : sq h := hp.2.2.2
  refine qm_seg_ok (C := qc_124) (rt := some .int) rfl rfl (cuts := []) 400 _ _ _ _ ?_
  show qm_PW X 135 [.int a] h _
  refine tx_135 X h a trivial _ (fun r1 p2 => ?_)
  have o3 : (r1 = 0 ∨ r1 = 1) ∧ ((r1.toInt = 1 ∧ 0 ≤ a.toInt ∧ a.toInt ≤ 1) ∨ (r1.toInt = 0 ∧ ¬ (0 ≤ a.toInt ∧ a.toInt ≤ 1))) := p2
  clear p2
  show (¬ r1 = 0 → ((0 ≤ a.toInt ∧ a.toInt < 2) ∧ ((¬ (h 22 a.toInt.toNat) = 0 → (qm_PW X 134 [.ref 0, .int a] h _)) ∧ ((h 22 a.toInt.toNat) = 0 → (Q (some (.int (-2 : Int32))) h))))) ∧ (r1 = 0 → (Q (some (.int (-1 : Int32))) h))
  refine ⟨fun c4 => ?_, fun c5 => ?_⟩
  · have := ti_neK 0 rfl c4
    refine ⟨(by omega), ?_⟩
    refine ⟨fun c6 => ?_, fun c7 => ?_⟩
    · have := ti_neK 0 rfl c6
      refine sf_134_0 X h a _ (fun c8 => ?_) (fun c8 => ?_)
      · show qm_PW X 23 [.ref 1, .ref 8] h _
        refine ty_23_1_8 X h  hm8 _ (fun g9 p10 => ?_)
        obtain ⟨p10_0, p10_1, p10_2⟩ := p10
        have f11 : ∀ k, (k < 1 ∨ 7 < k) → g9 k = h k := fun k hk => (p10_1 k (by omega)).trans (rfl)
        have k12 : mq 8 g9 := by unfold mq; rw [p10_1 8 (by omega)]; exact hm8
        have k13 : mq 15 g9 := by unfold mq; rw [p10_1 15 (by omega)]; exact hm15
        have k14 : sq g9 := by unfold sq; rw [p10_1 37 (by omega)]; exact hmsq
        have o15 : mC g9 = mC8 h := p10_2
        clear p10_2
        have n8_g9 : mC8 g9 = mC8 h := mC8_of (fun k q1 q2 => p10_1 k (by omega))
        have n15_g9 : mC15 g9 = mC15 h := mC15_of (fun k q1 q2 => p10_1 k (by omega))
        have w22_g9 : g9 22 = h 22 := p10_1 22 (by omega)
        show Q (some (.int (g9 1 7))) g9
        exact hq (g9 1 7) g9 ⟨p10_0, k12, k13, k14, (fun k hk => f11 k hk), (by show bkC a (g9 1 7).toInt h g9; have h0 := congrArg Int32.toInt (show a = 0 from by assumption); have h00 : (0 : Int32).toInt = 0 := rfl; exact Or.inr (Or.inr (Or.inl ⟨by omega, (show ¬ h 22 0 = 0 from by rw [show 0 = a.toInt.toNat by omega]; assumption), rfl, o15⟩)))⟩
      · show qm_PW X 23 [.ref 1, .ref 15] h _
        refine ty_23_1_15 X h  hm15 _ (fun g16 p17 => ?_)
        obtain ⟨p17_0, p17_1, p17_2⟩ := p17
        have f18 : ∀ k, (k < 1 ∨ 7 < k) → g16 k = h k := fun k hk => (p17_1 k (by omega)).trans (rfl)
        have k19 : mq 8 g16 := by unfold mq; rw [p17_1 8 (by omega)]; exact hm8
        have k20 : mq 15 g16 := by unfold mq; rw [p17_1 15 (by omega)]; exact hm15
        have k21 : sq g16 := by unfold sq; rw [p17_1 37 (by omega)]; exact hmsq
        have o22 : mC g16 = mC15 h := p17_2
        clear p17_2
        have n8_g16 : mC8 g16 = mC8 h := mC8_of (fun k q1 q2 => p17_1 k (by omega))
        have n15_g16 : mC15 g16 = mC15 h := mC15_of (fun k q1 q2 => p17_1 k (by omega))
        have w22_g16 : g16 22 = h 22 := p17_1 22 (by omega)
        show Q (some (.int (g16 1 7))) g16
        exact hq (g16 1 7) g16 ⟨p17_0, k19, k20, k21, (fun k hk => f18 k hk), (by show bkC a (g16 1 7).toInt h g16; have h0 := ti_neK 0 rfl (show ¬ a = 0 from by assumption); exact Or.inr (Or.inr (Or.inr ⟨by omega, (show ¬ h 22 1 = 0 from by rw [show 1 = a.toInt.toNat by omega]; assumption), rfl, o22⟩)))⟩
    · have := ti_eqK 0 rfl c7
      exact hq (-2 : Int32) h ⟨hm1, hm8, hm15, hmsq, (fun k hk => rfl), (by show bkC a (-2 : Int32).toInt h h; rw [ti_n2]; exact Or.inr (Or.inl ⟨by omega, by assumption, rfl, rfl⟩))⟩
  · have := ti_eqK 0 rfl c5
    exact hq (-1 : Int32) h ⟨hm1, hm8, hm15, hmsq, (fun k hk => rfl), (by show bkC a (-1 : Int32).toInt h h; rw [ti_n1]; exact Or.inl ⟨by omega, rfl, rfl⟩)⟩
