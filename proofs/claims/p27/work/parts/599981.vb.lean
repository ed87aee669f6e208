/-! ===== images ===== -/
noncomputable def kmC (a : Int32) (h g : qm_H) : Prop := (a.toInt = 0 ∧ mC8 g = mC h ∧ mC15 g = mC15 h) ∨ (a.toInt = 1 ∧ mC15 g = mC h ∧ mC8 g = mC8 h) ∨ (¬ (0 ≤ a.toInt ∧ a.toInt ≤ 1) ∧ mC8 g = mC8 h ∧ mC15 g = mC15 h)
noncomputable def kmR (a : Int32) (h g : qm_H) : Prop := (a.toInt = 0 ∧ mR49 g = mR h ∧ mR98 g = mR98 h) ∨ (a.toInt = 1 ∧ mR98 g = mR h ∧ mR49 g = mR49 h) ∨ (¬ (0 ≤ a.toInt ∧ a.toInt ≤ 1) ∧ mR49 g = mR49 h ∧ mR98 g = mR98 h)
noncomputable def bkC (a : Int32) (r : Int) (h g : qm_H) : Prop := (¬ (0 ≤ a.toInt ∧ a.toInt ≤ 1) ∧ r = -1 ∧ mC g = mC h) ∨ ((0 ≤ a.toInt ∧ a.toInt ≤ 1) ∧ h 22 a.toInt.toNat = 0 ∧ r = -2 ∧ mC g = mC h) ∨ (a.toInt = 0 ∧ ¬ h 22 0 = 0 ∧ r = (thM (mC g)).toInt ∧ mC g = mC8 h) ∨ (a.toInt = 1 ∧ ¬ h 22 1 = 0 ∧ r = (thM (mC g)).toInt ∧ mC g = mC15 h)
noncomputable def bkR (a : Int32) (r : Int) (h g : qm_H) : Prop := (¬ (0 ≤ a.toInt ∧ a.toInt ≤ 1) ∧ r = -1 ∧ mR g = mR h) ∨ ((0 ≤ a.toInt ∧ a.toInt ≤ 1) ∧ h 42 a.toInt.toNat = 0 ∧ r = -2 ∧ mR g = mR h) ∨ (a.toInt = 0 ∧ ¬ h 42 0 = 0 ∧ r = (thM (mR g)).toInt ∧ mR g = mR49 h) ∨ (a.toInt = 1 ∧ ¬ h 42 1 = 0 ∧ r = (thM (mR g)).toInt ∧ mR g = mR98 h)
theorem mR49_to {h g : qm_H} (e39 : g 39 = h 39) (c : ∀ j : Nat, j < 49 → g 40 (49 + j) = h 40 j) (hc : (h 39 3).toInt ≤ 4) (ht : (h 40 4).toInt ≤ 10) (hs : (h 40 36).toInt ≤ 6) : mR49 g = mR h := by
  unfold mR49 mR
  rw [e39]
  exact mG_eq hc ht hs c
theorem mR98_to {h g : qm_H} (e39 : g 39 = h 39) (c : ∀ j : Nat, j < 49 → g 40 (98 + j) = h 40 j) (hc : (h 39 3).toInt ≤ 4) (ht : (h 40 4).toInt ≤ 10) (hs : (h 40 36).toInt ≤ 6) : mR98 g = mR h := by
  unfold mR98 mR
  rw [e39]
  exact mG_eq hc ht hs c
theorem mR_lo {h g : qm_H} (e39 : g 39 = h 39) (c : ∀ j : Nat, j < 49 → g 40 j = h 40 j) (hc : (h 39 3).toInt ≤ 4) (ht : (h 40 4).toInt ≤ 10) (hs : (h 40 36).toInt ≤ 6) : mR g = mR h := by
  unfold mR
  rw [e39]
  exact mG_eq hc ht hs c
theorem mR49_lo {h g : qm_H} (e39 : g 39 = h 39) (c : ∀ j : Nat, 49 ≤ j → j < 98 → g 40 j = h 40 j) (hc : (h 39 3).toInt ≤ 4) (hp : pk (h 40) 49) : mR49 g = mR49 h := by
  unfold mR49
  rw [e39]
  exact mG_eq hc hp.1.2 hp.2.1.2 (fun j hj => c _ (by omega) (by omega))
theorem mR98_lo {h g : qm_H} (e39 : g 39 = h 39) (c : ∀ j : Nat, 98 ≤ j → g 40 j = h 40 j) : mR98 g = mR98 h := by
  unfold mR98
  rw [e39, show (fun j => g 40 (98 + j)) = fun j => h 40 (98 + j) from funext fun j => c _ (by omega)]
theorem km_of {h g : qm_H} {a to fr : Int32} (e39 : g 39 = h 39) (c : (∀ j : Nat, j < 49 → (g 40) (to.toInt.toNat + j) = (h 40) (fr.toInt.toNat + j)) ∧ ∀ j : Nat, (j < to.toInt.toNat ∨ to.toInt.toNat + 49 ≤ j) → (g 40) j = (h 40) j) (ha : 0 ≤ a.toInt ∧ a.toInt ≤ 1) (et : to.toInt = 49 * (a.toInt + 1)) (ef : fr.toInt = 0) (hc : (h 39 3).toInt ≤ 4) (ht : (h 40 4).toInt ≤ 10) (hs : (h 40 36).toInt ≤ 6) (hp : pk (h 40) 49) : kmR a h g ∧ mR g = mR h := by
  have ef2 : fr.toInt.toNat = 0 := by omega
  rw [ef2] at c
  have lo : mR g = mR h := mR_lo e39 (fun j hj => c.2 j (by omega)) hc ht hs
  have q : a.toInt = 0 ∨ a.toInt = 1 := by omega
  obtain q | q := q
  · have et2 : to.toInt.toNat = 49 := by omega
    rw [et2] at c
    exact ⟨Or.inl ⟨q, mR49_to e39 (fun j hj => by rw [c.1 j hj, Nat.zero_add]) hc ht hs, mR98_lo e39 (fun j hj => c.2 j (by omega))⟩, lo⟩
  · have et2 : to.toInt.toNat = 98 := by omega
    rw [et2] at c
    exact ⟨Or.inr (Or.inl ⟨q, mR98_to e39 (fun j hj => by rw [c.1 j hj, Nat.zero_add]) hc ht hs, mR49_lo e39 (fun j h1 h2 => c.2 j (by omega)) hc hp⟩), lo⟩
theorem bk_of {h g : qm_H} {a to fr : Int32} (e39 : g 39 = h 39) (c : (∀ j : Nat, j < 49 → (g 40) (to.toInt.toNat + j) = (h 40) (fr.toInt.toNat + j)) ∧ ∀ j : Nat, (j < to.toInt.toNat ∨ to.toInt.toNat + 49 ≤ j) → (g 40) j = (h 40) j) (ha : 0 ≤ a.toInt ∧ a.toInt ≤ 1) (ef : fr.toInt = 49 * (a.toInt + 1)) (et : to.toInt = 0) (hc : (h 39 3).toInt ≤ 4) (hp : sm h) (hf : ¬ h 42 a.toInt.toNat = 0) : bkR a (g 40 4).toInt h g ∧ ∀ j : Nat, 49 ≤ j → (g 40) j = (h 40) j := by
  have et2 : to.toInt.toNat = 0 := by omega
  rw [et2] at c
  refine ⟨?_, fun j hj => c.2 j (by omega)⟩
  have q : a.toInt = 0 ∨ a.toInt = 1 := by omega
  obtain q | q := q
  · have ef2 : fr.toInt.toNat = 49 := by omega
    rw [ef2] at c
    refine Or.inr (Or.inr (Or.inl ⟨q, ?_, rfl, ?_⟩))
    · rw [show 0 = a.toInt.toNat by omega]; exact hf
    · unfold mR49 mR
      rw [e39]
      exact mG_eq hc hp.2.2.1.1.2 hp.2.2.1.2.1.2 (fun j hj => by rw [← c.1 j hj, Nat.zero_add])
  · have ef2 : fr.toInt.toNat = 98 := by omega
    rw [ef2] at c
    refine Or.inr (Or.inr (Or.inr ⟨q, ?_, rfl, ?_⟩))
    · rw [show 1 = a.toInt.toNat by omega]; exact hf
    · unfold mR98 mR
      rw [e39]
      exact mG_eq hc hp.2.2.2.1.2 hp.2.2.2.2.1.2 (fun j hj => by rw [← c.1 j hj, Nat.zero_add])
-- ThreadBank.keep(I)I
set_option maxRecDepth 100000 in
set_option maxHeartbeats 4000000 in
theorem ty_123 (X : qm_X) (h : qm_H) (a : Int32) (hp : mq 1 h ∧ mq 8 h ∧ mq 15 h ∧ sq h) (Q : qm_Q) (hq : ∀ r : Int32, ∀ h' : qm_H, (mq 1 h' ∧ mq 8 h' ∧ mq 15 h' ∧ sq h' ∧ (∀ k, (k < 8 ∨ 22 < k) → h' k = h k) ∧ (kpQ a r.toInt (h 22) (h' 22) ∧ kmC a h h')) → Q (some (.int r)) h') : qm_PW X 123 [.ref 0, .int a] h Q := by
  have hm1 : mq 1 h := hp.1
  have ⟨⟨_, _⟩, ⟨_, _⟩, _, _⟩ := hm1
  have hm8 : mq 8 h := hp.2.1
  have ⟨⟨_, _⟩, ⟨_, _⟩, _, _⟩ := hm8
  have hm15 : mq 15 h := hp.2.2.1
  have ⟨⟨_, _⟩, ⟨_, _⟩, _, _⟩ := hm15
  have hmsq : sq h := hp.2.2.2
  refine qm_seg_ok (C := qc_123) (rt := some .int) rfl rfl (cuts := []) 400 _ _ _ _ ?_
  show qm_PW X 135 [.int a] h _
  refine tx_135 X h a trivial _ (fun r1 p2 => ?_)
  have o3 : (r1 = 0 ∨ r1 = 1) ∧ ((r1.toInt = 1 ∧ 0 ≤ a.toInt ∧ a.toInt ≤ 1) ∨ (r1.toInt = 0 ∧ ¬ (0 ≤ a.toInt ∧ a.toInt ≤ 1))) := p2
  clear p2
  show (¬ r1 = 0 → ((0 ≤ a.toInt ∧ a.toInt < 2) ∧ (((h 22 a.toInt.toNat) = 0 → (qm_PW X 134 [.ref 0, .int a] h _)) ∧ (¬ (h 22 a.toInt.toNat) = 0 → (qm_PW X 134 [.ref 0, .int a] h _))))) ∧ (r1 = 0 → (Q (some (.int (-1 : Int32))) h))
  refine ⟨fun c4 => ?_, fun c5 => ?_⟩
  · have := ti_neK 0 rfl c4
    refine ⟨(by omega), ?_⟩
    refine ⟨fun c6 => ?_, fun c7 => ?_⟩
    · have := ti_eqK 0 rfl c6
      refine sf_134_0 X h a _ (fun c8 => ?_) (fun c8 => ?_)
      · show qm_PW X 23 [.ref 8, .ref 1] h _
        refine ty_23_8_1 X h  hm1 _ (fun g9 p10 => ?_)
        obtain ⟨p10_0, p10_1, p10_2⟩ := p10
        have f11 : ∀ k, (k < 8 ∨ 22 < k) → g9 k = h k := fun k hk => (p10_1 k (by omega)).trans (rfl)
        have k12 : mq 1 g9 := by unfold mq; rw [p10_1 1 (by omega)]; exact hm1
        have k13 : mq 15 g9 := by unfold mq; rw [p10_1 15 (by omega)]; exact hm15
        have k14 : sq g9 := by unfold sq; rw [p10_1 37 (by omega)]; exact hmsq
        have o15 : mC8 g9 = mC h := p10_2
        clear p10_2
        have n1_g9 : mC g9 = mC h := mC_of (fun k q1 q2 => p10_1 k (by omega))
        have n15_g9 : mC15 g9 = mC15 h := mC15_of (fun k q1 q2 => p10_1 k (by omega))
        have w22_g9 : g9 22 = h 22 := p10_1 22 (by omega)
        show (0 ≤ a.toInt ∧ a.toInt < 2) ∧ (Q (some (.int 0)) (qm_row g9 22 (upd (g9 22) a.toInt.toNat (vp_nar .boolean 1))))
        refine ⟨(by omega), ?_⟩
        exact hq 0 (qm_row g9 22 (upd (g9 22) a.toInt.toNat (vp_nar .boolean 1))) ⟨(by exact k12), (by exact p10_0), (by exact k13), (by exact k14), (fun k hk => by simp only [qm_row]; rw [if_neg (by omega)]; exact f11 k hk), (by have : (0 : Int32).toInt = 0 := rfl; show kpQ a (0 : Int32).toInt (h 22) (upd (g9 22) a.toInt.toNat (vp_nar .boolean 1)) ∧ kmC a h (qm_row g9 22 (upd (g9 22) a.toInt.toNat (vp_nar .boolean 1))); exact ⟨Or.inl ⟨by omega, Or.inl ⟨by assumption, rfl⟩, (show (upd (g9 22) a.toInt.toNat (vp_nar .boolean 1)) = _ from congrArg (fun f => upd f a.toInt.toNat 1) w22_g9)⟩, Or.inl ⟨congrArg Int32.toInt (show a = 0 from by assumption), o15, n15_g9⟩⟩)⟩
      · show qm_PW X 23 [.ref 15, .ref 1] h _
        refine ty_23_15_1 X h  hm1 _ (fun g16 p17 => ?_)
        obtain ⟨p17_0, p17_1, p17_2⟩ := p17
        have f18 : ∀ k, (k < 8 ∨ 22 < k) → g16 k = h k := fun k hk => (p17_1 k (by omega)).trans (rfl)
        have k19 : mq 1 g16 := by unfold mq; rw [p17_1 1 (by omega)]; exact hm1
        have k20 : mq 8 g16 := by unfold mq; rw [p17_1 8 (by omega)]; exact hm8
        have k21 : sq g16 := by unfold sq; rw [p17_1 37 (by omega)]; exact hmsq
        have o22 : mC15 g16 = mC h := p17_2
        clear p17_2
        have n1_g16 : mC g16 = mC h := mC_of (fun k q1 q2 => p17_1 k (by omega))
        have n8_g16 : mC8 g16 = mC8 h := mC8_of (fun k q1 q2 => p17_1 k (by omega))
        have w22_g16 : g16 22 = h 22 := p17_1 22 (by omega)
        show (0 ≤ a.toInt ∧ a.toInt < 2) ∧ (Q (some (.int 0)) (qm_row g16 22 (upd (g16 22) a.toInt.toNat (vp_nar .boolean 1))))
        refine ⟨(by omega), ?_⟩
        exact hq 0 (qm_row g16 22 (upd (g16 22) a.toInt.toNat (vp_nar .boolean 1))) ⟨(by exact k19), (by exact k20), (by exact p17_0), (by exact k21), (fun k hk => by simp only [qm_row]; rw [if_neg (by omega)]; exact f18 k hk), (by have : (0 : Int32).toInt = 0 := rfl; show kpQ a (0 : Int32).toInt (h 22) (upd (g16 22) a.toInt.toNat (vp_nar .boolean 1)) ∧ kmC a h (qm_row g16 22 (upd (g16 22) a.toInt.toNat (vp_nar .boolean 1))); exact ⟨Or.inl ⟨by omega, Or.inl ⟨by assumption, rfl⟩, (show (upd (g16 22) a.toInt.toNat (vp_nar .boolean 1)) = _ from congrArg (fun f => upd f a.toInt.toNat 1) w22_g16)⟩, Or.inr (Or.inl ⟨(by have := ti_neK 0 rfl (show ¬ a = 0 from by assumption); omega), o22, n8_g16⟩)⟩)⟩
    · have := ti_neK 0 rfl c7
      refine sf_134_0 X h a _ (fun c23 => ?_) (fun c23 => ?_)
      · show qm_PW X 23 [.ref 8, .ref 1] h _
        refine ty_23_8_1 X h  hm1 _ (fun g24 p25 => ?_)
        obtain ⟨p25_0, p25_1, p25_2⟩ := p25
        have f26 : ∀ k, (k < 8 ∨ 22 < k) → g24 k = h k := fun k hk => (p25_1 k (by omega)).trans (rfl)
        have k27 : mq 1 g24 := by unfold mq; rw [p25_1 1 (by omega)]; exact hm1
        have k28 : mq 15 g24 := by unfold mq; rw [p25_1 15 (by omega)]; exact hm15
        have k29 : sq g24 := by unfold sq; rw [p25_1 37 (by omega)]; exact hmsq
        have o30 : mC8 g24 = mC h := p25_2
        clear p25_2
        have n1_g24 : mC g24 = mC h := mC_of (fun k q1 q2 => p25_1 k (by omega))
        have n15_g24 : mC15 g24 = mC15 h := mC15_of (fun k q1 q2 => p25_1 k (by omega))
        have w22_g24 : g24 22 = h 22 := p25_1 22 (by omega)
        show (0 ≤ a.toInt ∧ a.toInt < 2) ∧ (Q (some (.int 1)) (qm_row g24 22 (upd (g24 22) a.toInt.toNat (vp_nar .boolean 1))))
        refine ⟨(by omega), ?_⟩
        exact hq 1 (qm_row g24 22 (upd (g24 22) a.toInt.toNat (vp_nar .boolean 1))) ⟨(by exact k27), (by exact p25_0), (by exact k28), (by exact k29), (fun k hk => by simp only [qm_row]; rw [if_neg (by omega)]; exact f26 k hk), (by have : (1 : Int32).toInt = 1 := rfl; show kpQ a (1 : Int32).toInt (h 22) (upd (g24 22) a.toInt.toNat (vp_nar .boolean 1)) ∧ kmC a h (qm_row g24 22 (upd (g24 22) a.toInt.toNat (vp_nar .boolean 1))); exact ⟨Or.inl ⟨by omega, Or.inr ⟨by assumption, rfl⟩, (show (upd (g24 22) a.toInt.toNat (vp_nar .boolean 1)) = _ from congrArg (fun f => upd f a.toInt.toNat 1) w22_g24)⟩, Or.inl ⟨congrArg Int32.toInt (show a = 0 from by assumption), o30, n15_g24⟩⟩)⟩
      · show qm_PW X 23 [.ref 15, .ref 1] h _
        refine ty_23_15_1 X h  hm1 _ (fun g31 p32 => ?_)
        obtain ⟨p32_0, p32_1, p32_2⟩ := p32
        have f33 : ∀ k, (k < 8 ∨ 22 < k) → g31 k = h k := fun k hk => (p32_1 k (by omega)).trans (rfl)
        have k34 : mq 1 g31 := by unfold mq; rw [p32_1 1 (by omega)]; exact hm1
        have k35 : mq 8 g31 := by unfold mq; rw [p32_1 8 (by omega)]; exact hm8
        have k36 : sq g31 := by unfold sq; rw [p32_1 37 (by omega)]; exact hmsq
        have o37 : mC15 g31 = mC h := p32_2
        clear p32_2
        have n1_g31 : mC g31 = mC h := mC_of (fun k q1 q2 => p32_1 k (by omega))
        have n8_g31 : mC8 g31 = mC8 h := mC8_of (fun k q1 q2 => p32_1 k (by omega))
        have w22_g31 : g31 22 = h 22 := p32_1 22 (by omega)
        show (0 ≤ a.toInt ∧ a.toInt < 2) ∧ (Q (some (.int 1)) (qm_row g31 22 (upd (g31 22) a.toInt.toNat (vp_nar .boolean 1))))
        refine ⟨(by omega), ?_⟩
        exact hq 1 (qm_row g31 22 (upd (g31 22) a.toInt.toNat (vp_nar .boolean 1))) ⟨(by exact k34), (by exact k35), (by exact p32_0), (by exact k36), (fun k hk => by simp only [qm_row]; rw [if_neg (by omega)]; exact f33 k hk), (by have : (1 : Int32).toInt = 1 := rfl; show kpQ a (1 : Int32).toInt (h 22) (upd (g31 22) a.toInt.toNat (vp_nar .boolean 1)) ∧ kmC a h (qm_row g31 22 (upd (g31 22) a.toInt.toNat (vp_nar .boolean 1))); exact ⟨Or.inl ⟨by omega, Or.inr ⟨by assumption, rfl⟩, (show (upd (g31 22) a.toInt.toNat (vp_nar .boolean 1)) = _ from congrArg (fun f => upd f a.toInt.toNat 1) w22_g31)⟩, Or.inr (Or.inl ⟨(by have := ti_neK 0 rfl (show ¬ a = 0 from by assumption); omega), o37, n8_g31⟩)⟩)⟩
  · have := ti_eqK 0 rfl c5
    exact hq (-1 : Int32) h ⟨hm1, hm8, hm15, hmsq, (fun k hk => rfl), (by show kpQ a (-1 : Int32).toInt (h 22) (h 22) ∧ kmC a h h; rw [ti_n1]; exact ⟨Or.inr ⟨by omega, rfl, rfl⟩, Or.inr (Or.inr ⟨by omega, rfl, rfl⟩)⟩)⟩
-- ThreadBank.back(I)I
set_option maxRecDepth 100000 in
set_option maxHeartbeats 4000000 in
theorem ty_124 (X : qm_X) (h : qm_H) (a : Int32) (hp : mq 1 h ∧ mq 8 h ∧ mq 15 h ∧ sq h) (Q : qm_Q) (hq : ∀ r : Int32, ∀ h' : qm_H, (mq 1 h' ∧ mq 8 h' ∧ mq 15 h' ∧ sq h' ∧ (∀ k, (k < 1 ∨ 7 < k) → h' k = h k) ∧ (bkC a r.toInt h h')) → Q (some (.int r)) h') : qm_PW X 124 [.ref 0, .int a] h Q := by
  have hm1 : mq 1 h := hp.1
  have ⟨⟨_, _⟩, ⟨_, _⟩, _, _⟩ := hm1
  have hm8 : mq 8 h := hp.2.1
  have ⟨⟨_, _⟩, ⟨_, _⟩, _, _⟩ := hm8
  have hm15 : mq 15 h := hp.2.2.1
  have ⟨⟨_, _⟩, ⟨_, _⟩, _, _⟩ := hm15
  have hmsq : sq h := hp.2.2.2
  refine qm_seg_ok (C := qc_124) (rt := some .int) rfl rfl (cuts := []) 400 _ _ _ _ ?_
  show qm_PW X 135 [.int a] h _
  refine tx_135 X h a trivial _ (fun r1 p2 => ?_)
  have o3 : (r1 = 0 ∨ r1 = 1) ∧ ((r1.toInt = 1 ∧ 0 ≤ a.toInt ∧ a.toInt ≤ 1) ∨ (r1.toInt = 0 ∧ ¬ (0 ≤ a.toInt ∧ a.toInt ≤ 1))) := p2
  clear p2
  show (¬ r1 = 0 → ((0 ≤ a.toInt ∧ a.toInt < 2) ∧ ((¬ (h 22 a.toInt.toNat) = 0 → (qm_PW X 134 [.ref 0, .int a] h _)) ∧ ((h 22 a.toInt.toNat) = 0 → (Q (some (.int (-2 : Int32))) h))))) ∧ (r1 = 0 → (Q (some (.int (-1 : Int32))) h))
  refine ⟨fun c4 => ?_, fun c5 => ?_⟩
  · have := ti_neK 0 rfl c4
    refine ⟨(by omega), ?_⟩
    refine ⟨fun c6 => ?_, fun c7 => ?_⟩
    · have := ti_neK 0 rfl c6
      refine sf_134_0 X h a _ (fun c8 => ?_) (fun c8 => ?_)
      · show qm_PW X 23 [.ref 1, .ref 8] h _
        refine ty_23_1_8 X h  hm8 _ (fun g9 p10 => ?_)
        obtain ⟨p10_0, p10_1, p10_2⟩ := p10
        have f11 : ∀ k, (k < 1 ∨ 7 < k) → g9 k = h k := fun k hk => (p10_1 k (by omega)).trans (rfl)
        have k12 : mq 8 g9 := by unfold mq; rw [p10_1 8 (by omega)]; exact hm8
        have k13 : mq 15 g9 := by unfold mq; rw [p10_1 15 (by omega)]; exact hm15
        have k14 : sq g9 := by unfold sq; rw [p10_1 37 (by omega)]; exact hmsq
        have o15 : mC g9 = mC8 h := p10_2
        clear p10_2
        have n8_g9 : mC8 g9 = mC8 h := mC8_of (fun k q1 q2 => p10_1 k (by omega))
        have n15_g9 : mC15 g9 = mC15 h := mC15_of (fun k q1 q2 => p10_1 k (by omega))
        have w22_g9 : g9 22 = h 22 := p10_1 22 (by omega)
        show Q (some (.int (g9 1 7))) g9
        exact hq (g9 1 7) g9 ⟨p10_0, k12, k13, k14, (fun k hk => f11 k hk), (by show bkC a (g9 1 7).toInt h g9; have h0 := congrArg Int32.toInt (show a = 0 from by assumption); have h00 : (0 : Int32).toInt = 0 := rfl; exact Or.inr (Or.inr (Or.inl ⟨by omega, (show ¬ h 22 0 = 0 from by rw [show 0 = a.toInt.toNat by omega]; assumption), rfl, o15⟩)))⟩
      · show qm_PW X 23 [.ref 1, .ref 15] h _
        refine ty_23_1_15 X h  hm15 _ (fun g16 p17 => ?_)
        obtain ⟨p17_0, p17_1, p17_2⟩ := p17
        have f18 : ∀ k, (k < 1 ∨ 7 < k) → g16 k = h k := fun k hk => (p17_1 k (by omega)).trans (rfl)
        have k19 : mq 8 g16 := by unfold mq; rw [p17_1 8 (by omega)]; exact hm8
        have k20 : mq 15 g16 := by unfold mq; rw [p17_1 15 (by omega)]; exact hm15
        have k21 : sq g16 := by unfold sq; rw [p17_1 37 (by omega)]; exact hmsq
        have o22 : mC g16 = mC15 h := p17_2
        clear p17_2
        have n8_g16 : mC8 g16 = mC8 h := mC8_of (fun k q1 q2 => p17_1 k (by omega))
        have n15_g16 : mC15 g16 = mC15 h := mC15_of (fun k q1 q2 => p17_1 k (by omega))
        have w22_g16 : g16 22 = h 22 := p17_1 22 (by omega)
        show Q (some (.int (g16 1 7))) g16
        exact hq (g16 1 7) g16 ⟨p17_0, k19, k20, k21, (fun k hk => f18 k hk), (by show bkC a (g16 1 7).toInt h g16; have h0 := ti_neK 0 rfl (show ¬ a = 0 from by assumption); exact Or.inr (Or.inr (Or.inr ⟨by omega, (show ¬ h 22 1 = 0 from by rw [show 1 = a.toInt.toNat by omega]; assumption), rfl, o22⟩)))⟩
    · have := ti_eqK 0 rfl c7
      exact hq (-2 : Int32) h ⟨hm1, hm8, hm15, hmsq, (fun k hk => rfl), (by show bkC a (-2 : Int32).toInt h h; rw [ti_n2]; exact Or.inr (Or.inl ⟨by omega, by assumption, rfl, rfl⟩))⟩
  · have := ti_eqK 0 rfl c5
    exact hq (-1 : Int32) h ⟨hm1, hm8, hm15, hmsq, (fun k hk => rfl), (by show bkC a (-1 : Int32).toInt h h; rw [ti_n1]; exact Or.inl ⟨by omega, rfl, rfl⟩)⟩
-- ThreadBankModel.keep(I)I
set_option maxRecDepth 100000 in
set_option maxHeartbeats 4000000 in
theorem ty_231 (X : qm_X) (h : qm_H) (a : Int32) (hp : mi h ∧ sm h ∧ zs h ∧ rw_ h) (Q : qm_Q) (hq : ∀ r : Int32, ∀ h' : qm_H, (mi h' ∧ sm h' ∧ zs h' ∧ rw_ h' ∧ (∀ k, (k < 40 ∨ 42 < k) → h' k = h k) ∧ (kpQ a r.toInt (h 42) (h' 42) ∧ kmR a h h' ∧ mR h' = mR h)) → Q (some (.int r)) h') : qm_PW X 231 [.ref 39, .int a] h Q := by
  have hmmi : mi h := hp.1
  have ⟨⟨_, _⟩, ⟨_, _⟩, ⟨_, _⟩, ⟨_, _⟩, _, _⟩ := hmmi
  have hmsm : sm h := hp.2.1
  have ⟨⟨⟨_, _⟩, _, _⟩, _, _, _⟩ := hmsm
  have hmzs : zs h := hp.2.2.1
  have hmrw : rw_ h := hp.2.2.2
  refine qm_seg_ok (C := qc_231) (rt := some .int) rfl rfl (cuts := []) 400 _ _ _ _ ?_
  show qm_PW X 141 [.long (Int32.toInt64 a), .long 0, .long 1] h _
  refine sf_141 X h ((Int32.toInt64 a) : Int64) (0 : Int64) (1 : Int64) trivial _ (fun r1 p2 => ?_)
  have o3 : ¬ r1.toInt = 0 → (0 : Int64).toInt ≤ (Int32.toInt64 a).toInt ∧ (Int32.toInt64 a).toInt ≤ (1 : Int64).toInt := fun hc => p2.2.1 (fun e => hc (ti_eqK 0 rfl e))
  have o4 : r1.toInt = 0 → (Int32.toInt64 a).toInt < (0 : Int64).toInt ∨ (1 : Int64).toInt < (Int32.toInt64 a).toInt := fun hc => p2.2.2 (Int32.toInt_inj.mp hc)
  show (¬ r1 = 0 → ((0 ≤ a.toInt ∧ a.toInt < 2) ∧ (qm_PW X 142 [.int (h 42 a.toInt.toNat)] h _))) ∧ (r1 = 0 → (Q (some (.int (-1 : Int32))) h))
  refine ⟨fun c5 => ?_, fun c6 => ?_⟩
  · have := p2.2.1 c5
    have := ti_neK 0 rfl c5
    refine ⟨(by have : (0 : Int64).toInt = 0 := rfl; have : (1 : Int64).toInt = 1 := rfl; have := i64 a; omega), ?_⟩
    refine tx_142 X h (h 42 a.toInt.toNat) trivial _ (fun r7 p8 => ?_)
    have o9 : ((h 42 a.toInt.toNat).toInt = 0 ∧ r7.toInt = 0) ∨ (¬ (h 42 a.toInt.toNat).toInt = 0 ∧ r7.toInt = 1) := p8
    clear p8
    show (0 ≤ a.toInt ∧ a.toInt < 2) ∧ (qm_PW X 230 [.ref 39, .int (49 * (a + 1)), .int 0] (qm_row h 42 (upd (h 42) a.toInt.toNat (vp_nar .boolean 1))) _)
    refine ⟨(by have : (0 : Int64).toInt = 0 := rfl; have : (1 : Int64).toInt = 1 := rfl; have := i64 a; omega), ?_⟩
    refine sf_230_39 X (qm_row h 42 (upd (h 42) a.toInt.toNat (vp_nar .boolean 1))) (49 * (a + 1)) (0 : Int32) ⟨(by exact hmsm), (by have : (0 : Int32).toInt = 0 := rfl; have := ti_addK a (1 : Int32) 1 rfl; have := ti_mulL (49 : Int32) 49 rfl (a + 1); have : (0 : Int64).toInt = 0 := rfl; have : (1 : Int64).toInt = 1 := rfl; have := i64 a; omega)⟩ _ (fun g10 p11 => ?_)
    obtain ⟨p11_0, p11_1, p11_2⟩ := p11
    have f12 : ∀ k, (k < 40 ∨ 42 < k) → g10 k = h k := fun k hk => (p11_1 k (by omega)).trans (by simp only [qm_row]; rw [if_neg (by omega)])
    have k13 : mi g10 := by unfold mi; rw [p11_1 39 (by omega)]; exact hmmi
    have k14 : zs g10 := by unfold zs; rw [p11_1 49 (by omega)]; exact hmzs
    have k15 : rw_ g10 := by unfold rw_; rw [p11_1 46 (by omega)]; exact hmrw
    have o16 : ((∀ j : Nat, j < 49 → (g10 40) ((49 * (a + 1)).toInt.toNat + j) = (h 40) ((0 : Int32).toInt.toNat + j)) ∧ ∀ j : Nat, (j < (49 * (a + 1)).toInt.toNat ∨ (49 * (a + 1)).toInt.toNat + 49 ≤ j) → (g10 40) j = (h 40) j) := p11_2
    clear p11_2
    have w39_g10 : g10 39 = h 39 := p11_1 39 (by omega)
    have w42_g10 : g10 42 = (upd (h 42) a.toInt.toNat (vp_nar .boolean 1)) := p11_1 42 (by omega)
    show Q (some (.int r7)) g10
    exact hq r7 g10 ⟨k13, p11_0, k14, k15, (fun k hk => f12 k hk), (by have : (0 : Int32).toInt = 0 := rfl; have := ti_addK a (1 : Int32) 1 rfl; have := ti_mulL (49 : Int32) 49 rfl (a + 1); have : (0 : Int64).toInt = 0 := rfl; have : (1 : Int64).toInt = 1 := rfl; have := i64 a; show kpQ a r7.toInt (h 42) (g10 42) ∧ kmR a h g10 ∧ mR g10 = mR h; have := i64 a; have : (0 : Int64).toInt = 0 := rfl; have : (1 : Int64).toInt = 1 := rfl; have q1 := ti_addK a (1 : Int32) 1 rfl; have q2 := ti_mulL (49 : Int32) 49 rfl (a + 1); have h00 : (0 : Int32).toInt = 0 := rfl; exact ⟨Or.inl ⟨by omega, (if hz : h 42 a.toInt.toNat = 0 then Or.inl ⟨hz, by have := congrArg Int32.toInt hz; omega⟩ else Or.inr ⟨hz, by have := ti_neK 0 rfl hz; omega⟩), w42_g10⟩, km_of w39_g10 o16 (by omega) (by omega) (by omega) (by omega) (by omega) (by omega) hmsm.2.2.1⟩)⟩
  · have := p2.2.2 c6
    have := ti_eqK 0 rfl c6
    exact hq (-1 : Int32) h ⟨hmmi, hmsm, hmzs, hmrw, (fun k hk => rfl), (by have : (0 : Int64).toInt = 0 := rfl; have : (1 : Int64).toInt = 1 := rfl; have := i64 a; show kpQ a (-1 : Int32).toInt (h 42) (h 42) ∧ kmR a h h ∧ mR h = mR h; rw [ti_n1]; have := i64 a; have : (0 : Int64).toInt = 0 := rfl; have : (1 : Int64).toInt = 1 := rfl; have q1 := ti_addK a (1 : Int32) 1 rfl; have q2 := ti_mulL (49 : Int32) 49 rfl (a + 1); have h00 : (0 : Int32).toInt = 0 := rfl; exact ⟨Or.inr ⟨by omega, rfl, rfl⟩, Or.inr (Or.inr ⟨by omega, rfl, rfl⟩), rfl⟩)⟩
-- ThreadBankModel.back(I)I
set_option maxRecDepth 100000 in
set_option maxHeartbeats 4000000 in
theorem ty_232 (X : qm_X) (h : qm_H) (a : Int32) (hp : mi h ∧ sm h ∧ zs h ∧ rw_ h) (Q : qm_Q) (hq : ∀ r : Int32, ∀ h' : qm_H, (mi h' ∧ sm h' ∧ zs h' ∧ rw_ h' ∧ (∀ k, (k < 40 ∨ 40 < k) → h' k = h k) ∧ (bkR a r.toInt h h' ∧ (∀ j : Nat, 49 ≤ j → (h' 40) j = (h 40) j))) → Q (some (.int r)) h') : qm_PW X 232 [.ref 39, .int a] h Q := by
  have hmmi : mi h := hp.1
  have ⟨⟨_, _⟩, ⟨_, _⟩, ⟨_, _⟩, ⟨_, _⟩, _, _⟩ := hmmi
  have hmsm : sm h := hp.2.1
  have ⟨⟨⟨_, _⟩, _, _⟩, _, _, _⟩ := hmsm
  have hmzs : zs h := hp.2.2.1
  have hmrw : rw_ h := hp.2.2.2
  refine qm_seg_ok (C := qc_232) (rt := some .int) rfl rfl (cuts := []) 400 _ _ _ _ ?_
  show qm_PW X 141 [.long (Int32.toInt64 a), .long 0, .long 1] h _
  refine sf_141 X h ((Int32.toInt64 a) : Int64) (0 : Int64) (1 : Int64) trivial _ (fun r1 p2 => ?_)
  have o3 : ¬ r1.toInt = 0 → (0 : Int64).toInt ≤ (Int32.toInt64 a).toInt ∧ (Int32.toInt64 a).toInt ≤ (1 : Int64).toInt := fun hc => p2.2.1 (fun e => hc (ti_eqK 0 rfl e))
  have o4 : r1.toInt = 0 → (Int32.toInt64 a).toInt < (0 : Int64).toInt ∨ (1 : Int64).toInt < (Int32.toInt64 a).toInt := fun hc => p2.2.2 (Int32.toInt_inj.mp hc)
  show (¬ r1 = 0 → ((0 ≤ a.toInt ∧ a.toInt < 2) ∧ ((¬ (h 42 a.toInt.toNat) = 0 → (qm_PW X 230 [.ref 39, .int 0, .int (49 * (a + 1))] h _)) ∧ ((h 42 a.toInt.toNat) = 0 → (Q (some (.int (-2 : Int32))) h))))) ∧ (r1 = 0 → (Q (some (.int (-1 : Int32))) h))
  refine ⟨fun c5 => ?_, fun c6 => ?_⟩
  · have := p2.2.1 c5
    have := ti_neK 0 rfl c5
    refine ⟨(by have : (0 : Int64).toInt = 0 := rfl; have : (1 : Int64).toInt = 1 := rfl; have := i64 a; omega), ?_⟩
    refine ⟨fun c7 => ?_, fun c8 => ?_⟩
    · have := ti_neK 0 rfl c7
      refine sf_230_39 X h (0 : Int32) (49 * (a + 1)) ⟨hmsm, (by have : (0 : Int32).toInt = 0 := rfl; have := ti_addK a (1 : Int32) 1 rfl; have := ti_mulL (49 : Int32) 49 rfl (a + 1); have : (0 : Int64).toInt = 0 := rfl; have : (1 : Int64).toInt = 1 := rfl; have := i64 a; omega)⟩ _ (fun g9 p10 => ?_)
      obtain ⟨p10_0, p10_1, p10_2⟩ := p10
      have f11 : ∀ k, (k < 40 ∨ 40 < k) → g9 k = h k := fun k hk => (p10_1 k (by omega)).trans (rfl)
      have k12 : mi g9 := by unfold mi; rw [p10_1 39 (by omega)]; exact hmmi
      have k13 : zs g9 := by unfold zs; rw [p10_1 49 (by omega)]; exact hmzs
      have k14 : rw_ g9 := by unfold rw_; rw [p10_1 46 (by omega)]; exact hmrw
      have o15 : ((∀ j : Nat, j < 49 → (g9 40) ((0 : Int32).toInt.toNat + j) = (h 40) ((49 * (a + 1)).toInt.toNat + j)) ∧ ∀ j : Nat, (j < (0 : Int32).toInt.toNat ∨ (0 : Int32).toInt.toNat + 49 ≤ j) → (g9 40) j = (h 40) j) := p10_2
      clear p10_2
      have w39_g9 : g9 39 = h 39 := p10_1 39 (by omega)
      have w42_g9 : g9 42 = (h 42) := p10_1 42 (by omega)
      show (0 ≤ (4 : Int) ∧ (4 : Int) < 147) ∧ (Q (some (.int (g9 40 4))) g9)
      refine ⟨by decide, ?_⟩
      exact hq (g9 40 4) g9 ⟨k12, p10_0, k13, k14, (fun k hk => f11 k hk), (by have : (0 : Int32).toInt = 0 := rfl; have := ti_addK a (1 : Int32) 1 rfl; have := ti_mulL (49 : Int32) 49 rfl (a + 1); have : (0 : Int64).toInt = 0 := rfl; have : (1 : Int64).toInt = 1 := rfl; have := i64 a; show bkR a (g9 40 4).toInt h g9 ∧ (∀ j : Nat, 49 ≤ j → (g9 40) j = (h 40) j); have := i64 a; have : (0 : Int64).toInt = 0 := rfl; have : (1 : Int64).toInt = 1 := rfl; have q1 := ti_addK a (1 : Int32) 1 rfl; have q2 := ti_mulL (49 : Int32) 49 rfl (a + 1); have h00 : (0 : Int32).toInt = 0 := rfl; exact bk_of w39_g9 o15 (by omega) (by omega) (by omega) (by omega) hmsm (by assumption))⟩
    · have := ti_eqK 0 rfl c8
      exact hq (-2 : Int32) h ⟨hmmi, hmsm, hmzs, hmrw, (fun k hk => rfl), (by have : (0 : Int64).toInt = 0 := rfl; have : (1 : Int64).toInt = 1 := rfl; have := i64 a; show bkR a (-2 : Int32).toInt h h ∧ (∀ j : Nat, 49 ≤ j → (h 40) j = (h 40) j); rw [ti_n2]; have := i64 a; have : (0 : Int64).toInt = 0 := rfl; have : (1 : Int64).toInt = 1 := rfl; have q1 := ti_addK a (1 : Int32) 1 rfl; have q2 := ti_mulL (49 : Int32) 49 rfl (a + 1); have h00 : (0 : Int32).toInt = 0 := rfl; exact ⟨Or.inr (Or.inl ⟨by omega, by assumption, rfl, rfl⟩), fun j hj => rfl⟩)⟩
  · have := p2.2.2 c6
    have := ti_eqK 0 rfl c6
    exact hq (-1 : Int32) h ⟨hmmi, hmsm, hmzs, hmrw, (fun k hk => rfl), (by have : (0 : Int64).toInt = 0 := rfl; have : (1 : Int64).toInt = 1 := rfl; have := i64 a; show bkR a (-1 : Int32).toInt h h ∧ (∀ j : Nat, 49 ≤ j → (h 40) j = (h 40) j); rw [ti_n1]; have := i64 a; have : (0 : Int64).toInt = 0 := rfl; have : (1 : Int64).toInt = 1 := rfl; have q1 := ti_addK a (1 : Int32) 1 rfl; have q2 := ti_mulL (49 : Int32) 49 rfl (a + 1); have h00 : (0 : Int32).toInt = 0 := rfl; exact ⟨Or.inl ⟨by omega, rfl, rfl⟩, fun j hj => rfl⟩)⟩
/-! ===== sheets of both sides, as one value ===== -/
noncomputable abbrev SH : Type := Int32 × Int32 × (Nat → Int32)
noncomputable def noS : SH := (-1, -4, fun _ => 0)
noncomputable def svC (h : qm_H) (k : Nat) : SH := if (h 37 k).toInt = -4 then noS else (h 36 k, h 37 k, msk (h 37 k) (fun i => h 35 (40 * k + i)))
noncomputable def svR (h : qm_H) (k : Nat) : SH := if (h 48 k).toInt = -4 then noS else (h 48 k, h 49 k, msk (h 49 k) (fun i => h 50 (40 * k + i)))
theorem svC_of {h g : qm_H} (e5 : g 35 = h 35) (e6 : g 36 = h 36) (e7 : g 37 = h 37) : svC g = svC h := by
  unfold svC
  rw [e5, e6, e7]
theorem svR_of {h g : qm_H} (e5 : g 50 = h 50) (e6 : g 48 = h 48) (e7 : g 49 = h 49) : svR g = svR h := by
  unfold svR
  rw [e5, e6, e7]
noncomputable def opSheet (a b c : Int32) (V : Nat → SH) : Nat → SH := fun k => if ((0 ≤ a.toInt ∧ a.toInt ≤ 3) ∧ (0 ≤ b.toInt ∧ b.toInt ≤ 2) ∧ 0 ≤ c.toInt ∧ c.toInt ≤ 40) ∧ (k : Int) = a.toInt then (b, c, fun _ => 0) else V k
theorem sheet_no {a b c : Int32} {V : Nat → SH} (q : ¬ ((0 ≤ a.toInt ∧ a.toInt ≤ 3) ∧ (0 ≤ b.toInt ∧ b.toInt ≤ 2) ∧ 0 ≤ c.toInt ∧ c.toInt ≤ 40)) : opSheet a b c V = V := by
  funext k
  exact if_neg (fun z => q z.1)
/-- the cells of a sheet are 0 up to n -/
noncomputable def zrQ (k : Nat) (n : Int) (f g : Nat → Int32) : Prop := (∀ i : Nat, (i : Int) < n → g (40 * k + i) = 0) ∧ ∀ j : Nat, (j < 40 * k ∨ 40 * k + 40 ≤ j) → g j = f j
theorem zr_0 {k : Nat} {n : Int} {f : Nat → Int32} (hn : n = 0) : zrQ k n f f := ⟨fun i hi => by omega, fun _ _ => rfl⟩
theorem zr_s {k : Nat} {n m : Int} {f g g2 : Nat → Int32} {ix : Nat} (h : zrQ k n f g) (hm : m = n + 1) (h0 : 0 ≤ n) (h40 : n < 40) (hx : (ix : Int) = 40 * (k : Int) + n) (e : g2 = upd g ix 0) : zrQ k m f g2 := by
  refine ⟨fun i hi => ?_, fun j hj => ?_⟩
  · rw [e]
    by_cases q : 40 * k + i = ix
    · rw [q, upd_same]
    · rw [upd_ne q]; exact h.1 i (by omega)
  · rw [e, upd_ne (by omega)]; exact h.2 j hj
theorem zr_in {k : Nat} {c : Int32} {n : Int} {f g : Nat → Int32} (z : zrQ k n f g) (hn : c.toInt ≤ n) : msk c (fun i => g (40 * k + i)) = fun _ => 0 := by
  funext i
  by_cases w : (i : Int) < c.toInt
  · rw [msk_in w]; exact z.1 i (by omega)
  · exact msk_out w
theorem zr_out {k a : Nat} {c : Int32} {n : Int} {f g : Nat → Int32} (z : zrQ a n f g) (hk : ¬ k = a) (hc : c.toInt ≤ 40) : msk c (fun i => g (40 * k + i)) = msk c (fun i => f (40 * k + i)) := msk_eq (fun j w => z.2 _ (by omega))
theorem svC_sheet {h g : qm_H} {a b c : Int32} (hs : ∀ j : Nat, (h 37 j).toInt ≤ 40) (ok : (0 ≤ a.toInt ∧ a.toInt ≤ 3) ∧ (0 ≤ b.toInt ∧ b.toInt ≤ 2) ∧ 0 ≤ c.toInt ∧ c.toInt ≤ 40) (e7 : g 37 = upd (h 37) a.toInt.toNat c) (e6 : g 36 = upd (h 36) a.toInt.toNat b) (z : zrQ a.toInt.toNat c.toInt (h 35) (g 35)) : svC g = opSheet a b c (svC h) := by
  funext k
  unfold opSheet
  by_cases q : (k : Int) = a.toInt
  · have qn : k = a.toInt.toNat := by omega
    rw [if_pos ⟨ok, q⟩]
    unfold svC
    rw [e7, e6, qn, upd_same, upd_same, if_neg (by omega), zr_in z (Int.le_refl _)]
  · have qn : ¬ k = a.toInt.toNat := by omega
    rw [if_neg (fun w => q w.2)]
    unfold svC
    rw [e7, e6, upd_ne qn, upd_ne qn, zr_out z qn (hs k)]
theorem svR_sheet {h g : qm_H} {a b c : Int32} (hs : ∀ j : Nat, (h 49 j).toInt ≤ 40) (ok : (0 ≤ a.toInt ∧ a.toInt ≤ 3) ∧ (0 ≤ b.toInt ∧ b.toInt ≤ 2) ∧ 0 ≤ c.toInt ∧ c.toInt ≤ 40) (e7 : g 49 = upd (h 49) a.toInt.toNat c) (e6 : g 48 = upd (h 48) a.toInt.toNat b) (z : zrQ a.toInt.toNat 40 (h 50) (g 50)) : svR g = opSheet a b c (svR h) := by
  funext k
  unfold opSheet
  by_cases q : (k : Int) = a.toInt
  · have qn : k = a.toInt.toNat := by omega
    rw [if_pos ⟨ok, q⟩]
    unfold svR
    rw [e7, e6, qn, upd_same, upd_same, if_neg (by omega), zr_in z (by omega)]
  · have qn : ¬ k = a.toInt.toNat := by omega
    rw [if_neg (fun w => q w.2)]
    unfold svR
    rw [e7, e6, upd_ne qn, upd_ne qn, zr_out z qn (hs k)]
/-! lay -/
noncomputable def lowb (l v : Int32) : Int32 := if l.toInt = 0 then v.toInt8.toInt32 else if l.toInt = 1 then v.toInt16.toInt32 else v
noncomputable def opLay (a b c : Int32) (V : Nat → SH) : Nat → SH := fun k => if (k : Int) = a.toInt ∧ ¬ (V k).2.1.toInt = -4 ∧ 0 ≤ b.toInt ∧ b.toInt < (V k).2.1.toInt then ((V k).1, (V k).2.1, upd (V k).2.2 b.toInt.toNat (lowb (V k).1 c)) else V k
theorem lay_x {ix a k : Nat} {b : Int} {x : Int32} {c : Int32} {f : Nat → Int32} (hc : c.toInt ≤ 40) (hb : 0 ≤ b ∧ b < 40) (hi : (ix : Int) = 40 * (a : Int) + b) (hk : ¬ k = a) : msk c (fun i => upd f ix x (40 * k + i)) = msk c (fun i => f (40 * k + i)) := msk_eq (fun j w => upd_ne (by omega))
theorem lay_y {ix a : Nat} {b : Int} {x : Int32} {c : Int32} {f : Nat → Int32} (hb : 0 ≤ b ∧ b < c.toInt) (hi : (ix : Int) = 40 * (a : Int) + b) : msk c (fun i => upd f ix x (40 * a + i)) = upd (msk c (fun i => f (40 * a + i))) b.toNat x := by
  funext j
  by_cases q : j = b.toNat
  · rw [q, upd_same, msk_in (by omega)]
    show upd f ix x (40 * a + b.toNat) = x
    rw [show 40 * a + b.toNat = ix by omega, upd_same]
  · rw [upd_ne q]
    by_cases w : (j : Int) < c.toInt
    · rw [msk_in w, msk_in w]; exact upd_ne (by omega)
    · rw [msk_out w, msk_out w]
theorem svC_lay {h g : qm_H} {a b c : Int32} {ix : Nat} (hs : ∀ j : Nat, (h 37 j).toInt ≤ 40) (ha : 0 ≤ a.toInt ∧ a.toInt ≤ 3) (h4 : ¬ (h 37 a.toInt.toNat).toInt = -4) (hb : 0 ≤ b.toInt ∧ b.toInt < (h 37 a.toInt.toNat).toInt) (hi : (ix : Int) = 40 * a.toInt + b.toInt) (e7 : g 37 = h 37) (e6 : g 36 = h 36) (e5 : g 35 = upd (h 35) ix (lowb (h 36 a.toInt.toNat) c)) : svC g = opLay a b c (svC h) := by
  funext k
  have hsa := hs a.toInt.toNat
  by_cases q : (k : Int) = a.toInt
  · have qn : k = a.toInt.toNat := by omega
    have e : svC h k = (h 36 k, h 37 k, msk (h 37 k) (fun i => h 35 (40 * k + i))) := if_neg (by rw [qn]; exact h4)
    unfold opLay
    rw [e, if_pos ⟨q, by rw [qn]; exact h4, by rw [qn]; exact hb⟩]
    unfold svC
    rw [e7, e6, e5, if_neg (by rw [qn]; exact h4), qn, lay_y hb (by omega)]
  · have qn : ¬ k = a.toInt.toNat := by omega
    unfold opLay
    rw [if_neg (fun w => q w.1)]
    unfold svC
    rw [e7, e6, e5, lay_x (hs k) (by omega) (b := b.toInt) (a := a.toInt.toNat) (by omega) qn]
theorem svR_lay {h g : qm_H} {a b c : Int32} {ix : Nat} (hs : ∀ j : Nat, (h 49 j).toInt ≤ 40) (ha : 0 ≤ a.toInt ∧ a.toInt ≤ 3) (h4 : ¬ (h 48 a.toInt.toNat).toInt = -4) (h44 : ¬ (h 49 a.toInt.toNat).toInt = -4) (hb : 0 ≤ b.toInt ∧ b.toInt < (h 49 a.toInt.toNat).toInt) (hi : (ix : Int) = 40 * a.toInt + b.toInt) (e7 : g 49 = h 49) (e6 : g 48 = h 48) (e5 : g 50 = upd (h 50) ix (lowb (h 48 a.toInt.toNat) c)) : svR g = opLay a b c (svR h) := by
  funext k
  have hsa := hs a.toInt.toNat
  by_cases q : (k : Int) = a.toInt
  · have qn : k = a.toInt.toNat := by omega
    have e : svR h k = (h 48 k, h 49 k, msk (h 49 k) (fun i => h 50 (40 * k + i))) := if_neg (by rw [qn]; exact h4)
    unfold opLay
    rw [e, if_pos ⟨q, by rw [qn]; exact h44, by rw [qn]; exact hb⟩]
    unfold svR
    rw [e7, e6, e5, if_neg (by rw [qn]; exact h4), qn, lay_y hb (by omega)]
  · have qn : ¬ k = a.toInt.toNat := by omega
    unfold opLay
    rw [if_neg (fun w => q w.1)]
    unfold svR
    rw [e7, e6, e5, lay_x (hs k) (by omega) (b := b.toInt) (a := a.toInt.toNat) (by omega) qn]
theorem layC_no {h : qm_H} {a b c : Int32} (q : ¬ (0 ≤ a.toInt ∧ a.toInt ≤ 3) ∨ (h 37 a.toInt.toNat).toInt = -4 ∨ b.toInt < 0 ∨ (h 37 a.toInt.toNat).toInt ≤ b.toInt) : ∀ k : Nat, k < 4 → svC h k = opLay a b c (svC h) k := fun k hk => by
  unfold opLay
  by_cases w : (k : Int) = a.toInt ∧ ¬ (svC h k).2.1.toInt = -4 ∧ 0 ≤ b.toInt ∧ b.toInt < (svC h k).2.1.toInt
  · exfalso
    have qn : k = a.toInt.toNat := by omega
    rw [qn] at w
    by_cases z : (h 37 a.toInt.toNat).toInt = -4
    · have e : svC h a.toInt.toNat = noS := if_pos z
      rw [e] at w
      exact w.2.1 (by decide)
    · have e : svC h a.toInt.toNat = (h 36 a.toInt.toNat, h 37 a.toInt.toNat, msk (h 37 a.toInt.toNat) (fun i => h 35 (40 * a.toInt.toNat + i))) := if_neg z
      rw [e] at w
      have w3 : b.toInt < (h 37 a.toInt.toNat).toInt := w.2.2.2
      have w2 := w.2.2.1
      omega
  · rw [if_neg w]
theorem layR_no {h : qm_H} {a b c : Int32} (q : ¬ (0 ≤ a.toInt ∧ a.toInt ≤ 3) ∨ (h 48 a.toInt.toNat).toInt = -4 ∨ b.toInt < 0 ∨ (h 49 a.toInt.toNat).toInt ≤ b.toInt) : ∀ k : Nat, k < 4 → svR h k = opLay a b c (svR h) k := fun k hk => by
  unfold opLay
  by_cases w : (k : Int) = a.toInt ∧ ¬ (svR h k).2.1.toInt = -4 ∧ 0 ≤ b.toInt ∧ b.toInt < (svR h k).2.1.toInt
  · exfalso
    have qn : k = a.toInt.toNat := by omega
    rw [qn] at w
    by_cases z : (h 48 a.toInt.toNat).toInt = -4
    · have e : svR h a.toInt.toNat = noS := if_pos z
      rw [e] at w
      exact w.2.1 (by decide)
    · have e : svR h a.toInt.toNat = (h 48 a.toInt.toNat, h 49 a.toInt.toNat, msk (h 49 a.toInt.toNat) (fun i => h 50 (40 * a.toInt.toNat + i))) := if_neg z
      rw [e] at w
      have w3 : b.toInt < (h 49 a.toInt.toNat).toInt := w.2.2.2
      have w2 := w.2.2.1
      omega
  · rw [if_neg w]
/-! read -/
noncomputable def trM (T : Int32) (M : Mem) : Mem := mkM (clM M) T (dyM M) (snM M) (kdM M) (plM M) (paM M) (knM M) (spM M) (ssM M)
noncomputable def trS (S : SH) (b c : Int) (i : Nat) : Prop := (¬ S.2.1.toInt = -4 ∧ S.1.toInt = b) ∧ 0 ≤ c + 3 * (i : Int) ∧ c + 3 * (i : Int) + 2 < S.2.1.toInt
noncomputable def tcS (S : SH) (c : Int) (i j : Nat) : Int32 := S.2.2 ((c + 3 * (i : Int)).toNat + j)
noncomputable def rdL (S : SH) (b c : Int) (T : Int32) : Nat → Nat → Mem → Int × Mem
  | 0, _, M => ((thM M).toInt - T.toInt, M)
  | n + 1, i, M => @ite _ (trS S b c i) (Classical.propDecidable _) (if (opTie (tcS S c i 0) (tcS S c i 1) (tcS S c i 2) M).1 < 0 then (-20 - (i : Int), trM T M) else rdL S b c T n (i + 1) (opTie (tcS S c i 0) (tcS S c i 1) (tcS S c i 2) M).2) ((thM M).toInt - T.toInt, M)
theorem rdL_stop {S : SH} {b c : Int} {T : Int32} {n i : Nat} {M : Mem} (h : n = 0 ∨ ¬ trS S b c i) : rdL S b c T n i M = ((thM M).toInt - T.toInt, M) := by
  cases n with
  | zero => rfl
  | succ n =>
    unfold rdL
    rw [if_neg (h.resolve_left (by omega))]
theorem rdL_bad {S : SH} {b c : Int} {T : Int32} {n i : Nat} {M : Mem} (hn : 0 < n) (h : trS S b c i) (q : (opTie (tcS S c i 0) (tcS S c i 1) (tcS S c i 2) M).1 < 0) : rdL S b c T n i M = (-20 - (i : Int), trM T M) := by
  cases n with
  | zero => omega
  | succ n =>
    unfold rdL
    rw [if_pos h, if_pos q]
theorem rdL_go {S : SH} {b c : Int} {T : Int32} {n i : Nat} {M : Mem} (hn : 0 < n) (h : trS S b c i) (q : ¬ (opTie (tcS S c i 0) (tcS S c i 1) (tcS S c i 2) M).1 < 0) : rdL S b c T n i M = rdL S b c T (n - 1) (i + 1) (opTie (tcS S c i 0) (tcS S c i 1) (tcS S c i 2) M).2 := by
  cases n with
  | zero => omega
  | succ n =>
    conv => lhs; unfold rdL
    rw [if_pos h, if_neg q]
    rfl
noncomputable def opRead (a b c d : Int32) (V : Nat → SH) (M : Mem) : Int × Mem := if ¬ ((0 ≤ a.toInt ∧ a.toInt ≤ 3) ∧ (0 ≤ b.toInt ∧ b.toInt ≤ 2) ∧ 0 ≤ d.toInt ∧ d.toInt ≤ 10) then (-1, M) else rdL (V a.toInt.toNat) b.toInt c.toInt (thM M) d.toInt.toNat 0 M
theorem read_bad {a b c d : Int32} {V : Nat → SH} {M : Mem} (q : ¬ ((0 ≤ a.toInt ∧ a.toInt ≤ 3) ∧ (0 ≤ b.toInt ∧ b.toInt ≤ 2) ∧ 0 ≤ d.toInt ∧ d.toInt ≤ 10)) : opRead a b c d V M = (-1, M) := if_pos q
theorem read_ok {a b c d : Int32} {V : Nat → SH} {M : Mem} (q : (0 ≤ a.toInt ∧ a.toInt ≤ 3) ∧ (0 ≤ b.toInt ∧ b.toInt ≤ 2) ∧ 0 ≤ d.toInt ∧ d.toInt ≤ 10) : opRead a b c d V M = rdL (V a.toInt.toNat) b.toInt c.toInt (thM M) d.toInt.toNat 0 M := if_neg (fun z => z q)
theorem tie_th {a b c : Int32} {M : Mem} (h : 0 ≤ (thM M).toInt) : (thM M).toInt ≤ (thM (opTie a b c M).2).toInt ∧ ((opTie a b c M).1 < 0 → (opTie a b c M).2 = M) ∧ (¬ (opTie a b c M).1 < 0 → (thM (opTie a b c M).2).toInt = (thM M).toInt + 1 ∧ (thM M).toInt < 10) := by
  unfold opTie
  split
  · exact ⟨Int.le_refl _, fun _ => rfl, fun q => absurd (by decide : (-1 : Int) < 0) q⟩
  · split
    · exact ⟨Int.le_refl _, fun _ => rfl, fun q => absurd (by decide : (-3 : Int) < 0) q⟩
    · rename_i q
      have q2 : ¬ 10 ≤ (thM M).toInt := fun z => q (Or.inr z)
      have e := ti_addK (thM M) (1 : Int32) 1 rfl (by omega)
      have e2 : (thM (wTie M a b c)).toInt = (thM M + 1).toInt := rfl
      refine ⟨?_, fun w => ?_, fun _ => ⟨?_, by omega⟩⟩
      · show (thM M).toInt ≤ (thM (wTie M a b c)).toInt
        omega
      · exact absurd (show (thM M).toInt < 0 from w) (by omega)
      · show (thM (wTie M a b c)).toInt = (thM M).toInt + 1
        omega
theorem wf_tr {T : Int32} {M : Mem} (h : wfM M) (hT : 0 ≤ T.toInt ∧ T.toInt ≤ (thM M).toInt) : wfM (trM T M) := by
  obtain ⟨⟨h1, h2, h3, h4⟩, h5, h6, h7⟩ := h
  exact wf_mk ⟨h1, by omega, h3, h4⟩ h5 (fun j w => h6 j (by omega)) h7
theorem wf_rdL {S : SH} {b c : Int} {T : Int32} (hT : 0 ≤ T.toInt) : ∀ {n i : Nat} {M : Mem}, wfM M → T.toInt ≤ (thM M).toInt → wfM (rdL S b c T n i M).2
  | 0, _, _, h, _ => h
  | n + 1, i, M, h, ht => by
    have th := tie_th (a := tcS S c i 0) (b := tcS S c i 1) (c := tcS S c i 2) (M := M) h.1.2.1.1
    unfold rdL
    split
    · split
      · exact wf_tr h ⟨hT, ht⟩
      · exact wf_rdL hT (wf_tie h) (by omega)
    · exact h
theorem wf_read {a b c d : Int32} {V : Nat → SH} {M : Mem} (h : wfM M) : wfM (opRead a b c d V M).2 := by
  unfold opRead
  split
  · exact h
  · exact wf_rdL h.1.2.1.1 h (Int.le_refl _)
theorem ti_wrap (c x : Int32) (hx : 0 ≤ x.toInt ∧ x.toInt ≤ 100) : (c + x).toInt = c.toInt + x.toInt ∨ (2147483647 < c.toInt + x.toInt ∧ (c + x).toInt < -2147483000) := by
  have h1 := ti_rng c
  have e : (c + x).toInt = (c.toInt + x.toInt).bmod 4294967296 := Int32.toInt_add c x
  rw [e]
  by_cases q : c.toInt + x.toInt ≤ 2147483647
  · left
    unfold Int.bmod
    dsimp only
    split <;> omega
  · right
    refine ⟨by omega, ?_⟩
    unfold Int.bmod
    dsimp only
    split <;> omega
/-! ===== sheets: their rows; read of the class ===== -/
theorem low_0 {l v : Int32} (h : l.toInt = 0) : v.toInt8.toInt32 = lowb l v := (if_pos h).symm
theorem low_1 {l v : Int32} (h : l.toInt = 1) : v.toInt16.toInt32 = lowb l v := by
  unfold lowb
  rw [if_neg (by omega), if_pos h]
theorem low_2 {l v : Int32} (h0 : ¬ l.toInt = 0) (h1 : ¬ l.toInt = 1) : v = lowb l v := by
  unfold lowb
  rw [if_neg h0, if_neg h1]
theorem svC_is {h : qm_H} {k : Nat} (q : ¬ (h 37 k).toInt = -4) : svC h k = (h 36 k, h 37 k, msk (h 37 k) (fun i => h 35 (40 * k + i))) := if_neg q
theorem svR_is {h : qm_H} {k : Nat} (q : ¬ (h 48 k).toInt = -4) : svR h k = (h 48 k, h 49 k, msk (h 49 k) (fun i => h 50 (40 * k + i))) := if_neg q
theorem trS_no {b c : Int} {i : Nat} : ¬ trS noS b c i := fun q => q.1.1 (by decide)
theorem trC {h : qm_H} {k i : Nat} {b c : Int} : trS (svC h k) b c i ↔ (¬ (h 37 k).toInt = -4 ∧ (h 36 k).toInt = b) ∧ 0 ≤ c + 3 * (i : Int) ∧ c + 3 * (i : Int) + 2 < (h 37 k).toInt := by
  by_cases q : (h 37 k).toInt = -4
  · have e : svC h k = noS := if_pos q
    rw [e]
    exact ⟨fun w => absurd w trS_no, fun w => absurd q w.1.1⟩
  · rw [svC_is q]
    exact Iff.rfl
theorem trR {h : qm_H} {k i : Nat} {b c : Int} (h9 : 0 ≤ (h 49 k).toInt) : trS (svR h k) b c i ↔ (¬ (h 48 k).toInt = -4 ∧ (h 48 k).toInt = b) ∧ 0 ≤ c + 3 * (i : Int) ∧ c + 3 * (i : Int) + 2 < (h 49 k).toInt := by
  by_cases q : (h 48 k).toInt = -4
  · have e : svR h k = noS := if_pos q
    rw [e]
    exact ⟨fun w => absurd w trS_no, fun w => absurd q w.1.1⟩
  · rw [svR_is q]
    constructor
    · intro w; exact ⟨⟨q, w.1.2⟩, w.2⟩
    · intro w; exact ⟨⟨by show ¬ (h 49 k).toInt = -4; omega, w.1.2⟩, w.2⟩
theorem tcC {h : qm_H} {k i j : Nat} {b c : Int} (q : trS (svC h k) b c i) (hj : j ≤ 2) : tcS (svC h k) c i j = h 35 (40 * k + ((c + 3 * (i : Int)).toNat + j)) := by
  have w := trC.mp q
  unfold tcS
  rw [svC_is w.1.1]
  show msk (h 37 k) (fun i => h 35 (40 * k + i)) _ = _
  rw [msk_in (by omega)]
theorem tcR {h : qm_H} {k i j : Nat} {b c : Int} (h9 : 0 ≤ (h 49 k).toInt) (q : trS (svR h k) b c i) (hj : j ≤ 2) : tcS (svR h k) c i j = h 50 (40 * k + ((c + 3 * (i : Int)).toNat + j)) := by
  have w := (trR h9).mp q
  unfold tcS
  rw [svR_is w.1.1]
  show msk (h 49 k) (fun i => h 50 (40 * k + i)) _ = _
  rw [msk_in (by omega)]
/-- the loop of read: S the sheet, T the threads before, M0 the Memory before -/
noncomputable def rdJ (S : SH) (b c d : Int) (T : Int32) (M0 : Mem) (f i : Int) (M : Mem) : Prop := (f = 0 ∧ rdL S b c T (d - i).toNat i.toNat M = rdL S b c T d.toNat 0 M0) ∨ (¬ f = 0 ∧ ((thM M).toInt - T.toInt, M) = rdL S b c T d.toNat 0 M0)
theorem rdJ_0 {S : SH} {b c d : Int} {T : Int32} {M : Mem} {f i : Int} (hf : f = 0) (hi : i = 0) : rdJ S b c d T M f i M := Or.inl ⟨hf, by rw [hi, Int.sub_zero]; rfl⟩
theorem rdJ_x {S : SH} {b c d : Int} {T : Int32} {M : Mem} {f i : Int} (hf : ¬ f = 0) (hn : ¬ trS S b c 0) : rdJ S b c d T M f i M := Or.inr ⟨hf, (rdL_stop (Or.inr hn)).symm⟩
theorem rdJ_f {S : SH} {b c d : Int} {T : Int32} {M0 M : Mem} {f f2 i i2 : Int} (h : rdJ S b c d T M0 f i M) (hf : f = 0) (h2 : ¬ f2 = 0) (hn : ¬ trS S b c i.toNat) : rdJ S b c d T M0 f2 i2 M := by
  obtain q | q := h
  · exact Or.inr ⟨h2, by rw [← q.2, rdL_stop (Or.inr hn)]⟩
  · exact absurd hf q.1
theorem rdJ_y {S : SH} {b c d : Int} {T : Int32} {M0 M M2 : Mem} {f f2 i i2 : Int} (h : rdJ S b c d T M0 f i M) (hf : f = 0) (h2 : f2 = 0) (hi : 0 ≤ i ∧ i < d) (hi2 : i2 = i + 1) (ht : trS S b c i.toNat) (q : ¬ (opTie (tcS S c i.toNat 0) (tcS S c i.toNat 1) (tcS S c i.toNat 2) M).1 < 0) (e : M2 = (opTie (tcS S c i.toNat 0) (tcS S c i.toNat 1) (tcS S c i.toNat 2) M).2) : rdJ S b c d T M0 f2 i2 M2 := by
  obtain w | w := h
  · refine Or.inl ⟨h2, ?_⟩
    rw [← w.2, rdL_go (by omega) ht q, e, show (d - i2).toNat = (d - i).toNat - 1 by omega, show i2.toNat = i.toNat + 1 by omega]
  · exact absurd hf w.1
theorem rdJ_n {S : SH} {b c d : Int} {T : Int32} {M0 M : Mem} {f i : Int} (h : rdJ S b c d T M0 f i M) (hf : f = 0) (hi : 0 ≤ i ∧ i < d) (ht : trS S b c i.toNat) (q : (opTie (tcS S c i.toNat 0) (tcS S c i.toNat 1) (tcS S c i.toNat 2) M).1 < 0) : rdL S b c T d.toNat 0 M0 = (-20 - i, trM T M) := by
  obtain w | w := h
  · rw [← w.2, rdL_bad (by omega) ht q, show ((i.toNat : Nat) : Int) = i by omega]
  · exact absurd hf w.1
theorem rdJ_e {S : SH} {b c d : Int} {T : Int32} {M0 M : Mem} {f i : Int} (h : rdJ S b c d T M0 f i M) (hi : d ≤ i ∨ ¬ f = 0) : rdL S b c T d.toNat 0 M0 = ((thM M).toInt - T.toInt, M) := by
  obtain w | w := h
  · rw [← w.2]
    exact rdL_stop (Or.inl (by omega))
  · exact w.2.symm
theorem trM_mk {T cl th dy sn : Int32} {kd pl pa kn sp ss : Nat → Int32} (h : T.toInt ≤ th.toInt) : trM T (mkM cl th dy sn kd pl pa kn sp ss) = mkM cl T dy sn kd pl pa kn sp ss := mkM_eq (fun j w => msk_in w) (fun j w => ⟨msk_in (by omega), msk_in (by omega), msk_in (by omega)⟩) (fun j w => ⟨msk_in w, msk_in w⟩)
theorem trM_C {T : Int32} {g k : qm_H} (e1 : k 1 = upd (g 1) 7 T) (r : k 2 = g 2 ∧ k 3 = g 3 ∧ k 4 = g 4 ∧ k 5 = g 5 ∧ k 6 = g 6 ∧ k 7 = g 7) (h : T.toInt ≤ (g 1 7).toInt) : mC k = trM T (mC g) := by
  rw [show trM T (mC g) = _ from trM_mk h]
  unfold mC
  rw [e1, r.1, r.2.1, r.2.2.1, r.2.2.2.1, r.2.2.2.2.1, r.2.2.2.2.2]
  rfl
theorem trM_R {T : Int32} {g k : qm_H} (e3 : k 39 3 = g 39 3) (e : k 40 = upd (g 40) 4 T) (h : T.toInt ≤ (g 40 4).toInt) (hc : (g 39 3).toInt ≤ 4) : mR k = trM T (mR g) := by
  rw [show trM T (mR g) = _ from trM_mk h]
  unfold mR mG
  rw [e3, e, upd_same, upd_ne (show ¬ 5 = 4 by omega), upd_ne (show ¬ 36 = 4 by omega)]
  exact mkM_eq (fun j w => upd_ne (by omega)) (fun j w => ⟨upd_ne (by omega), upd_ne (by omega), upd_ne (by omega)⟩) (fun j w => ⟨upd_ne (by omega), upd_ne (by omega)⟩)
/-! read of the reference -/
noncomputable def rqI (a b c d : Int32) (f i w : Int) (h g : qm_H) : Prop := wfM (mR h) → wfM (mR g) ∧ ((h 40 4).toInt ≤ (g 40 4).toInt ∧ w = (g 40 4).toInt - (h 40 4).toInt) ∧ rdJ (svR h a.toInt.toNat) b.toInt c.toInt d.toInt (h 40 4) (mR h) f i (mR g)
theorem rq_0 {a b c d : Int32} {f i w : Int} {h : qm_H} (hf : f = 0) (hi : i = 0) (hw : w = 0) : rqI a b c d f i w h h := fun q => ⟨q, ⟨Int.le_refl _, by omega⟩, rdJ_0 hf hi⟩
theorem rq_z {a b c d : Int32} {f f2 i w : Int} {h g : qm_H} (q : rqI a b c d f i w h g) (hf : f = 0) (h2 : f2 = 0) : rqI a b c d f2 i w h g := by
  rw [h2, ← hf]; exact q
theorem rq_f {a b c d : Int32} {f f2 i i2 w : Int} {h g : qm_H} (q : rqI a b c d f i w h g) (hf : f = 0) (h2 : ¬ f2 = 0) (hn : ¬ trS (svR h a.toInt.toNat) b.toInt c.toInt i.toNat) : rqI a b c d f2 i2 w h g := fun hw => ⟨(q hw).1, (q hw).2.1, rdJ_f (q hw).2.2 hf h2 hn⟩
theorem rq_y {a b c d x y z : Int32} {f f2 i i2 w w2 r : Int} {h g k : qm_H} (q : rqI a b c d f i w h g) (hf : f = 0) (h2 : f2 = 0) (hi : 0 ≤ i ∧ i < d.toInt) (hi2 : i2 = i + 1) (ht : trS (svR h a.toInt.toNat) b.toInt c.toInt i.toNat) (hx : x = tcS (svR h a.toInt.toNat) c.toInt i.toNat 0) (hy : y = tcS (svR h a.toInt.toNat) c.toInt i.toNat 1) (hz : z = tcS (svR h a.toInt.toNat) c.toInt i.toNat 2) (p : wfM (mR g) → r = (opTie x y z (mR g)).1 ∧ mR k = (opTie x y z (mR g)).2) (hr : 0 ≤ r) (hw2 : -100 ≤ w → w ≤ 100 → w2 = w + 1) : rqI a b c d f2 i2 w2 h k := fun hw => by
  obtain ⟨q1, ⟨q2, q3⟩, q4⟩ := q hw
  have p := p q1
  rw [hx, hy, hz] at p
  have th := tie_th (a := tcS (svR h a.toInt.toNat) c.toInt i.toNat 0) (b := tcS (svR h a.toInt.toNat) c.toInt i.toNat 1) (c := tcS (svR h a.toInt.toNat) c.toInt i.toNat 2) (M := mR g) q1.1.2.1.1
  have nn : ¬ (opTie (tcS (svR h a.toInt.toNat) c.toInt i.toNat 0) (tcS (svR h a.toInt.toNat) c.toInt i.toNat 1) (tcS (svR h a.toInt.toNat) c.toInt i.toNat 2) (mR g)).1 < 0 := by omega
  have t2 := (th.2.2 nn).1
  have b1 : 0 ≤ (g 40 4).toInt ∧ (g 40 4).toInt ≤ 10 := q1.1.2.1
  have b2 : 0 ≤ (h 40 4).toInt ∧ (h 40 4).toInt ≤ 10 := hw.1.2.1
  have hw2 := hw2 (by omega) (by omega)
  have ek : (k 40 4).toInt = (thM (opTie (tcS (svR h a.toInt.toNat) c.toInt i.toNat 0) (tcS (svR h a.toInt.toNat) c.toInt i.toNat 1) (tcS (svR h a.toInt.toNat) c.toInt i.toNat 2) (mR g)).2).toInt := congrArg (fun M : Mem => (thM M).toInt) p.2
  have eg : (thM (mR g)).toInt = (g 40 4).toInt := rfl
  refine ⟨by rw [p.2]; exact wf_tie q1, ⟨by omega, by omega⟩, rdJ_y q4 hf h2 hi hi2 ht nn p.2⟩
theorem rq_n {a b c d x y z : Int32} {f i w r : Int} {h g k : qm_H} (q : rqI a b c d f i w h g) (hf : f = 0) (hi : 0 ≤ i ∧ i < d.toInt) (ht : trS (svR h a.toInt.toNat) b.toInt c.toInt i.toNat) (hx : x = tcS (svR h a.toInt.toNat) c.toInt i.toNat 0) (hy : y = tcS (svR h a.toInt.toNat) c.toInt i.toNat 1) (hz : z = tcS (svR h a.toInt.toNat) c.toInt i.toNat 2) (p : wfM (mR g) → r = (opTie x y z (mR g)).1 ∧ mR k = (opTie x y z (mR g)).2) (hr : r < 0) (hw : wfM (mR h)) : rdL (svR h a.toInt.toNat) b.toInt c.toInt (h 40 4) d.toInt.toNat 0 (mR h) = (-20 - i, trM (h 40 4) (mR k)) ∧ (h 40 4).toInt ≤ (k 40 4).toInt := by
  obtain ⟨q1, ⟨q2, q3⟩, q4⟩ := q hw
  have p := p q1
  rw [hx, hy, hz] at p
  have th := tie_th (a := tcS (svR h a.toInt.toNat) c.toInt i.toNat 0) (b := tcS (svR h a.toInt.toNat) c.toInt i.toNat 1) (c := tcS (svR h a.toInt.toNat) c.toInt i.toNat 2) (M := mR g) q1.1.2.1.1
  have e := th.2.1 (by omega)
  have ek : (k 40 4).toInt = (thM (opTie (tcS (svR h a.toInt.toNat) c.toInt i.toNat 0) (tcS (svR h a.toInt.toNat) c.toInt i.toNat 1) (tcS (svR h a.toInt.toNat) c.toInt i.toNat 2) (mR g)).2).toInt := congrArg (fun M : Mem => (thM M).toInt) p.2
  have eg : (thM (mR g)).toInt = (g 40 4).toInt := rfl
  refine ⟨?_, by omega⟩
  rw [p.2, e]
  exact rdJ_n q4 hf hi ht (by omega)
theorem rq_e {a b c d : Int32} {f i w : Int} {h g : qm_H} (q : rqI a b c d f i w h g) (hi : d.toInt ≤ i ∨ ¬ f = 0) (hw : wfM (mR h)) : rdL (svR h a.toInt.toNat) b.toInt c.toInt (h 40 4) d.toInt.toNat 0 (mR h) = (w, mR g) := by
  obtain ⟨q1, ⟨q2, q3⟩, q4⟩ := q hw
  rw [rdJ_e q4 hi, q3]
  rfl
theorem trz_of {h : qm_H} {k i : Nat} {b c : Int} (h9 : 0 ≤ (h 49 k).toInt) (w : (¬ (h 48 k).toInt = -4 ∧ (h 48 k).toInt = b) ∧ 0 ≤ c + 3 * (i : Int) ∧ c + 3 * (i : Int) + 2 < (h 49 k).toInt) : trS (svR h k) b c i := (trR h9).mpr w
theorem rq_cells {h g : qm_H} {a c l : Int32} {b : Int} (v50 : g 50 = h 50) (hz : 0 ≤ (h 49 a.toInt.toNat).toInt ∧ (h 49 a.toInt.toNat).toInt ≤ 40) (ha : 0 ≤ a.toInt ∧ a.toInt ≤ 3) (hl : 0 ≤ l.toInt ∧ l.toInt ≤ 9) (w : (¬ (h 48 a.toInt.toNat).toInt = -4 ∧ (h 48 a.toInt.toNat).toInt = b) ∧ 0 ≤ c.toInt + 3 * l.toInt ∧ c.toInt + 3 * l.toInt + 2 < (h 49 a.toInt.toNat).toInt) : trS (svR h a.toInt.toNat) b c.toInt l.toInt.toNat ∧ (g 50 (((40 * a) + c) + (3 * l)).toInt.toNat) = tcS (svR h a.toInt.toNat) c.toInt l.toInt.toNat 0 ∧ (g 50 ((((40 * a) + c) + (3 * l)) + 1).toInt.toNat) = tcS (svR h a.toInt.toNat) c.toInt l.toInt.toNat 1 ∧ (g 50 ((((40 * a) + c) + (3 * l)) + 2).toInt.toNat) = tcS (svR h a.toInt.toNat) c.toInt l.toInt.toNat 2 := by
  have ht : trS (svR h a.toInt.toNat) b c.toInt l.toInt.toNat := trz_of hz.1 ⟨w.1, by omega, by omega⟩
  have q1 := ti_mulL (40 : Int32) 40 rfl a (by omega)
  have q0 := ti_mulL (3 : Int32) 3 rfl l (by omega)
  have q2 := ti_add (40 * a) c (by omega)
  have q3 := ti_add ((40 * a) + c) (3 * l) (by omega)
  have q4 := ti_addK (((40 * a) + c) + (3 * l)) (1 : Int32) 1 rfl (by omega)
  have q5 := ti_addK (((40 * a) + c) + (3 * l)) (2 : Int32) 2 rfl (by omega)
  refine ⟨ht, ?_, ?_, ?_⟩
  · rw [tcR hz.1 ht (show 0 ≤ 2 by omega), v50, show 40 * a.toInt.toNat + ((c.toInt + 3 * ((l.toInt.toNat : Nat) : Int)).toNat + 0) = (((40 * a) + c) + (3 * l)).toInt.toNat by omega]
  · rw [tcR hz.1 ht (show 1 ≤ 2 by omega), v50, show 40 * a.toInt.toNat + ((c.toInt + 3 * ((l.toInt.toNat : Nat) : Int)).toNat + 1) = ((((40 * a) + c) + (3 * l)) + 1).toInt.toNat by omega]
  · rw [tcR hz.1 ht (show 2 ≤ 2 by omega), v50, show 40 * a.toInt.toNat + ((c.toInt + 3 * ((l.toInt.toNat : Nat) : Int)).toNat + 2) = ((((40 * a) + c) + (3 * l)) + 2).toInt.toNat by omega]
