-- ThreadBankModel.allOwed()I
set_option maxRecDepth 100000 in
set_option maxHeartbeats 4000000 in
theorem ty_183_c (X : qm_X) (h : qm_H) (hp : owb (h 45) 90) (Q : qm_Q) (hq : ∀ r : Int32, (r.toInt = all45 (h 45) 16) → Q (some (.int r)) h) : ∀ n : Nat, (∀ (l1 : Int32) (l2 : Int32), ((0 ≤ l2.toInt ∧ l2.toInt ≤ 16) ∧ l1.toInt = all45 (h 45) l2.toInt.toNat) → (16 - l2.toInt).toNat < n → qm_PA X 183 4 [(0, .ref 39), (1, .int l1), (2, .int l2)] [] h Q) := by
  have hp0 : owb (h 45) 90 := hp
  intro n
  induction n with
  | zero => exact fun _ _ _ h0 => absurd h0 (Nat.not_lt_zero _)
  | succ n ih =>
    intro l1 l2 hi hr
    have ti_l2 := ti_rng l2
    have hr9 := all45_rng (f := h 45) (m := l2.toInt.toNat) hp0 (by omega)
    refine qm_seg_ok (C := qc_183) (rt := some .int) rfl rfl (cuts := [(4, [0, 1, 2])]) 400 _ _ _ _ ?_
    show (16 ≤ l2.toInt → (Q (some (.int l1)) h)) ∧ (l2.toInt < 16 → ((0 ≤ l2.toInt ∧ l2.toInt < 16) ∧ (qm_PA X 183 4 [(0, .ref 39), (1, .int (l1 + (h 45 l2.toInt.toNat))), (2, .int (l2 + 1))] [] h Q)))
    refine ⟨fun c1 => ?_, fun c2 => ?_⟩
    · exact hq l1 (by show l1.toInt = all45 (h 45) 16; have hi2 := hi.2; rw [show l2.toInt.toNat = 16 by omega] at hi2; exact hi2)
    · refine ⟨(by omega), ?_⟩
      exact ih (l1 + (h 45 l2.toInt.toNat)) (l2 + 1) (by have := ti_addK l2 (1 : Int32) 1 rfl; have := ti_add l1 (h 45 l2.toInt.toNat); have b1 := hp0 l2.toInt.toNat (by omega); have q6 := ti_add l1 (h 45 l2.toInt.toNat) (by omega); exact ⟨by omega, by rw [show (l2 + 1).toInt.toNat = l2.toInt.toNat + 1 by omega]; show _ = all45 (h 45) l2.toInt.toNat + (h 45 l2.toInt.toNat).toInt; omega⟩) (by have := ti_addK l2 (1 : Int32) 1 rfl; omega)
set_option maxRecDepth 100000 in
set_option maxHeartbeats 4000000 in
theorem ty_183 (X : qm_X) (h : qm_H) (hp : owb (h 45) 90) (Q : qm_Q) (hq : ∀ r : Int32, (r.toInt = all45 (h 45) 16) → Q (some (.int r)) h) : qm_PW X 183 [.ref 39] h Q := by
  have hp0 : owb (h 45) 90 := hp
  refine qm_seg_ok (C := qc_183) (rt := some .int) rfl rfl (cuts := [(4, [0, 1, 2])]) 400 _ _ _ _ ?_
  show qm_PA X 183 4 [(0, .ref 39), (1, .int 0), (2, .int 0)] [] h Q
  exact (ty_183_c X h hp Q hq _) (0 : Int32) (0 : Int32) (by have : (0 : Int32).toInt = 0 := rfl; exact ⟨by have : (0 : Int32).toInt = 0 := rfl; omega, rfl⟩) (Nat.lt_succ_self _)
-- ThreadBankModel.startsOwed()V
set_option maxRecDepth 100000 in
set_option maxHeartbeats 4000000 in
theorem ty_202 (X : qm_X) (h : qm_H) (hp : mi h ∧ sm h ∧ zs h ∧ rw_ h) (Q : qm_Q) (hq : ∀ h' : qm_H, (mi h' ∧ sm h' ∧ zs h' ∧ rw_ h' ∧ (∀ k, (k < 41 ∨ 45 < k ∨ k = 42 ∨ k = 43 ∨ k = 44) → h' k = h k) ∧ ((∀ j : Nat, j < 49 → (h' 41) j = (h 40) j) ∧ owI (fun t => (h 40 (6 + 3 * t))) (fun t => (h 40 (7 + 3 * t))) (fun t => (h 40 (8 + 3 * t))) 9 (h 40 4).toInt.toNat (h' 45))) → Q none h') : qm_PW X 202 [.ref 39] h Q := by
  have hmmi : mi h := hp.1
  have ⟨⟨_, _⟩, ⟨_, _⟩, ⟨_, _⟩, ⟨_, _⟩, _, _⟩ := hmmi
  have hmsm : sm h := hp.2.1
  have ⟨⟨⟨_, _⟩, _, _⟩, _, _, _⟩ := hmsm
  have hmzs : zs h := hp.2.2.1
  have hmrw : rw_ h := hp.2.2.2
  refine qm_seg_ok (C := qc_202) (rt := none) rfl rfl (cuts := []) 400 _ _ _ _ ?_
  show qm_PW X 169 [.ref 39] h _
  refine sf_169_39 X h  hmsm _ (fun g1 p2 => ?_)
  obtain ⟨p2_0, p2_1, p2_2⟩ := p2
  have f3 : ∀ k, (k < 41 ∨ 45 < k ∨ k = 42 ∨ k = 43 ∨ k = 44) → g1 k = h k := fun k hk => (p2_1 k (by omega)).trans (rfl)
  have k4 : mi g1 := by unfold mi; rw [p2_1 39 (by omega)]; exact hmmi
  have k5 : sm g1 := by unfold sm; rw [p2_1 40 (by omega)]; exact hmsm
  have k6 : zs g1 := by unfold zs; rw [p2_1 49 (by omega)]; exact hmzs
  have k7 : rw_ g1 := by unfold rw_; rw [p2_1 46 (by omega)]; exact hmrw
  have o8 : (∀ j : Nat, j < 49 → g1 41 j = h 40 j) := p2_2
  clear p2_2
  have w39_g1 : g1 39 = h 39 := (p2_1 39 (by omega))
  have w40_g1 : g1 40 = h 40 := (p2_1 40 (by omega))
  have sA_g1 : ∀ j : Nat, j < 49 → g1 41 j = h 40 j := o8
  have s4_g1 : (g1 41 4).toInt = (h 40 4).toInt := congrArg Int32.toInt (sA_g1 4 (by decide))
  show qm_PW X 180 [.ref 39, .int 9] g1 _
  refine ty_180 X g1 (9 : Int32) p2_0 _ (fun g9 p10 => ?_)
  obtain ⟨p10_0, p10_1⟩ := p10
  have f11 : ∀ k, (k < 41 ∨ 45 < k ∨ k = 42 ∨ k = 43 ∨ k = 44) → g9 k = h k := fun k hk => (p10_0 k (by omega)).trans (f3 k hk)
  have k12 : mi g9 := by unfold mi; rw [p10_0 39 (by omega)]; exact k4
  have k13 : sm g9 := by unfold sm; rw [p10_0 40 (by omega)]; exact k5
  have k14 : zs g9 := by unfold zs; rw [p10_0 49 (by omega)]; exact k6
  have k15 : rw_ g9 := by unfold rw_; rw [p10_0 46 (by omega)]; exact k7
  have k16 : am g9 := by unfold am; rw [p10_0 41 (by omega)]; exact p2_0
  have o17 : owI (fun t => (g1 41 (6 + 3 * t))) (fun t => (g1 41 (7 + 3 * t))) (fun t => (g1 41 (8 + 3 * t))) (9 : Int32).toInt (g1 41 4).toInt.toNat (g9 45) := p10_1
  clear p10_1
  have w39_g9 : g9 39 = h 39 := (p10_0 39 (by omega)).trans w39_g1
  have w40_g9 : g9 40 = h 40 := (p10_0 40 (by omega)).trans w40_g1
  have ow_g9 : owI (fun t => h 40 (6 + 3 * t)) (fun t => h 40 (7 + 3 * t)) (fun t => h 40 (8 + 3 * t)) (9 : Int32).toInt (h 40 4).toInt.toNat (g9 45) := owI_41 sA_g1 (by omega) (by have z := o17; rw [show (g1 41 4) = h 40 4 from sA_g1 4 (by decide)] at z; exact z)
  have owb_g9 : owb (g9 45) 90 := owI_b ow_g9 (by omega) (fun j q => by have z := hmsm.2.1.2.2.2.2.2 j (by omega); rw [Nat.zero_add] at z; exact z)
  have sB_g9 : ∀ j : Nat, j < 49 → g9 41 j = h 40 j := fun j hj => by rw [show g9 41 = g1 41 from p10_0 41 (by omega)]; exact sA_g1 j hj
  show Q none g9
  exact hq g9 ⟨k12, k13, k14, k15, (fun k hk => f11 k hk), (by have : (9 : Int32).toInt = 9 := rfl; show (∀ j : Nat, j < 49 → (g9 41) j = (h 40) j) ∧ owI (fun t => (h 40 (6 + 3 * t))) (fun t => (h 40 (7 + 3 * t))) (fun t => (h 40 (8 + 3 * t))) 9 (h 40 4).toInt.toNat (g9 45); exact ⟨sB_g9, ow_g9⟩)⟩
