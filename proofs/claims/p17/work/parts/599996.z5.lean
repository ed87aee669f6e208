-- ThreadBankModel.sum(I)I
set_option maxRecDepth 100000 in
set_option maxHeartbeats 4000000 in
theorem ty_197_c (X : qm_X) (h : qm_H) (a : Int32) (hp : mi h ∧ sm h ∧ zs h ∧ rw_ h) (Q : qm_Q) (hq : ∀ r : Int32, ∀ h' : qm_H, (mi h' ∧ sm h' ∧ zs h' ∧ rw_ h' ∧ (∀ k, (k < 41 ∨ 45 < k ∨ k = 42 ∨ k = 43 ∨ k = 44) → h' k = h k) ∧ (wfM (mR h) → r.toInt = qSum a.toInt (mR h))) → Q (some (.int r)) h') : ∀ n : Nat, (∀ (l2 : Int32) (l3 : Int32) (g : qm_H), ((((0 ≤ l3.toInt ∧ l3.toInt ≤ (h 39 3).toInt) ∧ 0 ≤ a.toInt ∧ a.toInt ≤ 2) ∧ l2.toInt = np45 (g 45) l3.toInt.toNat ∧ owI (fun t => h 40 (6 + 3 * t)) (fun t => h 40 (7 + 3 * t)) (fun t => h 40 (8 + 3 * t)) (dSm a.toInt (h 40 5).toInt) (h 40 4).toInt.toNat (g 45)) ∧ mi g ∧ sm g ∧ zs g ∧ rw_ g ∧ am g ∧ ∀ k, (k < 41 ∨ 45 < k ∨ k = 42 ∨ k = 43 ∨ k = 44) → g k = h k) → (4 - l3.toInt).toNat < n → qm_PA X 197 42 [(0, .ref 39), (1, .int a), (2, .int l2), (3, .int l3)] [] g Q) := by
  have hmmi : mi h := hp.1
  have ⟨⟨_, _⟩, ⟨_, _⟩, ⟨_, _⟩, ⟨_, _⟩, _, _⟩ := hmmi
  have hmsm : sm h := hp.2.1
  have ⟨⟨⟨_, _⟩, _, _⟩, _, _, _⟩ := hmsm
  have hmzs : zs h := hp.2.2.1
  have hmrw : rw_ h := hp.2.2.2
  intro n
  induction n with
  | zero => exact fun _ _ _ _ h0 => absurd h0 (Nat.not_lt_zero _)
  | succ n ih =>
    intro l2 l3 g hi hr
    obtain ⟨hi0, hgmi, hgsm, hgzs, hgrw, hgam, hgf⟩ := hi
    have ⟨⟨_, _⟩, ⟨_, _⟩, ⟨_, _⟩, ⟨_, _⟩, _, _⟩ := hgmi
    have ⟨⟨⟨_, _⟩, _, _⟩, _, _, _⟩ := hgsm
    have ⟨⟨_, _⟩, ⟨_, _⟩, _, _, _⟩ := hgam
    have ti_l3 := ti_rng l3
    have owb_g : owb (g 45) 90 := owI_b hi0.2.2 (by omega) (fun j q => by have z := hmsm.2.1.2.2.2.2.2 j (by omega); rw [Nat.zero_add] at z; exact z)
    have hr9 := np45_rng (f := g 45) (m := l3.toInt.toNat) owb_g (by omega)
    have w39_g : g 39 = h 39 := hgf 39 (by omega)
    have e3_g : (g 39 3).toInt = (h 39 3).toInt := by rw [w39_g]
    refine qm_seg_ok (C := qc_197) (rt := some .int) rfl rfl (cuts := [(42, [0, 1, 2, 3])]) 400 _ _ _ _ ?_
    show ((g 39 3).toInt ≤ l3.toInt → ((¬ a = 2 → (qm_PW X 183 [.ref 39] g _)) ∧ (a = 2 → (Q (some (.int l2)) g)))) ∧ (l3.toInt < (g 39 3).toInt → (qm_PW X 182 [.ref 39, .int l3] g _))
    refine ⟨fun c1 => ?_, fun c2 => ?_⟩
    · refine ⟨fun c3 => ?_, fun c4 => ?_⟩
      · have := ti_neK 2 rfl c3
        refine ty_183 X g  owb_g _ (fun r5 p6 => ?_)
        have o7 : r5.toInt = all45 (g 45) 16 := p6
        clear p6
        show Q (some (.int r5)) g
        exact hq r5 g ⟨hgmi, hgsm, hgzs, hgrw, (fun k hk => hgf k hk), (by have ⟨⟨_, _⟩, ⟨_, _⟩, ⟨_, _⟩, ⟨_, _⟩, _, _⟩ := hmmi; have := hmsm.1; have ⟨⟨_, _⟩, ⟨_, _⟩, ⟨_, _⟩, ⟨_, _⟩, _, _⟩ := hgmi; show wfM (mR h) → r5.toInt = qSum a.toInt (mR h); have ec : l3.toInt.toNat = (h 39 3).toInt.toNat := (by omega); have hO := hi0.2.2; exact fun hw => (o7.trans (owI_all hO (cl := (h 39 3).toInt.toNat) (by omega) (wf_pa hw))).trans (show qSum a.toInt (mR h) = _ from sum_01 (dSm_c (by omega))).symm)⟩
      · have := ti_eqK 2 rfl c4
        exact hq l2 g ⟨hgmi, hgsm, hgzs, hgrw, (fun k hk => hgf k hk), (by have ⟨⟨_, _⟩, ⟨_, _⟩, ⟨_, _⟩, ⟨_, _⟩, _, _⟩ := hmmi; have := hmsm.1; have ⟨⟨_, _⟩, ⟨_, _⟩, ⟨_, _⟩, ⟨_, _⟩, _, _⟩ := hgmi; show wfM (mR h) → l2.toInt = qSum a.toInt (mR h); have ec : l3.toInt.toNat = (h 39 3).toInt.toNat := (by omega); have hO := hi0.2.2; have hN := hi0.2.1; rw [ec] at hN; rw [show dSm a.toInt (h 40 5).toInt = 9 from dSm_9 (by omega)] at hO; exact fun hw => (hN.trans (owI_np hO (by omega) (wf_pa hw))).trans (show qSum a.toInt (mR h) = _ from sum_2 (by omega)).symm)⟩
    · refine ty_182 X g l3 ⟨(by have ⟨⟨_, _⟩, ⟨_, _⟩, ⟨_, _⟩, ⟨_, _⟩, _, _⟩ := hmmi; have := hmsm.1; have ⟨⟨_, _⟩, ⟨_, _⟩, ⟨_, _⟩, ⟨_, _⟩, _, _⟩ := hgmi; omega), owb_g⟩ _ (fun r8 p9 => ?_)
      have o10 : r8.toInt = nt45 (g 45) l3.toInt.toNat 4 ∧ (-360 ≤ r8.toInt ∧ r8.toInt ≤ 360) := p9
      clear p9
      show (r8.toInt ≤ 0 → (qm_PA X 197 42 [(0, .ref 39), (1, .int a), (2, .int (l2 + 0)), (3, .int (l3 + 1))] [] g Q)) ∧ (0 < r8.toInt → (qm_PW X 182 [.ref 39, .int l3] g _))
      refine ⟨fun c11 => ?_, fun c12 => ?_⟩
      · exact ih (l2 + 0) (l3 + 1) g ⟨(by have := ti_addK l3 (1 : Int32) 1 rfl; have := ti_addK l2 (0 : Int32) 0 rfl; have ⟨⟨_, _⟩, ⟨_, _⟩, ⟨_, _⟩, ⟨_, _⟩, _, _⟩ := hmmi; have := hmsm.1; have ⟨⟨_, _⟩, ⟨_, _⟩, ⟨_, _⟩, ⟨_, _⟩, _, _⟩ := hgmi; show ((0 ≤ (l3 + 1).toInt ∧ (l3 + 1).toInt ≤ (h 39 3).toInt) ∧ 0 ≤ a.toInt ∧ a.toInt ≤ 2) ∧ (l2 + 0).toInt = np45 (g 45) (l3 + 1).toInt.toNat ∧ owI (fun t => h 40 (6 + 3 * t)) (fun t => h 40 (7 + 3 * t)) (fun t => h 40 (8 + 3 * t)) (dSm a.toInt (h 40 5).toInt) (h 40 4).toInt.toNat (g 45); have oy9 := o10.1; have h00 : (0 : Int32).toInt = 0 := rfl; have hm : (0 : Int32).toInt = mx0 (nt45 (g 45) l3.toInt.toNat 4) := (by rw [← oy9]; unfold mx0; split <;> omega); exact ⟨by omega, by rw [show (l3 + 1).toInt.toNat = l3.toInt.toNat + 1 by omega]; show _ = np45 (g 45) l3.toInt.toNat + mx0 (nt45 (g 45) l3.toInt.toNat 4); omega, hi0.2.2⟩), hgmi, hgsm, hgzs, hgrw, hgam, (fun k hk => hgf k hk)⟩ (by have := ti_addK l3 (1 : Int32) 1 rfl; have ⟨⟨_, _⟩, ⟨_, _⟩, ⟨_, _⟩, ⟨_, _⟩, _, _⟩ := hmmi; have := hmsm.1; have ⟨⟨_, _⟩, ⟨_, _⟩, ⟨_, _⟩, ⟨_, _⟩, _, _⟩ := hgmi; show (4 - (l3 + 1).toInt).toNat < n; omega)
      · refine ty_182 X g l3 ⟨(by have ⟨⟨_, _⟩, ⟨_, _⟩, ⟨_, _⟩, ⟨_, _⟩, _, _⟩ := hmmi; have := hmsm.1; have ⟨⟨_, _⟩, ⟨_, _⟩, ⟨_, _⟩, ⟨_, _⟩, _, _⟩ := hgmi; omega), owb_g⟩ _ (fun r13 p14 => ?_)
        have o15 : r13.toInt = nt45 (g 45) l3.toInt.toNat 4 ∧ (-360 ≤ r13.toInt ∧ r13.toInt ≤ 360) := p14
        clear p14
        show qm_PA X 197 42 [(0, .ref 39), (1, .int a), (2, .int (l2 + r13)), (3, .int (l3 + 1))] [] g Q
        exact ih (l2 + r13) (l3 + 1) g ⟨(by have := ti_addK l3 (1 : Int32) 1 rfl; have := ti_add l2 r13; have ⟨⟨_, _⟩, ⟨_, _⟩, ⟨_, _⟩, ⟨_, _⟩, _, _⟩ := hmmi; have := hmsm.1; have ⟨⟨_, _⟩, ⟨_, _⟩, ⟨_, _⟩, ⟨_, _⟩, _, _⟩ := hgmi; show ((0 ≤ (l3 + 1).toInt ∧ (l3 + 1).toInt ≤ (h 39 3).toInt) ∧ 0 ≤ a.toInt ∧ a.toInt ≤ 2) ∧ (l2 + r13).toInt = np45 (g 45) (l3 + 1).toInt.toNat ∧ owI (fun t => h 40 (6 + 3 * t)) (fun t => h 40 (7 + 3 * t)) (fun t => h 40 (8 + 3 * t)) (dSm a.toInt (h 40 5).toInt) (h 40 4).toInt.toNat (g 45); have oy9 := o10.1; have oy8 := o15.1; have hm : r13.toInt = mx0 (nt45 (g 45) l3.toInt.toNat 4) := (by rw [← oy9]; unfold mx0; split <;> omega); exact ⟨by omega, by rw [show (l3 + 1).toInt.toNat = l3.toInt.toNat + 1 by omega]; show _ = np45 (g 45) l3.toInt.toNat + mx0 (nt45 (g 45) l3.toInt.toNat 4); omega, hi0.2.2⟩), hgmi, hgsm, hgzs, hgrw, hgam, (fun k hk => hgf k hk)⟩ (by have := ti_addK l3 (1 : Int32) 1 rfl; have ⟨⟨_, _⟩, ⟨_, _⟩, ⟨_, _⟩, ⟨_, _⟩, _, _⟩ := hmmi; have := hmsm.1; have ⟨⟨_, _⟩, ⟨_, _⟩, ⟨_, _⟩, ⟨_, _⟩, _, _⟩ := hgmi; show (4 - (l3 + 1).toInt).toNat < n; omega)
set_option maxRecDepth 100000 in
set_option maxHeartbeats 4000000 in
theorem ty_197 (X : qm_X) (h : qm_H) (a : Int32) (hp : mi h ∧ sm h ∧ zs h ∧ rw_ h) (Q : qm_Q) (hq : ∀ r : Int32, ∀ h' : qm_H, (mi h' ∧ sm h' ∧ zs h' ∧ rw_ h' ∧ (∀ k, (k < 41 ∨ 45 < k ∨ k = 42 ∨ k = 43 ∨ k = 44) → h' k = h k) ∧ (wfM (mR h) → r.toInt = qSum a.toInt (mR h))) → Q (some (.int r)) h') : qm_PW X 197 [.ref 39, .int a] h Q := by
  have hmmi : mi h := hp.1
  have ⟨⟨_, _⟩, ⟨_, _⟩, ⟨_, _⟩, ⟨_, _⟩, _, _⟩ := hmmi
  have hmsm : sm h := hp.2.1
  have ⟨⟨⟨_, _⟩, _, _⟩, _, _, _⟩ := hmsm
  have hmzs : zs h := hp.2.2.1
  have hmrw : rw_ h := hp.2.2.2
  refine qm_seg_ok (C := qc_197) (rt := some .int) rfl rfl (cuts := [(42, [0, 1, 2, 3])]) 400 _ _ _ _ ?_
  show qm_PW X 141 [.long (Int32.toInt64 a), .long 0, .long 2] h _
  refine sf_141 X h ((Int32.toInt64 a) : Int64) (0 : Int64) (2 : Int64) trivial _ (fun r1 p2 => ?_)
  have o3 : ¬ r1.toInt = 0 → (0 : Int64).toInt ≤ (Int32.toInt64 a).toInt ∧ (Int32.toInt64 a).toInt ≤ (2 : Int64).toInt := fun hc => p2.2.1 (fun e => hc (ti_eqK 0 rfl e))
  have o4 : r1.toInt = 0 → (Int32.toInt64 a).toInt < (0 : Int64).toInt ∨ (2 : Int64).toInt < (Int32.toInt64 a).toInt := fun hc => p2.2.2 (Int32.toInt_inj.mp hc)
  show (¬ r1 = 0 → (qm_PW X 169 [.ref 39] h _)) ∧ (r1 = 0 → (Q (some (.int (-1 : Int32))) h))
  refine ⟨fun c5 => ?_, fun c6 => ?_⟩
  · have := p2.2.1 c5
    have := ti_neK 0 rfl c5
    refine sf_169_39 X h  hmsm _ (fun g7 p8 => ?_)
    obtain ⟨p8_0, p8_1, p8_2⟩ := p8
    have f9 : ∀ k, (k < 41 ∨ 45 < k ∨ k = 42 ∨ k = 43 ∨ k = 44) → g7 k = h k := fun k hk => (p8_1 k (by omega)).trans (rfl)
    have k10 : mi g7 := by unfold mi; rw [p8_1 39 (by omega)]; exact hmmi
    have k11 : sm g7 := by unfold sm; rw [p8_1 40 (by omega)]; exact hmsm
    have k12 : zs g7 := by unfold zs; rw [p8_1 49 (by omega)]; exact hmzs
    have k13 : rw_ g7 := by unfold rw_; rw [p8_1 46 (by omega)]; exact hmrw
    have o14 : (∀ j : Nat, j < 49 → g7 41 j = h 40 j) := p8_2
    clear p8_2
    have w39_g7 : g7 39 = h 39 := (p8_1 39 (by omega))
    have w40_g7 : g7 40 = h 40 := (p8_1 40 (by omega))
    have sA_g7 : ∀ j : Nat, j < 49 → g7 41 j = h 40 j := o14
    have s4_g7 : (g7 41 4).toInt = (h 40 4).toInt := congrArg Int32.toInt (sA_g7 4 (by decide))
    show (¬ a = 1 → (qm_PW X 180 [.ref 39, .int 9] g7 _)) ∧ (a = 1 → ((0 ≤ (5 : Int) ∧ (5 : Int) < 49) ∧ (qm_PW X 180 [.ref 39, .int (g7 41 5)] g7 _)))
    refine ⟨fun c15 => ?_, fun c16 => ?_⟩
    · have := ti_neK 1 rfl c15
      refine ty_180 X g7 (9 : Int32) p8_0 _ (fun g17 p18 => ?_)
      obtain ⟨p18_0, p18_1⟩ := p18
      have f19 : ∀ k, (k < 41 ∨ 45 < k ∨ k = 42 ∨ k = 43 ∨ k = 44) → g17 k = h k := fun k hk => (p18_0 k (by omega)).trans (f9 k hk)
      have k20 : mi g17 := by unfold mi; rw [p18_0 39 (by omega)]; exact k10
      have k21 : sm g17 := by unfold sm; rw [p18_0 40 (by omega)]; exact k11
      have k22 : zs g17 := by unfold zs; rw [p18_0 49 (by omega)]; exact k12
      have k23 : rw_ g17 := by unfold rw_; rw [p18_0 46 (by omega)]; exact k13
      have k24 : am g17 := by unfold am; rw [p18_0 41 (by omega)]; exact p8_0
      have o25 : owI (fun t => (g7 41 (6 + 3 * t))) (fun t => (g7 41 (7 + 3 * t))) (fun t => (g7 41 (8 + 3 * t))) (9 : Int32).toInt (g7 41 4).toInt.toNat (g17 45) := p18_1
      clear p18_1
      have w39_g17 : g17 39 = h 39 := (p18_0 39 (by omega)).trans w39_g7
      have w40_g17 : g17 40 = h 40 := (p18_0 40 (by omega)).trans w40_g7
      have ow_g17 : owI (fun t => h 40 (6 + 3 * t)) (fun t => h 40 (7 + 3 * t)) (fun t => h 40 (8 + 3 * t)) (9 : Int32).toInt (h 40 4).toInt.toNat (g17 45) := owI_41 sA_g7 (by omega) (by have z := o25; rw [show (g7 41 4) = h 40 4 from sA_g7 4 (by decide)] at z; exact z)
      have owb_g17 : owb (g17 45) 90 := owI_b ow_g17 (by omega) (fun j q => by have z := hmsm.2.1.2.2.2.2.2 j (by omega); rw [Nat.zero_add] at z; exact z)
      have sB_g17 : ∀ j : Nat, j < 49 → g17 41 j = h 40 j := fun j hj => by rw [show g17 41 = g7 41 from p18_0 41 (by omega)]; exact sA_g7 j hj
      show qm_PA X 197 42 [(0, .ref 39), (1, .int a), (2, .int 0), (3, .int 0)] [] g17 Q
      exact (ty_197_c X h a hp Q hq _) (0 : Int32) (0 : Int32) g17 ⟨(by have : (9 : Int32).toInt = 9 := rfl; have : (0 : Int32).toInt = 0 := rfl; have : (0 : Int64).toInt = 0 := rfl; have : (2 : Int64).toInt = 2 := rfl; have := i64 a; have ⟨⟨_, _⟩, ⟨_, _⟩, ⟨_, _⟩, ⟨_, _⟩, _, _⟩ := hmmi; have := hmsm.1; show ((0 ≤ (0 : Int32).toInt ∧ (0 : Int32).toInt ≤ (h 39 3).toInt) ∧ 0 ≤ a.toInt ∧ a.toInt ≤ 2) ∧ (0 : Int32).toInt = np45 (g17 45) (0 : Int32).toInt.toNat ∧ owI (fun t => h 40 (6 + 3 * t)) (fun t => h 40 (7 + 3 * t)) (fun t => h 40 (8 + 3 * t)) (dSm a.toInt (h 40 5).toInt) (h 40 4).toInt.toNat (g17 45); have := i64 a; have : (0 : Int64).toInt = 0 := rfl; have : (9 : Int64).toInt = 9 := rfl; have : (3 : Int64).toInt = 3 := rfl; have : (99 : Int64).toInt = 99 := rfl; have : (2 : Int64).toInt = 2 := rfl; have hd9 : dSm a.toInt (h 40 5).toInt = (9 : Int32).toInt := dSm_9 (by omega); have hO := ow_g17; exact ⟨by have : (0 : Int32).toInt = 0 := rfl; omega, rfl, by rw [hd9]; exact hO⟩), k20, k21, k22, k23, k24, (fun k hk => f19 k hk)⟩ (Nat.lt_succ_self _)
    · have := ti_eqK 1 rfl c16
      refine ⟨by decide, ?_⟩
      refine ty_180 X g7 (g7 41 5) p8_0 _ (fun g26 p27 => ?_)
      obtain ⟨p27_0, p27_1⟩ := p27
      have f28 : ∀ k, (k < 41 ∨ 45 < k ∨ k = 42 ∨ k = 43 ∨ k = 44) → g26 k = h k := fun k hk => (p27_0 k (by omega)).trans (f9 k hk)
      have k29 : mi g26 := by unfold mi; rw [p27_0 39 (by omega)]; exact k10
      have k30 : sm g26 := by unfold sm; rw [p27_0 40 (by omega)]; exact k11
      have k31 : zs g26 := by unfold zs; rw [p27_0 49 (by omega)]; exact k12
      have k32 : rw_ g26 := by unfold rw_; rw [p27_0 46 (by omega)]; exact k13
      have k33 : am g26 := by unfold am; rw [p27_0 41 (by omega)]; exact p8_0
      have o34 : owI (fun t => (g7 41 (6 + 3 * t))) (fun t => (g7 41 (7 + 3 * t))) (fun t => (g7 41 (8 + 3 * t))) (g7 41 5).toInt (g7 41 4).toInt.toNat (g26 45) := p27_1
      clear p27_1
      have w39_g26 : g26 39 = h 39 := (p27_0 39 (by omega)).trans w39_g7
      have w40_g26 : g26 40 = h 40 := (p27_0 40 (by omega)).trans w40_g7
      have ow_g26 : owI (fun t => h 40 (6 + 3 * t)) (fun t => h 40 (7 + 3 * t)) (fun t => h 40 (8 + 3 * t)) (g7 41 5).toInt (h 40 4).toInt.toNat (g26 45) := owI_41 sA_g7 (by omega) (by have z := o34; rw [show (g7 41 4) = h 40 4 from sA_g7 4 (by decide)] at z; exact z)
      have owb_g26 : owb (g26 45) 90 := owI_b ow_g26 (by omega) (fun j q => by have z := hmsm.2.1.2.2.2.2.2 j (by omega); rw [Nat.zero_add] at z; exact z)
      have sB_g26 : ∀ j : Nat, j < 49 → g26 41 j = h 40 j := fun j hj => by rw [show g26 41 = g7 41 from p27_0 41 (by omega)]; exact sA_g7 j hj
      show qm_PA X 197 42 [(0, .ref 39), (1, .int a), (2, .int 0), (3, .int 0)] [] g26 Q
      exact (ty_197_c X h a hp Q hq _) (0 : Int32) (0 : Int32) g26 ⟨(by have : (0 : Int32).toInt = 0 := rfl; have : (0 : Int64).toInt = 0 := rfl; have : (2 : Int64).toInt = 2 := rfl; have := i64 a; have ⟨⟨_, _⟩, ⟨_, _⟩, ⟨_, _⟩, ⟨_, _⟩, _, _⟩ := hmmi; have := hmsm.1; show ((0 ≤ (0 : Int32).toInt ∧ (0 : Int32).toInt ≤ (h 39 3).toInt) ∧ 0 ≤ a.toInt ∧ a.toInt ≤ 2) ∧ (0 : Int32).toInt = np45 (g26 45) (0 : Int32).toInt.toNat ∧ owI (fun t => h 40 (6 + 3 * t)) (fun t => h 40 (7 + 3 * t)) (fun t => h 40 (8 + 3 * t)) (dSm a.toInt (h 40 5).toInt) (h 40 4).toInt.toNat (g26 45); have := i64 a; have : (0 : Int64).toInt = 0 := rfl; have : (9 : Int64).toInt = 9 := rfl; have : (3 : Int64).toInt = 3 := rfl; have : (99 : Int64).toInt = 99 := rfl; have : (2 : Int64).toInt = 2 := rfl; have hd9 : dSm a.toInt (h 40 5).toInt = (g7 41 5).toInt := (dSm_1 (by omega)).trans (congrArg Int32.toInt (sA_g7 5 (by decide))).symm; have hO := ow_g26; exact ⟨by have : (0 : Int32).toInt = 0 := rfl; omega, rfl, by rw [hd9]; exact hO⟩), k29, k30, k31, k32, k33, (fun k hk => f28 k hk)⟩ (Nat.lt_succ_self _)
  · have := p2.2.2 c6
    have := ti_eqK 0 rfl c6
    exact hq (-1 : Int32) h ⟨hmmi, hmsm, hmzs, hmrw, (fun k hk => rfl), (by have : (0 : Int64).toInt = 0 := rfl; have : (2 : Int64).toInt = 2 := rfl; have := i64 a; show wfM (mR h) → (-1 : Int32).toInt = qSum a.toInt (mR h); rw [ti_n1]; have := i64 a; have : (0 : Int64).toInt = 0 := rfl; have : (9 : Int64).toInt = 9 := rfl; have : (3 : Int64).toInt = 3 := rfl; have : (99 : Int64).toInt = 99 := rfl; have : (2 : Int64).toInt = 2 := rfl; exact fun hw => (sum_d (M := mR h) ⟨by omega, by omega, by omega⟩).symm)⟩
