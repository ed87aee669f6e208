-- ThreadBankModel.spare(I)I
set_option maxRecDepth 100000 in
set_option maxHeartbeats 4000000 in
theorem ty_217_c (X : qm_X) (h : qm_H) (a : Int32) (hp : mi h ∧ sm h ∧ zs h ∧ rw_ h) (Q : qm_Q) (hq : ∀ r : Int32, ∀ h' : qm_H, (mi h' ∧ sm h' ∧ zs h' ∧ rw_ h' ∧ (∀ k, (k < 41 ∨ 41 < k) → h' k = h k) ∧ (r.toInt = qSpare a.toInt (mR h))) → Q (some (.int r)) h') : ∀ n : Nat, (∀ (l2 : Int32) (l3 : Int32) (l4 : Int32) (g : qm_H), ((((0 ≤ l4.toInt ∧ l4.toInt ≤ (1 <<< ((h 39 3) &&& 31)).toInt) ∧ 0 ≤ a.toInt ∧ a.toInt ≤ 1) ∧ spR (spK (fun t => h 40 (6 + 3 * t)) (fun t => h 40 (7 + 3 * t)) (fun t => h 40 (8 + 3 * t)) (h 40 4).toInt.toNat) l2 l3 l4.toInt.toNat ∧ (∀ j : Nat, j < 49 → g 41 j = h 40 j)) ∧ mi g ∧ sm g ∧ zs g ∧ rw_ g ∧ am g ∧ ∀ k, (k < 41 ∨ 41 < k) → g k = h k) → ((16 - l4.toInt) * 100 + 50).toNat < n → qm_PA X 217 20 [(0, .ref 39), (1, .int a), (2, .int l2), (3, .int l3), (4, .int l4)] [] g Q) ∧ (∀ (l2 : Int32) (l3 : Int32) (l4 : Int32) (l5 : Int32) (l6 : Int32) (g : qm_H), ((((0 ≤ l4.toInt ∧ l4.toInt < (1 <<< ((h 39 3) &&& 31)).toInt) ∧ (0 ≤ l6.toInt ∧ l6.toInt ≤ (h 40 4).toInt) ∧ 0 ≤ a.toInt ∧ a.toInt ≤ 1) ∧ spR (spK (fun t => h 40 (6 + 3 * t)) (fun t => h 40 (7 + 3 * t)) (fun t => h 40 (8 + 3 * t)) (h 40 4).toInt.toNat) l2 l3 l4.toInt.toNat ∧ acI l5 (l2.toInt < popI l4) (kwS (fun t => h 40 (6 + 3 * t)) (fun t => h 40 (7 + 3 * t)) (fun t => h 40 (8 + 3 * t)) (h 40 4).toInt.toNat l4) l6.toInt.toNat ∧ (∀ j : Nat, j < 49 → g 41 j = h 40 j)) ∧ (l5 = 0 ∨ l5 = 1) ∧ mi g ∧ sm g ∧ zs g ∧ rw_ g ∧ am g ∧ ∀ k, (k < 41 ∨ 41 < k) → g k = h k) → ((16 - l4.toInt) * 100 + 40 - l6.toInt).toNat < n → qm_PA X 217 50 [(0, .ref 39), (1, .int a), (2, .int l2), (3, .int l3), (4, .int l4), (5, .int l5), (6, .int l6)] [] g Q) := by
  have hmmi : mi h := hp.1
  have ⟨⟨_, _⟩, ⟨_, _⟩, ⟨_, _⟩, ⟨_, _⟩, _, _⟩ := hmmi
  have hmsm : sm h := hp.2.1
  have ⟨⟨⟨_, _⟩, _, _⟩, _, _, _⟩ := hmsm
  have hmzs : zs h := hp.2.2.1
  have hmrw : rw_ h := hp.2.2.2
  intro n
  induction n with
  | zero => exact ⟨fun _ _ _ _ _ h0 => absurd h0 (Nat.not_lt_zero _), fun _ _ _ _ _ _ _ h0 => absurd h0 (Nat.not_lt_zero _)⟩
  | succ n ih =>
    refine ⟨?_, ?_⟩
    · intro l2 l3 l4 g hi hr
      obtain ⟨hi0, hgmi, hgsm, hgzs, hgrw, hgam, hgf⟩ := hi
      have ⟨⟨_, _⟩, ⟨_, _⟩, ⟨_, _⟩, ⟨_, _⟩, _, _⟩ := hgmi
      have ⟨⟨⟨_, _⟩, _, _⟩, _, _, _⟩ := hgsm
      have ⟨⟨_, _⟩, ⟨_, _⟩, _, _, _⟩ := hgam
      have ti_l4 := ti_rng l4
      have e4_g : (g 41 4).toInt = (h 40 4).toInt := congrArg Int32.toInt (hi0.2.2 4 (by decide))
      have w39_g : g 39 = h 39 := hgf 39 (by omega)
      have e3_g : (1 <<< ((g 39 3) &&& 31)).toInt = (1 <<< ((h 39 3) &&& 31)).toInt := by rw [w39_g]
      have hsh := sh_le (h 39 3) (by omega) (by omega)
      refine qm_seg_ok (C := qc_217) (rt := some .int) rfl rfl (cuts := [(20, [0, 1, 2, 3, 4]), (50, [0, 1, 2, 3, 4, 5, 6])]) 400 _ _ _ _ ?_
      show ((1 <<< ((g 39 3) &&& 31)).toInt ≤ l4.toInt → ((¬ a = 0 → (Q (some (.int l3)) g)) ∧ (a = 0 → (Q (some (.int l2)) g)))) ∧ (l4.toInt < (1 <<< ((g 39 3) &&& 31)).toInt → (qm_PW X 207 [.int l4] g _))
      refine ⟨fun c1 => ?_, fun c2 => ?_⟩
      · refine ⟨fun c3 => ?_, fun c4 => ?_⟩
        · have := ti_neK 0 rfl c3
          exact hq l3 g ⟨hgmi, hgsm, hgzs, hgrw, (fun k hk => hgf k hk), (by have ⟨⟨_, _⟩, ⟨_, _⟩, ⟨_, _⟩, ⟨_, _⟩, _, _⟩ := hmmi; have := hmsm.1; have ⟨⟨_, _⟩, ⟨_, _⟩, ⟨_, _⟩, ⟨_, _⟩, _, _⟩ := hgmi; show l3.toInt = qSpare a.toInt (mR h); have hz := spR_e hi0.2.1 (by omega); exact (show l3.toInt = qSpare a.toInt (mR h) from spare_ok (by omega) (show l4.toInt.toNat = (1 <<< ((h 39 3) &&& 31)).toInt.toNat by omega) hz.1 (Or.inr ⟨by omega, rfl⟩)))⟩
        · have := ti_eqK 0 rfl c4
          exact hq l2 g ⟨hgmi, hgsm, hgzs, hgrw, (fun k hk => hgf k hk), (by have ⟨⟨_, _⟩, ⟨_, _⟩, ⟨_, _⟩, ⟨_, _⟩, _, _⟩ := hmmi; have := hmsm.1; have ⟨⟨_, _⟩, ⟨_, _⟩, ⟨_, _⟩, ⟨_, _⟩, _, _⟩ := hgmi; show l2.toInt = qSpare a.toInt (mR h); have hz := spR_e hi0.2.1 (by omega); exact (show l2.toInt = qSpare a.toInt (mR h) from spare_ok (by omega) (show l4.toInt.toNat = (1 <<< ((h 39 3) &&& 31)).toInt.toNat by omega) hz.1 (Or.inl ⟨by omega, hz.2⟩)))⟩
      · refine ty_207 X g l4 trivial _ (fun r5 p6 => ?_)
        have o7 : r5.toInt = popI l4 ∧ (0 ≤ r5.toInt ∧ r5.toInt ≤ 10) := p6
        clear p6
        show (r5.toInt ≤ l2.toInt → (qm_PA X 217 50 [(0, .ref 39), (1, .int a), (2, .int l2), (3, .int l3), (4, .int l4), (5, .int 0), (6, .int 0)] [] g Q)) ∧ (l2.toInt < r5.toInt → (qm_PA X 217 50 [(0, .ref 39), (1, .int a), (2, .int l2), (3, .int l3), (4, .int l4), (5, .int 1), (6, .int 0)] [] g Q))
        refine ⟨fun c8 => ?_, fun c9 => ?_⟩
        · exact ih.2 l2 l3 l4 (0 : Int32) (0 : Int32) g ⟨(by have : (0 : Int32).toInt = 0 := rfl; have ⟨⟨_, _⟩, ⟨_, _⟩, ⟨_, _⟩, ⟨_, _⟩, _, _⟩ := hmmi; have := hmsm.1; have ⟨⟨_, _⟩, ⟨_, _⟩, ⟨_, _⟩, ⟨_, _⟩, _, _⟩ := hgmi; show ((0 ≤ l4.toInt ∧ l4.toInt < (1 <<< ((h 39 3) &&& 31)).toInt) ∧ (0 ≤ (0 : Int32).toInt ∧ (0 : Int32).toInt ≤ (h 40 4).toInt) ∧ 0 ≤ a.toInt ∧ a.toInt ≤ 1) ∧ spR (spK (fun t => h 40 (6 + 3 * t)) (fun t => h 40 (7 + 3 * t)) (fun t => h 40 (8 + 3 * t)) (h 40 4).toInt.toNat) l2 l3 l4.toInt.toNat ∧ acI (0 : Int32) (l2.toInt < popI l4) (kwS (fun t => h 40 (6 + 3 * t)) (fun t => h 40 (7 + 3 * t)) (fun t => h 40 (8 + 3 * t)) (h 40 4).toInt.toNat l4) (0 : Int32).toInt.toNat ∧ (∀ j : Nat, j < 49 → g 41 j = h 40 j); exact ⟨by have : (0 : Int32).toInt = 0 := rfl; omega, hi0.2.1, acI_0 (by omega), hi0.2.2⟩), (Or.inl rfl), hgmi, hgsm, hgzs, hgrw, hgam, (fun k hk => hgf k hk)⟩ (by have : (0 : Int32).toInt = 0 := rfl; have ⟨⟨_, _⟩, ⟨_, _⟩, ⟨_, _⟩, ⟨_, _⟩, _, _⟩ := hmmi; have := hmsm.1; have ⟨⟨_, _⟩, ⟨_, _⟩, ⟨_, _⟩, ⟨_, _⟩, _, _⟩ := hgmi; show ((16 - l4.toInt) * 100 + 40 - (0 : Int32).toInt).toNat < n; omega)
        · exact ih.2 l2 l3 l4 (1 : Int32) (0 : Int32) g ⟨(by have : (0 : Int32).toInt = 0 := rfl; have ⟨⟨_, _⟩, ⟨_, _⟩, ⟨_, _⟩, ⟨_, _⟩, _, _⟩ := hmmi; have := hmsm.1; have ⟨⟨_, _⟩, ⟨_, _⟩, ⟨_, _⟩, ⟨_, _⟩, _, _⟩ := hgmi; show ((0 ≤ l4.toInt ∧ l4.toInt < (1 <<< ((h 39 3) &&& 31)).toInt) ∧ (0 ≤ (0 : Int32).toInt ∧ (0 : Int32).toInt ≤ (h 40 4).toInt) ∧ 0 ≤ a.toInt ∧ a.toInt ≤ 1) ∧ spR (spK (fun t => h 40 (6 + 3 * t)) (fun t => h 40 (7 + 3 * t)) (fun t => h 40 (8 + 3 * t)) (h 40 4).toInt.toNat) l2 l3 l4.toInt.toNat ∧ acI (1 : Int32) (l2.toInt < popI l4) (kwS (fun t => h 40 (6 + 3 * t)) (fun t => h 40 (7 + 3 * t)) (fun t => h 40 (8 + 3 * t)) (h 40 4).toInt.toNat l4) (0 : Int32).toInt.toNat ∧ (∀ j : Nat, j < 49 → g 41 j = h 40 j); exact ⟨by have : (0 : Int32).toInt = 0 := rfl; omega, hi0.2.1, acI_1 rfl (by omega), hi0.2.2⟩), (Or.inr rfl), hgmi, hgsm, hgzs, hgrw, hgam, (fun k hk => hgf k hk)⟩ (by have : (0 : Int32).toInt = 0 := rfl; have ⟨⟨_, _⟩, ⟨_, _⟩, ⟨_, _⟩, ⟨_, _⟩, _, _⟩ := hmmi; have := hmsm.1; have ⟨⟨_, _⟩, ⟨_, _⟩, ⟨_, _⟩, ⟨_, _⟩, _, _⟩ := hgmi; show ((16 - l4.toInt) * 100 + 40 - (0 : Int32).toInt).toNat < n; omega)
    · intro l2 l3 l4 l5 l6 g hi hr
      obtain ⟨hi0, hb5, hgmi, hgsm, hgzs, hgrw, hgam, hgf⟩ := hi
      have ⟨⟨_, _⟩, ⟨_, _⟩, ⟨_, _⟩, ⟨_, _⟩, _, _⟩ := hgmi
      have ⟨⟨⟨_, _⟩, _, _⟩, _, _, _⟩ := hgsm
      have ⟨⟨_, _⟩, ⟨_, _⟩, _, _, _⟩ := hgam
      have ti_l6 := ti_rng l6
      have e4_g : (g 41 4).toInt = (h 40 4).toInt := congrArg Int32.toInt (hi0.2.2.2 4 (by decide))
      have w39_g : g 39 = h 39 := hgf 39 (by omega)
      have e3_g : (1 <<< ((g 39 3) &&& 31)).toInt = (1 <<< ((h 39 3) &&& 31)).toInt := by rw [w39_g]
      have hsh := sh_le (h 39 3) (by omega) (by omega)
      refine qm_seg_ok (C := qc_217) (rt := some .int) rfl rfl (cuts := [(20, [0, 1, 2, 3, 4]), (50, [0, 1, 2, 3, 4, 5, 6])]) 400 _ _ _ _ ?_
      show (0 ≤ (4 : Int) ∧ (4 : Int) < 49) ∧ (((g 41 4).toInt ≤ l6.toInt → ((l5 = 0 → ((l5 = 0 → (qm_PA X 217 20 [(0, .ref 39), (1, .int a), (2, .int l2), (3, .int l3), (4, .int (l4 + 1))] [] g Q)) ∧ (¬ l5 = 0 → (qm_PW X 207 [.int l4] g _)))) ∧ (¬ l5 = 0 → ((l5 = 0 → (qm_PA X 217 20 [(0, .ref 39), (1, .int a), (2, .int l2), (3, .int l4), (4, .int (l4 + 1))] [] g Q)) ∧ (¬ l5 = 0 → (qm_PW X 207 [.int l4] g _)))))) ∧ (l6.toInt < (g 41 4).toInt → ((l5 = 0 → (qm_PA X 217 50 [(0, .ref 39), (1, .int a), (2, .int l2), (3, .int l3), (4, .int l4), (5, .int 0), (6, .int (l6 + 1))] [] g Q)) ∧ (¬ l5 = 0 → (qm_PW X 212 [.ref 39, .int l6] g _)))))
      refine ⟨by decide, ?_⟩
      refine ⟨fun c1 => ?_, fun c2 => ?_⟩
      · refine ⟨fun c3 => ?_, fun c4 => ?_⟩
        · have := ti_eqK 0 rfl c3
          refine ⟨fun c5 => ?_, fun c6 => ?_⟩
          · have := ti_eqK 0 rfl c5
            exact ih.1 l2 l3 (l4 + 1) g ⟨(by have := ti_addK l4 (1 : Int32) 1 rfl; have ⟨⟨_, _⟩, ⟨_, _⟩, ⟨_, _⟩, ⟨_, _⟩, _, _⟩ := hmmi; have := hmsm.1; show ((0 ≤ (l4 + 1).toInt ∧ (l4 + 1).toInt ≤ (1 <<< ((h 39 3) &&& 31)).toInt) ∧ 0 ≤ a.toInt ∧ a.toInt ≤ 1) ∧ spR (spK (fun t => h 40 (6 + 3 * t)) (fun t => h 40 (7 + 3 * t)) (fun t => h 40 (8 + 3 * t)) (h 40 4).toInt.toNat) l2 l3 (l4 + 1).toInt.toNat ∧ (∀ j : Nat, j < 49 → g 41 j = h 40 j); have e4 : l4 = nI l4.toInt.toNat := i32_nI (by omega); have e9 : (l4 + 1).toInt.toNat = l4.toInt.toNat + 1 := (by omega); have hz := hi0.2.2.1; rw [show l6.toInt.toNat = (h 40 4).toInt.toNat by omega] at hz; have hn := acI_f hz (by assumption); exact ⟨by omega, by rw [e9]; exact spR_n hi0.2.1 e4 spK_0 hn, hi0.2.2.2⟩), hgmi, hgsm, hgzs, hgrw, hgam, (fun k hk => hgf k hk)⟩ (by have := ti_addK l4 (1 : Int32) 1 rfl; have ⟨⟨_, _⟩, ⟨_, _⟩, ⟨_, _⟩, ⟨_, _⟩, _, _⟩ := hmmi; have := hmsm.1; show ((16 - (l4 + 1).toInt) * 100 + 50).toNat < n; omega)
          · have := ti_neK 0 rfl c6
            refine ty_207 X g l4 trivial _ (fun r7 p8 => ?_)
            have o9 : r7.toInt = popI l4 ∧ (0 ≤ r7.toInt ∧ r7.toInt ≤ 10) := p8
            clear p8
            show qm_PA X 217 20 [(0, .ref 39), (1, .int a), (2, .int r7), (3, .int l3), (4, .int (l4 + 1))] [] g Q
            exact ih.1 r7 l3 (l4 + 1) g ⟨(by have := ti_addK l4 (1 : Int32) 1 rfl; have ⟨⟨_, _⟩, ⟨_, _⟩, ⟨_, _⟩, ⟨_, _⟩, _, _⟩ := hmmi; have := hmsm.1; show ((0 ≤ (l4 + 1).toInt ∧ (l4 + 1).toInt ≤ (1 <<< ((h 39 3) &&& 31)).toInt) ∧ 0 ≤ a.toInt ∧ a.toInt ≤ 1) ∧ spR (spK (fun t => h 40 (6 + 3 * t)) (fun t => h 40 (7 + 3 * t)) (fun t => h 40 (8 + 3 * t)) (h 40 4).toInt.toNat) r7 l3 (l4 + 1).toInt.toNat ∧ (∀ j : Nat, j < 49 → g 41 j = h 40 j); exact absurd (show l5 = 0 from by assumption) (by assumption)), hgmi, hgsm, hgzs, hgrw, hgam, (fun k hk => hgf k hk)⟩ (by have := ti_addK l4 (1 : Int32) 1 rfl; have ⟨⟨_, _⟩, ⟨_, _⟩, ⟨_, _⟩, ⟨_, _⟩, _, _⟩ := hmmi; have := hmsm.1; show ((16 - (l4 + 1).toInt) * 100 + 50).toNat < n; omega)
        · have := ti_neK 0 rfl c4
          refine ⟨fun c10 => ?_, fun c11 => ?_⟩
          · have := ti_eqK 0 rfl c10
            exact ih.1 l2 l4 (l4 + 1) g ⟨(by have := ti_addK l4 (1 : Int32) 1 rfl; have ⟨⟨_, _⟩, ⟨_, _⟩, ⟨_, _⟩, ⟨_, _⟩, _, _⟩ := hmmi; have := hmsm.1; show ((0 ≤ (l4 + 1).toInt ∧ (l4 + 1).toInt ≤ (1 <<< ((h 39 3) &&& 31)).toInt) ∧ 0 ≤ a.toInt ∧ a.toInt ≤ 1) ∧ spR (spK (fun t => h 40 (6 + 3 * t)) (fun t => h 40 (7 + 3 * t)) (fun t => h 40 (8 + 3 * t)) (h 40 4).toInt.toNat) l2 l4 (l4 + 1).toInt.toNat ∧ (∀ j : Nat, j < 49 → g 41 j = h 40 j); exact absurd (show l5 = 0 from by assumption) (by assumption)), hgmi, hgsm, hgzs, hgrw, hgam, (fun k hk => hgf k hk)⟩ (by have := ti_addK l4 (1 : Int32) 1 rfl; have ⟨⟨_, _⟩, ⟨_, _⟩, ⟨_, _⟩, ⟨_, _⟩, _, _⟩ := hmmi; have := hmsm.1; show ((16 - (l4 + 1).toInt) * 100 + 50).toNat < n; omega)
          · have := ti_neK 0 rfl c11
            refine ty_207 X g l4 trivial _ (fun r12 p13 => ?_)
            have o14 : r12.toInt = popI l4 ∧ (0 ≤ r12.toInt ∧ r12.toInt ≤ 10) := p13
            clear p13
            show qm_PA X 217 20 [(0, .ref 39), (1, .int a), (2, .int r12), (3, .int l4), (4, .int (l4 + 1))] [] g Q
            exact ih.1 r12 l4 (l4 + 1) g ⟨(by have := ti_addK l4 (1 : Int32) 1 rfl; have ⟨⟨_, _⟩, ⟨_, _⟩, ⟨_, _⟩, ⟨_, _⟩, _, _⟩ := hmmi; have := hmsm.1; show ((0 ≤ (l4 + 1).toInt ∧ (l4 + 1).toInt ≤ (1 <<< ((h 39 3) &&& 31)).toInt) ∧ 0 ≤ a.toInt ∧ a.toInt ≤ 1) ∧ spR (spK (fun t => h 40 (6 + 3 * t)) (fun t => h 40 (7 + 3 * t)) (fun t => h 40 (8 + 3 * t)) (h 40 4).toInt.toNat) r12 l4 (l4 + 1).toInt.toNat ∧ (∀ j : Nat, j < 49 → g 41 j = h 40 j); have e4 : l4 = nI l4.toInt.toNat := i32_nI (by omega); have e9 : (l4 + 1).toInt.toNat = l4.toInt.toNat + 1 := (by omega); have hz := hi0.2.2.1; rw [show l6.toInt.toNat = (h 40 4).toInt.toNat by omega] at hz; have hy := acI_t hz (by assumption); exact ⟨by omega, by rw [e9]; exact spR_y hi0.2.1 e4 (by omega) hy.1 hy.2 o14.1, hi0.2.2.2⟩), hgmi, hgsm, hgzs, hgrw, hgam, (fun k hk => hgf k hk)⟩ (by have := ti_addK l4 (1 : Int32) 1 rfl; have ⟨⟨_, _⟩, ⟨_, _⟩, ⟨_, _⟩, ⟨_, _⟩, _, _⟩ := hmmi; have := hmsm.1; show ((16 - (l4 + 1).toInt) * 100 + 50).toNat < n; omega)
      · refine ⟨fun c15 => ?_, fun c16 => ?_⟩
        · have := ti_eqK 0 rfl c15
          exact ih.2 l2 l3 l4 (0 : Int32) (l6 + 1) g ⟨(by have := ti_addK l6 (1 : Int32) 1 rfl; have ⟨⟨_, _⟩, ⟨_, _⟩, ⟨_, _⟩, ⟨_, _⟩, _, _⟩ := hmmi; have := hmsm.1; show ((0 ≤ l4.toInt ∧ l4.toInt < (1 <<< ((h 39 3) &&& 31)).toInt) ∧ (0 ≤ (l6 + 1).toInt ∧ (l6 + 1).toInt ≤ (h 40 4).toInt) ∧ 0 ≤ a.toInt ∧ a.toInt ≤ 1) ∧ spR (spK (fun t => h 40 (6 + 3 * t)) (fun t => h 40 (7 + 3 * t)) (fun t => h 40 (8 + 3 * t)) (h 40 4).toInt.toNat) l2 l3 l4.toInt.toNat ∧ acI (0 : Int32) (l2.toInt < popI l4) (kwS (fun t => h 40 (6 + 3 * t)) (fun t => h 40 (7 + 3 * t)) (fun t => h 40 (8 + 3 * t)) (h 40 4).toInt.toNat l4) (l6 + 1).toInt.toNat ∧ (∀ j : Nat, j < 49 → g 41 j = h 40 j); have e9 : (l6 + 1).toInt.toNat = l6.toInt.toNat + 1 := (by omega); exact ⟨by omega, hi0.2.1, by rw [e9]; exact acI_k hi0.2.2.1 (by assumption), hi0.2.2.2⟩), (Or.inl rfl), hgmi, hgsm, hgzs, hgrw, hgam, (fun k hk => hgf k hk)⟩ (by have := ti_addK l6 (1 : Int32) 1 rfl; have ⟨⟨_, _⟩, ⟨_, _⟩, ⟨_, _⟩, ⟨_, _⟩, _, _⟩ := hmmi; have := hmsm.1; show ((16 - l4.toInt) * 100 + 40 - (l6 + 1).toInt).toNat < n; omega)
        · have := ti_neK 0 rfl c16
          refine ty_212 X g l6 ⟨hgam, (by have ⟨⟨_, _⟩, ⟨_, _⟩, ⟨_, _⟩, ⟨_, _⟩, _, _⟩ := hmmi; have := hmsm.1; omega)⟩ _ (fun r17 p18 => ?_)
          have o19 : (0 ≤ r17.toInt ∧ r17.toInt ≤ 15) ∧ hoQ (fun t => (g 41 (6 + 3 * t))) (fun t => (g 41 (7 + 3 * t))) (fun t => (g 41 (8 + 3 * t))) (g 41 4).toInt.toNat l6.toInt.toNat r17 := p18
          clear p18
          show ((r17 &&& (l4 ^^^ (-1 : Int32))) = 0 → (qm_PA X 217 50 [(0, .ref 39), (1, .int a), (2, .int l2), (3, .int l3), (4, .int l4), (5, .int 0), (6, .int (l6 + 1))] [] g Q)) ∧ (¬ (r17 &&& (l4 ^^^ (-1 : Int32))) = 0 → (qm_PA X 217 50 [(0, .ref 39), (1, .int a), (2, .int l2), (3, .int l3), (4, .int l4), (5, .int 1), (6, .int (l6 + 1))] [] g Q))
          refine ⟨fun c20 => ?_, fun c21 => ?_⟩
          · exact ih.2 l2 l3 l4 (0 : Int32) (l6 + 1) g ⟨(by have := ti_addK l6 (1 : Int32) 1 rfl; have ⟨⟨_, _⟩, ⟨_, _⟩, ⟨_, _⟩, ⟨_, _⟩, _, _⟩ := hmmi; have := hmsm.1; show ((0 ≤ l4.toInt ∧ l4.toInt < (1 <<< ((h 39 3) &&& 31)).toInt) ∧ (0 ≤ (l6 + 1).toInt ∧ (l6 + 1).toInt ≤ (h 40 4).toInt) ∧ 0 ≤ a.toInt ∧ a.toInt ≤ 1) ∧ spR (spK (fun t => h 40 (6 + 3 * t)) (fun t => h 40 (7 + 3 * t)) (fun t => h 40 (8 + 3 * t)) (h 40 4).toInt.toNat) l2 l3 l4.toInt.toNat ∧ acI (0 : Int32) (l2.toInt < popI l4) (kwS (fun t => h 40 (6 + 3 * t)) (fun t => h 40 (7 + 3 * t)) (fun t => h 40 (8 + 3 * t)) (h 40 4).toInt.toNat l4) (l6 + 1).toInt.toNat ∧ (∀ j : Nat, j < 49 → g 41 j = h 40 j); have e9 : (l6 + 1).toInt.toNat = l6.toInt.toNat + 1 := (by omega); have hq9 := kw_iff (s := l4) o19.2 o19.1 (by omega) (hdB_le (am_hd hgam) (by omega)); rw [show (g 41 4) = h 40 4 from hi0.2.2.2 4 (by decide)] at hq9; have hq8 := hq9.trans (kwA_eq (eq3_41 hi0.2.2.2 (by omega)) (show l6.toInt.toNat < (h 40 4).toInt.toNat by omega)); exact ⟨by omega, hi0.2.1, by rw [e9]; exact acI_n (fun w => (hq8.mpr w) (by assumption)), hi0.2.2.2⟩), (Or.inl rfl), hgmi, hgsm, hgzs, hgrw, hgam, (fun k hk => hgf k hk)⟩ (by have := ti_addK l6 (1 : Int32) 1 rfl; have ⟨⟨_, _⟩, ⟨_, _⟩, ⟨_, _⟩, ⟨_, _⟩, _, _⟩ := hmmi; have := hmsm.1; show ((16 - l4.toInt) * 100 + 40 - (l6 + 1).toInt).toNat < n; omega)
          · exact ih.2 l2 l3 l4 (1 : Int32) (l6 + 1) g ⟨(by have := ti_addK l6 (1 : Int32) 1 rfl; have ⟨⟨_, _⟩, ⟨_, _⟩, ⟨_, _⟩, ⟨_, _⟩, _, _⟩ := hmmi; have := hmsm.1; show ((0 ≤ l4.toInt ∧ l4.toInt < (1 <<< ((h 39 3) &&& 31)).toInt) ∧ (0 ≤ (l6 + 1).toInt ∧ (l6 + 1).toInt ≤ (h 40 4).toInt) ∧ 0 ≤ a.toInt ∧ a.toInt ≤ 1) ∧ spR (spK (fun t => h 40 (6 + 3 * t)) (fun t => h 40 (7 + 3 * t)) (fun t => h 40 (8 + 3 * t)) (h 40 4).toInt.toNat) l2 l3 l4.toInt.toNat ∧ acI (1 : Int32) (l2.toInt < popI l4) (kwS (fun t => h 40 (6 + 3 * t)) (fun t => h 40 (7 + 3 * t)) (fun t => h 40 (8 + 3 * t)) (h 40 4).toInt.toNat l4) (l6 + 1).toInt.toNat ∧ (∀ j : Nat, j < 49 → g 41 j = h 40 j); have e9 : (l6 + 1).toInt.toNat = l6.toInt.toNat + 1 := (by omega); have hq9 := kw_iff (s := l4) o19.2 o19.1 (by omega) (hdB_le (am_hd hgam) (by omega)); rw [show (g 41 4) = h 40 4 from hi0.2.2.2 4 (by decide)] at hq9; have hq8 := hq9.trans (kwA_eq (eq3_41 hi0.2.2.2 (by omega)) (show l6.toInt.toNat < (h 40 4).toInt.toNat by omega)); exact ⟨by omega, hi0.2.1, by rw [e9]; exact acI_y hi0.2.2.1 (by assumption) (hq8.mp (by assumption)), hi0.2.2.2⟩), (Or.inr rfl), hgmi, hgsm, hgzs, hgrw, hgam, (fun k hk => hgf k hk)⟩ (by have := ti_addK l6 (1 : Int32) 1 rfl; have ⟨⟨_, _⟩, ⟨_, _⟩, ⟨_, _⟩, ⟨_, _⟩, _, _⟩ := hmmi; have := hmsm.1; show ((16 - l4.toInt) * 100 + 40 - (l6 + 1).toInt).toNat < n; omega)
set_option maxRecDepth 100000 in
set_option maxHeartbeats 4000000 in
theorem ty_217 (X : qm_X) (h : qm_H) (a : Int32) (hp : mi h ∧ sm h ∧ zs h ∧ rw_ h) (Q : qm_Q) (hq : ∀ r : Int32, ∀ h' : qm_H, (mi h' ∧ sm h' ∧ zs h' ∧ rw_ h' ∧ (∀ k, (k < 41 ∨ 41 < k) → h' k = h k) ∧ (r.toInt = qSpare a.toInt (mR h))) → Q (some (.int r)) h') : qm_PW X 217 [.ref 39, .int a] h Q := by
  have hmmi : mi h := hp.1
  have ⟨⟨_, _⟩, ⟨_, _⟩, ⟨_, _⟩, ⟨_, _⟩, _, _⟩ := hmmi
  have hmsm : sm h := hp.2.1
  have ⟨⟨⟨_, _⟩, _, _⟩, _, _, _⟩ := hmsm
  have hmzs : zs h := hp.2.2.1
  have hmrw : rw_ h := hp.2.2.2
  refine qm_seg_ok (C := qc_217) (rt := some .int) rfl rfl (cuts := [(20, [0, 1, 2, 3, 4]), (50, [0, 1, 2, 3, 4, 5, 6])]) 400 _ _ _ _ ?_
  show qm_PW X 168 [.int a] h _
  refine ty_168 X h a trivial _ (fun r1 p2 => ?_)
  have o3 : (r1 = 0 ∨ r1 = 1) ∧ ((r1.toInt = 1 ∧ 0 ≤ a.toInt ∧ a.toInt ≤ 1) ∨ (r1.toInt = 0 ∧ ¬ (0 ≤ a.toInt ∧ a.toInt ≤ 1))) := p2
  clear p2
  show (¬ r1 = 0 → (qm_PW X 169 [.ref 39] h _)) ∧ (r1 = 0 → (Q (some (.int (-1 : Int32))) h))
  refine ⟨fun c4 => ?_, fun c5 => ?_⟩
  · have := ti_neK 0 rfl c4
    refine sf_169_39 X h  hmsm _ (fun g6 p7 => ?_)
    obtain ⟨p7_0, p7_1, p7_2⟩ := p7
    have f8 : ∀ k, (k < 41 ∨ 41 < k) → g6 k = h k := fun k hk => (p7_1 k (by omega)).trans (rfl)
    have k9 : mi g6 := by unfold mi; rw [p7_1 39 (by omega)]; exact hmmi
    have k10 : sm g6 := by unfold sm; rw [p7_1 40 (by omega)]; exact hmsm
    have k11 : zs g6 := by unfold zs; rw [p7_1 49 (by omega)]; exact hmzs
    have k12 : rw_ g6 := by unfold rw_; rw [p7_1 46 (by omega)]; exact hmrw
    have o13 : (∀ j : Nat, j < 49 → g6 41 j = h 40 j) := p7_2
    clear p7_2
    have w39_g6 : g6 39 = h 39 := (p7_1 39 (by omega))
    have w40_g6 : g6 40 = h 40 := (p7_1 40 (by omega))
    have sA_g6 : ∀ j : Nat, j < 49 → g6 41 j = h 40 j := o13
    have s4_g6 : (g6 41 4).toInt = (h 40 4).toInt := congrArg Int32.toInt (sA_g6 4 (by decide))
    show qm_PA X 217 20 [(0, .ref 39), (1, .int a), (2, .int (-1 : Int32)), (3, .int 0), (4, .int 0)] [] g6 Q
    exact (ty_217_c X h a hp Q hq _).1 (-1 : Int32) (0 : Int32) (0 : Int32) g6 ⟨(by have : (0 : Int32).toInt = 0 := rfl; have ⟨⟨_, _⟩, ⟨_, _⟩, ⟨_, _⟩, ⟨_, _⟩, _, _⟩ := hmmi; have := hmsm.1; show ((0 ≤ (0 : Int32).toInt ∧ (0 : Int32).toInt ≤ (1 <<< ((h 39 3) &&& 31)).toInt) ∧ 0 ≤ a.toInt ∧ a.toInt ≤ 1) ∧ spR (spK (fun t => h 40 (6 + 3 * t)) (fun t => h 40 (7 + 3 * t)) (fun t => h 40 (8 + 3 * t)) (h 40 4).toInt.toNat) (-1 : Int32) (0 : Int32) (0 : Int32).toInt.toNat ∧ (∀ j : Nat, j < 49 → g6 41 j = h 40 j); have hsh := sh_le (h 39 3) (by omega) (by omega); exact ⟨by have : (0 : Int32).toInt = 0 := rfl; omega, spR_0 rfl ti_n1, sA_g6⟩), k9, k10, k11, k12, p7_0, (fun k hk => f8 k hk)⟩ (Nat.lt_succ_self _)
  · have := ti_eqK 0 rfl c5
    exact hq (-1 : Int32) h ⟨hmmi, hmsm, hmzs, hmrw, (fun k hk => rfl), (by show (-1 : Int32).toInt = qSpare a.toInt (mR h); rw [ti_n1]; exact (spare_no (by omega)).symm)⟩
