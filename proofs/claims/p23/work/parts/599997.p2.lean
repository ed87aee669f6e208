-- ThreadBankModel.place()I
set_option maxRecDepth 100000 in
set_option maxHeartbeats 4000000 in
theorem ty_211_c (X : qm_X) (h : qm_H) (hp : mi h ∧ sm h ∧ zs h ∧ rw_ h ∧ wr h) (Q : qm_Q) (hq : ∀ r : Int32, ∀ h' : qm_H, (mi h' ∧ sm h' ∧ zs h' ∧ rw_ h' ∧ (∀ k, (k < 41 ∨ 41 < k) → h' k = h k) ∧ (r.toInt = qPlace (mR h))) → Q (some (.int r)) h') : ∀ n : Nat, (∀ (l1 : Int32) (l2 : Int32) (l3 : Int32) (g : qm_H), (((0 ≤ l3.toInt ∧ l3.toInt ≤ (h 39 3).toInt) ∧ phR (onN (fun t => h 40 (6 + 3 * t)) (h 40 4).toInt.toNat) (lfN (h 40) (fun t => h 40 (6 + 3 * t)) (h 40 4).toInt.toNat) l1.toInt l2.toInt l3.toInt.toNat ∧ (∀ j : Nat, j < 49 → g 41 j = h 40 j)) ∧ mi g ∧ sm g ∧ zs g ∧ rw_ g ∧ am g ∧ ∀ k, (k < 41 ∨ 41 < k) → g k = h k) → (104 - l3.toInt).toNat < n → qm_PA X 211 12 [(0, .ref 39), (1, .int l1), (2, .int l2), (3, .int l3)] [] g Q) ∧ (∀ (l1 : Int32) (l2 : Int32) (l3 : Int32) (l4 : Int32) (l5 : Int32) (g : qm_H), ((((0 ≤ l5.toInt ∧ l5.toInt ≤ 5) ∧ l2.toInt ≤ 3 ∧ (l2.toInt = -4 → l5.toInt = 0) ∧ (l2.toInt = -4 ∨ 0 ≤ l2.toInt)) ∧ l2.toInt = phH (onN (fun t => h 40 (6 + 3 * t)) (h 40 4).toInt.toNat) (lfN (h 40) (fun t => h 40 (6 + 3 * t)) (h 40 4).toInt.toNat) (h 39 3).toInt.toNat ∧ pgR (laN (h 40) (fun t => h 40 (6 + 3 * t)) (h 40 4).toInt.toNat l2.toInt.toNat) l2.toInt l3.toInt l4.toInt l5.toInt.toNat ∧ (∀ j : Nat, j < 49 → g 41 j = h 40 j)) ∧ mi g ∧ sm g ∧ zs g ∧ rw_ g ∧ am g ∧ ∀ k, (k < 41 ∨ 41 < k) → g k = h k) → (5 - l5.toInt).toNat < n → qm_PA X 211 90 [(0, .ref 39), (1, .int l1), (2, .int l2), (3, .int l3), (4, .int l4), (5, .int l5)] [] g Q) := by
  have hmmi : mi h := hp.1
  have ⟨⟨_, _⟩, ⟨_, _⟩, ⟨_, _⟩, ⟨_, _⟩, _, _⟩ := hmmi
  have hmsm : sm h := hp.2.1
  have ⟨⟨⟨_, _⟩, _, _⟩, _, _, _⟩ := hmsm
  have hmzs : zs h := hp.2.2.1
  have hmrw : rw_ h := hp.2.2.2.1
  have hmwr : wr h := hp.2.2.2.2
  have hkd := (wf_raw (show wfM (mR h) from hmwr)).2.1
  intro n
  induction n with
  | zero => exact ⟨fun _ _ _ _ _ h0 => absurd h0 (Nat.not_lt_zero _), fun _ _ _ _ _ _ _ h0 => absurd h0 (Nat.not_lt_zero _)⟩
  | succ n ih =>
    refine ⟨?_, ?_⟩
    · intro l1 l2 l3 g hi hr
      obtain ⟨hi0, hgmi, hgsm, hgzs, hgrw, hgam, hgf⟩ := hi
      have ⟨⟨_, _⟩, ⟨_, _⟩, ⟨_, _⟩, ⟨_, _⟩, _, _⟩ := hgmi
      have ⟨⟨⟨_, _⟩, _, _⟩, _, _, _⟩ := hgsm
      have ⟨⟨_, _⟩, ⟨_, _⟩, _, _, _⟩ := hgam
      have ti_l3 := ti_rng l3
      have hph := phH_rng (on := onN (fun t => h 40 (6 + 3 * t)) (h 40 4).toInt.toNat) (lf := lfN (h 40) (fun t => h 40 (6 + 3 * t)) (h 40 4).toInt.toNat) l3.toInt.toNat
      have hpr := hi0.2.1.1
      have hor := onN_rng (pl := (fun t => h 40 (6 + 3 * t))) (n := (h 40 4).toInt.toNat) (c := l3.toInt.toNat)
      have e4_g : (g 41 4).toInt = (h 40 4).toInt := congrArg Int32.toInt (hi0.2.2 4 (by decide))
      have w39_g : g 39 = h 39 := hgf 39 (by omega)
      have e3_g : (g 39 3).toInt = (h 39 3).toInt := by rw [w39_g]
      refine qm_seg_ok (C := qc_211) (rt := some .int) rfl rfl (cuts := [(12, [0, 1, 2, 3]), (90, [0, 1, 2, 3, 4, 5])]) 400 _ _ _ _ ?_
      show ((g 39 3).toInt ≤ l3.toInt → (qm_PA X 211 90 [(0, .ref 39), (1, .int l1), (2, .int l2), (3, .int 0), (4, .int (-4 : Int32)), (5, .int 0)] [] g Q)) ∧ (l3.toInt < (g 39 3).toInt → (qm_PW X 175 [.ref 39, .int l3] g _))
      refine ⟨fun c1 => ?_, fun c2 => ?_⟩
      · exact ih.2 l1 l2 (0 : Int32) (-4 : Int32) (0 : Int32) g ⟨(by have : (0 : Int32).toInt = 0 := rfl; have ⟨⟨_, _⟩, ⟨_, _⟩, ⟨_, _⟩, ⟨_, _⟩, _, _⟩ := hmmi; have := hmsm.1; have ⟨⟨_, _⟩, ⟨_, _⟩, ⟨_, _⟩, ⟨_, _⟩, _, _⟩ := hgmi; show ((0 ≤ (0 : Int32).toInt ∧ (0 : Int32).toInt ≤ 5) ∧ l2.toInt ≤ 3 ∧ (l2.toInt = -4 → (0 : Int32).toInt = 0) ∧ (l2.toInt = -4 ∨ 0 ≤ l2.toInt)) ∧ l2.toInt = phH (onN (fun t => h 40 (6 + 3 * t)) (h 40 4).toInt.toNat) (lfN (h 40) (fun t => h 40 (6 + 3 * t)) (h 40 4).toInt.toNat) (h 39 3).toInt.toNat ∧ pgR (laN (h 40) (fun t => h 40 (6 + 3 * t)) (h 40 4).toInt.toNat l2.toInt.toNat) l2.toInt (0 : Int32).toInt (-4 : Int32).toInt (0 : Int32).toInt.toNat ∧ (∀ j : Nat, j < 49 → g 41 j = h 40 j); have hz := hi0.2.1.1; rw [show l3.toInt.toNat = (h 39 3).toInt.toNat by omega] at hz; exact ⟨by have : (0 : Int32).toInt = 0 := rfl; omega, hz, pgR_0 rfl ti_n4 rfl, hi0.2.2⟩), hgmi, hgsm, hgzs, hgrw, hgam, (fun k hk => hgf k hk)⟩ (by have : (0 : Int32).toInt = 0 := rfl; have ⟨⟨_, _⟩, ⟨_, _⟩, ⟨_, _⟩, ⟨_, _⟩, _, _⟩ := hmmi; have := hmsm.1; have ⟨⟨_, _⟩, ⟨_, _⟩, ⟨_, _⟩, ⟨_, _⟩, _, _⟩ := hgmi; show (5 - (0 : Int32).toInt).toNat < n; omega)
      · refine ty_175 X g l3 hgam _ (fun r3 p4 => ?_)
        have o5 : r3.toInt = cntR (fun t => (g 41 (6 + 3 * t)) / 10) (g 41 4).toInt.toNat l3.toInt ∧ (0 ≤ r3.toInt ∧ r3.toInt ≤ 10) := p4
        clear p4
        show qm_PW X 176 [.ref 39, .int l3] g _
        refine ty_176 X g l3 ⟨hgam, (by have ⟨⟨_, _⟩, ⟨_, _⟩, ⟨_, _⟩, ⟨_, _⟩, _, _⟩ := hmmi; have := hmsm.1; have ⟨⟨_, _⟩, ⟨_, _⟩, ⟨_, _⟩, ⟨_, _⟩, _, _⟩ := hgmi; omega)⟩ _ (fun r6 p7 => ?_)
        have o8 : r6.toInt = sumI (fun f => rmF (g 41 l3.toInt.toNat).toInt (f : Int)) 5 ∧ (0 ≤ r6.toInt ∧ r6.toInt ≤ 15) := p7
        clear p7
        show (r6.toInt ≤ r3.toInt → (((0 : Int32) = 0 → (((0 : Int32) = 0 → (qm_PA X 211 12 [(0, .ref 39), (1, .int l1), (2, .int l2), (3, .int (l3 + 1))] [] g Q)) ∧ (¬ (0 : Int32) = 0 → (qm_PW X 175 [.ref 39, .int l3] g _)))) ∧ (¬ (0 : Int32) = 0 → (((0 : Int32) = 0 → (qm_PA X 211 12 [(0, .ref 39), (1, .int l1), (2, .int l3), (3, .int (l3 + 1))] [] g Q)) ∧ (¬ (0 : Int32) = 0 → (qm_PW X 175 [.ref 39, .int l3] g _)))))) ∧ (r3.toInt < r6.toInt → (qm_PW X 175 [.ref 39, .int l3] g _))
        refine ⟨fun c9 => ?_, fun c10 => ?_⟩
        · refine ⟨fun c11 => ?_, fun c12 => ?_⟩
          · refine ⟨fun c13 => ?_, fun c14 => ?_⟩
            · exact ih.1 l1 l2 (l3 + 1) g ⟨(by have := ti_addK l3 (1 : Int32) 1 rfl; have ⟨⟨_, _⟩, ⟨_, _⟩, ⟨_, _⟩, ⟨_, _⟩, _, _⟩ := hmmi; have := hmsm.1; have ⟨⟨_, _⟩, ⟨_, _⟩, ⟨_, _⟩, ⟨_, _⟩, _, _⟩ := hgmi; show (0 ≤ (l3 + 1).toInt ∧ (l3 + 1).toInt ≤ (h 39 3).toInt) ∧ phR (onN (fun t => h 40 (6 + 3 * t)) (h 40 4).toInt.toNat) (lfN (h 40) (fun t => h 40 (6 + 3 * t)) (h 40 4).toInt.toNat) l1.toInt l2.toInt (l3 + 1).toInt.toNat ∧ (∀ j : Nat, j < 49 → g 41 j = h 40 j); have e9 : (l3 + 1).toInt.toNat = l3.toInt.toNat + 1 := (by omega); have hl9 := lf_R (c := l3) hi0.2.2 (by omega) (by omega) (hkd l3.toInt.toNat (by show ((l3.toInt.toNat : Nat) : Int) < (h 39 3).toInt; omega)) o8.1 o5.1; have on0 := on_R (c := l3) hi0.2.2 (by omega) (by omega) o5.1; exact ⟨by omega, by rw [e9]; exact phR_n hi0.2.1 (by omega) (fun w => by omega), hi0.2.2⟩), hgmi, hgsm, hgzs, hgrw, hgam, (fun k hk => hgf k hk)⟩ (by have := ti_addK l3 (1 : Int32) 1 rfl; have ⟨⟨_, _⟩, ⟨_, _⟩, ⟨_, _⟩, ⟨_, _⟩, _, _⟩ := hmmi; have := hmsm.1; have ⟨⟨_, _⟩, ⟨_, _⟩, ⟨_, _⟩, ⟨_, _⟩, _, _⟩ := hgmi; show (104 - (l3 + 1).toInt).toNat < n; omega)
            · exact absurd c14 (by decide)
          · exact absurd c12 (by decide)
        · refine ty_175 X g l3 hgam _ (fun r23 p24 => ?_)
          have o25 : r23.toInt = cntR (fun t => (g 41 (6 + 3 * t)) / 10) (g 41 4).toInt.toNat l3.toInt ∧ (0 ≤ r23.toInt ∧ r23.toInt ≤ 10) := p24
          clear p24
          show (l1.toInt ≤ r23.toInt → (((0 : Int32) = 0 → (((0 : Int32) = 0 → (qm_PA X 211 12 [(0, .ref 39), (1, .int l1), (2, .int l2), (3, .int (l3 + 1))] [] g Q)) ∧ (¬ (0 : Int32) = 0 → (qm_PW X 175 [.ref 39, .int l3] g _)))) ∧ (¬ (0 : Int32) = 0 → (((0 : Int32) = 0 → (qm_PA X 211 12 [(0, .ref 39), (1, .int l1), (2, .int l3), (3, .int (l3 + 1))] [] g Q)) ∧ (¬ (0 : Int32) = 0 → (qm_PW X 175 [.ref 39, .int l3] g _)))))) ∧ (r23.toInt < l1.toInt → (((1 : Int32) = 0 → (((1 : Int32) = 0 → (qm_PA X 211 12 [(0, .ref 39), (1, .int l1), (2, .int l2), (3, .int (l3 + 1))] [] g Q)) ∧ (¬ (1 : Int32) = 0 → (qm_PW X 175 [.ref 39, .int l3] g _)))) ∧ (¬ (1 : Int32) = 0 → (((1 : Int32) = 0 → (qm_PA X 211 12 [(0, .ref 39), (1, .int l1), (2, .int l3), (3, .int (l3 + 1))] [] g Q)) ∧ (¬ (1 : Int32) = 0 → (qm_PW X 175 [.ref 39, .int l3] g _))))))
          refine ⟨fun c26 => ?_, fun c27 => ?_⟩
          · refine ⟨fun c28 => ?_, fun c29 => ?_⟩
            · refine ⟨fun c30 => ?_, fun c31 => ?_⟩
              · exact ih.1 l1 l2 (l3 + 1) g ⟨(by have := ti_addK l3 (1 : Int32) 1 rfl; have ⟨⟨_, _⟩, ⟨_, _⟩, ⟨_, _⟩, ⟨_, _⟩, _, _⟩ := hmmi; have := hmsm.1; have ⟨⟨_, _⟩, ⟨_, _⟩, ⟨_, _⟩, ⟨_, _⟩, _, _⟩ := hgmi; show (0 ≤ (l3 + 1).toInt ∧ (l3 + 1).toInt ≤ (h 39 3).toInt) ∧ phR (onN (fun t => h 40 (6 + 3 * t)) (h 40 4).toInt.toNat) (lfN (h 40) (fun t => h 40 (6 + 3 * t)) (h 40 4).toInt.toNat) l1.toInt l2.toInt (l3 + 1).toInt.toNat ∧ (∀ j : Nat, j < 49 → g 41 j = h 40 j); have e9 : (l3 + 1).toInt.toNat = l3.toInt.toNat + 1 := (by omega); have hl9 := lf_R (c := l3) hi0.2.2 (by omega) (by omega) (hkd l3.toInt.toNat (by show ((l3.toInt.toNat : Nat) : Int) < (h 39 3).toInt; omega)) o8.1 o5.1; have on0 := on_R (c := l3) hi0.2.2 (by omega) (by omega) o5.1; have on1 := on_R (c := l3) hi0.2.2 (by omega) (by omega) o25.1; exact ⟨by omega, by rw [e9]; exact phR_n hi0.2.1 (by omega) (fun w => by omega), hi0.2.2⟩), hgmi, hgsm, hgzs, hgrw, hgam, (fun k hk => hgf k hk)⟩ (by have := ti_addK l3 (1 : Int32) 1 rfl; have ⟨⟨_, _⟩, ⟨_, _⟩, ⟨_, _⟩, ⟨_, _⟩, _, _⟩ := hmmi; have := hmsm.1; have ⟨⟨_, _⟩, ⟨_, _⟩, ⟨_, _⟩, ⟨_, _⟩, _, _⟩ := hgmi; show (104 - (l3 + 1).toInt).toNat < n; omega)
              · exact absurd c31 (by decide)
            · exact absurd c29 (by decide)
          · refine ⟨fun c40 => ?_, fun c41 => ?_⟩
            · exact absurd c40 (by decide)
            · refine ⟨fun c47 => ?_, fun c48 => ?_⟩
              · exact absurd c47 (by decide)
              · refine ty_175 X g l3 hgam _ (fun r49 p50 => ?_)
                have o51 : r49.toInt = cntR (fun t => (g 41 (6 + 3 * t)) / 10) (g 41 4).toInt.toNat l3.toInt ∧ (0 ≤ r49.toInt ∧ r49.toInt ≤ 10) := p50
                clear p50
                show qm_PA X 211 12 [(0, .ref 39), (1, .int r49), (2, .int l3), (3, .int (l3 + 1))] [] g Q
                exact ih.1 r49 l3 (l3 + 1) g ⟨(by have := ti_addK l3 (1 : Int32) 1 rfl; have ⟨⟨_, _⟩, ⟨_, _⟩, ⟨_, _⟩, ⟨_, _⟩, _, _⟩ := hmmi; have := hmsm.1; have ⟨⟨_, _⟩, ⟨_, _⟩, ⟨_, _⟩, ⟨_, _⟩, _, _⟩ := hgmi; show (0 ≤ (l3 + 1).toInt ∧ (l3 + 1).toInt ≤ (h 39 3).toInt) ∧ phR (onN (fun t => h 40 (6 + 3 * t)) (h 40 4).toInt.toNat) (lfN (h 40) (fun t => h 40 (6 + 3 * t)) (h 40 4).toInt.toNat) r49.toInt l3.toInt (l3 + 1).toInt.toNat ∧ (∀ j : Nat, j < 49 → g 41 j = h 40 j); have e9 : (l3 + 1).toInt.toNat = l3.toInt.toNat + 1 := (by omega); have hl9 := lf_R (c := l3) hi0.2.2 (by omega) (by omega) (hkd l3.toInt.toNat (by show ((l3.toInt.toNat : Nat) : Int) < (h 39 3).toInt; omega)) o8.1 o5.1; have on0 := on_R (c := l3) hi0.2.2 (by omega) (by omega) o5.1; have on1 := on_R (c := l3) hi0.2.2 (by omega) (by omega) o25.1; have on2 := on_R (c := l3) hi0.2.2 (by omega) (by omega) o51.1; exact ⟨by omega, by rw [e9]; exact phR_y hi0.2.1 (by omega) (by omega) (by omega) (by omega), hi0.2.2⟩), hgmi, hgsm, hgzs, hgrw, hgam, (fun k hk => hgf k hk)⟩ (by have := ti_addK l3 (1 : Int32) 1 rfl; have ⟨⟨_, _⟩, ⟨_, _⟩, ⟨_, _⟩, ⟨_, _⟩, _, _⟩ := hmmi; have := hmsm.1; have ⟨⟨_, _⟩, ⟨_, _⟩, ⟨_, _⟩, ⟨_, _⟩, _, _⟩ := hgmi; show (104 - (l3 + 1).toInt).toNat < n; omega)
    · intro l1 l2 l3 l4 l5 g hi hr
      obtain ⟨hi0, hgmi, hgsm, hgzs, hgrw, hgam, hgf⟩ := hi
      have ⟨⟨_, _⟩, ⟨_, _⟩, ⟨_, _⟩, ⟨_, _⟩, _, _⟩ := hgmi
      have ⟨⟨⟨_, _⟩, _, _⟩, _, _, _⟩ := hgsm
      have ⟨⟨_, _⟩, ⟨_, _⟩, _, _, _⟩ := hgam
      have ti_l5 := ti_rng l5
      have hph := phH_rng (on := onN (fun t => h 40 (6 + 3 * t)) (h 40 4).toInt.toNat) (lf := lfN (h 40) (fun t => h 40 (6 + 3 * t)) (h 40 4).toInt.toNat) (h 39 3).toInt.toNat
      have e4_g : (g 41 4).toInt = (h 40 4).toInt := congrArg Int32.toInt (hi0.2.2.2 4 (by decide))
      have w39_g : g 39 = h 39 := hgf 39 (by omega)
      have e3_g : (g 39 3).toInt = (h 39 3).toInt := by rw [w39_g]
      refine qm_seg_ok (C := qc_211) (rt := some .int) rfl rfl (cuts := [(12, [0, 1, 2, 3]), (90, [0, 1, 2, 3, 4, 5])]) 400 _ _ _ _ ?_
      show (5 ≤ l5.toInt → (Q (some (.int l4)) g)) ∧ (l5.toInt < 5 → ((l2 = (-4 : Int32) → (Q (some (.int l4)) g)) ∧ (¬ l2 = (-4 : Int32) → (qm_PW X 173 [.ref 39, .int ((10 * l2) + l5)] g _))))
      refine ⟨fun c1 => ?_, fun c2 => ?_⟩
      · exact hq l4 g ⟨hgmi, hgsm, hgzs, hgrw, (fun k hk => hgf k hk), (by have ⟨⟨_, _⟩, ⟨_, _⟩, ⟨_, _⟩, ⟨_, _⟩, _, _⟩ := hmmi; have := hmsm.1; show l4.toInt = qPlace (mR h); have hz := hi0.2.2.1; rw [show l5.toInt.toNat = 5 by omega] at hz; exact (pg_end hi0.2.1 (by omega) (wf_fg hmwr) hz).trans (show qPlace (mR h) = _ from place_mk).symm)⟩
      · refine ⟨fun c3 => ?_, fun c4 => ?_⟩
        · have := ti_eqK (-4) ti_n4 c3
          exact hq l4 g ⟨hgmi, hgsm, hgzs, hgrw, (fun k hk => hgf k hk), (by have ⟨⟨_, _⟩, ⟨_, _⟩, ⟨_, _⟩, ⟨_, _⟩, _, _⟩ := hmmi; have := hmsm.1; show l4.toInt = qPlace (mR h); have hz := hi0.2.2.1; rw [show l5.toInt.toNat = 0 by omega] at hz; have h4 : l4.toInt = -4 := (hz.elim (fun q => q.1) (fun q => absurd q.1 (by decide))); exact h4.trans ((plQ_no hi0.2.1 (by omega)).symm.trans (show qPlace (mR h) = _ from place_mk).symm))⟩
        · have := ti_neK (-4) ti_n4 c4
          refine ty_173 X g ((10 * l2) + l5) ⟨hgam, (by have := ti_mulL (10 : Int32) 10 rfl l2; have := ti_add (10 * l2) l5; have ⟨⟨_, _⟩, ⟨_, _⟩, ⟨_, _⟩, ⟨_, _⟩, _, _⟩ := hmmi; have := hmsm.1; omega)⟩ _ (fun r5 p6 => ?_)
          have o7 : r5.toInt = rmF (g 41 (((10 * l2) + l5).toInt / 10).toNat).toInt (((10 * l2) + l5).toInt % 10) := p6
          clear p6
          show qm_PW X 174 [.ref 39, .int ((10 * l2) + l5)] g _
          refine ty_174 X g ((10 * l2) + l5) hgam _ (fun r8 p9 => ?_)
          have o10 : r8.toInt = cntD (g 41) (g 41 4).toInt.toNat ((10 * l2) + l5).toInt ∧ (0 ≤ r8.toInt ∧ r8.toInt ≤ 10) := p9
          clear p9
          show ((r5 - r8).toInt ≤ l3.toInt → (((r5 - r8).toInt ≤ l3.toInt → (qm_PA X 211 90 [(0, .ref 39), (1, .int l1), (2, .int l2), (3, .int l3), (4, .int l4), (5, .int (l5 + 1))] [] g Q)) ∧ (l3.toInt < (r5 - r8).toInt → (qm_PA X 211 90 [(0, .ref 39), (1, .int l1), (2, .int l2), (3, .int (r5 - r8)), (4, .int l4), (5, .int (l5 + 1))] [] g Q)))) ∧ (l3.toInt < (r5 - r8).toInt → (((r5 - r8).toInt ≤ l3.toInt → (qm_PA X 211 90 [(0, .ref 39), (1, .int l1), (2, .int l2), (3, .int l3), (4, .int ((10 * l2) + l5)), (5, .int (l5 + 1))] [] g Q)) ∧ (l3.toInt < (r5 - r8).toInt → (qm_PA X 211 90 [(0, .ref 39), (1, .int l1), (2, .int l2), (3, .int (r5 - r8)), (4, .int ((10 * l2) + l5)), (5, .int (l5 + 1))] [] g Q))))
          refine ⟨fun c11 => ?_, fun c12 => ?_⟩
          · refine ⟨fun c13 => ?_, fun c14 => ?_⟩
            · exact ih.2 l1 l2 l3 l4 (l5 + 1) g ⟨(by have := ti_addK l5 (1 : Int32) 1 rfl; have := ti_mulL (10 : Int32) 10 rfl l2; have := ti_add (10 * l2) l5; have := ti_sub r5 r8; have ⟨⟨_, _⟩, ⟨_, _⟩, ⟨_, _⟩, ⟨_, _⟩, _, _⟩ := hmmi; have := hmsm.1; show ((0 ≤ (l5 + 1).toInt ∧ (l5 + 1).toInt ≤ 5) ∧ l2.toInt ≤ 3 ∧ (l2.toInt = -4 → (l5 + 1).toInt = 0) ∧ (l2.toInt = -4 ∨ 0 ≤ l2.toInt)) ∧ l2.toInt = phH (onN (fun t => h 40 (6 + 3 * t)) (h 40 4).toInt.toNat) (lfN (h 40) (fun t => h 40 (6 + 3 * t)) (h 40 4).toInt.toNat) (h 39 3).toInt.toNat ∧ pgR (laN (h 40) (fun t => h 40 (6 + 3 * t)) (h 40 4).toInt.toNat l2.toInt.toNat) l2.toInt l3.toInt l4.toInt (l5 + 1).toInt.toNat ∧ (∀ j : Nat, j < 49 → g 41 j = h 40 j); have e9 : (l5 + 1).toInt.toNat = l5.toInt.toNat + 1 := (by omega); have q1 := ti_mulL (10 : Int32) 10 rfl l2 (by omega); have q2 := ti_add (10 * l2) l5 (by omega); have hk9 := hkd (((10 * l2) + l5).toInt / 10).toNat (by show (((((10 * l2) + l5).toInt / 10).toNat : Nat) : Int) < (h 39 3).toInt; omega); rw [hi0.2.2.2 _ (by omega), rmF_C hk9 (by omega)] at o7; rw [cnt_41 hi0.2.2.2 (by omega)] at o10; have hrm := rmC_rng (k := (h 40 (((10 * l2) + l5).toInt / 10).toNat).toInt) (f := ((10 * l2) + l5).toInt % 10); have xa := la_of (kd := h 40) (pl := (fun t => h 40 (6 + 3 * t))) (n := (h 40 4).toInt.toNat) (c := l2.toInt.toNat) (f := l5.toInt.toNat) (x := ((10 * l2) + l5).toInt) (r := r5.toInt - r8.toInt) (by omega) (by omega) (by omega); have q7 := ti_sub r5 r8 (by omega); exact ⟨by omega, hi0.2.1, by rw [e9]; exact pgR_n hi0.2.2.1 (by omega), hi0.2.2.2⟩), hgmi, hgsm, hgzs, hgrw, hgam, (fun k hk => hgf k hk)⟩ (by have := ti_addK l5 (1 : Int32) 1 rfl; have := ti_mulL (10 : Int32) 10 rfl l2; have := ti_add (10 * l2) l5; have := ti_sub r5 r8; have ⟨⟨_, _⟩, ⟨_, _⟩, ⟨_, _⟩, ⟨_, _⟩, _, _⟩ := hmmi; have := hmsm.1; show (5 - (l5 + 1).toInt).toNat < n; omega)
            · exact ih.2 l1 l2 (r5 - r8) l4 (l5 + 1) g ⟨(by have := ti_addK l5 (1 : Int32) 1 rfl; have := ti_sub r5 r8; have := ti_mulL (10 : Int32) 10 rfl l2; have := ti_add (10 * l2) l5; have ⟨⟨_, _⟩, ⟨_, _⟩, ⟨_, _⟩, ⟨_, _⟩, _, _⟩ := hmmi; have := hmsm.1; show ((0 ≤ (l5 + 1).toInt ∧ (l5 + 1).toInt ≤ 5) ∧ l2.toInt ≤ 3 ∧ (l2.toInt = -4 → (l5 + 1).toInt = 0) ∧ (l2.toInt = -4 ∨ 0 ≤ l2.toInt)) ∧ l2.toInt = phH (onN (fun t => h 40 (6 + 3 * t)) (h 40 4).toInt.toNat) (lfN (h 40) (fun t => h 40 (6 + 3 * t)) (h 40 4).toInt.toNat) (h 39 3).toInt.toNat ∧ pgR (laN (h 40) (fun t => h 40 (6 + 3 * t)) (h 40 4).toInt.toNat l2.toInt.toNat) l2.toInt (r5 - r8).toInt l4.toInt (l5 + 1).toInt.toNat ∧ (∀ j : Nat, j < 49 → g 41 j = h 40 j); exfalso; omega), hgmi, hgsm, hgzs, hgrw, hgam, (fun k hk => hgf k hk)⟩ (by have := ti_addK l5 (1 : Int32) 1 rfl; have := ti_mulL (10 : Int32) 10 rfl l2; have := ti_add (10 * l2) l5; have := ti_sub r5 r8; have ⟨⟨_, _⟩, ⟨_, _⟩, ⟨_, _⟩, ⟨_, _⟩, _, _⟩ := hmmi; have := hmsm.1; show (5 - (l5 + 1).toInt).toNat < n; omega)
          · refine ⟨fun c15 => ?_, fun c16 => ?_⟩
            · exact ih.2 l1 l2 l3 ((10 * l2) + l5) (l5 + 1) g ⟨(by have := ti_addK l5 (1 : Int32) 1 rfl; have := ti_mulL (10 : Int32) 10 rfl l2; have := ti_add (10 * l2) l5; have := ti_sub r5 r8; have ⟨⟨_, _⟩, ⟨_, _⟩, ⟨_, _⟩, ⟨_, _⟩, _, _⟩ := hmmi; have := hmsm.1; show ((0 ≤ (l5 + 1).toInt ∧ (l5 + 1).toInt ≤ 5) ∧ l2.toInt ≤ 3 ∧ (l2.toInt = -4 → (l5 + 1).toInt = 0) ∧ (l2.toInt = -4 ∨ 0 ≤ l2.toInt)) ∧ l2.toInt = phH (onN (fun t => h 40 (6 + 3 * t)) (h 40 4).toInt.toNat) (lfN (h 40) (fun t => h 40 (6 + 3 * t)) (h 40 4).toInt.toNat) (h 39 3).toInt.toNat ∧ pgR (laN (h 40) (fun t => h 40 (6 + 3 * t)) (h 40 4).toInt.toNat l2.toInt.toNat) l2.toInt l3.toInt ((10 * l2) + l5).toInt (l5 + 1).toInt.toNat ∧ (∀ j : Nat, j < 49 → g 41 j = h 40 j); exfalso; omega), hgmi, hgsm, hgzs, hgrw, hgam, (fun k hk => hgf k hk)⟩ (by have := ti_addK l5 (1 : Int32) 1 rfl; have := ti_mulL (10 : Int32) 10 rfl l2; have := ti_add (10 * l2) l5; have := ti_sub r5 r8; have ⟨⟨_, _⟩, ⟨_, _⟩, ⟨_, _⟩, ⟨_, _⟩, _, _⟩ := hmmi; have := hmsm.1; show (5 - (l5 + 1).toInt).toNat < n; omega)
            · exact ih.2 l1 l2 (r5 - r8) ((10 * l2) + l5) (l5 + 1) g ⟨(by have := ti_addK l5 (1 : Int32) 1 rfl; have := ti_sub r5 r8; have := ti_mulL (10 : Int32) 10 rfl l2; have := ti_add (10 * l2) l5; have ⟨⟨_, _⟩, ⟨_, _⟩, ⟨_, _⟩, ⟨_, _⟩, _, _⟩ := hmmi; have := hmsm.1; show ((0 ≤ (l5 + 1).toInt ∧ (l5 + 1).toInt ≤ 5) ∧ l2.toInt ≤ 3 ∧ (l2.toInt = -4 → (l5 + 1).toInt = 0) ∧ (l2.toInt = -4 ∨ 0 ≤ l2.toInt)) ∧ l2.toInt = phH (onN (fun t => h 40 (6 + 3 * t)) (h 40 4).toInt.toNat) (lfN (h 40) (fun t => h 40 (6 + 3 * t)) (h 40 4).toInt.toNat) (h 39 3).toInt.toNat ∧ pgR (laN (h 40) (fun t => h 40 (6 + 3 * t)) (h 40 4).toInt.toNat l2.toInt.toNat) l2.toInt (r5 - r8).toInt ((10 * l2) + l5).toInt (l5 + 1).toInt.toNat ∧ (∀ j : Nat, j < 49 → g 41 j = h 40 j); have e9 : (l5 + 1).toInt.toNat = l5.toInt.toNat + 1 := (by omega); have q1 := ti_mulL (10 : Int32) 10 rfl l2 (by omega); have q2 := ti_add (10 * l2) l5 (by omega); have hk9 := hkd (((10 * l2) + l5).toInt / 10).toNat (by show (((((10 * l2) + l5).toInt / 10).toNat : Nat) : Int) < (h 39 3).toInt; omega); rw [hi0.2.2.2 _ (by omega), rmF_C hk9 (by omega)] at o7; rw [cnt_41 hi0.2.2.2 (by omega)] at o10; have hrm := rmC_rng (k := (h 40 (((10 * l2) + l5).toInt / 10).toNat).toInt) (f := ((10 * l2) + l5).toInt % 10); have xa := la_of (kd := h 40) (pl := (fun t => h 40 (6 + 3 * t))) (n := (h 40 4).toInt.toNat) (c := l2.toInt.toNat) (f := l5.toInt.toNat) (x := ((10 * l2) + l5).toInt) (r := r5.toInt - r8.toInt) (by omega) (by omega) (by omega); have q7 := ti_sub r5 r8 (by omega); exact ⟨by omega, hi0.2.1, by rw [e9]; exact pgR_y hi0.2.2.1 (by omega) (by omega) (by omega), hi0.2.2.2⟩), hgmi, hgsm, hgzs, hgrw, hgam, (fun k hk => hgf k hk)⟩ (by have := ti_addK l5 (1 : Int32) 1 rfl; have := ti_mulL (10 : Int32) 10 rfl l2; have := ti_add (10 * l2) l5; have := ti_sub r5 r8; have ⟨⟨_, _⟩, ⟨_, _⟩, ⟨_, _⟩, ⟨_, _⟩, _, _⟩ := hmmi; have := hmsm.1; show (5 - (l5 + 1).toInt).toNat < n; omega)
set_option maxRecDepth 100000 in
set_option maxHeartbeats 4000000 in
theorem ty_211 (X : qm_X) (h : qm_H) (hp : mi h ∧ sm h ∧ zs h ∧ rw_ h ∧ wr h) (Q : qm_Q) (hq : ∀ r : Int32, ∀ h' : qm_H, (mi h' ∧ sm h' ∧ zs h' ∧ rw_ h' ∧ (∀ k, (k < 41 ∨ 41 < k) → h' k = h k) ∧ (r.toInt = qPlace (mR h))) → Q (some (.int r)) h') : qm_PW X 211 [.ref 39] h Q := by
  have hmmi : mi h := hp.1
  have ⟨⟨_, _⟩, ⟨_, _⟩, ⟨_, _⟩, ⟨_, _⟩, _, _⟩ := hmmi
  have hmsm : sm h := hp.2.1
  have ⟨⟨⟨_, _⟩, _, _⟩, _, _, _⟩ := hmsm
  have hmzs : zs h := hp.2.2.1
  have hmrw : rw_ h := hp.2.2.2.1
  have hmwr : wr h := hp.2.2.2.2
  have hkd := (wf_raw (show wfM (mR h) from hmwr)).2.1
  refine qm_seg_ok (C := qc_211) (rt := some .int) rfl rfl (cuts := [(12, [0, 1, 2, 3]), (90, [0, 1, 2, 3, 4, 5])]) 400 _ _ _ _ ?_
  show qm_PW X 169 [.ref 39] h _
  refine sf_169_39 X h  hmsm _ (fun g1 p2 => ?_)
  obtain ⟨p2_0, p2_1, p2_2⟩ := p2
  have f3 : ∀ k, (k < 41 ∨ 41 < k) → g1 k = h k := fun k hk => (p2_1 k (by omega)).trans (rfl)
  have k4 : mi g1 := by unfold mi; rw [p2_1 39 (by omega)]; exact hmmi
  have k5 : sm g1 := by unfold sm; rw [p2_1 40 (by omega)]; exact hmsm
  have k6 : zs g1 := by unfold zs; rw [p2_1 49 (by omega)]; exact hmzs
  have k7 : rw_ g1 := by unfold rw_; rw [p2_1 46 (by omega)]; exact hmrw
  have k8 : wr g1 := wf_tr2 hmwr (mR_of (congrFun (p2_1 39 (by omega)) 3) (p2_1 40 (by omega)))
  have o9 : (∀ j : Nat, j < 49 → g1 41 j = h 40 j) := p2_2
  clear p2_2
  have w39_g1 : g1 39 = h 39 := (p2_1 39 (by omega))
  have w40_g1 : g1 40 = h 40 := (p2_1 40 (by omega))
  have sA_g1 : ∀ j : Nat, j < 49 → g1 41 j = h 40 j := o9
  have s4_g1 : (g1 41 4).toInt = (h 40 4).toInt := congrArg Int32.toInt (sA_g1 4 (by decide))
  show qm_PA X 211 12 [(0, .ref 39), (1, .int 1000000), (2, .int (-4 : Int32)), (3, .int 0)] [] g1 Q
  exact (ty_211_c X h hp Q hq _).1 (1000000 : Int32) (-4 : Int32) (0 : Int32) g1 ⟨(by have : (1000000 : Int32).toInt = 1000000 := rfl; have : (0 : Int32).toInt = 0 := rfl; have ⟨⟨_, _⟩, ⟨_, _⟩, ⟨_, _⟩, ⟨_, _⟩, _, _⟩ := hmmi; have := hmsm.1; show (0 ≤ (0 : Int32).toInt ∧ (0 : Int32).toInt ≤ (h 39 3).toInt) ∧ phR (onN (fun t => h 40 (6 + 3 * t)) (h 40 4).toInt.toNat) (lfN (h 40) (fun t => h 40 (6 + 3 * t)) (h 40 4).toInt.toNat) (1000000 : Int32).toInt (-4 : Int32).toInt (0 : Int32).toInt.toNat ∧ (∀ j : Nat, j < 49 → g1 41 j = h 40 j); exact ⟨by have : (0 : Int32).toInt = 0 := rfl; omega, phR_0 rfl rfl ti_n4, sA_g1⟩), k4, k5, k6, k7, p2_0, (fun k hk => f3 k hk)⟩ (Nat.lt_succ_self _)
