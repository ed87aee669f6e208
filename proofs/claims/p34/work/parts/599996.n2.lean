-- ThreadBankModel.drift(III)I
set_option maxRecDepth 100000 in
set_option maxHeartbeats 4000000 in
theorem ty_229_c (X : qm_X) (h : qm_H) (a : Int32) (b : Int32) (c : Int32) (hp : mi h ∧ sm h ∧ zs h ∧ rw_ h ∧ wr h) (Q : qm_Q) (hq : ∀ r : Int32, ∀ h' : qm_H, (mi h' ∧ sm h' ∧ zs h' ∧ rw_ h' ∧ (∀ k, (k < 41 ∨ 41 < k) → h' k = h k) ∧ (r.toInt = qDrift a b.toInt c.toInt (mR h))) → Q (some (.int r)) h') : ∀ n : Nat, (∀ (l4 : Int32) (l5 : Int32) (l6 : Int32) (g : qm_H), ((((0 ≤ l6.toInt ∧ l6.toInt ≤ b.toInt) ∧ (1 ≤ b.toInt ∧ b.toInt ≤ 20) ∧ 0 ≤ c.toInt ∧ c.toInt ≤ 10) ∧ (l4, l5) = drN (slO (h 40) (fun t => h 40 (6 + 3 * t)) c.toInt) (h 40 4).toInt.toNat (a, drB0 (h 40 4)) l6.toInt.toNat ∧ (∀ j : Nat, j < 49 → g 41 j = h 40 j)) ∧ mi g ∧ sm g ∧ zs g ∧ rw_ g ∧ am g ∧ ∀ k, (k < 41 ∨ 41 < k) → g k = h k) → ((20 - l6.toInt) * 100 + 50).toNat < n → qm_PA X 229 48 [(0, .ref 39), (1, .int a), (2, .int b), (3, .int c), (4, .int l4), (5, .int l5), (6, .int l6)] [] g Q) ∧ (∀ (l4 : Int32) (l5 : Int32) (l6 : Int32) (l7 : Int32) (l8 : Int32) (g : qm_H), ((((0 ≤ l6.toInt ∧ l6.toInt < b.toInt) ∧ (0 ≤ l8.toInt ∧ l8.toInt ≤ (h 40 4).toInt) ∧ (1 ≤ b.toInt ∧ b.toInt ≤ 20) ∧ 0 ≤ c.toInt ∧ c.toInt ≤ 10) ∧ (l4, l7) = drI (slO (h 40) (fun t => h 40 (6 + 3 * t)) c.toInt) (drN (slO (h 40) (fun t => h 40 (6 + 3 * t)) c.toInt) (h 40 4).toInt.toNat (a, drB0 (h 40 4)) l6.toInt.toNat) l8.toInt.toNat ∧ drW l7 l5 l8.toInt.toNat ∧ (∀ j : Nat, j < 49 → g 41 j = h 40 j)) ∧ mi g ∧ sm g ∧ zs g ∧ rw_ g ∧ am g ∧ ∀ k, (k < 41 ∨ 41 < k) → g k = h k) → ((20 - l6.toInt) * 100 + 40 - l8.toInt).toNat < n → qm_PA X 229 61 [(0, .ref 39), (1, .int a), (2, .int b), (3, .int c), (4, .int l4), (5, .int l5), (6, .int l6), (7, .int l7), (8, .int l8)] [] g Q) := by
  have hmmi : mi h := hp.1
  have ⟨⟨_, _⟩, ⟨_, _⟩, ⟨_, _⟩, ⟨_, _⟩, _, _⟩ := hmmi
  have hmsm : sm h := hp.2.1
  have ⟨⟨⟨_, _⟩, _, _⟩, _, _, _⟩ := hmsm
  have hmzs : zs h := hp.2.2.1
  have hmrw : rw_ h := hp.2.2.2.1
  have hmwr : wr h := hp.2.2.2.2
  intro n
  induction n with
  | zero => exact ⟨fun _ _ _ _ _ h0 => absurd h0 (Nat.not_lt_zero _), fun _ _ _ _ _ _ _ h0 => absurd h0 (Nat.not_lt_zero _)⟩
  | succ n ih =>
    refine ⟨?_, ?_⟩
    · intro l4 l5 l6 g hi hr
      obtain ⟨hi0, hgmi, hgsm, hgzs, hgrw, hgam, hgf⟩ := hi
      have ⟨⟨_, _⟩, ⟨_, _⟩, ⟨_, _⟩, ⟨_, _⟩, _, _⟩ := hgmi
      have ⟨⟨⟨_, _⟩, _, _⟩, _, _, _⟩ := hgsm
      have ⟨⟨_, _⟩, ⟨_, _⟩, _, _, _⟩ := hgam
      have ti_l6 := ti_rng l6
      have e4_g : (g 41 4).toInt = (h 40 4).toInt := congrArg Int32.toInt (hi0.2.2 4 (by decide))
      refine qm_seg_ok (C := qc_229) (rt := some .int) rfl rfl (cuts := [(48, [0, 1, 2, 3, 4, 5, 6]), (61, [0, 1, 2, 3, 4, 5, 6, 7, 8])]) 400 _ _ _ _ ?_
      show (b.toInt ≤ l6.toInt → (Q (some (.int l5)) g)) ∧ (l6.toInt < b.toInt → (qm_PA X 229 61 [(0, .ref 39), (1, .int a), (2, .int b), (3, .int c), (4, .int l4), (5, .int l5), (6, .int l6), (7, .int l5), (8, .int 0)] [] g Q))
      refine ⟨fun c1 => ?_, fun c2 => ?_⟩
      · exact hq l5 g ⟨hgmi, hgsm, hgzs, hgrw, (fun k hk => hgf k hk), (by show l5.toInt = qDrift a b.toInt c.toInt (mR h); exact drift_ok hmwr ⟨by omega, by omega⟩ (show l6.toInt.toNat = b.toInt.toNat by omega) hi0.2.1)⟩
      · exact ih.2 l4 l5 l6 l5 (0 : Int32) g ⟨(by have : (0 : Int32).toInt = 0 := rfl; show ((0 ≤ l6.toInt ∧ l6.toInt < b.toInt) ∧ (0 ≤ (0 : Int32).toInt ∧ (0 : Int32).toInt ≤ (h 40 4).toInt) ∧ (1 ≤ b.toInt ∧ b.toInt ≤ 20) ∧ 0 ≤ c.toInt ∧ c.toInt ≤ 10) ∧ (l4, l5) = drI (slO (h 40) (fun t => h 40 (6 + 3 * t)) c.toInt) (drN (slO (h 40) (fun t => h 40 (6 + 3 * t)) c.toInt) (h 40 4).toInt.toNat (a, drB0 (h 40 4)) l6.toInt.toNat) (0 : Int32).toInt.toNat ∧ drW l5 l5 (0 : Int32).toInt.toNat ∧ (∀ j : Nat, j < 49 → g 41 j = h 40 j); exact ⟨by have : (0 : Int32).toInt = 0 := rfl; omega, hi0.2.1, drW_0, hi0.2.2⟩), hgmi, hgsm, hgzs, hgrw, hgam, (fun k hk => hgf k hk)⟩ (by have : (0 : Int32).toInt = 0 := rfl; show ((20 - l6.toInt) * 100 + 40 - (0 : Int32).toInt).toNat < n; omega)
    · intro l4 l5 l6 l7 l8 g hi hr
      obtain ⟨hi0, hgmi, hgsm, hgzs, hgrw, hgam, hgf⟩ := hi
      have ⟨⟨_, _⟩, ⟨_, _⟩, ⟨_, _⟩, ⟨_, _⟩, _, _⟩ := hgmi
      have ⟨⟨⟨_, _⟩, _, _⟩, _, _, _⟩ := hgsm
      have ⟨⟨_, _⟩, ⟨_, _⟩, _, _, _⟩ := hgam
      have ti_l8 := ti_rng l8
      have e4_g : (g 41 4).toInt = (h 40 4).toInt := congrArg Int32.toInt (hi0.2.2.2 4 (by decide))
      refine qm_seg_ok (C := qc_229) (rt := some .int) rfl rfl (cuts := [(48, [0, 1, 2, 3, 4, 5, 6]), (61, [0, 1, 2, 3, 4, 5, 6, 7, 8])]) 400 _ _ _ _ ?_
      show (0 ≤ (4 : Int) ∧ (4 : Int) < 49) ∧ (((g 41 4).toInt ≤ l8.toInt → (qm_PA X 229 48 [(0, .ref 39), (1, .int a), (2, .int b), (3, .int c), (4, .int l4), (5, .int l7), (6, .int (l6 + 1))] [] g Q)) ∧ (l8.toInt < (g 41 4).toInt → ((¬ ((l5 >>> (l8 &&& 31)) &&& 1) = 1 → (qm_PA X 229 61 [(0, .ref 39), (1, .int a), (2, .int b), (3, .int c), (4, .int l4), (5, .int l5), (6, .int l6), (7, .int l7), (8, .int (l8 + 1))] [] g Q)) ∧ (((l5 >>> (l8 &&& 31)) &&& 1) = 1 → (¬ (20 : Int32) = 0 ∧ (qm_PW X 221 [.ref 39, .int l8, .int c] g _))))))
      refine ⟨by decide, ?_⟩
      refine ⟨fun c1 => ?_, fun c2 => ?_⟩
      · exact ih.1 l4 l7 (l6 + 1) g ⟨(by have := ti_addK l6 (1 : Int32) 1 rfl; show ((0 ≤ (l6 + 1).toInt ∧ (l6 + 1).toInt ≤ b.toInt) ∧ (1 ≤ b.toInt ∧ b.toInt ≤ 20) ∧ 0 ≤ c.toInt ∧ c.toInt ≤ 10) ∧ (l4, l7) = drN (slO (h 40) (fun t => h 40 (6 + 3 * t)) c.toInt) (h 40 4).toInt.toNat (a, drB0 (h 40 4)) (l6 + 1).toInt.toNat ∧ (∀ j : Nat, j < 49 → g 41 j = h 40 j); have h8 : l8.toInt.toNat = (h 40 4).toInt.toNat := (by omega); have hz := hi0.2.1; rw [h8] at hz; exact ⟨by omega, by rw [show (l6 + 1).toInt.toNat = l6.toInt.toNat + 1 by omega]; exact hz, hi0.2.2.2⟩), hgmi, hgsm, hgzs, hgrw, hgam, (fun k hk => hgf k hk)⟩ (by have := ti_addK l6 (1 : Int32) 1 rfl; show ((20 - (l6 + 1).toInt) * 100 + 50).toNat < n; omega)
      · refine ⟨fun c3 => ?_, fun c4 => ?_⟩
        · have := ti_neK 1 rfl c3
          exact ih.2 l4 l5 l6 l7 (l8 + 1) g ⟨(by have := ti_addK l8 (1 : Int32) 1 rfl; show ((0 ≤ l6.toInt ∧ l6.toInt < b.toInt) ∧ (0 ≤ (l8 + 1).toInt ∧ (l8 + 1).toInt ≤ (h 40 4).toInt) ∧ (1 ≤ b.toInt ∧ b.toInt ≤ 20) ∧ 0 ≤ c.toInt ∧ c.toInt ≤ 10) ∧ (l4, l7) = drI (slO (h 40) (fun t => h 40 (6 + 3 * t)) c.toInt) (drN (slO (h 40) (fun t => h 40 (6 + 3 * t)) c.toInt) (h 40 4).toInt.toNat (a, drB0 (h 40 4)) l6.toInt.toNat) (l8 + 1).toInt.toNat ∧ drW l7 l5 (l8 + 1).toInt.toNat ∧ (∀ j : Nat, j < 49 → g 41 j = h 40 j); have el8 : l8 = nI l8.toInt.toNat := nI_is (by omega) (by omega); have e9 : (l8 + 1).toInt.toNat = l8.toInt.toNat + 1 := (by omega); have hw9 := hi0.2.2.1 l8.toInt.toNat (Nat.le_refl _) (by omega); have hb9 := hw9.trans (bP_yes el8 (an1.resolve_right (by assumption))); exact ⟨by omega, by rw [e9]; exact drI_z hi0.2.1 hb9, by rw [e9]; exact drW_k hi0.2.2.1, hi0.2.2.2⟩), hgmi, hgsm, hgzs, hgrw, hgam, (fun k hk => hgf k hk)⟩ (by have := ti_addK l8 (1 : Int32) 1 rfl; show ((20 - l6.toInt) * 100 + 40 - (l8 + 1).toInt).toNat < n; omega)
        · have := ti_eqK 1 rfl c4
          refine ⟨by decide, ?_⟩
          refine ty_221 X g l8 c ⟨hgam, (by omega)⟩ _ (fun r5 p6 => ?_)
          have o7 : r5.toInt = slO (g 41) (fun t => (g 41 (6 + 3 * t))) c.toInt l8.toInt.toNat := p6
          clear p6
          show (r5.toInt ≤ (((((l4 * 1103515245) + 12345) >>> ((16 : Int32) &&& 31)) &&& 32767) - ((((l4 * 1103515245) + 12345) >>> ((16 : Int32) &&& 31)) &&& 32767) / 20 * 20).toInt → (qm_PA X 229 61 [(0, .ref 39), (1, .int a), (2, .int b), (3, .int c), (4, .int ((l4 * 1103515245) + 12345)), (5, .int l5), (6, .int l6), (7, .int (l7 &&& (-1 : Int32))), (8, .int (l8 + 1))] [] g Q)) ∧ ((((((l4 * 1103515245) + 12345) >>> ((16 : Int32) &&& 31)) &&& 32767) - ((((l4 * 1103515245) + 12345) >>> ((16 : Int32) &&& 31)) &&& 32767) / 20 * 20).toInt < r5.toInt → (qm_PA X 229 61 [(0, .ref 39), (1, .int a), (2, .int b), (3, .int c), (4, .int ((l4 * 1103515245) + 12345)), (5, .int l5), (6, .int l6), (7, .int (l7 &&& ((1 <<< (l8 &&& 31)) ^^^ (-1 : Int32)))), (8, .int (l8 + 1))] [] g Q))
          refine ⟨fun c8 => ?_, fun c9 => ?_⟩
          · exact ih.2 ((l4 * 1103515245) + 12345) l5 l6 (l7 &&& (-1 : Int32)) (l8 + 1) g ⟨(by have := ti_addK l8 (1 : Int32) 1 rfl; have := ti_mulR (1103515245 : Int32) 1103515245 rfl l4; have := ti_rem (20 : Int32) 20 rfl ((((l4 * 1103515245) + 12345) >>> ((16 : Int32) &&& 31)) &&& 32767) (by decide); show ((0 ≤ l6.toInt ∧ l6.toInt < b.toInt) ∧ (0 ≤ (l8 + 1).toInt ∧ (l8 + 1).toInt ≤ (h 40 4).toInt) ∧ (1 ≤ b.toInt ∧ b.toInt ≤ 20) ∧ 0 ≤ c.toInt ∧ c.toInt ≤ 10) ∧ (((l4 * 1103515245) + 12345), (l7 &&& (-1 : Int32))) = drI (slO (h 40) (fun t => h 40 (6 + 3 * t)) c.toInt) (drN (slO (h 40) (fun t => h 40 (6 + 3 * t)) c.toInt) (h 40 4).toInt.toNat (a, drB0 (h 40 4)) l6.toInt.toNat) (l8 + 1).toInt.toNat ∧ drW (l7 &&& (-1 : Int32)) l5 (l8 + 1).toInt.toNat ∧ (∀ j : Nat, j < 49 → g 41 j = h 40 j); have el8 : l8 = nI l8.toInt.toNat := nI_is (by omega) (by omega); have e9 : (l8 + 1).toInt.toNat = l8.toInt.toNat + 1 := (by omega); have hw9 := hi0.2.2.1 l8.toInt.toNat (Nat.le_refl _) (by omega); have hb9 : ¬ bP l7 l8.toInt.toNat = true := (fun w => bP_no el8 (an10 (by assumption)) (hw9.symm.trans w)); have hh9 := wf_hd (show wfM (mR h) from hmwr) (j := l8.toInt.toNat) (by show ((l8.toInt.toNat : Nat) : Int) < (h 40 4).toInt; omega); have hs8 := (o7).trans (slO_41 (t := l8.toInt.toNat) hi0.2.2.2 (by omega) ⟨hh9.1, by omega⟩); have hq9 : r5.toInt ≤ (((((l4 * 1103515245) + 12345) >>> ((16 : Int32) &&& 31)) &&& 32767) - ((((l4 * 1103515245) + 12345) >>> ((16 : Int32) &&& 31)) &&& 32767) / 20 * 20).toInt := (by assumption); rw [hs8] at hq9; exact ⟨by omega, by rw [e9]; exact drI_n hi0.2.1 hb9 (fun w => absurd w (Int.not_lt.mpr hq9)) rfl and_n1, by rw [e9, and_n1]; exact drW_k hi0.2.2.1, hi0.2.2.2⟩), hgmi, hgsm, hgzs, hgrw, hgam, (fun k hk => hgf k hk)⟩ (by have := ti_addK l8 (1 : Int32) 1 rfl; have := ti_rem (20 : Int32) 20 rfl ((((l4 * 1103515245) + 12345) >>> ((16 : Int32) &&& 31)) &&& 32767) (by decide); have := ti_mulR (1103515245 : Int32) 1103515245 rfl l4; show ((20 - l6.toInt) * 100 + 40 - (l8 + 1).toInt).toNat < n; omega)
          · exact ih.2 ((l4 * 1103515245) + 12345) l5 l6 (l7 &&& ((1 <<< (l8 &&& 31)) ^^^ (-1 : Int32))) (l8 + 1) g ⟨(by have := ti_addK l8 (1 : Int32) 1 rfl; have := ti_mulR (1103515245 : Int32) 1103515245 rfl l4; have := ti_rem (20 : Int32) 20 rfl ((((l4 * 1103515245) + 12345) >>> ((16 : Int32) &&& 31)) &&& 32767) (by decide); show ((0 ≤ l6.toInt ∧ l6.toInt < b.toInt) ∧ (0 ≤ (l8 + 1).toInt ∧ (l8 + 1).toInt ≤ (h 40 4).toInt) ∧ (1 ≤ b.toInt ∧ b.toInt ≤ 20) ∧ 0 ≤ c.toInt ∧ c.toInt ≤ 10) ∧ (((l4 * 1103515245) + 12345), (l7 &&& ((1 <<< (l8 &&& 31)) ^^^ (-1 : Int32)))) = drI (slO (h 40) (fun t => h 40 (6 + 3 * t)) c.toInt) (drN (slO (h 40) (fun t => h 40 (6 + 3 * t)) c.toInt) (h 40 4).toInt.toNat (a, drB0 (h 40 4)) l6.toInt.toNat) (l8 + 1).toInt.toNat ∧ drW (l7 &&& ((1 <<< (l8 &&& 31)) ^^^ (-1 : Int32))) l5 (l8 + 1).toInt.toNat ∧ (∀ j : Nat, j < 49 → g 41 j = h 40 j); have el8 : l8 = nI l8.toInt.toNat := nI_is (by omega) (by omega); have e9 : (l8 + 1).toInt.toNat = l8.toInt.toNat + 1 := (by omega); have hw9 := hi0.2.2.1 l8.toInt.toNat (Nat.le_refl _) (by omega); have hb9 : ¬ bP l7 l8.toInt.toNat = true := (fun w => bP_no el8 (an10 (by assumption)) (hw9.symm.trans w)); have hh9 := wf_hd (show wfM (mR h) from hmwr) (j := l8.toInt.toNat) (by show ((l8.toInt.toNat : Nat) : Int) < (h 40 4).toInt; omega); have hs8 := (o7).trans (slO_41 (t := l8.toInt.toNat) hi0.2.2.2 (by omega) ⟨hh9.1, by omega⟩); have hq9 : (((((l4 * 1103515245) + 12345) >>> ((16 : Int32) &&& 31)) &&& 32767) - ((((l4 * 1103515245) + 12345) >>> ((16 : Int32) &&& 31)) &&& 32767) / 20 * 20).toInt < r5.toInt := (by assumption); rw [hs8] at hq9; exact ⟨by omega, by rw [e9]; exact drI_y hi0.2.1 hb9 hq9 rfl (drC_l el8), by rw [e9, drC_l el8]; exact drW_c hi0.2.2.1 (by omega), hi0.2.2.2⟩), hgmi, hgsm, hgzs, hgrw, hgam, (fun k hk => hgf k hk)⟩ (by have := ti_addK l8 (1 : Int32) 1 rfl; have := ti_rem (20 : Int32) 20 rfl ((((l4 * 1103515245) + 12345) >>> ((16 : Int32) &&& 31)) &&& 32767) (by decide); have := ti_mulR (1103515245 : Int32) 1103515245 rfl l4; show ((20 - l6.toInt) * 100 + 40 - (l8 + 1).toInt).toNat < n; omega)
set_option maxRecDepth 100000 in
set_option maxHeartbeats 4000000 in
theorem ty_229 (X : qm_X) (h : qm_H) (a : Int32) (b : Int32) (c : Int32) (hp : mi h ∧ sm h ∧ zs h ∧ rw_ h ∧ wr h) (Q : qm_Q) (hq : ∀ r : Int32, ∀ h' : qm_H, (mi h' ∧ sm h' ∧ zs h' ∧ rw_ h' ∧ (∀ k, (k < 41 ∨ 41 < k) → h' k = h k) ∧ (r.toInt = qDrift a b.toInt c.toInt (mR h))) → Q (some (.int r)) h') : qm_PW X 229 [.ref 39, .int a, .int b, .int c] h Q := by
  have hmmi : mi h := hp.1
  have ⟨⟨_, _⟩, ⟨_, _⟩, ⟨_, _⟩, ⟨_, _⟩, _, _⟩ := hmmi
  have hmsm : sm h := hp.2.1
  have ⟨⟨⟨_, _⟩, _, _⟩, _, _, _⟩ := hmsm
  have hmzs : zs h := hp.2.2.1
  have hmrw : rw_ h := hp.2.2.2.1
  have hmwr : wr h := hp.2.2.2.2
  refine qm_seg_ok (C := qc_229) (rt := some .int) rfl rfl (cuts := [(48, [0, 1, 2, 3, 4, 5, 6]), (61, [0, 1, 2, 3, 4, 5, 6, 7, 8])]) 400 _ _ _ _ ?_
  show qm_PW X 141 [.long (Int32.toInt64 b), .long 1, .long 20] h _
  refine sf_141 X h ((Int32.toInt64 b) : Int64) (1 : Int64) (20 : Int64) trivial _ (fun r1 p2 => ?_)
  have o3 : ¬ r1.toInt = 0 → (1 : Int64).toInt ≤ (Int32.toInt64 b).toInt ∧ (Int32.toInt64 b).toInt ≤ (20 : Int64).toInt := fun hc => p2.2.1 (fun e => hc (ti_eqK 0 rfl e))
  have o4 : r1.toInt = 0 → (Int32.toInt64 b).toInt < (1 : Int64).toInt ∨ (20 : Int64).toInt < (Int32.toInt64 b).toInt := fun hc => p2.2.2 (Int32.toInt_inj.mp hc)
  show (r1 = 0 → (Q (some (.int (-1 : Int32))) h)) ∧ (¬ r1 = 0 → (qm_PW X 141 [.long (Int32.toInt64 c), .long 0, .long 10] h _))
  refine ⟨fun c5 => ?_, fun c6 => ?_⟩
  · have := p2.2.2 c5
    have := ti_eqK 0 rfl c5
    exact hq (-1 : Int32) h ⟨hmmi, hmsm, hmzs, hmrw, (fun k hk => rfl), (by have : (1 : Int64).toInt = 1 := rfl; have : (20 : Int64).toInt = 20 := rfl; have := i64 b; show (-1 : Int32).toInt = qDrift a b.toInt c.toInt (mR h); rw [ti_n1]; have := i64 b; have := i64 c; have : (0 : Int64).toInt = 0 := rfl; have : (1 : Int64).toInt = 1 := rfl; have : (10 : Int64).toInt = 10 := rfl; have : (20 : Int64).toInt = 20 := rfl; exact (drift_no (by omega)).symm)⟩
  · have := p2.2.1 c6
    have := ti_neK 0 rfl c6
    refine sf_141 X h ((Int32.toInt64 c) : Int64) (0 : Int64) (10 : Int64) trivial _ (fun r7 p8 => ?_)
    have o9 : ¬ r7.toInt = 0 → (0 : Int64).toInt ≤ (Int32.toInt64 c).toInt ∧ (Int32.toInt64 c).toInt ≤ (10 : Int64).toInt := fun hc => p8.2.1 (fun e => hc (ti_eqK 0 rfl e))
    have o10 : r7.toInt = 0 → (Int32.toInt64 c).toInt < (0 : Int64).toInt ∨ (10 : Int64).toInt < (Int32.toInt64 c).toInt := fun hc => p8.2.2 (Int32.toInt_inj.mp hc)
    show (¬ r7 = 0 → (qm_PW X 169 [.ref 39] h _)) ∧ (r7 = 0 → (Q (some (.int (-1 : Int32))) h))
    refine ⟨fun c11 => ?_, fun c12 => ?_⟩
    · have := p8.2.1 c11
      have := ti_neK 0 rfl c11
      refine sf_169_39 X h  hmsm _ (fun g13 p14 => ?_)
      obtain ⟨p14_0, p14_1, p14_2⟩ := p14
      have f15 : ∀ k, (k < 41 ∨ 41 < k) → g13 k = h k := fun k hk => (p14_1 k (by omega)).trans (rfl)
      have k16 : mi g13 := by unfold mi; rw [p14_1 39 (by omega)]; exact hmmi
      have k17 : sm g13 := by unfold sm; rw [p14_1 40 (by omega)]; exact hmsm
      have k18 : zs g13 := by unfold zs; rw [p14_1 49 (by omega)]; exact hmzs
      have k19 : rw_ g13 := by unfold rw_; rw [p14_1 46 (by omega)]; exact hmrw
      have k20 : wr g13 := wf_tr2 hmwr (mR_of (congrFun (p14_1 39 (by omega)) 3) (p14_1 40 (by omega)))
      have o21 : (∀ j : Nat, j < 49 → g13 41 j = h 40 j) := p14_2
      clear p14_2
      have w39_g13 : g13 39 = h 39 := (p14_1 39 (by omega))
      have w40_g13 : g13 40 = h 40 := (p14_1 40 (by omega))
      have sA_g13 : ∀ j : Nat, j < 49 → g13 41 j = h 40 j := o21
      have s4_g13 : (g13 41 4).toInt = (h 40 4).toInt := congrArg Int32.toInt (sA_g13 4 (by decide))
      show (0 ≤ (4 : Int) ∧ (4 : Int) < 49) ∧ (qm_PA X 229 48 [(0, .ref 39), (1, .int a), (2, .int b), (3, .int c), (4, .int a), (5, .int ((1 <<< ((g13 41 4) &&& 31)) - 1)), (6, .int 0)] [] g13 Q)
      refine ⟨by decide, ?_⟩
      exact (ty_229_c X h a b c hp Q hq _).1 a ((1 <<< ((g13 41 4) &&& 31)) - 1) (0 : Int32) g13 ⟨(by have : (0 : Int32).toInt = 0 := rfl; have : (1 : Int64).toInt = 1 := rfl; have : (20 : Int64).toInt = 20 := rfl; have := i64 b; have : (0 : Int64).toInt = 0 := rfl; have : (10 : Int64).toInt = 10 := rfl; have := i64 c; show ((0 ≤ (0 : Int32).toInt ∧ (0 : Int32).toInt ≤ b.toInt) ∧ (1 ≤ b.toInt ∧ b.toInt ≤ 20) ∧ 0 ≤ c.toInt ∧ c.toInt ≤ 10) ∧ (a, ((1 <<< ((g13 41 4) &&& 31)) - 1)) = drN (slO (h 40) (fun t => h 40 (6 + 3 * t)) c.toInt) (h 40 4).toInt.toNat (a, drB0 (h 40 4)) (0 : Int32).toInt.toNat ∧ (∀ j : Nat, j < 49 → g13 41 j = h 40 j); have := i64 b; have := i64 c; have : (0 : Int64).toInt = 0 := rfl; have : (1 : Int64).toInt = 1 := rfl; have : (10 : Int64).toInt = 10 := rfl; have : (20 : Int64).toInt = 20 := rfl; exact ⟨by have : (0 : Int32).toInt = 0 := rfl; omega, by rw [sA_g13 4 (by decide)]; rfl, sA_g13⟩), k16, k17, k18, k19, p14_0, (fun k hk => f15 k hk)⟩ (Nat.lt_succ_self _)
    · have := p8.2.2 c12
      have := ti_eqK 0 rfl c12
      exact hq (-1 : Int32) h ⟨hmmi, hmsm, hmzs, hmrw, (fun k hk => rfl), (by have : (1 : Int64).toInt = 1 := rfl; have : (20 : Int64).toInt = 20 := rfl; have := i64 b; have : (0 : Int64).toInt = 0 := rfl; have : (10 : Int64).toInt = 10 := rfl; have := i64 c; show (-1 : Int32).toInt = qDrift a b.toInt c.toInt (mR h); rw [ti_n1]; have := i64 b; have := i64 c; have : (0 : Int64).toInt = 0 := rfl; have : (1 : Int64).toInt = 1 := rfl; have : (10 : Int64).toInt = 10 := rfl; have : (20 : Int64).toInt = 20 := rfl; exact (drift_no (by omega)).symm)⟩
