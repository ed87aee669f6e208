-- ThreadBankModel.text()I
set_option maxRecDepth 100000 in
set_option maxHeartbeats 4000000 in
theorem tx_162_c (X : qm_X) (h : qm_H) (hp : mi h ∧ sm h ∧ zs h ∧ rw_ h ∧ (bt (h 44) (h 39 9).toInt)) (Q : qm_Q) (hq : ∀ r : Int32, ∀ h' : qm_H, (mi h' ∧ sm h' ∧ zs h' ∧ rw_ h' ∧ (∀ k, (k < 39 ∨ 44 < k) → h' k = h k) ∧ ((h' 39 9).toInt = 0 ∧ (h' 44) = (h 44) ∧ txQ (txF (h 44) (h 39 9).toInt.toNat 161 0 0 txS) r.toInt (h' 39 14).toInt (h 39 9).toInt ∧ ikQ (h' 39 14).toInt (h 42) (h' 42))) → Q (some (.int r)) h') : ∀ n : Nat, (∀ (l1 : Int32) (g : qm_H), ((rfI (h 44) (h 39 9).toInt.toNat l1.toInt (g 39 14).toInt (g 39 15).toInt (g 39 11).toInt (g 39 12).toInt (g 39 10).toInt (g 39 13).toInt g ∧ ((0 ≤ l1.toInt ∧ l1.toInt ≤ 160) ∧ (g 39 9).toInt = (h 39 9).toInt) ∧ g 44 = h 44 ∧ g 42 = h 42) ∧ mi g ∧ pp g ∧ dd g ∧ dp g ∧ sm g ∧ zs g ∧ rw_ g ∧ ∀ k, (k < 39 ∨ 44 < k) → g k = h k) → (161 - l1.toInt).toNat < n → qm_PA X 162 20 [(0, .ref 39), (1, .int l1)] [] g Q) := by
  have hmmi : mi h := hp.1
  have ⟨⟨_, _⟩, ⟨_, _⟩, ⟨_, _⟩, ⟨_, _⟩, _, _⟩ := hmmi
  have hmsm : sm h := hp.2.1
  have ⟨⟨⟨_, _⟩, _, _⟩, _, _, _⟩ := hmsm
  have hmzs : zs h := hp.2.2.1
  have hmrw : rw_ h := hp.2.2.2.1
  have hp0 : bt (h 44) (h 39 9).toInt := hp.2.2.2.2
  have hbt : bt (h 44) (h 39 9).toInt := hp0
  intro n
  induction n with
  | zero => exact fun _ _ _ h0 => absurd h0 (Nat.not_lt_zero _)
  | succ n ih =>
    intro l1 g hi hr
    obtain ⟨hi0, hgmi, hgpp, hgdd, hgdp, hgsm, hgzs, hgrw, hgf⟩ := hi
    have ⟨⟨_, _⟩, ⟨_, _⟩, ⟨_, _⟩, ⟨_, _⟩, _, _⟩ := hgmi
    have ⟨⟨_, _⟩, ⟨_, _⟩, _, _⟩ := hgpp
    have ⟨⟨_, _⟩, _, _⟩ := hgdd
    have ⟨⟨⟨_, _⟩, _, _⟩, _, _, _⟩ := hgsm
    obtain ⟨hI, hi2, e44_g, e42_g⟩ := hi0
    have e9_g : (g 39 9).toInt = (h 39 9).toInt := hi2.2
    refine qm_seg_ok (C := qc_162) (rt := some .int) rfl rfl (cuts := [(20, [0, 1])]) 400 _ _ _ _ ?_
    show (¬ (g 39 14) = 0 → ((¬ (g 39 14) = 0 → (((g 39 14).toInt ≤ 0 → (qm_PW X 144 [.ref 39] (qm_row g 39 (upd (g 39) 9 0)) _)) ∧ (0 < (g 39 14).toInt → (Q (some (.int ((-10 : Int32) - (g 39 15)))) (qm_row g 39 (upd (g 39) 9 0)))))) ∧ ((g 39 14) = 0 → (((g 39 5).toInt ≤ (g 39 7).toInt → (qm_PW X 147 [.ref 39, .int 0, .int 6] g _)) ∧ ((g 39 7).toInt < (g 39 5).toInt → (qm_PW X 147 [.ref 39, .int 1, .int 6] g _)))))) ∧ ((g 39 14) = 0 → (((g 39 12) = 0 → ((¬ (g 39 14) = 0 → (((g 39 14).toInt ≤ 0 → (qm_PW X 144 [.ref 39] (qm_row g 39 (upd (g 39) 9 0)) _)) ∧ (0 < (g 39 14).toInt → (Q (some (.int ((-10 : Int32) - (g 39 15)))) (qm_row g 39 (upd (g 39) 9 0)))))) ∧ ((g 39 14) = 0 → (((g 39 5).toInt ≤ (g 39 7).toInt → (qm_PW X 147 [.ref 39, .int 0, .int 6] g _)) ∧ ((g 39 7).toInt < (g 39 5).toInt → (qm_PW X 147 [.ref 39, .int 1, .int 6] g _)))))) ∧ (¬ (g 39 12) = 0 → (qm_PW X 159 [.ref 39] g _))))
    refine ⟨fun c1 => ?_, fun c2 => ?_⟩
    · have := ti_neK 0 rfl c1
      refine ⟨fun c3 => ?_, fun c4 => ?_⟩
      · have := ti_neK 0 rfl c3
        refine ⟨fun c5 => ?_, fun c6 => ?_⟩
        · refine tx_144 X (qm_row g 39 (upd (g 39) 9 0))  ⟨(by have ⟨⟨_, _⟩, ⟨_, _⟩, ⟨_, _⟩, ⟨_, _⟩, _, _⟩ := hmmi; have ⟨⟨⟨_, _⟩, _, _⟩, _, _, _⟩ := hmsm; have ⟨⟨_, _⟩, ⟨_, _⟩, ⟨_, _⟩, ⟨_, _⟩, _, _⟩ := hgmi; have ⟨⟨_, _⟩, ⟨_, _⟩, _, _⟩ := hgpp; have ⟨⟨_, _⟩, _, _⟩ := hgdd; have ⟨⟨⟨_, _⟩, _, _⟩, _, _, _⟩ := hgsm; show (0 ≤ (g 39 3).toInt ∧ (g 39 3).toInt ≤ 4) ∧ (0 ≤ (0 : Int) ∧ (0 : Int) ≤ 160) ∧ (0 ≤ (g 39 19).toInt ∧ (g 39 19).toInt ≤ 4) ∧ (0 ≤ (g 39 20).toInt ∧ (g 39 20).toInt ≤ 255) ∧ (0 ≤ (g 39 11).toInt ∧ (g 39 11).toInt ≤ 160); omega), (by have ⟨⟨_, _⟩, ⟨_, _⟩, ⟨_, _⟩, ⟨_, _⟩, _, _⟩ := hmmi; have ⟨⟨⟨_, _⟩, _, _⟩, _, _, _⟩ := hmsm; have ⟨⟨_, _⟩, ⟨_, _⟩, ⟨_, _⟩, ⟨_, _⟩, _, _⟩ := hgmi; have ⟨⟨_, _⟩, ⟨_, _⟩, _, _⟩ := hgpp; have ⟨⟨_, _⟩, _, _⟩ := hgdd; have ⟨⟨⟨_, _⟩, _, _⟩, _, _, _⟩ := hgsm; show (0 ≤ (g 39 5).toInt ∧ (g 39 5).toInt ≤ 4) ∧ (0 ≤ (g 39 10).toInt ∧ (g 39 10).toInt ≤ 160) ∧ (0 ≤ (g 39 14).toInt ∧ (g 39 14).toInt ≤ 7); omega), (by exact hgdd), (by exact hgdp), (by exact hgsm), (by show (g 39 14).toInt = 0; omega)⟩ _ (fun g7 p8 => ?_)
          obtain ⟨p8_0, p8_1, p8_2, p8_3⟩ := p8
          have f9 : ∀ k, (k < 39 ∨ 44 < k) → g7 k = h k := fun k hk => (p8_2 k (by omega)).trans (by simp only [qm_row]; rw [if_neg (by omega)]; exact hgf k hk)
          have k10 : zs g7 := by unfold zs; rw [p8_2 49 (by omega)]; exact hgzs
          have k11 : rw_ g7 := by unfold rw_; rw [p8_2 46 (by omega)]; exact hgrw
          have k12 : dd g7 := by unfold dd; rw [p8_2 43 (by omega)]; exact hgdd
          have o13 : ((g7 39 9).toInt = (0 : Int32).toInt ∧ (g7 39 14).toInt = (g 39 14).toInt ∧ (g7 42) = upd (upd (g 42) 0 0) 1 0) := p8_3
          clear p8_3
          have d43_g7 : g7 43 = (g 43) := p8_2 43 (by omega)
          have e44_g7 : g7 44 = h 44 := (p8_2 44 (by omega)).trans e44_g
          (try rw [e44_g] at o13); (try rw [e9_g] at o13)
          show Q (some (.int l1)) g7
          exact hq l1 g7 ⟨p8_0, p8_1, k10, k11, (fun k hk => f9 k hk), (by have : (0 : Int32).toInt = 0 := rfl; show (g7 39 9).toInt = 0 ∧ (g7 44) = (h 44) ∧ txQ (txF (h 44) (h 39 9).toInt.toNat 161 0 0 txS) l1.toInt (g7 39 14).toInt (h 39 9).toInt ∧ ikQ (g7 39 14).toInt (h 42) (g7 42); exfalso; omega)⟩
        · exact hq ((-10 : Int32) - (g 39 15)) (qm_row g 39 (upd (g 39) 9 0)) ⟨(by have ⟨⟨_, _⟩, ⟨_, _⟩, ⟨_, _⟩, ⟨_, _⟩, _, _⟩ := hmmi; have ⟨⟨⟨_, _⟩, _, _⟩, _, _, _⟩ := hmsm; have ⟨⟨_, _⟩, ⟨_, _⟩, ⟨_, _⟩, ⟨_, _⟩, _, _⟩ := hgmi; have ⟨⟨_, _⟩, ⟨_, _⟩, _, _⟩ := hgpp; have ⟨⟨_, _⟩, _, _⟩ := hgdd; have ⟨⟨⟨_, _⟩, _, _⟩, _, _, _⟩ := hgsm; show (0 ≤ (g 39 3).toInt ∧ (g 39 3).toInt ≤ 4) ∧ (0 ≤ (0 : Int) ∧ (0 : Int) ≤ 160) ∧ (0 ≤ (g 39 19).toInt ∧ (g 39 19).toInt ≤ 4) ∧ (0 ≤ (g 39 20).toInt ∧ (g 39 20).toInt ≤ 255) ∧ (0 ≤ (g 39 11).toInt ∧ (g 39 11).toInt ≤ 160); omega), (by exact hgsm), (by exact hgzs), (by exact hgrw), (fun k hk => by simp only [qm_row]; rw [if_neg (by omega)]; exact hgf k hk), (by have : (0 : Int32).toInt = 0 := rfl; have := ti_subL (g 39 15) (-10 : Int32) (-10) ti_n10; show (0 : Int32).toInt = 0 ∧ (g 44) = (h 44) ∧ txQ (txF (h 44) (h 39 9).toInt.toNat 161 0 0 txS) ((-10 : Int32) - (g 39 15)).toInt (g 39 14).toInt (h 39 9).toInt ∧ ikQ (g 39 14).toInt (h 42) (g 42); generalize ((-10 : Int32) - (g 39 15)) = z10 at *; have hB := rfI_bad hI (show ¬ (g 39 14).toInt = 0 by omega); exact ⟨rfl, e44_g, txQ_bad (show ¬ (g 39 14).toInt = 0 by omega) ⟨hB.1, hB.2.1⟩ rfl (by omega), Or.inr ⟨by omega, e42_g⟩⟩)⟩
      · have := ti_eqK 0 rfl c4
        refine ⟨fun c14 => ?_, fun c15 => ?_⟩
        · refine tx_147 X g (0 : Int32) (6 : Int32) ⟨hgmi, hgpp, (by have : (6 : Int32).toInt = 6 := rfl; omega)⟩ _ (fun g16 p17 => ?_)
          obtain ⟨p17_0, p17_1, p17_2, p17_3⟩ := p17
          have f18 : ∀ k, (k < 39 ∨ 44 < k) → g16 k = h k := fun k hk => (p17_2 k (by omega)).trans (hgf k hk)
          have k19 : sm g16 := by unfold sm; rw [p17_2 40 (by omega)]; exact hgsm
          have k20 : zs g16 := by unfold zs; rw [p17_2 49 (by omega)]; exact hgzs
          have k21 : rw_ g16 := by unfold rw_; rw [p17_2 46 (by omega)]; exact hgrw
          have k22 : dd g16 := by unfold dd; rw [p17_2 43 (by omega)]; exact hgdd
          have o23 : ((((0 : Int32).toInt = 0 ∧ (g 39 14).toInt = 0) ∧ (g16 39 14).toInt = (6 : Int32).toInt ∧ (g16 39 15).toInt = (g 39 11).toInt) ∨ (¬ ((0 : Int32).toInt = 0 ∧ (g 39 14).toInt = 0) ∧ (g16 39 14).toInt = (g 39 14).toInt ∧ (g16 39 15).toInt = (g 39 15).toInt)) ∧ ((g16 39 5).toInt = (g 39 5).toInt) ∧ ((g16 39 6).toInt = (g 39 6).toInt) ∧ ((g16 39 7).toInt = (g 39 7).toInt) ∧ ((g16 39 9).toInt = (g 39 9).toInt) ∧ ((g16 39 10).toInt = (g 39 10).toInt) ∧ ((g16 39 11).toInt = (g 39 11).toInt) ∧ ((g16 39 12).toInt = (g 39 12).toInt) ∧ ((g16 39 13).toInt = (g 39 13).toInt) := p17_3
          clear p17_3
          have kdp_g16 : dp g16 := fun hf => by rw [p17_2 43 (by omega)]; exact hgdp (by have := (hgpp).2.2; have : (0 : Int32).toInt = 0 := rfl; have : (1 : Int32).toInt = 1 := rfl; omega)
          have d43_g16 : g16 43 = (g 43) := p17_2 43 (by omega)
          have e42_g16 : g16 42 = h 42 := (p17_2 42 (by omega)).trans e42_g
          have e44_g16 : g16 44 = h 44 := (p17_2 44 (by omega)).trans e44_g
          have e9_g16 : (g16 39 9).toInt = (h 39 9).toInt := (by omega)
          (first | (replace o23 : (g16 39 14).toInt = (6 : Int32).toInt ∧ (g16 39 15).toInt = (g 39 11).toInt ∧ ((g16 39 5).toInt = (g 39 5).toInt) ∧ ((g16 39 6).toInt = (g 39 6).toInt) ∧ ((g16 39 7).toInt = (g 39 7).toInt) ∧ ((g16 39 9).toInt = (g 39 9).toInt) ∧ ((g16 39 10).toInt = (g 39 10).toInt) ∧ ((g16 39 11).toInt = (g 39 11).toInt) ∧ ((g16 39 12).toInt = (g 39 12).toInt) ∧ ((g16 39 13).toInt = (g 39 13).toInt) := ⟨(by have : (0 : Int32).toInt = 0 := rfl; omega), (by have : (0 : Int32).toInt = 0 := rfl; omega), o23.2⟩) | (replace o23 : (g16 39 14).toInt = (g 39 14).toInt ∧ (g16 39 15).toInt = (g 39 15).toInt ∧ ((g16 39 5).toInt = (g 39 5).toInt) ∧ ((g16 39 6).toInt = (g 39 6).toInt) ∧ ((g16 39 7).toInt = (g 39 7).toInt) ∧ ((g16 39 9).toInt = (g 39 9).toInt) ∧ ((g16 39 10).toInt = (g 39 10).toInt) ∧ ((g16 39 11).toInt = (g 39 11).toInt) ∧ ((g16 39 12).toInt = (g 39 12).toInt) ∧ ((g16 39 13).toInt = (g 39 13).toInt) := ⟨(by have : (1 : Int32).toInt = 1 := rfl; have : (0 : Int32).toInt = 0 := rfl; omega), (by have : (1 : Int32).toInt = 1 := rfl; have : (0 : Int32).toInt = 0 := rfl; omega), o23.2⟩) | skip)
          (try rw [e44_g] at o23); (try rw [e9_g] at o23)
          show qm_PW X 161 [.ref 39] g16 _
          refine tx_161 X g16  ⟨p17_1, k22⟩ _ (fun r24 p25 => ?_)
          have o26 : ftQ r24 (g16 43) (g16 43 4).toInt.toNat (g16 39 5).toInt.toNat := p25
          clear p25
          show qm_PW X 147 [.ref 39, .int r24, .int 7] g16 _
          refine tx_147 X g16 r24 (7 : Int32) ⟨p17_0, p17_1, (by have : (7 : Int32).toInt = 7 := rfl; have : (6 : Int32).toInt = 6 := rfl; have : (0 : Int32).toInt = 0 := rfl; omega)⟩ _ (fun g27 p28 => ?_)
          obtain ⟨p28_0, p28_1, p28_2, p28_3⟩ := p28
          have f29 : ∀ k, (k < 39 ∨ 44 < k) → g27 k = h k := fun k hk => (p28_2 k (by omega)).trans (f18 k hk)
          have k30 : sm g27 := by unfold sm; rw [p28_2 40 (by omega)]; exact k19
          have k31 : zs g27 := by unfold zs; rw [p28_2 49 (by omega)]; exact k20
          have k32 : rw_ g27 := by unfold rw_; rw [p28_2 46 (by omega)]; exact k21
          have k33 : dd g27 := by unfold dd; rw [p28_2 43 (by omega)]; exact k22
          have o34 : (((r24.toInt = 0 ∧ (g16 39 14).toInt = 0) ∧ (g27 39 14).toInt = (7 : Int32).toInt ∧ (g27 39 15).toInt = (g16 39 11).toInt) ∨ (¬ (r24.toInt = 0 ∧ (g16 39 14).toInt = 0) ∧ (g27 39 14).toInt = (g16 39 14).toInt ∧ (g27 39 15).toInt = (g16 39 15).toInt)) ∧ ((g27 39 5).toInt = (g16 39 5).toInt) ∧ ((g27 39 6).toInt = (g16 39 6).toInt) ∧ ((g27 39 7).toInt = (g16 39 7).toInt) ∧ ((g27 39 9).toInt = (g16 39 9).toInt) ∧ ((g27 39 10).toInt = (g16 39 10).toInt) ∧ ((g27 39 11).toInt = (g16 39 11).toInt) ∧ ((g27 39 12).toInt = (g16 39 12).toInt) ∧ ((g27 39 13).toInt = (g16 39 13).toInt) := p28_3
          clear p28_3
          have kdp_g27 : dp g27 := fun hf => by rw [p28_2 43 (by omega)]; exact kdp_g16 (by have := (p17_1).2.2; have : (0 : Int32).toInt = 0 := rfl; have : (1 : Int32).toInt = 1 := rfl; omega)
          have d43_g27 : g27 43 = (g16 43) := p28_2 43 (by omega)
          have e42_g27 : g27 42 = h 42 := (p28_2 42 (by omega)).trans e42_g16
          have e44_g27 : g27 44 = h 44 := (p28_2 44 (by omega)).trans e44_g16
          have e9_g27 : (g27 39 9).toInt = (h 39 9).toInt := (by omega)
          have nf_g27 : (g16 39 14).toInt ≤ (g27 39 14).toInt := (by have : (7 : Int32).toInt = 7 := rfl; omega); have nd_g27 := (show hid _ from o34.1); replace o34 := o34.2
          (try rw [e44_g16] at o34); (try rw [e9_g16] at o34)
          show ((g27 39 14).toInt ≤ 0 → (qm_PW X 144 [.ref 39] (qm_row g27 39 (upd (g27 39) 9 0)) _)) ∧ (0 < (g27 39 14).toInt → (Q (some (.int ((-10 : Int32) - (g27 39 15)))) (qm_row g27 39 (upd (g27 39) 9 0))))
          refine ⟨fun c35 => ?_, fun c36 => ?_⟩
          · refine tx_144 X (qm_row g27 39 (upd (g27 39) 9 0))  ⟨(by have ⟨⟨_, _⟩, ⟨_, _⟩, ⟨_, _⟩, ⟨_, _⟩, _, _⟩ := hmmi; have ⟨⟨⟨_, _⟩, _, _⟩, _, _, _⟩ := hmsm; have ⟨⟨_, _⟩, ⟨_, _⟩, ⟨_, _⟩, ⟨_, _⟩, _, _⟩ := hgmi; have ⟨⟨_, _⟩, ⟨_, _⟩, _, _⟩ := hgpp; have ⟨⟨_, _⟩, _, _⟩ := hgdd; have ⟨⟨⟨_, _⟩, _, _⟩, _, _, _⟩ := hgsm; have ⟨⟨_, _⟩, ⟨_, _⟩, ⟨_, _⟩, ⟨_, _⟩, _, _⟩ := p17_0; have ⟨⟨_, _⟩, ⟨_, _⟩, _, _⟩ := p17_1; have ⟨⟨⟨_, _⟩, _, _⟩, _, _, _⟩ := k19; have ⟨⟨_, _⟩, _, _⟩ := k22; have ⟨⟨_, _⟩, ⟨_, _⟩, ⟨_, _⟩, ⟨_, _⟩, _, _⟩ := p28_0; have ⟨⟨_, _⟩, ⟨_, _⟩, _, _⟩ := p28_1; have ⟨⟨⟨_, _⟩, _, _⟩, _, _, _⟩ := k30; have ⟨⟨_, _⟩, _, _⟩ := k33; show (0 ≤ (g27 39 3).toInt ∧ (g27 39 3).toInt ≤ 4) ∧ (0 ≤ (0 : Int) ∧ (0 : Int) ≤ 160) ∧ (0 ≤ (g27 39 19).toInt ∧ (g27 39 19).toInt ≤ 4) ∧ (0 ≤ (g27 39 20).toInt ∧ (g27 39 20).toInt ≤ 255) ∧ (0 ≤ (g27 39 11).toInt ∧ (g27 39 11).toInt ≤ 160); have : (7 : Int32).toInt = 7 := rfl; have : (6 : Int32).toInt = 6 := rfl; have : (0 : Int32).toInt = 0 := rfl; omega), (by have ⟨⟨_, _⟩, ⟨_, _⟩, ⟨_, _⟩, ⟨_, _⟩, _, _⟩ := hmmi; have ⟨⟨⟨_, _⟩, _, _⟩, _, _, _⟩ := hmsm; have ⟨⟨_, _⟩, ⟨_, _⟩, ⟨_, _⟩, ⟨_, _⟩, _, _⟩ := hgmi; have ⟨⟨_, _⟩, ⟨_, _⟩, _, _⟩ := hgpp; have ⟨⟨_, _⟩, _, _⟩ := hgdd; have ⟨⟨⟨_, _⟩, _, _⟩, _, _, _⟩ := hgsm; have ⟨⟨_, _⟩, ⟨_, _⟩, ⟨_, _⟩, ⟨_, _⟩, _, _⟩ := p17_0; have ⟨⟨_, _⟩, ⟨_, _⟩, _, _⟩ := p17_1; have ⟨⟨⟨_, _⟩, _, _⟩, _, _, _⟩ := k19; have ⟨⟨_, _⟩, _, _⟩ := k22; have ⟨⟨_, _⟩, ⟨_, _⟩, ⟨_, _⟩, ⟨_, _⟩, _, _⟩ := p28_0; have ⟨⟨_, _⟩, ⟨_, _⟩, _, _⟩ := p28_1; have ⟨⟨⟨_, _⟩, _, _⟩, _, _, _⟩ := k30; have ⟨⟨_, _⟩, _, _⟩ := k33; show (0 ≤ (g27 39 5).toInt ∧ (g27 39 5).toInt ≤ 4) ∧ (0 ≤ (g27 39 10).toInt ∧ (g27 39 10).toInt ≤ 160) ∧ (0 ≤ (g27 39 14).toInt ∧ (g27 39 14).toInt ≤ 7); have : (7 : Int32).toInt = 7 := rfl; have : (6 : Int32).toInt = 6 := rfl; have : (0 : Int32).toInt = 0 := rfl; omega), (by exact k33), (by exact kdp_g27), (by exact k30), (by have : (7 : Int32).toInt = 7 := rfl; have : (6 : Int32).toInt = 6 := rfl; have : (0 : Int32).toInt = 0 := rfl; show (g27 39 14).toInt = 0; omega)⟩ _ (fun g37 p38 => ?_)
            obtain ⟨p38_0, p38_1, p38_2, p38_3⟩ := p38
            have f39 : ∀ k, (k < 39 ∨ 44 < k) → g37 k = h k := fun k hk => (p38_2 k (by omega)).trans (by simp only [qm_row]; rw [if_neg (by omega)]; exact f29 k hk)
            have k40 : zs g37 := by unfold zs; rw [p38_2 49 (by omega)]; exact k31
            have k41 : rw_ g37 := by unfold rw_; rw [p38_2 46 (by omega)]; exact k32
            have k42 : dd g37 := by unfold dd; rw [p38_2 43 (by omega)]; exact k33
            have o43 : ((g37 39 9).toInt = (0 : Int32).toInt ∧ (g37 39 14).toInt = (g27 39 14).toInt ∧ (g37 42) = upd (upd (g27 42) 0 0) 1 0) := p38_3
            clear p38_3
            have d43_g37 : g37 43 = (g27 43) := p38_2 43 (by omega)
            have e44_g37 : g37 44 = h 44 := (p38_2 44 (by omega)).trans e44_g27
            (try rw [e44_g27] at o43); (try rw [e9_g27] at o43)
            show Q (some (.int l1)) g37
            exact hq l1 g37 ⟨p38_0, p38_1, k40, k41, (fun k hk => f39 k hk), (by have : (7 : Int32).toInt = 7 := rfl; have : (6 : Int32).toInt = 6 := rfl; have : (0 : Int32).toInt = 0 := rfl; show (g37 39 9).toInt = 0 ∧ (g37 44) = (h 44) ∧ txQ (txF (h 44) (h 39 9).toInt.toNat 161 0 0 txS) l1.toInt (g37 39 14).toInt (h 39 9).toInt ∧ ikQ (g37 39 14).toInt (h 42) (g37 42); have hsv := (by decide : (7 : Int32).toInt = 7); have hsx := (by decide : (6 : Int32).toInt = 6); have nd := hid_out nd_g27; exfalso; omega)⟩
          · exact hq ((-10 : Int32) - (g27 39 15)) (qm_row g27 39 (upd (g27 39) 9 0)) ⟨(by have ⟨⟨_, _⟩, ⟨_, _⟩, ⟨_, _⟩, ⟨_, _⟩, _, _⟩ := hmmi; have ⟨⟨⟨_, _⟩, _, _⟩, _, _, _⟩ := hmsm; have ⟨⟨_, _⟩, ⟨_, _⟩, ⟨_, _⟩, ⟨_, _⟩, _, _⟩ := hgmi; have ⟨⟨_, _⟩, ⟨_, _⟩, _, _⟩ := hgpp; have ⟨⟨_, _⟩, _, _⟩ := hgdd; have ⟨⟨⟨_, _⟩, _, _⟩, _, _, _⟩ := hgsm; have ⟨⟨_, _⟩, ⟨_, _⟩, ⟨_, _⟩, ⟨_, _⟩, _, _⟩ := p17_0; have ⟨⟨_, _⟩, ⟨_, _⟩, _, _⟩ := p17_1; have ⟨⟨⟨_, _⟩, _, _⟩, _, _, _⟩ := k19; have ⟨⟨_, _⟩, _, _⟩ := k22; have ⟨⟨_, _⟩, ⟨_, _⟩, ⟨_, _⟩, ⟨_, _⟩, _, _⟩ := p28_0; have ⟨⟨_, _⟩, ⟨_, _⟩, _, _⟩ := p28_1; have ⟨⟨⟨_, _⟩, _, _⟩, _, _, _⟩ := k30; have ⟨⟨_, _⟩, _, _⟩ := k33; show (0 ≤ (g27 39 3).toInt ∧ (g27 39 3).toInt ≤ 4) ∧ (0 ≤ (0 : Int) ∧ (0 : Int) ≤ 160) ∧ (0 ≤ (g27 39 19).toInt ∧ (g27 39 19).toInt ≤ 4) ∧ (0 ≤ (g27 39 20).toInt ∧ (g27 39 20).toInt ≤ 255) ∧ (0 ≤ (g27 39 11).toInt ∧ (g27 39 11).toInt ≤ 160); have : (7 : Int32).toInt = 7 := rfl; have : (6 : Int32).toInt = 6 := rfl; have : (0 : Int32).toInt = 0 := rfl; omega), (by exact k30), (by exact k31), (by exact k32), (fun k hk => by simp only [qm_row]; rw [if_neg (by omega)]; exact f29 k hk), (by have : (7 : Int32).toInt = 7 := rfl; have : (6 : Int32).toInt = 6 := rfl; have : (0 : Int32).toInt = 0 := rfl; have := ti_subL (g27 39 15) (-10 : Int32) (-10) ti_n10; show (0 : Int32).toInt = 0 ∧ (g27 44) = (h 44) ∧ txQ (txF (h 44) (h 39 9).toInt.toNat 161 0 0 txS) ((-10 : Int32) - (g27 39 15)).toInt (g27 39 14).toInt (h 39 9).toInt ∧ ikQ (g27 39 14).toInt (h 42) (g27 42); generalize ((-10 : Int32) - (g27 39 15)) = z10 at *; obtain ⟨hst, S, hR, hT, hW⟩ := rfI_end hI (by omega) (by omega) (by omega) (by omega); have h6k := hi_ck hT.1; have hTf : rP S g16 := rP_eq hT.1 d43_g16 (by omega) (by omega); have hsv := (by decide : (7 : Int32).toInt = 7); have hsx := (by decide : (6 : Int32).toInt = 6); have nd := hid_out nd_g27; exact ⟨rfl, e44_g27, txQ_6 hR (fun q => absurd (h6k.mpr q) (by omega)) (by omega) (by omega), Or.inr ⟨by omega, e42_g27⟩⟩)⟩
        · refine tx_147 X g (1 : Int32) (6 : Int32) ⟨hgmi, hgpp, (by have : (6 : Int32).toInt = 6 := rfl; omega)⟩ _ (fun g44 p45 => ?_)
          obtain ⟨p45_0, p45_1, p45_2, p45_3⟩ := p45
          have f46 : ∀ k, (k < 39 ∨ 44 < k) → g44 k = h k := fun k hk => (p45_2 k (by omega)).trans (hgf k hk)
          have k47 : sm g44 := by unfold sm; rw [p45_2 40 (by omega)]; exact hgsm
          have k48 : zs g44 := by unfold zs; rw [p45_2 49 (by omega)]; exact hgzs
          have k49 : rw_ g44 := by unfold rw_; rw [p45_2 46 (by omega)]; exact hgrw
          have k50 : dd g44 := by unfold dd; rw [p45_2 43 (by omega)]; exact hgdd
          have o51 : ((((1 : Int32).toInt = 0 ∧ (g 39 14).toInt = 0) ∧ (g44 39 14).toInt = (6 : Int32).toInt ∧ (g44 39 15).toInt = (g 39 11).toInt) ∨ (¬ ((1 : Int32).toInt = 0 ∧ (g 39 14).toInt = 0) ∧ (g44 39 14).toInt = (g 39 14).toInt ∧ (g44 39 15).toInt = (g 39 15).toInt)) ∧ ((g44 39 5).toInt = (g 39 5).toInt) ∧ ((g44 39 6).toInt = (g 39 6).toInt) ∧ ((g44 39 7).toInt = (g 39 7).toInt) ∧ ((g44 39 9).toInt = (g 39 9).toInt) ∧ ((g44 39 10).toInt = (g 39 10).toInt) ∧ ((g44 39 11).toInt = (g 39 11).toInt) ∧ ((g44 39 12).toInt = (g 39 12).toInt) ∧ ((g44 39 13).toInt = (g 39 13).toInt) := p45_3
          clear p45_3
          have kdp_g44 : dp g44 := fun hf => by rw [p45_2 43 (by omega)]; exact hgdp (by have := (hgpp).2.2; have : (0 : Int32).toInt = 0 := rfl; have : (1 : Int32).toInt = 1 := rfl; omega)
          have d43_g44 : g44 43 = (g 43) := p45_2 43 (by omega)
          have e42_g44 : g44 42 = h 42 := (p45_2 42 (by omega)).trans e42_g
          have e44_g44 : g44 44 = h 44 := (p45_2 44 (by omega)).trans e44_g
          have e9_g44 : (g44 39 9).toInt = (h 39 9).toInt := (by omega)
          replace o51 : (g44 39 14).toInt = (g 39 14).toInt ∧ (g44 39 15).toInt = (g 39 15).toInt ∧ ((g44 39 5).toInt = (g 39 5).toInt) ∧ ((g44 39 6).toInt = (g 39 6).toInt) ∧ ((g44 39 7).toInt = (g 39 7).toInt) ∧ ((g44 39 9).toInt = (g 39 9).toInt) ∧ ((g44 39 10).toInt = (g 39 10).toInt) ∧ ((g44 39 11).toInt = (g 39 11).toInt) ∧ ((g44 39 12).toInt = (g 39 12).toInt) ∧ ((g44 39 13).toInt = (g 39 13).toInt) := ⟨(by have : (1 : Int32).toInt = 1 := rfl; have : (0 : Int32).toInt = 0 := rfl; omega), (by have : (1 : Int32).toInt = 1 := rfl; have : (0 : Int32).toInt = 0 := rfl; omega), o51.2⟩
          (try rw [e44_g] at o51); (try rw [e9_g] at o51)
          show qm_PW X 161 [.ref 39] g44 _
          refine tx_161 X g44  ⟨p45_1, k50⟩ _ (fun r52 p53 => ?_)
          have o54 : ftQ r52 (g44 43) (g44 43 4).toInt.toNat (g44 39 5).toInt.toNat := p53
          clear p53
          show qm_PW X 147 [.ref 39, .int r52, .int 7] g44 _
          refine tx_147 X g44 r52 (7 : Int32) ⟨p45_0, p45_1, (by have : (7 : Int32).toInt = 7 := rfl; have : (6 : Int32).toInt = 6 := rfl; have : (1 : Int32).toInt = 1 := rfl; omega)⟩ _ (fun g55 p56 => ?_)
          obtain ⟨p56_0, p56_1, p56_2, p56_3⟩ := p56
          have f57 : ∀ k, (k < 39 ∨ 44 < k) → g55 k = h k := fun k hk => (p56_2 k (by omega)).trans (f46 k hk)
          have k58 : sm g55 := by unfold sm; rw [p56_2 40 (by omega)]; exact k47
          have k59 : zs g55 := by unfold zs; rw [p56_2 49 (by omega)]; exact k48
          have k60 : rw_ g55 := by unfold rw_; rw [p56_2 46 (by omega)]; exact k49
          have k61 : dd g55 := by unfold dd; rw [p56_2 43 (by omega)]; exact k50
          have o62 : (((r52.toInt = 0 ∧ (g44 39 14).toInt = 0) ∧ (g55 39 14).toInt = (7 : Int32).toInt ∧ (g55 39 15).toInt = (g44 39 11).toInt) ∨ (¬ (r52.toInt = 0 ∧ (g44 39 14).toInt = 0) ∧ (g55 39 14).toInt = (g44 39 14).toInt ∧ (g55 39 15).toInt = (g44 39 15).toInt)) ∧ ((g55 39 5).toInt = (g44 39 5).toInt) ∧ ((g55 39 6).toInt = (g44 39 6).toInt) ∧ ((g55 39 7).toInt = (g44 39 7).toInt) ∧ ((g55 39 9).toInt = (g44 39 9).toInt) ∧ ((g55 39 10).toInt = (g44 39 10).toInt) ∧ ((g55 39 11).toInt = (g44 39 11).toInt) ∧ ((g55 39 12).toInt = (g44 39 12).toInt) ∧ ((g55 39 13).toInt = (g44 39 13).toInt) := p56_3
          clear p56_3
          have kdp_g55 : dp g55 := fun hf => by rw [p56_2 43 (by omega)]; exact kdp_g44 (by have := (p45_1).2.2; have : (0 : Int32).toInt = 0 := rfl; have : (1 : Int32).toInt = 1 := rfl; omega)
          have d43_g55 : g55 43 = (g44 43) := p56_2 43 (by omega)
          have e42_g55 : g55 42 = h 42 := (p56_2 42 (by omega)).trans e42_g44
          have e44_g55 : g55 44 = h 44 := (p56_2 44 (by omega)).trans e44_g44
          have e9_g55 : (g55 39 9).toInt = (h 39 9).toInt := (by omega)
          have nf_g55 : (g44 39 14).toInt ≤ (g55 39 14).toInt := (by have : (7 : Int32).toInt = 7 := rfl; omega); have nd_g55 := (show hid _ from o62.1); replace o62 := o62.2
          (try rw [e44_g44] at o62); (try rw [e9_g44] at o62)
          show ((g55 39 14).toInt ≤ 0 → (qm_PW X 144 [.ref 39] (qm_row g55 39 (upd (g55 39) 9 0)) _)) ∧ (0 < (g55 39 14).toInt → (Q (some (.int ((-10 : Int32) - (g55 39 15)))) (qm_row g55 39 (upd (g55 39) 9 0))))
          refine ⟨fun c63 => ?_, fun c64 => ?_⟩
          · refine tx_144 X (qm_row g55 39 (upd (g55 39) 9 0))  ⟨(by have ⟨⟨_, _⟩, ⟨_, _⟩, ⟨_, _⟩, ⟨_, _⟩, _, _⟩ := hmmi; have ⟨⟨⟨_, _⟩, _, _⟩, _, _, _⟩ := hmsm; have ⟨⟨_, _⟩, ⟨_, _⟩, ⟨_, _⟩, ⟨_, _⟩, _, _⟩ := hgmi; have ⟨⟨_, _⟩, ⟨_, _⟩, _, _⟩ := hgpp; have ⟨⟨_, _⟩, _, _⟩ := hgdd; have ⟨⟨⟨_, _⟩, _, _⟩, _, _, _⟩ := hgsm; have ⟨⟨_, _⟩, ⟨_, _⟩, ⟨_, _⟩, ⟨_, _⟩, _, _⟩ := p45_0; have ⟨⟨_, _⟩, ⟨_, _⟩, _, _⟩ := p45_1; have ⟨⟨⟨_, _⟩, _, _⟩, _, _, _⟩ := k47; have ⟨⟨_, _⟩, _, _⟩ := k50; have ⟨⟨_, _⟩, ⟨_, _⟩, ⟨_, _⟩, ⟨_, _⟩, _, _⟩ := p56_0; have ⟨⟨_, _⟩, ⟨_, _⟩, _, _⟩ := p56_1; have ⟨⟨⟨_, _⟩, _, _⟩, _, _, _⟩ := k58; have ⟨⟨_, _⟩, _, _⟩ := k61; show (0 ≤ (g55 39 3).toInt ∧ (g55 39 3).toInt ≤ 4) ∧ (0 ≤ (0 : Int) ∧ (0 : Int) ≤ 160) ∧ (0 ≤ (g55 39 19).toInt ∧ (g55 39 19).toInt ≤ 4) ∧ (0 ≤ (g55 39 20).toInt ∧ (g55 39 20).toInt ≤ 255) ∧ (0 ≤ (g55 39 11).toInt ∧ (g55 39 11).toInt ≤ 160); have : (7 : Int32).toInt = 7 := rfl; have : (6 : Int32).toInt = 6 := rfl; have : (1 : Int32).toInt = 1 := rfl; omega), (by have ⟨⟨_, _⟩, ⟨_, _⟩, ⟨_, _⟩, ⟨_, _⟩, _, _⟩ := hmmi; have ⟨⟨⟨_, _⟩, _, _⟩, _, _, _⟩ := hmsm; have ⟨⟨_, _⟩, ⟨_, _⟩, ⟨_, _⟩, ⟨_, _⟩, _, _⟩ := hgmi; have ⟨⟨_, _⟩, ⟨_, _⟩, _, _⟩ := hgpp; have ⟨⟨_, _⟩, _, _⟩ := hgdd; have ⟨⟨⟨_, _⟩, _, _⟩, _, _, _⟩ := hgsm; have ⟨⟨_, _⟩, ⟨_, _⟩, ⟨_, _⟩, ⟨_, _⟩, _, _⟩ := p45_0; have ⟨⟨_, _⟩, ⟨_, _⟩, _, _⟩ := p45_1; have ⟨⟨⟨_, _⟩, _, _⟩, _, _, _⟩ := k47; have ⟨⟨_, _⟩, _, _⟩ := k50; have ⟨⟨_, _⟩, ⟨_, _⟩, ⟨_, _⟩, ⟨_, _⟩, _, _⟩ := p56_0; have ⟨⟨_, _⟩, ⟨_, _⟩, _, _⟩ := p56_1; have ⟨⟨⟨_, _⟩, _, _⟩, _, _, _⟩ := k58; have ⟨⟨_, _⟩, _, _⟩ := k61; show (0 ≤ (g55 39 5).toInt ∧ (g55 39 5).toInt ≤ 4) ∧ (0 ≤ (g55 39 10).toInt ∧ (g55 39 10).toInt ≤ 160) ∧ (0 ≤ (g55 39 14).toInt ∧ (g55 39 14).toInt ≤ 7); have : (7 : Int32).toInt = 7 := rfl; have : (6 : Int32).toInt = 6 := rfl; have : (1 : Int32).toInt = 1 := rfl; omega), (by exact k61), (by exact kdp_g55), (by exact k58), (by have : (7 : Int32).toInt = 7 := rfl; have : (6 : Int32).toInt = 6 := rfl; have : (1 : Int32).toInt = 1 := rfl; show (g55 39 14).toInt = 0; omega)⟩ _ (fun g65 p66 => ?_)
            obtain ⟨p66_0, p66_1, p66_2, p66_3⟩ := p66
            have f67 : ∀ k, (k < 39 ∨ 44 < k) → g65 k = h k := fun k hk => (p66_2 k (by omega)).trans (by simp only [qm_row]; rw [if_neg (by omega)]; exact f57 k hk)
            have k68 : zs g65 := by unfold zs; rw [p66_2 49 (by omega)]; exact k59
            have k69 : rw_ g65 := by unfold rw_; rw [p66_2 46 (by omega)]; exact k60
            have k70 : dd g65 := by unfold dd; rw [p66_2 43 (by omega)]; exact k61
            have o71 : ((g65 39 9).toInt = (0 : Int32).toInt ∧ (g65 39 14).toInt = (g55 39 14).toInt ∧ (g65 42) = upd (upd (g55 42) 0 0) 1 0) := p66_3
            clear p66_3
            have d43_g65 : g65 43 = (g55 43) := p66_2 43 (by omega)
            have e44_g65 : g65 44 = h 44 := (p66_2 44 (by omega)).trans e44_g55
            (try rw [e44_g55] at o71); (try rw [e9_g55] at o71)
            show Q (some (.int l1)) g65
            exact hq l1 g65 ⟨p66_0, p66_1, k68, k69, (fun k hk => f67 k hk), (by have : (7 : Int32).toInt = 7 := rfl; have : (6 : Int32).toInt = 6 := rfl; have : (1 : Int32).toInt = 1 := rfl; have : (0 : Int32).toInt = 0 := rfl; show (g65 39 9).toInt = 0 ∧ (g65 44) = (h 44) ∧ txQ (txF (h 44) (h 39 9).toInt.toNat 161 0 0 txS) l1.toInt (g65 39 14).toInt (h 39 9).toInt ∧ ikQ (g65 39 14).toInt (h 42) (g65 42); obtain ⟨hst, S, hR, hT, hW⟩ := rfI_end hI (by omega) (by omega) (by omega) (by omega); have h6k := hi_ck hT.1; have hTf : rP S g44 := rP_eq hT.1 d43_g44 (by omega) (by omega); have h6 : ck6 S := h6k.mp (by omega); have h7k := ft_ck hTf hW h6; have hsv := (by decide : (7 : Int32).toInt = 7); have hsx := (by decide : (6 : Int32).toInt = 6); have nd := hid_out nd_g55; exact ⟨by omega, e44_g65, txQ_ok hR h6 (h7k.mp (ftQ_1 o54 (by omega))) (by omega) (by omega), Or.inl ⟨by omega, by rw [← e42_g55]; exact o71.2.2⟩⟩)⟩
          · exact hq ((-10 : Int32) - (g55 39 15)) (qm_row g55 39 (upd (g55 39) 9 0)) ⟨(by have ⟨⟨_, _⟩, ⟨_, _⟩, ⟨_, _⟩, ⟨_, _⟩, _, _⟩ := hmmi; have ⟨⟨⟨_, _⟩, _, _⟩, _, _, _⟩ := hmsm; have ⟨⟨_, _⟩, ⟨_, _⟩, ⟨_, _⟩, ⟨_, _⟩, _, _⟩ := hgmi; have ⟨⟨_, _⟩, ⟨_, _⟩, _, _⟩ := hgpp; have ⟨⟨_, _⟩, _, _⟩ := hgdd; have ⟨⟨⟨_, _⟩, _, _⟩, _, _, _⟩ := hgsm; have ⟨⟨_, _⟩, ⟨_, _⟩, ⟨_, _⟩, ⟨_, _⟩, _, _⟩ := p45_0; have ⟨⟨_, _⟩, ⟨_, _⟩, _, _⟩ := p45_1; have ⟨⟨⟨_, _⟩, _, _⟩, _, _, _⟩ := k47; have ⟨⟨_, _⟩, _, _⟩ := k50; have ⟨⟨_, _⟩, ⟨_, _⟩, ⟨_, _⟩, ⟨_, _⟩, _, _⟩ := p56_0; have ⟨⟨_, _⟩, ⟨_, _⟩, _, _⟩ := p56_1; have ⟨⟨⟨_, _⟩, _, _⟩, _, _, _⟩ := k58; have ⟨⟨_, _⟩, _, _⟩ := k61; show (0 ≤ (g55 39 3).toInt ∧ (g55 39 3).toInt ≤ 4) ∧ (0 ≤ (0 : Int) ∧ (0 : Int) ≤ 160) ∧ (0 ≤ (g55 39 19).toInt ∧ (g55 39 19).toInt ≤ 4) ∧ (0 ≤ (g55 39 20).toInt ∧ (g55 39 20).toInt ≤ 255) ∧ (0 ≤ (g55 39 11).toInt ∧ (g55 39 11).toInt ≤ 160); have : (7 : Int32).toInt = 7 := rfl; have : (6 : Int32).toInt = 6 := rfl; have : (1 : Int32).toInt = 1 := rfl; omega), (by exact k58), (by exact k59), (by exact k60), (fun k hk => by simp only [qm_row]; rw [if_neg (by omega)]; exact f57 k hk), (by have : (7 : Int32).toInt = 7 := rfl; have : (6 : Int32).toInt = 6 := rfl; have : (1 : Int32).toInt = 1 := rfl; have : (0 : Int32).toInt = 0 := rfl; have := ti_subL (g55 39 15) (-10 : Int32) (-10) ti_n10; show (0 : Int32).toInt = 0 ∧ (g55 44) = (h 44) ∧ txQ (txF (h 44) (h 39 9).toInt.toNat 161 0 0 txS) ((-10 : Int32) - (g55 39 15)).toInt (g55 39 14).toInt (h 39 9).toInt ∧ ikQ (g55 39 14).toInt (h 42) (g55 42); generalize ((-10 : Int32) - (g55 39 15)) = z10 at *; obtain ⟨hst, S, hR, hT, hW⟩ := rfI_end hI (by omega) (by omega) (by omega) (by omega); have h6k := hi_ck hT.1; have hTf : rP S g44 := rP_eq hT.1 d43_g44 (by omega) (by omega); have h6 : ck6 S := h6k.mp (by omega); have h7k := ft_ck hTf hW h6; have hsv := (by decide : (7 : Int32).toInt = 7); have hsx := (by decide : (6 : Int32).toInt = 6); have nd := hid_out nd_g55; exact ⟨rfl, e44_g55, txQ_7 hR h6 (fun q => ftQ_0 o54 (by omega) (h7k.mpr q)) (by omega) (by omega), Or.inr ⟨by omega, e42_g55⟩⟩)⟩
    · have := ti_eqK 0 rfl c2
      refine ⟨fun c72 => ?_, fun c73 => ?_⟩
      · have := ti_eqK 0 rfl c72
        refine ⟨fun c74 => ?_, fun c75 => ?_⟩
        · have := ti_neK 0 rfl c74
          refine ⟨fun c76 => ?_, fun c77 => ?_⟩
          · refine tx_144 X (qm_row g 39 (upd (g 39) 9 0))  ⟨(by have ⟨⟨_, _⟩, ⟨_, _⟩, ⟨_, _⟩, ⟨_, _⟩, _, _⟩ := hmmi; have ⟨⟨⟨_, _⟩, _, _⟩, _, _, _⟩ := hmsm; have ⟨⟨_, _⟩, ⟨_, _⟩, ⟨_, _⟩, ⟨_, _⟩, _, _⟩ := hgmi; have ⟨⟨_, _⟩, ⟨_, _⟩, _, _⟩ := hgpp; have ⟨⟨_, _⟩, _, _⟩ := hgdd; have ⟨⟨⟨_, _⟩, _, _⟩, _, _, _⟩ := hgsm; show (0 ≤ (g 39 3).toInt ∧ (g 39 3).toInt ≤ 4) ∧ (0 ≤ (0 : Int) ∧ (0 : Int) ≤ 160) ∧ (0 ≤ (g 39 19).toInt ∧ (g 39 19).toInt ≤ 4) ∧ (0 ≤ (g 39 20).toInt ∧ (g 39 20).toInt ≤ 255) ∧ (0 ≤ (g 39 11).toInt ∧ (g 39 11).toInt ≤ 160); omega), (by have ⟨⟨_, _⟩, ⟨_, _⟩, ⟨_, _⟩, ⟨_, _⟩, _, _⟩ := hmmi; have ⟨⟨⟨_, _⟩, _, _⟩, _, _, _⟩ := hmsm; have ⟨⟨_, _⟩, ⟨_, _⟩, ⟨_, _⟩, ⟨_, _⟩, _, _⟩ := hgmi; have ⟨⟨_, _⟩, ⟨_, _⟩, _, _⟩ := hgpp; have ⟨⟨_, _⟩, _, _⟩ := hgdd; have ⟨⟨⟨_, _⟩, _, _⟩, _, _, _⟩ := hgsm; show (0 ≤ (g 39 5).toInt ∧ (g 39 5).toInt ≤ 4) ∧ (0 ≤ (g 39 10).toInt ∧ (g 39 10).toInt ≤ 160) ∧ (0 ≤ (g 39 14).toInt ∧ (g 39 14).toInt ≤ 7); omega), (by exact hgdd), (by exact hgdp), (by exact hgsm), (by show (g 39 14).toInt = 0; omega)⟩ _ (fun g78 p79 => ?_)
            obtain ⟨p79_0, p79_1, p79_2, p79_3⟩ := p79
            have f80 : ∀ k, (k < 39 ∨ 44 < k) → g78 k = h k := fun k hk => (p79_2 k (by omega)).trans (by simp only [qm_row]; rw [if_neg (by omega)]; exact hgf k hk)
            have k81 : zs g78 := by unfold zs; rw [p79_2 49 (by omega)]; exact hgzs
            have k82 : rw_ g78 := by unfold rw_; rw [p79_2 46 (by omega)]; exact hgrw
            have k83 : dd g78 := by unfold dd; rw [p79_2 43 (by omega)]; exact hgdd
            have o84 : ((g78 39 9).toInt = (0 : Int32).toInt ∧ (g78 39 14).toInt = (g 39 14).toInt ∧ (g78 42) = upd (upd (g 42) 0 0) 1 0) := p79_3
            clear p79_3
            have d43_g78 : g78 43 = (g 43) := p79_2 43 (by omega)
            have e44_g78 : g78 44 = h 44 := (p79_2 44 (by omega)).trans e44_g
            (try rw [e44_g] at o84); (try rw [e9_g] at o84)
            show Q (some (.int l1)) g78
            exact hq l1 g78 ⟨p79_0, p79_1, k81, k82, (fun k hk => f80 k hk), (by have : (0 : Int32).toInt = 0 := rfl; show (g78 39 9).toInt = 0 ∧ (g78 44) = (h 44) ∧ txQ (txF (h 44) (h 39 9).toInt.toNat 161 0 0 txS) l1.toInt (g78 39 14).toInt (h 39 9).toInt ∧ ikQ (g78 39 14).toInt (h 42) (g78 42); exfalso; omega)⟩
          · exact hq ((-10 : Int32) - (g 39 15)) (qm_row g 39 (upd (g 39) 9 0)) ⟨(by have ⟨⟨_, _⟩, ⟨_, _⟩, ⟨_, _⟩, ⟨_, _⟩, _, _⟩ := hmmi; have ⟨⟨⟨_, _⟩, _, _⟩, _, _, _⟩ := hmsm; have ⟨⟨_, _⟩, ⟨_, _⟩, ⟨_, _⟩, ⟨_, _⟩, _, _⟩ := hgmi; have ⟨⟨_, _⟩, ⟨_, _⟩, _, _⟩ := hgpp; have ⟨⟨_, _⟩, _, _⟩ := hgdd; have ⟨⟨⟨_, _⟩, _, _⟩, _, _, _⟩ := hgsm; show (0 ≤ (g 39 3).toInt ∧ (g 39 3).toInt ≤ 4) ∧ (0 ≤ (0 : Int) ∧ (0 : Int) ≤ 160) ∧ (0 ≤ (g 39 19).toInt ∧ (g 39 19).toInt ≤ 4) ∧ (0 ≤ (g 39 20).toInt ∧ (g 39 20).toInt ≤ 255) ∧ (0 ≤ (g 39 11).toInt ∧ (g 39 11).toInt ≤ 160); omega), (by exact hgsm), (by exact hgzs), (by exact hgrw), (fun k hk => by simp only [qm_row]; rw [if_neg (by omega)]; exact hgf k hk), (by have : (0 : Int32).toInt = 0 := rfl; have := ti_subL (g 39 15) (-10 : Int32) (-10) ti_n10; show (0 : Int32).toInt = 0 ∧ (g 44) = (h 44) ∧ txQ (txF (h 44) (h 39 9).toInt.toNat 161 0 0 txS) ((-10 : Int32) - (g 39 15)).toInt (g 39 14).toInt (h 39 9).toInt ∧ ikQ (g 39 14).toInt (h 42) (g 42); generalize ((-10 : Int32) - (g 39 15)) = z10 at *; have hB := rfI_bad hI (show ¬ (g 39 14).toInt = 0 by omega); exact ⟨rfl, e44_g, txQ_bad (show ¬ (g 39 14).toInt = 0 by omega) ⟨hB.1, hB.2.1⟩ rfl (by omega), Or.inr ⟨by omega, e42_g⟩⟩)⟩
        · have := ti_eqK 0 rfl c75
          refine ⟨fun c85 => ?_, fun c86 => ?_⟩
          · refine tx_147 X g (0 : Int32) (6 : Int32) ⟨hgmi, hgpp, (by have : (6 : Int32).toInt = 6 := rfl; omega)⟩ _ (fun g87 p88 => ?_)
            obtain ⟨p88_0, p88_1, p88_2, p88_3⟩ := p88
            have f89 : ∀ k, (k < 39 ∨ 44 < k) → g87 k = h k := fun k hk => (p88_2 k (by omega)).trans (hgf k hk)
            have k90 : sm g87 := by unfold sm; rw [p88_2 40 (by omega)]; exact hgsm
            have k91 : zs g87 := by unfold zs; rw [p88_2 49 (by omega)]; exact hgzs
            have k92 : rw_ g87 := by unfold rw_; rw [p88_2 46 (by omega)]; exact hgrw
            have k93 : dd g87 := by unfold dd; rw [p88_2 43 (by omega)]; exact hgdd
            have o94 : ((((0 : Int32).toInt = 0 ∧ (g 39 14).toInt = 0) ∧ (g87 39 14).toInt = (6 : Int32).toInt ∧ (g87 39 15).toInt = (g 39 11).toInt) ∨ (¬ ((0 : Int32).toInt = 0 ∧ (g 39 14).toInt = 0) ∧ (g87 39 14).toInt = (g 39 14).toInt ∧ (g87 39 15).toInt = (g 39 15).toInt)) ∧ ((g87 39 5).toInt = (g 39 5).toInt) ∧ ((g87 39 6).toInt = (g 39 6).toInt) ∧ ((g87 39 7).toInt = (g 39 7).toInt) ∧ ((g87 39 9).toInt = (g 39 9).toInt) ∧ ((g87 39 10).toInt = (g 39 10).toInt) ∧ ((g87 39 11).toInt = (g 39 11).toInt) ∧ ((g87 39 12).toInt = (g 39 12).toInt) ∧ ((g87 39 13).toInt = (g 39 13).toInt) := p88_3
            clear p88_3
            have kdp_g87 : dp g87 := fun hf => by rw [p88_2 43 (by omega)]; exact hgdp (by have := (hgpp).2.2; have : (0 : Int32).toInt = 0 := rfl; have : (1 : Int32).toInt = 1 := rfl; omega)
            have d43_g87 : g87 43 = (g 43) := p88_2 43 (by omega)
            have e42_g87 : g87 42 = h 42 := (p88_2 42 (by omega)).trans e42_g
            have e44_g87 : g87 44 = h 44 := (p88_2 44 (by omega)).trans e44_g
            have e9_g87 : (g87 39 9).toInt = (h 39 9).toInt := (by omega)
            (first | (replace o94 : (g87 39 14).toInt = (6 : Int32).toInt ∧ (g87 39 15).toInt = (g 39 11).toInt ∧ ((g87 39 5).toInt = (g 39 5).toInt) ∧ ((g87 39 6).toInt = (g 39 6).toInt) ∧ ((g87 39 7).toInt = (g 39 7).toInt) ∧ ((g87 39 9).toInt = (g 39 9).toInt) ∧ ((g87 39 10).toInt = (g 39 10).toInt) ∧ ((g87 39 11).toInt = (g 39 11).toInt) ∧ ((g87 39 12).toInt = (g 39 12).toInt) ∧ ((g87 39 13).toInt = (g 39 13).toInt) := ⟨(by have : (0 : Int32).toInt = 0 := rfl; omega), (by have : (0 : Int32).toInt = 0 := rfl; omega), o94.2⟩) | (replace o94 : (g87 39 14).toInt = (g 39 14).toInt ∧ (g87 39 15).toInt = (g 39 15).toInt ∧ ((g87 39 5).toInt = (g 39 5).toInt) ∧ ((g87 39 6).toInt = (g 39 6).toInt) ∧ ((g87 39 7).toInt = (g 39 7).toInt) ∧ ((g87 39 9).toInt = (g 39 9).toInt) ∧ ((g87 39 10).toInt = (g 39 10).toInt) ∧ ((g87 39 11).toInt = (g 39 11).toInt) ∧ ((g87 39 12).toInt = (g 39 12).toInt) ∧ ((g87 39 13).toInt = (g 39 13).toInt) := ⟨(by have : (1 : Int32).toInt = 1 := rfl; have : (0 : Int32).toInt = 0 := rfl; omega), (by have : (1 : Int32).toInt = 1 := rfl; have : (0 : Int32).toInt = 0 := rfl; omega), o94.2⟩) | skip)
            (try rw [e44_g] at o94); (try rw [e9_g] at o94)
            show qm_PW X 161 [.ref 39] g87 _
            refine tx_161 X g87  ⟨p88_1, k93⟩ _ (fun r95 p96 => ?_)
            have o97 : ftQ r95 (g87 43) (g87 43 4).toInt.toNat (g87 39 5).toInt.toNat := p96
            clear p96
            show qm_PW X 147 [.ref 39, .int r95, .int 7] g87 _
            refine tx_147 X g87 r95 (7 : Int32) ⟨p88_0, p88_1, (by have : (7 : Int32).toInt = 7 := rfl; have : (6 : Int32).toInt = 6 := rfl; have : (0 : Int32).toInt = 0 := rfl; omega)⟩ _ (fun g98 p99 => ?_)
            obtain ⟨p99_0, p99_1, p99_2, p99_3⟩ := p99
            have f100 : ∀ k, (k < 39 ∨ 44 < k) → g98 k = h k := fun k hk => (p99_2 k (by omega)).trans (f89 k hk)
            have k101 : sm g98 := by unfold sm; rw [p99_2 40 (by omega)]; exact k90
            have k102 : zs g98 := by unfold zs; rw [p99_2 49 (by omega)]; exact k91
            have k103 : rw_ g98 := by unfold rw_; rw [p99_2 46 (by omega)]; exact k92
            have k104 : dd g98 := by unfold dd; rw [p99_2 43 (by omega)]; exact k93
            have o105 : (((r95.toInt = 0 ∧ (g87 39 14).toInt = 0) ∧ (g98 39 14).toInt = (7 : Int32).toInt ∧ (g98 39 15).toInt = (g87 39 11).toInt) ∨ (¬ (r95.toInt = 0 ∧ (g87 39 14).toInt = 0) ∧ (g98 39 14).toInt = (g87 39 14).toInt ∧ (g98 39 15).toInt = (g87 39 15).toInt)) ∧ ((g98 39 5).toInt = (g87 39 5).toInt) ∧ ((g98 39 6).toInt = (g87 39 6).toInt) ∧ ((g98 39 7).toInt = (g87 39 7).toInt) ∧ ((g98 39 9).toInt = (g87 39 9).toInt) ∧ ((g98 39 10).toInt = (g87 39 10).toInt) ∧ ((g98 39 11).toInt = (g87 39 11).toInt) ∧ ((g98 39 12).toInt = (g87 39 12).toInt) ∧ ((g98 39 13).toInt = (g87 39 13).toInt) := p99_3
            clear p99_3
            have kdp_g98 : dp g98 := fun hf => by rw [p99_2 43 (by omega)]; exact kdp_g87 (by have := (p88_1).2.2; have : (0 : Int32).toInt = 0 := rfl; have : (1 : Int32).toInt = 1 := rfl; omega)
            have d43_g98 : g98 43 = (g87 43) := p99_2 43 (by omega)
            have e42_g98 : g98 42 = h 42 := (p99_2 42 (by omega)).trans e42_g87
            have e44_g98 : g98 44 = h 44 := (p99_2 44 (by omega)).trans e44_g87
            have e9_g98 : (g98 39 9).toInt = (h 39 9).toInt := (by omega)
            have nf_g98 : (g87 39 14).toInt ≤ (g98 39 14).toInt := (by have : (7 : Int32).toInt = 7 := rfl; omega); have nd_g98 := (show hid _ from o105.1); replace o105 := o105.2
            (try rw [e44_g87] at o105); (try rw [e9_g87] at o105)
            show ((g98 39 14).toInt ≤ 0 → (qm_PW X 144 [.ref 39] (qm_row g98 39 (upd (g98 39) 9 0)) _)) ∧ (0 < (g98 39 14).toInt → (Q (some (.int ((-10 : Int32) - (g98 39 15)))) (qm_row g98 39 (upd (g98 39) 9 0))))
            refine ⟨fun c106 => ?_, fun c107 => ?_⟩
            · refine tx_144 X (qm_row g98 39 (upd (g98 39) 9 0))  ⟨(by have ⟨⟨_, _⟩, ⟨_, _⟩, ⟨_, _⟩, ⟨_, _⟩, _, _⟩ := hmmi; have ⟨⟨⟨_, _⟩, _, _⟩, _, _, _⟩ := hmsm; have ⟨⟨_, _⟩, ⟨_, _⟩, ⟨_, _⟩, ⟨_, _⟩, _, _⟩ := hgmi; have ⟨⟨_, _⟩, ⟨_, _⟩, _, _⟩ := hgpp; have ⟨⟨_, _⟩, _, _⟩ := hgdd; have ⟨⟨⟨_, _⟩, _, _⟩, _, _, _⟩ := hgsm; have ⟨⟨_, _⟩, ⟨_, _⟩, ⟨_, _⟩, ⟨_, _⟩, _, _⟩ := p88_0; have ⟨⟨_, _⟩, ⟨_, _⟩, _, _⟩ := p88_1; have ⟨⟨⟨_, _⟩, _, _⟩, _, _, _⟩ := k90; have ⟨⟨_, _⟩, _, _⟩ := k93; have ⟨⟨_, _⟩, ⟨_, _⟩, ⟨_, _⟩, ⟨_, _⟩, _, _⟩ := p99_0; have ⟨⟨_, _⟩, ⟨_, _⟩, _, _⟩ := p99_1; have ⟨⟨⟨_, _⟩, _, _⟩, _, _, _⟩ := k101; have ⟨⟨_, _⟩, _, _⟩ := k104; show (0 ≤ (g98 39 3).toInt ∧ (g98 39 3).toInt ≤ 4) ∧ (0 ≤ (0 : Int) ∧ (0 : Int) ≤ 160) ∧ (0 ≤ (g98 39 19).toInt ∧ (g98 39 19).toInt ≤ 4) ∧ (0 ≤ (g98 39 20).toInt ∧ (g98 39 20).toInt ≤ 255) ∧ (0 ≤ (g98 39 11).toInt ∧ (g98 39 11).toInt ≤ 160); have : (7 : Int32).toInt = 7 := rfl; have : (6 : Int32).toInt = 6 := rfl; have : (0 : Int32).toInt = 0 := rfl; omega), (by have ⟨⟨_, _⟩, ⟨_, _⟩, ⟨_, _⟩, ⟨_, _⟩, _, _⟩ := hmmi; have ⟨⟨⟨_, _⟩, _, _⟩, _, _, _⟩ := hmsm; have ⟨⟨_, _⟩, ⟨_, _⟩, ⟨_, _⟩, ⟨_, _⟩, _, _⟩ := hgmi; have ⟨⟨_, _⟩, ⟨_, _⟩, _, _⟩ := hgpp; have ⟨⟨_, _⟩, _, _⟩ := hgdd; have ⟨⟨⟨_, _⟩, _, _⟩, _, _, _⟩ := hgsm; have ⟨⟨_, _⟩, ⟨_, _⟩, ⟨_, _⟩, ⟨_, _⟩, _, _⟩ := p88_0; have ⟨⟨_, _⟩, ⟨_, _⟩, _, _⟩ := p88_1; have ⟨⟨⟨_, _⟩, _, _⟩, _, _, _⟩ := k90; have ⟨⟨_, _⟩, _, _⟩ := k93; have ⟨⟨_, _⟩, ⟨_, _⟩, ⟨_, _⟩, ⟨_, _⟩, _, _⟩ := p99_0; have ⟨⟨_, _⟩, ⟨_, _⟩, _, _⟩ := p99_1; have ⟨⟨⟨_, _⟩, _, _⟩, _, _, _⟩ := k101; have ⟨⟨_, _⟩, _, _⟩ := k104; show (0 ≤ (g98 39 5).toInt ∧ (g98 39 5).toInt ≤ 4) ∧ (0 ≤ (g98 39 10).toInt ∧ (g98 39 10).toInt ≤ 160) ∧ (0 ≤ (g98 39 14).toInt ∧ (g98 39 14).toInt ≤ 7); have : (7 : Int32).toInt = 7 := rfl; have : (6 : Int32).toInt = 6 := rfl; have : (0 : Int32).toInt = 0 := rfl; omega), (by exact k104), (by exact kdp_g98), (by exact k101), (by have : (7 : Int32).toInt = 7 := rfl; have : (6 : Int32).toInt = 6 := rfl; have : (0 : Int32).toInt = 0 := rfl; show (g98 39 14).toInt = 0; omega)⟩ _ (fun g108 p109 => ?_)
              obtain ⟨p109_0, p109_1, p109_2, p109_3⟩ := p109
              have f110 : ∀ k, (k < 39 ∨ 44 < k) → g108 k = h k := fun k hk => (p109_2 k (by omega)).trans (by simp only [qm_row]; rw [if_neg (by omega)]; exact f100 k hk)
              have k111 : zs g108 := by unfold zs; rw [p109_2 49 (by omega)]; exact k102
              have k112 : rw_ g108 := by unfold rw_; rw [p109_2 46 (by omega)]; exact k103
              have k113 : dd g108 := by unfold dd; rw [p109_2 43 (by omega)]; exact k104
              have o114 : ((g108 39 9).toInt = (0 : Int32).toInt ∧ (g108 39 14).toInt = (g98 39 14).toInt ∧ (g108 42) = upd (upd (g98 42) 0 0) 1 0) := p109_3
              clear p109_3
              have d43_g108 : g108 43 = (g98 43) := p109_2 43 (by omega)
              have e44_g108 : g108 44 = h 44 := (p109_2 44 (by omega)).trans e44_g98
              (try rw [e44_g98] at o114); (try rw [e9_g98] at o114)
              show Q (some (.int l1)) g108
              exact hq l1 g108 ⟨p109_0, p109_1, k111, k112, (fun k hk => f110 k hk), (by have : (7 : Int32).toInt = 7 := rfl; have : (6 : Int32).toInt = 6 := rfl; have : (0 : Int32).toInt = 0 := rfl; show (g108 39 9).toInt = 0 ∧ (g108 44) = (h 44) ∧ txQ (txF (h 44) (h 39 9).toInt.toNat 161 0 0 txS) l1.toInt (g108 39 14).toInt (h 39 9).toInt ∧ ikQ (g108 39 14).toInt (h 42) (g108 42); have hsv := (by decide : (7 : Int32).toInt = 7); have hsx := (by decide : (6 : Int32).toInt = 6); have nd := hid_out nd_g98; exfalso; omega)⟩
            · exact hq ((-10 : Int32) - (g98 39 15)) (qm_row g98 39 (upd (g98 39) 9 0)) ⟨(by have ⟨⟨_, _⟩, ⟨_, _⟩, ⟨_, _⟩, ⟨_, _⟩, _, _⟩ := hmmi; have ⟨⟨⟨_, _⟩, _, _⟩, _, _, _⟩ := hmsm; have ⟨⟨_, _⟩, ⟨_, _⟩, ⟨_, _⟩, ⟨_, _⟩, _, _⟩ := hgmi; have ⟨⟨_, _⟩, ⟨_, _⟩, _, _⟩ := hgpp; have ⟨⟨_, _⟩, _, _⟩ := hgdd; have ⟨⟨⟨_, _⟩, _, _⟩, _, _, _⟩ := hgsm; have ⟨⟨_, _⟩, ⟨_, _⟩, ⟨_, _⟩, ⟨_, _⟩, _, _⟩ := p88_0; have ⟨⟨_, _⟩, ⟨_, _⟩, _, _⟩ := p88_1; have ⟨⟨⟨_, _⟩, _, _⟩, _, _, _⟩ := k90; have ⟨⟨_, _⟩, _, _⟩ := k93; have ⟨⟨_, _⟩, ⟨_, _⟩, ⟨_, _⟩, ⟨_, _⟩, _, _⟩ := p99_0; have ⟨⟨_, _⟩, ⟨_, _⟩, _, _⟩ := p99_1; have ⟨⟨⟨_, _⟩, _, _⟩, _, _, _⟩ := k101; have ⟨⟨_, _⟩, _, _⟩ := k104; show (0 ≤ (g98 39 3).toInt ∧ (g98 39 3).toInt ≤ 4) ∧ (0 ≤ (0 : Int) ∧ (0 : Int) ≤ 160) ∧ (0 ≤ (g98 39 19).toInt ∧ (g98 39 19).toInt ≤ 4) ∧ (0 ≤ (g98 39 20).toInt ∧ (g98 39 20).toInt ≤ 255) ∧ (0 ≤ (g98 39 11).toInt ∧ (g98 39 11).toInt ≤ 160); have : (7 : Int32).toInt = 7 := rfl; have : (6 : Int32).toInt = 6 := rfl; have : (0 : Int32).toInt = 0 := rfl; omega), (by exact k101), (by exact k102), (by exact k103), (fun k hk => by simp only [qm_row]; rw [if_neg (by omega)]; exact f100 k hk), (by have : (7 : Int32).toInt = 7 := rfl; have : (6 : Int32).toInt = 6 := rfl; have : (0 : Int32).toInt = 0 := rfl; have := ti_subL (g98 39 15) (-10 : Int32) (-10) ti_n10; show (0 : Int32).toInt = 0 ∧ (g98 44) = (h 44) ∧ txQ (txF (h 44) (h 39 9).toInt.toNat 161 0 0 txS) ((-10 : Int32) - (g98 39 15)).toInt (g98 39 14).toInt (h 39 9).toInt ∧ ikQ (g98 39 14).toInt (h 42) (g98 42); generalize ((-10 : Int32) - (g98 39 15)) = z10 at *; obtain ⟨hst, S, hR, hT, hW⟩ := rfI_end hI (by omega) (by omega) (by omega) (by omega); have h6k := hi_ck hT.1; have hTf : rP S g87 := rP_eq hT.1 d43_g87 (by omega) (by omega); have hsv := (by decide : (7 : Int32).toInt = 7); have hsx := (by decide : (6 : Int32).toInt = 6); have nd := hid_out nd_g98; exact ⟨rfl, e44_g98, txQ_6 hR (fun q => absurd (h6k.mpr q) (by omega)) (by omega) (by omega), Or.inr ⟨by omega, e42_g98⟩⟩)⟩
          · refine tx_147 X g (1 : Int32) (6 : Int32) ⟨hgmi, hgpp, (by have : (6 : Int32).toInt = 6 := rfl; omega)⟩ _ (fun g115 p116 => ?_)
            obtain ⟨p116_0, p116_1, p116_2, p116_3⟩ := p116
            have f117 : ∀ k, (k < 39 ∨ 44 < k) → g115 k = h k := fun k hk => (p116_2 k (by omega)).trans (hgf k hk)
            have k118 : sm g115 := by unfold sm; rw [p116_2 40 (by omega)]; exact hgsm
            have k119 : zs g115 := by unfold zs; rw [p116_2 49 (by omega)]; exact hgzs
            have k120 : rw_ g115 := by unfold rw_; rw [p116_2 46 (by omega)]; exact hgrw
            have k121 : dd g115 := by unfold dd; rw [p116_2 43 (by omega)]; exact hgdd
            have o122 : ((((1 : Int32).toInt = 0 ∧ (g 39 14).toInt = 0) ∧ (g115 39 14).toInt = (6 : Int32).toInt ∧ (g115 39 15).toInt = (g 39 11).toInt) ∨ (¬ ((1 : Int32).toInt = 0 ∧ (g 39 14).toInt = 0) ∧ (g115 39 14).toInt = (g 39 14).toInt ∧ (g115 39 15).toInt = (g 39 15).toInt)) ∧ ((g115 39 5).toInt = (g 39 5).toInt) ∧ ((g115 39 6).toInt = (g 39 6).toInt) ∧ ((g115 39 7).toInt = (g 39 7).toInt) ∧ ((g115 39 9).toInt = (g 39 9).toInt) ∧ ((g115 39 10).toInt = (g 39 10).toInt) ∧ ((g115 39 11).toInt = (g 39 11).toInt) ∧ ((g115 39 12).toInt = (g 39 12).toInt) ∧ ((g115 39 13).toInt = (g 39 13).toInt) := p116_3
            clear p116_3
            have kdp_g115 : dp g115 := fun hf => by rw [p116_2 43 (by omega)]; exact hgdp (by have := (hgpp).2.2; have : (0 : Int32).toInt = 0 := rfl; have : (1 : Int32).toInt = 1 := rfl; omega)
            have d43_g115 : g115 43 = (g 43) := p116_2 43 (by omega)
            have e42_g115 : g115 42 = h 42 := (p116_2 42 (by omega)).trans e42_g
            have e44_g115 : g115 44 = h 44 := (p116_2 44 (by omega)).trans e44_g
            have e9_g115 : (g115 39 9).toInt = (h 39 9).toInt := (by omega)
            replace o122 : (g115 39 14).toInt = (g 39 14).toInt ∧ (g115 39 15).toInt = (g 39 15).toInt ∧ ((g115 39 5).toInt = (g 39 5).toInt) ∧ ((g115 39 6).toInt = (g 39 6).toInt) ∧ ((g115 39 7).toInt = (g 39 7).toInt) ∧ ((g115 39 9).toInt = (g 39 9).toInt) ∧ ((g115 39 10).toInt = (g 39 10).toInt) ∧ ((g115 39 11).toInt = (g 39 11).toInt) ∧ ((g115 39 12).toInt = (g 39 12).toInt) ∧ ((g115 39 13).toInt = (g 39 13).toInt) := ⟨(by have : (1 : Int32).toInt = 1 := rfl; have : (0 : Int32).toInt = 0 := rfl; omega), (by have : (1 : Int32).toInt = 1 := rfl; have : (0 : Int32).toInt = 0 := rfl; omega), o122.2⟩
            (try rw [e44_g] at o122); (try rw [e9_g] at o122)
            show qm_PW X 161 [.ref 39] g115 _
            refine tx_161 X g115  ⟨p116_1, k121⟩ _ (fun r123 p124 => ?_)
            have o125 : ftQ r123 (g115 43) (g115 43 4).toInt.toNat (g115 39 5).toInt.toNat := p124
            clear p124
            show qm_PW X 147 [.ref 39, .int r123, .int 7] g115 _
            refine tx_147 X g115 r123 (7 : Int32) ⟨p116_0, p116_1, (by have : (7 : Int32).toInt = 7 := rfl; have : (6 : Int32).toInt = 6 := rfl; have : (1 : Int32).toInt = 1 := rfl; omega)⟩ _ (fun g126 p127 => ?_)
            obtain ⟨p127_0, p127_1, p127_2, p127_3⟩ := p127
            have f128 : ∀ k, (k < 39 ∨ 44 < k) → g126 k = h k := fun k hk => (p127_2 k (by omega)).trans (f117 k hk)
            have k129 : sm g126 := by unfold sm; rw [p127_2 40 (by omega)]; exact k118
            have k130 : zs g126 := by unfold zs; rw [p127_2 49 (by omega)]; exact k119
            have k131 : rw_ g126 := by unfold rw_; rw [p127_2 46 (by omega)]; exact k120
            have k132 : dd g126 := by unfold dd; rw [p127_2 43 (by omega)]; exact k121
            have o133 : (((r123.toInt = 0 ∧ (g115 39 14).toInt = 0) ∧ (g126 39 14).toInt = (7 : Int32).toInt ∧ (g126 39 15).toInt = (g115 39 11).toInt) ∨ (¬ (r123.toInt = 0 ∧ (g115 39 14).toInt = 0) ∧ (g126 39 14).toInt = (g115 39 14).toInt ∧ (g126 39 15).toInt = (g115 39 15).toInt)) ∧ ((g126 39 5).toInt = (g115 39 5).toInt) ∧ ((g126 39 6).toInt = (g115 39 6).toInt) ∧ ((g126 39 7).toInt = (g115 39 7).toInt) ∧ ((g126 39 9).toInt = (g115 39 9).toInt) ∧ ((g126 39 10).toInt = (g115 39 10).toInt) ∧ ((g126 39 11).toInt = (g115 39 11).toInt) ∧ ((g126 39 12).toInt = (g115 39 12).toInt) ∧ ((g126 39 13).toInt = (g115 39 13).toInt) := p127_3
            clear p127_3
            have kdp_g126 : dp g126 := fun hf => by rw [p127_2 43 (by omega)]; exact kdp_g115 (by have := (p116_1).2.2; have : (0 : Int32).toInt = 0 := rfl; have : (1 : Int32).toInt = 1 := rfl; omega)
            have d43_g126 : g126 43 = (g115 43) := p127_2 43 (by omega)
            have e42_g126 : g126 42 = h 42 := (p127_2 42 (by omega)).trans e42_g115
            have e44_g126 : g126 44 = h 44 := (p127_2 44 (by omega)).trans e44_g115
            have e9_g126 : (g126 39 9).toInt = (h 39 9).toInt := (by omega)
            have nf_g126 : (g115 39 14).toInt ≤ (g126 39 14).toInt := (by have : (7 : Int32).toInt = 7 := rfl; omega); have nd_g126 := (show hid _ from o133.1); replace o133 := o133.2
            (try rw [e44_g115] at o133); (try rw [e9_g115] at o133)
            show ((g126 39 14).toInt ≤ 0 → (qm_PW X 144 [.ref 39] (qm_row g126 39 (upd (g126 39) 9 0)) _)) ∧ (0 < (g126 39 14).toInt → (Q (some (.int ((-10 : Int32) - (g126 39 15)))) (qm_row g126 39 (upd (g126 39) 9 0))))
            refine ⟨fun c134 => ?_, fun c135 => ?_⟩
            · refine tx_144 X (qm_row g126 39 (upd (g126 39) 9 0))  ⟨(by have ⟨⟨_, _⟩, ⟨_, _⟩, ⟨_, _⟩, ⟨_, _⟩, _, _⟩ := hmmi; have ⟨⟨⟨_, _⟩, _, _⟩, _, _, _⟩ := hmsm; have ⟨⟨_, _⟩, ⟨_, _⟩, ⟨_, _⟩, ⟨_, _⟩, _, _⟩ := hgmi; have ⟨⟨_, _⟩, ⟨_, _⟩, _, _⟩ := hgpp; have ⟨⟨_, _⟩, _, _⟩ := hgdd; have ⟨⟨⟨_, _⟩, _, _⟩, _, _, _⟩ := hgsm; have ⟨⟨_, _⟩, ⟨_, _⟩, ⟨_, _⟩, ⟨_, _⟩, _, _⟩ := p116_0; have ⟨⟨_, _⟩, ⟨_, _⟩, _, _⟩ := p116_1; have ⟨⟨⟨_, _⟩, _, _⟩, _, _, _⟩ := k118; have ⟨⟨_, _⟩, _, _⟩ := k121; have ⟨⟨_, _⟩, ⟨_, _⟩, ⟨_, _⟩, ⟨_, _⟩, _, _⟩ := p127_0; have ⟨⟨_, _⟩, ⟨_, _⟩, _, _⟩ := p127_1; have ⟨⟨⟨_, _⟩, _, _⟩, _, _, _⟩ := k129; have ⟨⟨_, _⟩, _, _⟩ := k132; show (0 ≤ (g126 39 3).toInt ∧ (g126 39 3).toInt ≤ 4) ∧ (0 ≤ (0 : Int) ∧ (0 : Int) ≤ 160) ∧ (0 ≤ (g126 39 19).toInt ∧ (g126 39 19).toInt ≤ 4) ∧ (0 ≤ (g126 39 20).toInt ∧ (g126 39 20).toInt ≤ 255) ∧ (0 ≤ (g126 39 11).toInt ∧ (g126 39 11).toInt ≤ 160); have : (7 : Int32).toInt = 7 := rfl; have : (6 : Int32).toInt = 6 := rfl; have : (1 : Int32).toInt = 1 := rfl; omega), (by have ⟨⟨_, _⟩, ⟨_, _⟩, ⟨_, _⟩, ⟨_, _⟩, _, _⟩ := hmmi; have ⟨⟨⟨_, _⟩, _, _⟩, _, _, _⟩ := hmsm; have ⟨⟨_, _⟩, ⟨_, _⟩, ⟨_, _⟩, ⟨_, _⟩, _, _⟩ := hgmi; have ⟨⟨_, _⟩, ⟨_, _⟩, _, _⟩ := hgpp; have ⟨⟨_, _⟩, _, _⟩ := hgdd; have ⟨⟨⟨_, _⟩, _, _⟩, _, _, _⟩ := hgsm; have ⟨⟨_, _⟩, ⟨_, _⟩, ⟨_, _⟩, ⟨_, _⟩, _, _⟩ := p116_0; have ⟨⟨_, _⟩, ⟨_, _⟩, _, _⟩ := p116_1; have ⟨⟨⟨_, _⟩, _, _⟩, _, _, _⟩ := k118; have ⟨⟨_, _⟩, _, _⟩ := k121; have ⟨⟨_, _⟩, ⟨_, _⟩, ⟨_, _⟩, ⟨_, _⟩, _, _⟩ := p127_0; have ⟨⟨_, _⟩, ⟨_, _⟩, _, _⟩ := p127_1; have ⟨⟨⟨_, _⟩, _, _⟩, _, _, _⟩ := k129; have ⟨⟨_, _⟩, _, _⟩ := k132; show (0 ≤ (g126 39 5).toInt ∧ (g126 39 5).toInt ≤ 4) ∧ (0 ≤ (g126 39 10).toInt ∧ (g126 39 10).toInt ≤ 160) ∧ (0 ≤ (g126 39 14).toInt ∧ (g126 39 14).toInt ≤ 7); have : (7 : Int32).toInt = 7 := rfl; have : (6 : Int32).toInt = 6 := rfl; have : (1 : Int32).toInt = 1 := rfl; omega), (by exact k132), (by exact kdp_g126), (by exact k129), (by have : (7 : Int32).toInt = 7 := rfl; have : (6 : Int32).toInt = 6 := rfl; have : (1 : Int32).toInt = 1 := rfl; show (g126 39 14).toInt = 0; omega)⟩ _ (fun g136 p137 => ?_)
              obtain ⟨p137_0, p137_1, p137_2, p137_3⟩ := p137
              have f138 : ∀ k, (k < 39 ∨ 44 < k) → g136 k = h k := fun k hk => (p137_2 k (by omega)).trans (by simp only [qm_row]; rw [if_neg (by omega)]; exact f128 k hk)
              have k139 : zs g136 := by unfold zs; rw [p137_2 49 (by omega)]; exact k130
              have k140 : rw_ g136 := by unfold rw_; rw [p137_2 46 (by omega)]; exact k131
              have k141 : dd g136 := by unfold dd; rw [p137_2 43 (by omega)]; exact k132
              have o142 : ((g136 39 9).toInt = (0 : Int32).toInt ∧ (g136 39 14).toInt = (g126 39 14).toInt ∧ (g136 42) = upd (upd (g126 42) 0 0) 1 0) := p137_3
              clear p137_3
              have d43_g136 : g136 43 = (g126 43) := p137_2 43 (by omega)
              have e44_g136 : g136 44 = h 44 := (p137_2 44 (by omega)).trans e44_g126
              (try rw [e44_g126] at o142); (try rw [e9_g126] at o142)
              show Q (some (.int l1)) g136
              exact hq l1 g136 ⟨p137_0, p137_1, k139, k140, (fun k hk => f138 k hk), (by have : (7 : Int32).toInt = 7 := rfl; have : (6 : Int32).toInt = 6 := rfl; have : (1 : Int32).toInt = 1 := rfl; have : (0 : Int32).toInt = 0 := rfl; show (g136 39 9).toInt = 0 ∧ (g136 44) = (h 44) ∧ txQ (txF (h 44) (h 39 9).toInt.toNat 161 0 0 txS) l1.toInt (g136 39 14).toInt (h 39 9).toInt ∧ ikQ (g136 39 14).toInt (h 42) (g136 42); obtain ⟨hst, S, hR, hT, hW⟩ := rfI_end hI (by omega) (by omega) (by omega) (by omega); have h6k := hi_ck hT.1; have hTf : rP S g115 := rP_eq hT.1 d43_g115 (by omega) (by omega); have h6 : ck6 S := h6k.mp (by omega); have h7k := ft_ck hTf hW h6; have hsv := (by decide : (7 : Int32).toInt = 7); have hsx := (by decide : (6 : Int32).toInt = 6); have nd := hid_out nd_g126; exact ⟨by omega, e44_g136, txQ_ok hR h6 (h7k.mp (ftQ_1 o125 (by omega))) (by omega) (by omega), Or.inl ⟨by omega, by rw [← e42_g126]; exact o142.2.2⟩⟩)⟩
            · exact hq ((-10 : Int32) - (g126 39 15)) (qm_row g126 39 (upd (g126 39) 9 0)) ⟨(by have ⟨⟨_, _⟩, ⟨_, _⟩, ⟨_, _⟩, ⟨_, _⟩, _, _⟩ := hmmi; have ⟨⟨⟨_, _⟩, _, _⟩, _, _, _⟩ := hmsm; have ⟨⟨_, _⟩, ⟨_, _⟩, ⟨_, _⟩, ⟨_, _⟩, _, _⟩ := hgmi; have ⟨⟨_, _⟩, ⟨_, _⟩, _, _⟩ := hgpp; have ⟨⟨_, _⟩, _, _⟩ := hgdd; have ⟨⟨⟨_, _⟩, _, _⟩, _, _, _⟩ := hgsm; have ⟨⟨_, _⟩, ⟨_, _⟩, ⟨_, _⟩, ⟨_, _⟩, _, _⟩ := p116_0; have ⟨⟨_, _⟩, ⟨_, _⟩, _, _⟩ := p116_1; have ⟨⟨⟨_, _⟩, _, _⟩, _, _, _⟩ := k118; have ⟨⟨_, _⟩, _, _⟩ := k121; have ⟨⟨_, _⟩, ⟨_, _⟩, ⟨_, _⟩, ⟨_, _⟩, _, _⟩ := p127_0; have ⟨⟨_, _⟩, ⟨_, _⟩, _, _⟩ := p127_1; have ⟨⟨⟨_, _⟩, _, _⟩, _, _, _⟩ := k129; have ⟨⟨_, _⟩, _, _⟩ := k132; show (0 ≤ (g126 39 3).toInt ∧ (g126 39 3).toInt ≤ 4) ∧ (0 ≤ (0 : Int) ∧ (0 : Int) ≤ 160) ∧ (0 ≤ (g126 39 19).toInt ∧ (g126 39 19).toInt ≤ 4) ∧ (0 ≤ (g126 39 20).toInt ∧ (g126 39 20).toInt ≤ 255) ∧ (0 ≤ (g126 39 11).toInt ∧ (g126 39 11).toInt ≤ 160); have : (7 : Int32).toInt = 7 := rfl; have : (6 : Int32).toInt = 6 := rfl; have : (1 : Int32).toInt = 1 := rfl; omega), (by exact k129), (by exact k130), (by exact k131), (fun k hk => by simp only [qm_row]; rw [if_neg (by omega)]; exact f128 k hk), (by have : (7 : Int32).toInt = 7 := rfl; have : (6 : Int32).toInt = 6 := rfl; have : (1 : Int32).toInt = 1 := rfl; have : (0 : Int32).toInt = 0 := rfl; have := ti_subL (g126 39 15) (-10 : Int32) (-10) ti_n10; show (0 : Int32).toInt = 0 ∧ (g126 44) = (h 44) ∧ txQ (txF (h 44) (h 39 9).toInt.toNat 161 0 0 txS) ((-10 : Int32) - (g126 39 15)).toInt (g126 39 14).toInt (h 39 9).toInt ∧ ikQ (g126 39 14).toInt (h 42) (g126 42); generalize ((-10 : Int32) - (g126 39 15)) = z10 at *; obtain ⟨hst, S, hR, hT, hW⟩ := rfI_end hI (by omega) (by omega) (by omega) (by omega); have h6k := hi_ck hT.1; have hTf : rP S g115 := rP_eq hT.1 d43_g115 (by omega) (by omega); have h6 : ck6 S := h6k.mp (by omega); have h7k := ft_ck hTf hW h6; have hsv := (by decide : (7 : Int32).toInt = 7); have hsx := (by decide : (6 : Int32).toInt = 6); have nd := hid_out nd_g126; exact ⟨rfl, e44_g126, txQ_7 hR h6 (fun q => ftQ_0 o125 (by omega) (h7k.mpr q)) (by omega) (by omega), Or.inr ⟨by omega, e42_g126⟩⟩)⟩
      · have := ti_neK 0 rfl c73
        refine tx_159 X g  ⟨hgmi, hgpp, hgdd, hgdp, hgsm, ⟨(by show bt (g 44) (g 39 9).toInt; rw [e44_g, e9_g]; exact hbt), (by have hle := rfI_le hI (show (g 39 14).toInt = 0 by omega); show (g 39 14).toInt = 0 ∧ (g 39 10).toInt ≤ (g 39 9).toInt ∧ (0 ≤ (g 39 6).toInt ∧ (g 39 6).toInt ≤ 1); omega)⟩⟩ _ (fun g143 p144 => ?_)
        obtain ⟨p144_0, p144_1, p144_2, p144_3, p144_4, p144_5, p144_6⟩ := p144
        have f145 : ∀ k, (k < 39 ∨ 44 < k) → g143 k = h k := fun k hk => (p144_5 k (by omega)).trans (hgf k hk)
        have k146 : zs g143 := by unfold zs; rw [p144_5 49 (by omega)]; exact hgzs
        have k147 : rw_ g143 := by unfold rw_; rw [p144_5 46 (by omega)]; exact hgrw
        have o148 : ((g143 39 9).toInt = (g 39 9).toInt) ∧ ((g 39 14).toInt ≤ (g143 39 14).toInt) ∧ ∃ w x y z : Int, refQ (g 44) (g 39 9).toInt.toNat (lineF (g 44) (g 39 9).toInt.toNat (g 39 11).toInt.toNat (g 39 10).toInt.toNat (g 39 12).toInt (g 39 5).toInt (g 43 4).toInt (g 39 6).toInt) w x y z (g143 39 11).toInt (g143 39 12).toInt (g143 39 10).toInt (g143 39 13).toInt (g143 39 14).toInt (g143 39 15).toInt (g 39 15).toInt ∧ ((g143 39 14).toInt = 0 → ∀ S : tS, rT S g → rT (stF S w x y z) g143) := p144_6
        clear p144_6
        have e42_g143 : g143 42 = h 42 := (p144_5 42 (by omega)).trans e42_g
        have e44_g143 : g143 44 = h 44 := (p144_5 44 (by omega)).trans e44_g
        have e9_g143 : (g143 39 9).toInt = (h 39 9).toInt := (by omega)
        (try rw [e44_g] at o148); (try rw [e9_g] at o148)
        show qm_PA X 162 20 [(0, .ref 39), (1, .int (l1 + 1))] [] g143 Q
        exact ih (l1 + 1) g143 ⟨(by have := ti_addK l1 (1 : Int32) 1 rfl; show rfI (h 44) (h 39 9).toInt.toNat (l1 + 1).toInt (g143 39 14).toInt (g143 39 15).toInt (g143 39 11).toInt (g143 39 12).toInt (g143 39 10).toInt (g143 39 13).toInt g143 ∧ ((0 ≤ (l1 + 1).toInt ∧ (l1 + 1).toInt ≤ 160) ∧ (g143 39 9).toInt = (h 39 9).toInt) ∧ g143 44 = h 44 ∧ g143 42 = h 42; have hle := rfI_le hI (show (g 39 14).toInt = 0 by omega); obtain ⟨w, x, y, z, hrf, hst⟩ := o148.2.2; have hL := rfI_line (g2 := g143) (i2 := (l1 + 1).toInt) hI (by omega) (by omega) (by omega) (by omega) (by omega) (by omega) (fun S c => ⟨c.1.1.1, c.1.1.2.1, c.2⟩) hrf hst (by omega); have hL2 := hL.2; exact ⟨hL.1, by omega, e44_g143, e42_g143⟩), p144_0, p144_1, p144_2, p144_3, p144_4, k146, k147, (fun k hk => f145 k hk)⟩ (by have := ti_addK l1 (1 : Int32) 1 rfl; show (161 - (l1 + 1).toInt).toNat < n; omega)
set_option maxRecDepth 100000 in
set_option maxHeartbeats 4000000 in
theorem tx_162 (X : qm_X) (h : qm_H) (hp : mi h ∧ sm h ∧ zs h ∧ rw_ h ∧ (bt (h 44) (h 39 9).toInt)) (Q : qm_Q) (hq : ∀ r : Int32, ∀ h' : qm_H, (mi h' ∧ sm h' ∧ zs h' ∧ rw_ h' ∧ (∀ k, (k < 39 ∨ 44 < k) → h' k = h k) ∧ ((h' 39 9).toInt = 0 ∧ (h' 44) = (h 44) ∧ txQ (txF (h 44) (h 39 9).toInt.toNat 161 0 0 txS) r.toInt (h' 39 14).toInt (h 39 9).toInt ∧ ikQ (h' 39 14).toInt (h 42) (h' 42))) → Q (some (.int r)) h') : qm_PW X 162 [.ref 39] h Q := by
  have hmmi : mi h := hp.1
  have ⟨⟨_, _⟩, ⟨_, _⟩, ⟨_, _⟩, ⟨_, _⟩, _, _⟩ := hmmi
  have hmsm : sm h := hp.2.1
  have ⟨⟨⟨_, _⟩, _, _⟩, _, _, _⟩ := hmsm
  have hmzs : zs h := hp.2.2.1
  have hmrw : rw_ h := hp.2.2.2.1
  have hp0 : bt (h 44) (h 39 9).toInt := hp.2.2.2.2
  have hbt : bt (h 44) (h 39 9).toInt := hp0
  refine qm_seg_ok (C := qc_162) (rt := some .int) rfl rfl (cuts := [(20, [0, 1])]) 400 _ _ _ _ ?_
  show qm_PW X 143 [.ref 39] (qm_row (qm_row h 39 (upd (h 39) 14 0)) 39 (upd (upd (h 39) 14 0) 10 0)) _
  refine tx_143 X (qm_row (qm_row h 39 (upd (h 39) 14 0)) 39 (upd (upd (h 39) 14 0) 10 0))  ⟨(by have ⟨⟨_, _⟩, ⟨_, _⟩, ⟨_, _⟩, ⟨_, _⟩, _, _⟩ := hmmi; have ⟨⟨⟨_, _⟩, _, _⟩, _, _, _⟩ := hmsm; show (0 ≤ (h 39 3).toInt ∧ (h 39 3).toInt ≤ 4) ∧ (0 ≤ (h 39 9).toInt ∧ (h 39 9).toInt ≤ 160) ∧ (0 ≤ (h 39 19).toInt ∧ (h 39 19).toInt ≤ 4) ∧ (0 ≤ (h 39 20).toInt ∧ (h 39 20).toInt ≤ 255) ∧ (0 ≤ (h 39 11).toInt ∧ (h 39 11).toInt ≤ 160); omega), (by exact hmsm), (by have : (0 : Int32).toInt = 0 := rfl; show (0 ≤ (0 : Int32).toInt ∧ (0 : Int32).toInt ≤ 160) ∧ (0 ≤ (0 : Int32).toInt ∧ (0 : Int32).toInt ≤ 7); omega)⟩ _ (fun g1 p2 => ?_)
  obtain ⟨p2_0, p2_1, p2_2, p2_3, p2_4, p2_5, p2_6⟩ := p2
  have f3 : ∀ k, (k < 39 ∨ 44 < k) → g1 k = h k := fun k hk => (p2_5 k (by omega)).trans (by simp only [qm_row]; rw [if_neg (by omega)]; rw [if_neg (by omega)])
  have k4 : zs g1 := by unfold zs; rw [p2_5 49 (by omega)]; exact hmzs
  have k5 : rw_ g1 := by unfold rw_; rw [p2_5 46 (by omega)]; exact hmrw
  have o6 : ((g1 39 14).toInt = (0 : Int32).toInt) ∧ ((g1 39 10).toInt = (0 : Int32).toInt) ∧ ((g1 39 9).toInt = (h 39 9).toInt) ∧ ((g1 39 15).toInt = (h 39 15).toInt) ∧ (g1 39 5).toInt = 0 ∧ (g1 39 6).toInt = 0 ∧ (g1 39 7).toInt = -4 ∧ (g1 43 4).toInt = 0 ∧ (g1 43 5).toInt = 0 := p2_6
  clear p2_6
  have e42_g1 : g1 42 = h 42 := (p2_5 42 (by omega))
  have e44_g1 : g1 44 = h 44 := (p2_5 44 (by omega))
  have e9_g1 : (g1 39 9).toInt = (h 39 9).toInt := (by omega)
  show qm_PW X 152 [.ref 39] g1 _
  refine tx_152 X g1  ⟨p2_0, p2_1, (by show bt (g1 44) (g1 39 9).toInt; rw [e44_g1, e9_g1]; exact hbt)⟩ _ (fun g7 p8 => ?_)
  obtain ⟨p8_0, p8_1, p8_2, p8_3⟩ := p8
  have f9 : ∀ k, (k < 39 ∨ 44 < k) → g7 k = h k := fun k hk => (p8_2 k (by omega)).trans (f3 k hk)
  have k10 : sm g7 := by unfold sm; rw [p8_2 40 (by omega)]; exact p2_4
  have k11 : zs g7 := by unfold zs; rw [p8_2 49 (by omega)]; exact k4
  have k12 : rw_ g7 := by unfold rw_; rw [p8_2 46 (by omega)]; exact k5
  have k13 : dd g7 := by unfold dd; rw [p8_2 43 (by omega)]; exact p2_2
  have o14 : nxQ (g1 44) (g1 39 9).toInt.toNat (g1 39 10).toInt.toNat (g1 39 14).toInt (g7 39 11).toInt (g7 39 12).toInt (g7 39 10).toInt (g7 39 13).toInt (g7 39 14).toInt (g7 39 15).toInt (g1 39 15).toInt ∧ ((g7 39 5).toInt = (g1 39 5).toInt) ∧ ((g7 39 6).toInt = (g1 39 6).toInt) ∧ ((g7 39 7).toInt = (g1 39 7).toInt) ∧ ((g7 39 9).toInt = (g1 39 9).toInt) ∧ ((g1 39 14).toInt ≤ (g7 39 14).toInt) := p8_3
  clear p8_3
  have kdp_g7 : dp g7 := fun hf => by rw [p8_2 43 (by omega)]; exact p2_3 (by have := (p2_1).2.2; have : (0 : Int32).toInt = 0 := rfl; have : (1 : Int32).toInt = 1 := rfl; omega)
  have d43_g7 : g7 43 = (g1 43) := p8_2 43 (by omega)
  have e42_g7 : g7 42 = h 42 := (p8_2 42 (by omega)).trans e42_g1
  have e44_g7 : g7 44 = h 44 := (p8_2 44 (by omega)).trans e44_g1
  have e9_g7 : (g7 39 9).toInt = (h 39 9).toInt := (by omega)
  (try rw [e44_g1] at o14); (try rw [e9_g1] at o14)
  show qm_PA X 162 20 [(0, .ref 39), (1, .int 0)] [] g7 Q
  exact (tx_162_c X h hp Q hq _) (0 : Int32) g7 ⟨(by have : (0 : Int32).toInt = 0 := rfl; show rfI (h 44) (h 39 9).toInt.toNat (0 : Int32).toInt (g7 39 14).toInt (g7 39 15).toInt (g7 39 11).toInt (g7 39 12).toInt (g7 39 10).toInt (g7 39 13).toInt g7 ∧ ((0 ≤ (0 : Int32).toInt ∧ (0 : Int32).toInt ≤ 160) ∧ (g7 39 9).toInt = (h 39 9).toInt) ∧ g7 44 = h 44 ∧ g7 42 = h 42; exact ⟨rfI_mk (S := txS) (p := 0) (o14.1.elim (fun z => absurd (show (g1 39 14).toInt = 0 by omega) z.1) (fun z => by have z2 := z.2; rw [show (g1 39 10).toInt.toNat = 0 by omega] at z2; exact z2)) (fun _ => rT_0 (by omega) (by rw [d43_g7]; omega) (by rw [d43_g7]; omega) (by omega) (by omega)) wfS_0 (by have : (0 : Int32).toInt = 0 := rfl; omega) (by omega) (by decide) rfl, by have : (0 : Int32).toInt = 0 := rfl; omega, e44_g7, e42_g7⟩), p8_0, p8_1, k13, kdp_g7, k10, k11, k12, (fun k hk => f9 k hk)⟩ (Nat.lt_succ_self _)
