-- ThreadBankModel.text()I
set_option maxRecDepth 100000 in
set_option maxHeartbeats 4000000 in
theorem tx_162_c (X : qm_X) (h : qm_H) (hp : mi h ∧ sm h ∧ zs h ∧ rw_ h ∧ (bt (h 44) (h 39 9).toInt)) (Q : qm_Q) (hq : ∀ r : Int32, ∀ h' : qm_H, (mi h' ∧ sm h' ∧ zs h' ∧ rw_ h' ∧ (∀ k, (k < 39 ∨ 44 < k) → h' k = h k) ∧ ((h' 39 9).toInt = 0 ∧ (h' 44) = (h 44) ∧ txQ (txF (h 44) (h 39 9).toInt.toNat 161 0 0 txS) r.toInt (h' 39 14).toInt (h 39 9).toInt ∧ ikQ (h' 39 14).toInt (h 42) (h' 42) ∧ txM (h' 39 14).toInt (txF (h 44) (h 39 9).toInt.toNat 161 0 0 txS) (mR h) (mR h') ∧ txE (h' 39 14).toInt h h')) → Q (some (.int r)) h') : ∀ n : Nat, (∀ (l1 : Int32) (g : qm_H), ((rfI (h 44) (h 39 9).toInt.toNat l1.toInt (g 39 14).toInt (g 39 15).toInt (g 39 11).toInt (g 39 12).toInt (g 39 10).toInt (g 39 13).toInt g ∧ ((0 ≤ l1.toInt ∧ l1.toInt ≤ 160) ∧ (g 39 9).toInt = (h 39 9).toInt) ∧ g 44 = h 44 ∧ g 42 = h 42 ∧ g 40 = h 40) ∧ mi g ∧ pp g ∧ dd g ∧ dp g ∧ sm g ∧ zs g ∧ rw_ g ∧ (g 39 3 = h 39 3) ∧ ∀ k, (k < 39 ∨ 44 < k) → g k = h k) → (161 - l1.toInt).toNat < n → qm_PA X 162 20 [(0, .ref 39), (1, .int l1)] [] g Q) := by
  have hmmi : mi h := hp.1
  have ⟨⟨_, _⟩, ⟨_, _⟩, ⟨_, _⟩, ⟨_, _⟩, _, _⟩ := hmmi
  have hmsm : sm h := hp.2.1
  have ⟨⟨⟨_, _⟩, _, _⟩, _, _, _⟩ := hmsm
  have hmzs : zs h := hp.2.2.1
  have hmrw : rw_ h := hp.2.2.2.1
  have hp0 : bt (h 44) (h 39 9).toInt := hp.2.2.2.2
  have hbt : bt (h 44) (h 39 9).toInt := hp0
  intro n
  induction n with
  | zero => exact fun _ _ _ h0 => absurd h0 (Nat.not_lt_zero _)
  | succ n ih =>
    intro l1 g hi hr
    obtain ⟨hi0, hgmi, hgpp, hgdd, hgdp, hgsm, hgzs, hgrw, hgs3, hgf⟩ := hi
    have ⟨⟨_, _⟩, ⟨_, _⟩, ⟨_, _⟩, ⟨_, _⟩, _, _⟩ := hgmi
    have ⟨⟨_, _⟩, ⟨_, _⟩, _, _⟩ := hgpp
    have ⟨⟨_, _⟩, _, _⟩ := hgdd
    have ⟨⟨⟨_, _⟩, _, _⟩, _, _, _⟩ := hgsm
    obtain ⟨hI, hi2, e44_g, e42_g, e40_g⟩ := hi0
    have e9_g : (g 39 9).toInt = (h 39 9).toInt := hi2.2
    refine qm_seg_ok (C := qc_162) (rt := some .int) rfl rfl (cuts := [(20, [0, 1])]) 400 _ _ _ _ ?_
    show (¬ (g 39 14) = 0 → ((¬ (g 39 14) = 0 → (((g 39 14).toInt ≤ 0 → (qm_PW X 144 [.ref 39] (qm_row g 39 (upd (g 39) 9 0)) _)) ∧ (0 < (g 39 14).toInt → (Q (some (.int ((-10 : Int32) - (g 39 15)))) (qm_row g 39 (upd (g 39) 9 0)))))) ∧ ((g 39 14) = 0 → (((g 39 5).toInt ≤ (g 39 7).toInt → (qm_PW X 147 [.ref 39, .int 0, .int 6] g _)) ∧ ((g 39 7).toInt < (g 39 5).toInt → (qm_PW X 147 [.ref 39, .int 1, .int 6] g _)))))) ∧ ((g 39 14) = 0 → (((g 39 12) = 0 → ((¬ (g 39 14) = 0 → (((g 39 14).toInt ≤ 0 → (qm_PW X 144 [.ref 39] (qm_row g 39 (upd (g 39) 9 0)) _)) ∧ (0 < (g 39 14).toInt → (Q (some (.int ((-10 : Int32) - (g 39 15)))) (qm_row g 39 (upd (g 39) 9 0)))))) ∧ ((g 39 14) = 0 → (((g 39 5).toInt ≤ (g 39 7).toInt → (qm_PW X 147 [.ref 39, .int 0, .int 6] g _)) ∧ ((g 39 7).toInt < (g 39 5).toInt → (qm_PW X 147 [.ref 39, .int 1, .int 6] g _)))))) ∧ (¬ (g 39 12) = 0 → (qm_PW X 159 [.ref 39] g _))))
    refine ⟨fun c1 => ?_, fun c2 => ?_⟩
    · have := ti_neK 0 rfl c1
      refine ⟨fun c3 => ?_, fun c4 => ?_⟩
      · have := ti_neK 0 rfl c3
        refine ⟨fun c5 => ?_, fun c6 => ?_⟩
        · refine tx_144 X (qm_row g 39 (upd (g 39) 9 0))  ⟨(by have ⟨⟨_, _⟩, ⟨_, _⟩, ⟨_, _⟩, ⟨_, _⟩, _, _⟩ := hmmi; have ⟨⟨⟨_, _⟩, _, _⟩, _, _, _⟩ := hmsm; have ⟨⟨_, _⟩, ⟨_, _⟩, ⟨_, _⟩, ⟨_, _⟩, _, _⟩ := hgmi; have ⟨⟨_, _⟩, ⟨_, _⟩, _, _⟩ := hgpp; have ⟨⟨_, _⟩, _, _⟩ := hgdd; have ⟨⟨⟨_, _⟩, _, _⟩, _, _, _⟩ := hgsm; show (0 ≤ (g 39 3).toInt ∧ (g 39 3).toInt ≤ 4) ∧ (0 ≤ (0 : Int) ∧ (0 : Int) ≤ 160) ∧ (0 ≤ (g 39 19).toInt ∧ (g 39 19).toInt ≤ 4) ∧ (0 ≤ (g 39 20).toInt ∧ (g 39 20).toInt ≤ 255) ∧ (0 ≤ (g 39 11).toInt ∧ (g 39 11).toInt ≤ 160); omega), (by have ⟨⟨_, _⟩, ⟨_, _⟩, ⟨_, _⟩, ⟨_, _⟩, _, _⟩ := hmmi; have ⟨⟨⟨_, _⟩, _, _⟩, _, _, _⟩ := hmsm; have ⟨⟨_, _⟩, ⟨_, _⟩, ⟨_, _⟩, ⟨_, _⟩, _, _⟩ := hgmi; have ⟨⟨_, _⟩, ⟨_, _⟩, _, _⟩ := hgpp; have ⟨⟨_, _⟩, _, _⟩ := hgdd; have ⟨⟨⟨_, _⟩, _, _⟩, _, _, _⟩ := hgsm; show (0 ≤ (g 39 5).toInt ∧ (g 39 5).toInt ≤ 4) ∧ (0 ≤ (g 39 10).toInt ∧ (g 39 10).toInt ≤ 160) ∧ (0 ≤ (g 39 14).toInt ∧ (g 39 14).toInt ≤ 7); omega), (by exact hgdd), (by exact hgdp), (by exact hgsm), (by show (g 39 14).toInt = 0; omega)⟩ _ (fun g7 p8 => ?_)
          obtain ⟨p8_0, p8_1, p8_2, p8_3⟩ := p8
          have f9 : ∀ k, (k < 39 ∨ 44 < k) → g7 k = h k := fun k hk => (p8_2 k (by omega)).trans (by simp only [qm_row]; rw [if_neg (by omega)]; exact hgf k hk)
          have k10 : zs g7 := by unfold zs; rw [p8_2 49 (by omega)]; exact hgzs
          have k11 : rw_ g7 := by unfold rw_; rw [p8_2 46 (by omega)]; exact hgrw
          have k12 : dd g7 := by unfold dd; rw [p8_2 43 (by omega)]; exact hgdd
          have o13 : ((g7 39 9).toInt = (0 : Int32).toInt ∧ (g7 39 14).toInt = (g 39 14).toInt ∧ (g7 42) = upd (upd (g 42) 0 0) 1 0 ∧ mR g7 = mG (g 39 5) (g 43)) := p8_3
          clear p8_3
          have d43_g7 : g7 43 = (g 43) := p8_2 43 (by omega)
          have e44_g7 : g7 44 = h 44 := (p8_2 44 (by omega)).trans e44_g
          (try rw [e44_g] at o13); (try rw [e9_g] at o13)
          show Q (some (.int l1)) g7
          exact hq l1 g7 ⟨p8_0, p8_1, k10, k11, (fun k hk => f9 k hk), (by have : (0 : Int32).toInt = 0 := rfl; show (g7 39 9).toInt = 0 ∧ (g7 44) = (h 44) ∧ txQ (txF (h 44) (h 39 9).toInt.toNat 161 0 0 txS) l1.toInt (g7 39 14).toInt (h 39 9).toInt ∧ ikQ (g7 39 14).toInt (h 42) (g7 42) ∧ txM (g7 39 14).toInt (txF (h 44) (h 39 9).toInt.toNat 161 0 0 txS) (mR h) (mR g7) ∧ txE (g7 39 14).toInt h g7; exfalso; omega)⟩
        · exact hq ((-10 : Int32) - (g 39 15)) (qm_row g 39 (upd (g 39) 9 0)) ⟨(by have ⟨⟨_, _⟩, ⟨_, _⟩, ⟨_, _⟩, ⟨_, _⟩, _, _⟩ := hmmi; have ⟨⟨⟨_, _⟩, _, _⟩, _, _, _⟩ := hmsm; have ⟨⟨_, _⟩, ⟨_, _⟩, ⟨_, _⟩, ⟨_, _⟩, _, _⟩ := hgmi; have ⟨⟨_, _⟩, ⟨_, _⟩, _, _⟩ := hgpp; have ⟨⟨_, _⟩, _, _⟩ := hgdd; have ⟨⟨⟨_, _⟩, _, _⟩, _, _, _⟩ := hgsm; show (0 ≤ (g 39 3).toInt ∧ (g 39 3).toInt ≤ 4) ∧ (0 ≤ (0 : Int) ∧ (0 : Int) ≤ 160) ∧ (0 ≤ (g 39 19).toInt ∧ (g 39 19).toInt ≤ 4) ∧ (0 ≤ (g 39 20).toInt ∧ (g 39 20).toInt ≤ 255) ∧ (0 ≤ (g 39 11).toInt ∧ (g 39 11).toInt ≤ 160); omega), (by exact hgsm), (by exact hgzs), (by exact hgrw), (fun k hk => by simp only [qm_row]; rw [if_neg (by omega)]; exact hgf k hk), (by have : (0 : Int32).toInt = 0 := rfl; have := ti_subL (g 39 15) (-10 : Int32) (-10) ti_n10; show (0 : Int32).toInt = 0 ∧ (g 44) = (h 44) ∧ txQ (txF (h 44) (h 39 9).toInt.toNat 161 0 0 txS) ((-10 : Int32) - (g 39 15)).toInt (g 39 14).toInt (h 39 9).toInt ∧ ikQ (g 39 14).toInt (h 42) (g 42) ∧ txM (g 39 14).toInt (txF (h 44) (h 39 9).toInt.toNat 161 0 0 txS) (mR h) (mR (qm_row g 39 (upd (g 39) 9 0))) ∧ txE (g 39 14).toInt h (qm_row g 39 (upd (g 39) 9 0)); generalize ((-10 : Int32) - (g 39 15)) = z10 at *; have hB := rfI_bad hI (show ¬ (g 39 14).toInt = 0 by omega); exact ⟨rfl, e44_g, txQ_bad (show ¬ (g 39 14).toInt = 0 by omega) ⟨hB.1, hB.2.1⟩ rfl (by omega), Or.inr ⟨by omega, e42_g⟩, Or.inr ⟨by omega, mR_of (show ((qm_row g 39 (upd (g 39) 9 0)) 39 3 = h 39 3) from hgs3) (show (qm_row g 39 (upd (g 39) 9 0)) 40 = h 40 from e40_g)⟩, fun _ => ⟨(show ((qm_row g 39 (upd (g 39) 9 0)) 39 3 = h 39 3) from hgs3), e40_g⟩⟩)⟩
      · have := ti_eqK 0 rfl c4
        refine ⟨fun c14 => ?_, fun c15 => ?_⟩
        · refine tx_147 X g (0 : Int32) (6 : Int32) ⟨hgmi, hgpp, (by have : (6 : Int32).toInt = 6 := rfl; omega)⟩ _ (fun g16 p17 => ?_)
          obtain ⟨p17_0, p17_1, p17_2, p17_3, p17_4⟩ := p17
          have k18s : (g16 39 3 = h 39 3) := (p17_2).trans hgs3
          have f19 : ∀ k, (k < 39 ∨ 44 < k) → g16 k = h k := fun k hk => (p17_3 k (by omega)).trans (hgf k hk)
          have k20 : sm g16 := by unfold sm; rw [p17_3 40 (by omega)]; exact hgsm
          have k21 : zs g16 := by unfold zs; rw [p17_3 49 (by omega)]; exact hgzs
          have k22 : rw_ g16 := by unfold rw_; rw [p17_3 46 (by omega)]; exact hgrw
          have k23 : dd g16 := by unfold dd; rw [p17_3 43 (by omega)]; exact hgdd
          have o24 : ((((0 : Int32).toInt = 0 ∧ (g 39 14).toInt = 0) ∧ (g16 39 14).toInt = (6 : Int32).toInt ∧ (g16 39 15).toInt = (g 39 11).toInt) ∨ (¬ ((0 : Int32).toInt = 0 ∧ (g 39 14).toInt = 0) ∧ (g16 39 14).toInt = (g 39 14).toInt ∧ (g16 39 15).toInt = (g 39 15).toInt)) ∧ ((g16 39 5).toInt = (g 39 5).toInt) ∧ ((g16 39 6).toInt = (g 39 6).toInt) ∧ ((g16 39 7).toInt = (g 39 7).toInt) ∧ ((g16 39 9).toInt = (g 39 9).toInt) ∧ ((g16 39 10).toInt = (g 39 10).toInt) ∧ ((g16 39 11).toInt = (g 39 11).toInt) ∧ ((g16 39 12).toInt = (g 39 12).toInt) ∧ ((g16 39 13).toInt = (g 39 13).toInt) := p17_4
          clear p17_4
          have kdp_g16 : dp g16 := fun hf => by rw [p17_3 43 (by omega)]; exact hgdp (by have := (hgpp).2.2; have : (0 : Int32).toInt = 0 := rfl; have : (1 : Int32).toInt = 1 := rfl; omega)
          have d43_g16 : g16 43 = (g 43) := p17_3 43 (by omega)
          have e42_g16 : g16 42 = h 42 := (p17_3 42 (by omega)).trans e42_g
          have e40_g16 : g16 40 = h 40 := (p17_3 40 (by omega)).trans e40_g
          have e44_g16 : g16 44 = h 44 := (p17_3 44 (by omega)).trans e44_g
          have e9_g16 : (g16 39 9).toInt = (h 39 9).toInt := (by omega)
          (first | (replace o24 : (g16 39 14).toInt = (6 : Int32).toInt ∧ (g16 39 15).toInt = (g 39 11).toInt ∧ ((g16 39 5).toInt = (g 39 5).toInt) ∧ ((g16 39 6).toInt = (g 39 6).toInt) ∧ ((g16 39 7).toInt = (g 39 7).toInt) ∧ ((g16 39 9).toInt = (g 39 9).toInt) ∧ ((g16 39 10).toInt = (g 39 10).toInt) ∧ ((g16 39 11).toInt = (g 39 11).toInt) ∧ ((g16 39 12).toInt = (g 39 12).toInt) ∧ ((g16 39 13).toInt = (g 39 13).toInt) := ⟨(by have : (0 : Int32).toInt = 0 := rfl; omega), (by have : (0 : Int32).toInt = 0 := rfl; omega), o24.2⟩) | (replace o24 : (g16 39 14).toInt = (g 39 14).toInt ∧ (g16 39 15).toInt = (g 39 15).toInt ∧ ((g16 39 5).toInt = (g 39 5).toInt) ∧ ((g16 39 6).toInt = (g 39 6).toInt) ∧ ((g16 39 7).toInt = (g 39 7).toInt) ∧ ((g16 39 9).toInt = (g 39 9).toInt) ∧ ((g16 39 10).toInt = (g 39 10).toInt) ∧ ((g16 39 11).toInt = (g 39 11).toInt) ∧ ((g16 39 12).toInt = (g 39 12).toInt) ∧ ((g16 39 13).toInt = (g 39 13).toInt) := ⟨(by have : (1 : Int32).toInt = 1 := rfl; have : (0 : Int32).toInt = 0 := rfl; omega), (by have : (1 : Int32).toInt = 1 := rfl; have : (0 : Int32).toInt = 0 := rfl; omega), o24.2⟩) | skip)
          (try rw [e44_g] at o24); (try rw [e9_g] at o24)
          show qm_PW X 161 [.ref 39] g16 _
          refine tx_161 X g16  ⟨p17_1, k23⟩ _ (fun r25 p26 => ?_)
          have o27 : ftQ r25 (g16 43) (g16 43 4).toInt.toNat (g16 39 5).toInt.toNat := p26
          clear p26
          show qm_PW X 147 [.ref 39, .int r25, .int 7] g16 _
          refine tx_147 X g16 r25 (7 : Int32) ⟨p17_0, p17_1, (by have : (7 : Int32).toInt = 7 := rfl; have : (6 : Int32).toInt = 6 := rfl; have : (0 : Int32).toInt = 0 := rfl; omega)⟩ _ (fun g28 p29 => ?_)
          obtain ⟨p29_0, p29_1, p29_2, p29_3, p29_4⟩ := p29
          have k30s : (g28 39 3 = h 39 3) := (p29_2).trans k18s
          have f31 : ∀ k, (k < 39 ∨ 44 < k) → g28 k = h k := fun k hk => (p29_3 k (by omega)).trans (f19 k hk)
          have k32 : sm g28 := by unfold sm; rw [p29_3 40 (by omega)]; exact k20
          have k33 : zs g28 := by unfold zs; rw [p29_3 49 (by omega)]; exact k21
          have k34 : rw_ g28 := by unfold rw_; rw [p29_3 46 (by omega)]; exact k22
          have k35 : dd g28 := by unfold dd; rw [p29_3 43 (by omega)]; exact k23
          have o36 : (((r25.toInt = 0 ∧ (g16 39 14).toInt = 0) ∧ (g28 39 14).toInt = (7 : Int32).toInt ∧ (g28 39 15).toInt = (g16 39 11).toInt) ∨ (¬ (r25.toInt = 0 ∧ (g16 39 14).toInt = 0) ∧ (g28 39 14).toInt = (g16 39 14).toInt ∧ (g28 39 15).toInt = (g16 39 15).toInt)) ∧ ((g28 39 5).toInt = (g16 39 5).toInt) ∧ ((g28 39 6).toInt = (g16 39 6).toInt) ∧ ((g28 39 7).toInt = (g16 39 7).toInt) ∧ ((g28 39 9).toInt = (g16 39 9).toInt) ∧ ((g28 39 10).toInt = (g16 39 10).toInt) ∧ ((g28 39 11).toInt = (g16 39 11).toInt) ∧ ((g28 39 12).toInt = (g16 39 12).toInt) ∧ ((g28 39 13).toInt = (g16 39 13).toInt) := p29_4
          clear p29_4
          have kdp_g28 : dp g28 := fun hf => by rw [p29_3 43 (by omega)]; exact kdp_g16 (by have := (p17_1).2.2; have : (0 : Int32).toInt = 0 := rfl; have : (1 : Int32).toInt = 1 := rfl; omega)
          have d43_g28 : g28 43 = (g16 43) := p29_3 43 (by omega)
          have e42_g28 : g28 42 = h 42 := (p29_3 42 (by omega)).trans e42_g16
          have e40_g28 : g28 40 = h 40 := (p29_3 40 (by omega)).trans e40_g16
          have e44_g28 : g28 44 = h 44 := (p29_3 44 (by omega)).trans e44_g16
          have e9_g28 : (g28 39 9).toInt = (h 39 9).toInt := (by omega)
          have nf_g28 : (g16 39 14).toInt ≤ (g28 39 14).toInt := (by have : (7 : Int32).toInt = 7 := rfl; omega); have nd_g28 := (show hid _ from o36.1); replace o36 := o36.2
          (try rw [e44_g16] at o36); (try rw [e9_g16] at o36)
          show ((g28 39 14).toInt ≤ 0 → (qm_PW X 144 [.ref 39] (qm_row g28 39 (upd (g28 39) 9 0)) _)) ∧ (0 < (g28 39 14).toInt → (Q (some (.int ((-10 : Int32) - (g28 39 15)))) (qm_row g28 39 (upd (g28 39) 9 0))))
          refine ⟨fun c37 => ?_, fun c38 => ?_⟩
          · refine tx_144 X (qm_row g28 39 (upd (g28 39) 9 0))  ⟨(by have ⟨⟨_, _⟩, ⟨_, _⟩, ⟨_, _⟩, ⟨_, _⟩, _, _⟩ := hmmi; have ⟨⟨⟨_, _⟩, _, _⟩, _, _, _⟩ := hmsm; have ⟨⟨_, _⟩, ⟨_, _⟩, ⟨_, _⟩, ⟨_, _⟩, _, _⟩ := hgmi; have ⟨⟨_, _⟩, ⟨_, _⟩, _, _⟩ := hgpp; have ⟨⟨_, _⟩, _, _⟩ := hgdd; have ⟨⟨⟨_, _⟩, _, _⟩, _, _, _⟩ := hgsm; have ⟨⟨_, _⟩, ⟨_, _⟩, ⟨_, _⟩, ⟨_, _⟩, _, _⟩ := p17_0; have ⟨⟨_, _⟩, ⟨_, _⟩, _, _⟩ := p17_1; have ⟨⟨⟨_, _⟩, _, _⟩, _, _, _⟩ := k20; have ⟨⟨_, _⟩, _, _⟩ := k23; have ⟨⟨_, _⟩, ⟨_, _⟩, ⟨_, _⟩, ⟨_, _⟩, _, _⟩ := p29_0; have ⟨⟨_, _⟩, ⟨_, _⟩, _, _⟩ := p29_1; have ⟨⟨⟨_, _⟩, _, _⟩, _, _, _⟩ := k32; have ⟨⟨_, _⟩, _, _⟩ := k35; show (0 ≤ (g28 39 3).toInt ∧ (g28 39 3).toInt ≤ 4) ∧ (0 ≤ (0 : Int) ∧ (0 : Int) ≤ 160) ∧ (0 ≤ (g28 39 19).toInt ∧ (g28 39 19).toInt ≤ 4) ∧ (0 ≤ (g28 39 20).toInt ∧ (g28 39 20).toInt ≤ 255) ∧ (0 ≤ (g28 39 11).toInt ∧ (g28 39 11).toInt ≤ 160); have : (7 : Int32).toInt = 7 := rfl; have : (6 : Int32).toInt = 6 := rfl; have : (0 : Int32).toInt = 0 := rfl; omega), (by have ⟨⟨_, _⟩, ⟨_, _⟩, ⟨_, _⟩, ⟨_, _⟩, _, _⟩ := hmmi; have ⟨⟨⟨_, _⟩, _, _⟩, _, _, _⟩ := hmsm; have ⟨⟨_, _⟩, ⟨_, _⟩, ⟨_, _⟩, ⟨_, _⟩, _, _⟩ := hgmi; have ⟨⟨_, _⟩, ⟨_, _⟩, _, _⟩ := hgpp; have ⟨⟨_, _⟩, _, _⟩ := hgdd; have ⟨⟨⟨_, _⟩, _, _⟩, _, _, _⟩ := hgsm; have ⟨⟨_, _⟩, ⟨_, _⟩, ⟨_, _⟩, ⟨_, _⟩, _, _⟩ := p17_0; have ⟨⟨_, _⟩, ⟨_, _⟩, _, _⟩ := p17_1; have ⟨⟨⟨_, _⟩, _, _⟩, _, _, _⟩ := k20; have ⟨⟨_, _⟩, _, _⟩ := k23; have ⟨⟨_, _⟩, ⟨_, _⟩, ⟨_, _⟩, ⟨_, _⟩, _, _⟩ := p29_0; have ⟨⟨_, _⟩, ⟨_, _⟩, _, _⟩ := p29_1; have ⟨⟨⟨_, _⟩, _, _⟩, _, _, _⟩ := k32; have ⟨⟨_, _⟩, _, _⟩ := k35; show (0 ≤ (g28 39 5).toInt ∧ (g28 39 5).toInt ≤ 4) ∧ (0 ≤ (g28 39 10).toInt ∧ (g28 39 10).toInt ≤ 160) ∧ (0 ≤ (g28 39 14).toInt ∧ (g28 39 14).toInt ≤ 7); have : (7 : Int32).toInt = 7 := rfl; have : (6 : Int32).toInt = 6 := rfl; have : (0 : Int32).toInt = 0 := rfl; omega), (by exact k35), (by exact kdp_g28), (by exact k32), (by have : (7 : Int32).toInt = 7 := rfl; have : (6 : Int32).toInt = 6 := rfl; have : (0 : Int32).toInt = 0 := rfl; show (g28 39 14).toInt = 0; omega)⟩ _ (fun g39 p40 => ?_)
            obtain ⟨p40_0, p40_1, p40_2, p40_3⟩ := p40
            have f41 : ∀ k, (k < 39 ∨ 44 < k) → g39 k = h k := fun k hk => (p40_2 k (by omega)).trans (by simp only [qm_row]; rw [if_neg (by omega)]; exact f31 k hk)
            have k42 : zs g39 := by unfold zs; rw [p40_2 49 (by omega)]; exact k33
            have k43 : rw_ g39 := by unfold rw_; rw [p40_2 46 (by omega)]; exact k34
            have k44 : dd g39 := by unfold dd; rw [p40_2 43 (by omega)]; exact k35
            have o45 : ((g39 39 9).toInt = (0 : Int32).toInt ∧ (g39 39 14).toInt = (g28 39 14).toInt ∧ (g39 42) = upd (upd (g28 42) 0 0) 1 0 ∧ mR g39 = mG (g28 39 5) (g28 43)) := p40_3
            clear p40_3
            have d43_g39 : g39 43 = (g28 43) := p40_2 43 (by omega)
            have e44_g39 : g39 44 = h 44 := (p40_2 44 (by omega)).trans e44_g28
            (try rw [e44_g28] at o45); (try rw [e9_g28] at o45)
            show Q (some (.int l1)) g39
            exact hq l1 g39 ⟨p40_0, p40_1, k42, k43, (fun k hk => f41 k hk), (by have : (7 : Int32).toInt = 7 := rfl; have : (6 : Int32).toInt = 6 := rfl; have : (0 : Int32).toInt = 0 := rfl; show (g39 39 9).toInt = 0 ∧ (g39 44) = (h 44) ∧ txQ (txF (h 44) (h 39 9).toInt.toNat 161 0 0 txS) l1.toInt (g39 39 14).toInt (h 39 9).toInt ∧ ikQ (g39 39 14).toInt (h 42) (g39 42) ∧ txM (g39 39 14).toInt (txF (h 44) (h 39 9).toInt.toNat 161 0 0 txS) (mR h) (mR g39) ∧ txE (g39 39 14).toInt h g39; have hsv := (by decide : (7 : Int32).toInt = 7); have hsx := (by decide : (6 : Int32).toInt = 6); have nd := hid_out nd_g28; exfalso; omega)⟩
          · exact hq ((-10 : Int32) - (g28 39 15)) (qm_row g28 39 (upd (g28 39) 9 0)) ⟨(by have ⟨⟨_, _⟩, ⟨_, _⟩, ⟨_, _⟩, ⟨_, _⟩, _, _⟩ := hmmi; have ⟨⟨⟨_, _⟩, _, _⟩, _, _, _⟩ := hmsm; have ⟨⟨_, _⟩, ⟨_, _⟩, ⟨_, _⟩, ⟨_, _⟩, _, _⟩ := hgmi; have ⟨⟨_, _⟩, ⟨_, _⟩, _, _⟩ := hgpp; have ⟨⟨_, _⟩, _, _⟩ := hgdd; have ⟨⟨⟨_, _⟩, _, _⟩, _, _, _⟩ := hgsm; have ⟨⟨_, _⟩, ⟨_, _⟩, ⟨_, _⟩, ⟨_, _⟩, _, _⟩ := p17_0; have ⟨⟨_, _⟩, ⟨_, _⟩, _, _⟩ := p17_1; have ⟨⟨⟨_, _⟩, _, _⟩, _, _, _⟩ := k20; have ⟨⟨_, _⟩, _, _⟩ := k23; have ⟨⟨_, _⟩, ⟨_, _⟩, ⟨_, _⟩, ⟨_, _⟩, _, _⟩ := p29_0; have ⟨⟨_, _⟩, ⟨_, _⟩, _, _⟩ := p29_1; have ⟨⟨⟨_, _⟩, _, _⟩, _, _, _⟩ := k32; have ⟨⟨_, _⟩, _, _⟩ := k35; show (0 ≤ (g28 39 3).toInt ∧ (g28 39 3).toInt ≤ 4) ∧ (0 ≤ (0 : Int) ∧ (0 : Int) ≤ 160) ∧ (0 ≤ (g28 39 19).toInt ∧ (g28 39 19).toInt ≤ 4) ∧ (0 ≤ (g28 39 20).toInt ∧ (g28 39 20).toInt ≤ 255) ∧ (0 ≤ (g28 39 11).toInt ∧ (g28 39 11).toInt ≤ 160); have : (7 : Int32).toInt = 7 := rfl; have : (6 : Int32).toInt = 6 := rfl; have : (0 : Int32).toInt = 0 := rfl; omega), (by exact k32), (by exact k33), (by exact k34), (fun k hk => by simp only [qm_row]; rw [if_neg (by omega)]; exact f31 k hk), (by have : (7 : Int32).toInt = 7 := rfl; have : (6 : Int32).toInt = 6 := rfl; have : (0 : Int32).toInt = 0 := rfl; have := ti_subL (g28 39 15) (-10 : Int32) (-10) ti_n10; show (0 : Int32).toInt = 0 ∧ (g28 44) = (h 44) ∧ txQ (txF (h 44) (h 39 9).toInt.toNat 161 0 0 txS) ((-10 : Int32) - (g28 39 15)).toInt (g28 39 14).toInt (h 39 9).toInt ∧ ikQ (g28 39 14).toInt (h 42) (g28 42) ∧ txM (g28 39 14).toInt (txF (h 44) (h 39 9).toInt.toNat 161 0 0 txS) (mR h) (mR (qm_row g28 39 (upd (g28 39) 9 0))) ∧ txE (g28 39 14).toInt h (qm_row g28 39 (upd (g28 39) 9 0)); generalize ((-10 : Int32) - (g28 39 15)) = z10 at *; obtain ⟨hst, S, hR, hT, hW⟩ := rfI_end hI (by omega) (by omega) (by omega) (by omega); have h6k := hi_ck hT.1; have hTf : rP S g16 := rP_eq hT.1 d43_g16 (by omega) (by omega); have hsv := (by decide : (7 : Int32).toInt = 7); have hsx := (by decide : (6 : Int32).toInt = 6); have nd := hid_out nd_g28; exact ⟨rfl, e44_g28, txQ_6 hR (fun q => absurd (h6k.mpr q) (by omega)) (by omega) (by omega), Or.inr ⟨by omega, e42_g28⟩, Or.inr ⟨by omega, mR_of (show ((qm_row g28 39 (upd (g28 39) 9 0)) 39 3 = h 39 3) from k30s) (show (qm_row g28 39 (upd (g28 39) 9 0)) 40 = h 40 from e40_g28)⟩, fun _ => ⟨(show ((qm_row g28 39 (upd (g28 39) 9 0)) 39 3 = h 39 3) from k30s), e40_g28⟩⟩)⟩
        · refine tx_147 X g (1 : Int32) (6 : Int32) ⟨hgmi, hgpp, (by have : (6 : Int32).toInt = 6 := rfl; omega)⟩ _ (fun g46 p47 => ?_)
          obtain ⟨p47_0, p47_1, p47_2, p47_3, p47_4⟩ := p47
          have k48s : (g46 39 3 = h 39 3) := (p47_2).trans hgs3
          have f49 : ∀ k, (k < 39 ∨ 44 < k) → g46 k = h k := fun k hk => (p47_3 k (by omega)).trans (hgf k hk)
          have k50 : sm g46 := by unfold sm; rw [p47_3 40 (by omega)]; exact hgsm
          have k51 : zs g46 := by unfold zs; rw [p47_3 49 (by omega)]; exact hgzs
          have k52 : rw_ g46 := by unfold rw_; rw [p47_3 46 (by omega)]; exact hgrw
          have k53 : dd g46 := by unfold dd; rw [p47_3 43 (by omega)]; exact hgdd
          have o54 : ((((1 : Int32).toInt = 0 ∧ (g 39 14).toInt = 0) ∧ (g46 39 14).toInt = (6 : Int32).toInt ∧ (g46 39 15).toInt = (g 39 11).toInt) ∨ (¬ ((1 : Int32).toInt = 0 ∧ (g 39 14).toInt = 0) ∧ (g46 39 14).toInt = (g 39 14).toInt ∧ (g46 39 15).toInt = (g 39 15).toInt)) ∧ ((g46 39 5).toInt = (g 39 5).toInt) ∧ ((g46 39 6).toInt = (g 39 6).toInt) ∧ ((g46 39 7).toInt = (g 39 7).toInt) ∧ ((g46 39 9).toInt = (g 39 9).toInt) ∧ ((g46 39 10).toInt = (g 39 10).toInt) ∧ ((g46 39 11).toInt = (g 39 11).toInt) ∧ ((g46 39 12).toInt = (g 39 12).toInt) ∧ ((g46 39 13).toInt = (g 39 13).toInt) := p47_4
          clear p47_4
          have kdp_g46 : dp g46 := fun hf => by rw [p47_3 43 (by omega)]; exact hgdp (by have := (hgpp).2.2; have : (0 : Int32).toInt = 0 := rfl; have : (1 : Int32).toInt = 1 := rfl; omega)
          have d43_g46 : g46 43 = (g 43) := p47_3 43 (by omega)
          have e42_g46 : g46 42 = h 42 := (p47_3 42 (by omega)).trans e42_g
          have e40_g46 : g46 40 = h 40 := (p47_3 40 (by omega)).trans e40_g
          have e44_g46 : g46 44 = h 44 := (p47_3 44 (by omega)).trans e44_g
          have e9_g46 : (g46 39 9).toInt = (h 39 9).toInt := (by omega)
          replace o54 : (g46 39 14).toInt = (g 39 14).toInt ∧ (g46 39 15).toInt = (g 39 15).toInt ∧ ((g46 39 5).toInt = (g 39 5).toInt) ∧ ((g46 39 6).toInt = (g 39 6).toInt) ∧ ((g46 39 7).toInt = (g 39 7).toInt) ∧ ((g46 39 9).toInt = (g 39 9).toInt) ∧ ((g46 39 10).toInt = (g 39 10).toInt) ∧ ((g46 39 11).toInt = (g 39 11).toInt) ∧ ((g46 39 12).toInt = (g 39 12).toInt) ∧ ((g46 39 13).toInt = (g 39 13).toInt) := ⟨(by have : (1 : Int32).toInt = 1 := rfl; have : (0 : Int32).toInt = 0 := rfl; omega), (by have : (1 : Int32).toInt = 1 := rfl; have : (0 : Int32).toInt = 0 := rfl; omega), o54.2⟩
          (try rw [e44_g] at o54); (try rw [e9_g] at o54)
          show qm_PW X 161 [.ref 39] g46 _
          refine tx_161 X g46  ⟨p47_1, k53⟩ _ (fun r55 p56 => ?_)
          have o57 : ftQ r55 (g46 43) (g46 43 4).toInt.toNat (g46 39 5).toInt.toNat := p56
          clear p56
          show qm_PW X 147 [.ref 39, .int r55, .int 7] g46 _
          refine tx_147 X g46 r55 (7 : Int32) ⟨p47_0, p47_1, (by have : (7 : Int32).toInt = 7 := rfl; have : (6 : Int32).toInt = 6 := rfl; have : (1 : Int32).toInt = 1 := rfl; omega)⟩ _ (fun g58 p59 => ?_)
          obtain ⟨p59_0, p59_1, p59_2, p59_3, p59_4⟩ := p59
          have k60s : (g58 39 3 = h 39 3) := (p59_2).trans k48s
          have f61 : ∀ k, (k < 39 ∨ 44 < k) → g58 k = h k := fun k hk => (p59_3 k (by omega)).trans (f49 k hk)
          have k62 : sm g58 := by unfold sm; rw [p59_3 40 (by omega)]; exact k50
          have k63 : zs g58 := by unfold zs; rw [p59_3 49 (by omega)]; exact k51
          have k64 : rw_ g58 := by unfold rw_; rw [p59_3 46 (by omega)]; exact k52
          have k65 : dd g58 := by unfold dd; rw [p59_3 43 (by omega)]; exact k53
          have o66 : (((r55.toInt = 0 ∧ (g46 39 14).toInt = 0) ∧ (g58 39 14).toInt = (7 : Int32).toInt ∧ (g58 39 15).toInt = (g46 39 11).toInt) ∨ (¬ (r55.toInt = 0 ∧ (g46 39 14).toInt = 0) ∧ (g58 39 14).toInt = (g46 39 14).toInt ∧ (g58 39 15).toInt = (g46 39 15).toInt)) ∧ ((g58 39 5).toInt = (g46 39 5).toInt) ∧ ((g58 39 6).toInt = (g46 39 6).toInt) ∧ ((g58 39 7).toInt = (g46 39 7).toInt) ∧ ((g58 39 9).toInt = (g46 39 9).toInt) ∧ ((g58 39 10).toInt = (g46 39 10).toInt) ∧ ((g58 39 11).toInt = (g46 39 11).toInt) ∧ ((g58 39 12).toInt = (g46 39 12).toInt) ∧ ((g58 39 13).toInt = (g46 39 13).toInt) := p59_4
          clear p59_4
          have kdp_g58 : dp g58 := fun hf => by rw [p59_3 43 (by omega)]; exact kdp_g46 (by have := (p47_1).2.2; have : (0 : Int32).toInt = 0 := rfl; have : (1 : Int32).toInt = 1 := rfl; omega)
          have d43_g58 : g58 43 = (g46 43) := p59_3 43 (by omega)
          have e42_g58 : g58 42 = h 42 := (p59_3 42 (by omega)).trans e42_g46
          have e40_g58 : g58 40 = h 40 := (p59_3 40 (by omega)).trans e40_g46
          have e44_g58 : g58 44 = h 44 := (p59_3 44 (by omega)).trans e44_g46
          have e9_g58 : (g58 39 9).toInt = (h 39 9).toInt := (by omega)
          have nf_g58 : (g46 39 14).toInt ≤ (g58 39 14).toInt := (by have : (7 : Int32).toInt = 7 := rfl; omega); have nd_g58 := (show hid _ from o66.1); replace o66 := o66.2
          (try rw [e44_g46] at o66); (try rw [e9_g46] at o66)
          show ((g58 39 14).toInt ≤ 0 → (qm_PW X 144 [.ref 39] (qm_row g58 39 (upd (g58 39) 9 0)) _)) ∧ (0 < (g58 39 14).toInt → (Q (some (.int ((-10 : Int32) - (g58 39 15)))) (qm_row g58 39 (upd (g58 39) 9 0))))
          refine ⟨fun c67 => ?_, fun c68 => ?_⟩
          · refine tx_144 X (qm_row g58 39 (upd (g58 39) 9 0))  ⟨(by have ⟨⟨_, _⟩, ⟨_, _⟩, ⟨_, _⟩, ⟨_, _⟩, _, _⟩ := hmmi; have ⟨⟨⟨_, _⟩, _, _⟩, _, _, _⟩ := hmsm; have ⟨⟨_, _⟩, ⟨_, _⟩, ⟨_, _⟩, ⟨_, _⟩, _, _⟩ := hgmi; have ⟨⟨_, _⟩, ⟨_, _⟩, _, _⟩ := hgpp; have ⟨⟨_, _⟩, _, _⟩ := hgdd; have ⟨⟨⟨_, _⟩, _, _⟩, _, _, _⟩ := hgsm; have ⟨⟨_, _⟩, ⟨_, _⟩, ⟨_, _⟩, ⟨_, _⟩, _, _⟩ := p47_0; have ⟨⟨_, _⟩, ⟨_, _⟩, _, _⟩ := p47_1; have ⟨⟨⟨_, _⟩, _, _⟩, _, _, _⟩ := k50; have ⟨⟨_, _⟩, _, _⟩ := k53; have ⟨⟨_, _⟩, ⟨_, _⟩, ⟨_, _⟩, ⟨_, _⟩, _, _⟩ := p59_0; have ⟨⟨_, _⟩, ⟨_, _⟩, _, _⟩ := p59_1; have ⟨⟨⟨_, _⟩, _, _⟩, _, _, _⟩ := k62; have ⟨⟨_, _⟩, _, _⟩ := k65; show (0 ≤ (g58 39 3).toInt ∧ (g58 39 3).toInt ≤ 4) ∧ (0 ≤ (0 : Int) ∧ (0 : Int) ≤ 160) ∧ (0 ≤ (g58 39 19).toInt ∧ (g58 39 19).toInt ≤ 4) ∧ (0 ≤ (g58 39 20).toInt ∧ (g58 39 20).toInt ≤ 255) ∧ (0 ≤ (g58 39 11).toInt ∧ (g58 39 11).toInt ≤ 160); have : (7 : Int32).toInt = 7 := rfl; have : (6 : Int32).toInt = 6 := rfl; have : (1 : Int32).toInt = 1 := rfl; omega), (by have ⟨⟨_, _⟩, ⟨_, _⟩, ⟨_, _⟩, ⟨_, _⟩, _, _⟩ := hmmi; have ⟨⟨⟨_, _⟩, _, _⟩, _, _, _⟩ := hmsm; have ⟨⟨_, _⟩, ⟨_, _⟩, ⟨_, _⟩, ⟨_, _⟩, _, _⟩ := hgmi; have ⟨⟨_, _⟩, ⟨_, _⟩, _, _⟩ := hgpp; have ⟨⟨_, _⟩, _, _⟩ := hgdd; have ⟨⟨⟨_, _⟩, _, _⟩, _, _, _⟩ := hgsm; have ⟨⟨_, _⟩, ⟨_, _⟩, ⟨_, _⟩, ⟨_, _⟩, _, _⟩ := p47_0; have ⟨⟨_, _⟩, ⟨_, _⟩, _, _⟩ := p47_1; have ⟨⟨⟨_, _⟩, _, _⟩, _, _, _⟩ := k50; have ⟨⟨_, _⟩, _, _⟩ := k53; have ⟨⟨_, _⟩, ⟨_, _⟩, ⟨_, _⟩, ⟨_, _⟩, _, _⟩ := p59_0; have ⟨⟨_, _⟩, ⟨_, _⟩, _, _⟩ := p59_1; have ⟨⟨⟨_, _⟩, _, _⟩, _, _, _⟩ := k62; have ⟨⟨_, _⟩, _, _⟩ := k65; show (0 ≤ (g58 39 5).toInt ∧ (g58 39 5).toInt ≤ 4) ∧ (0 ≤ (g58 39 10).toInt ∧ (g58 39 10).toInt ≤ 160) ∧ (0 ≤ (g58 39 14).toInt ∧ (g58 39 14).toInt ≤ 7); have : (7 : Int32).toInt = 7 := rfl; have : (6 : Int32).toInt = 6 := rfl; have : (1 : Int32).toInt = 1 := rfl; omega), (by exact k65), (by exact kdp_g58), (by exact k62), (by have : (7 : Int32).toInt = 7 := rfl; have : (6 : Int32).toInt = 6 := rfl; have : (1 : Int32).toInt = 1 := rfl; show (g58 39 14).toInt = 0; omega)⟩ _ (fun g69 p70 => ?_)
            obtain ⟨p70_0, p70_1, p70_2, p70_3⟩ := p70
            have f71 : ∀ k, (k < 39 ∨ 44 < k) → g69 k = h k := fun k hk => (p70_2 k (by omega)).trans (by simp only [qm_row]; rw [if_neg (by omega)]; exact f61 k hk)
            have k72 : zs g69 := by unfold zs; rw [p70_2 49 (by omega)]; exact k63
            have k73 : rw_ g69 := by unfold rw_; rw [p70_2 46 (by omega)]; exact k64
            have k74 : dd g69 := by unfold dd; rw [p70_2 43 (by omega)]; exact k65
            have o75 : ((g69 39 9).toInt = (0 : Int32).toInt ∧ (g69 39 14).toInt = (g58 39 14).toInt ∧ (g69 42) = upd (upd (g58 42) 0 0) 1 0 ∧ mR g69 = mG (g58 39 5) (g58 43)) := p70_3
            clear p70_3
            have d43_g69 : g69 43 = (g58 43) := p70_2 43 (by omega)
            have e44_g69 : g69 44 = h 44 := (p70_2 44 (by omega)).trans e44_g58
            (try rw [e44_g58] at o75); (try rw [e9_g58] at o75)
            show Q (some (.int l1)) g69
            exact hq l1 g69 ⟨p70_0, p70_1, k72, k73, (fun k hk => f71 k hk), (by have : (7 : Int32).toInt = 7 := rfl; have : (6 : Int32).toInt = 6 := rfl; have : (1 : Int32).toInt = 1 := rfl; have : (0 : Int32).toInt = 0 := rfl; show (g69 39 9).toInt = 0 ∧ (g69 44) = (h 44) ∧ txQ (txF (h 44) (h 39 9).toInt.toNat 161 0 0 txS) l1.toInt (g69 39 14).toInt (h 39 9).toInt ∧ ikQ (g69 39 14).toInt (h 42) (g69 42) ∧ txM (g69 39 14).toInt (txF (h 44) (h 39 9).toInt.toNat 161 0 0 txS) (mR h) (mR g69) ∧ txE (g69 39 14).toInt h g69; obtain ⟨hst, S, hR, hT, hW⟩ := rfI_end hI (by omega) (by omega) (by omega) (by omega); have h6k := hi_ck hT.1; have hTf : rP S g46 := rP_eq hT.1 d43_g46 (by omega) (by omega); have h6 : ck6 S := h6k.mp (by omega); have h7k := ft_ck hTf hW h6; have hsv := (by decide : (7 : Int32).toInt = 7); have hsx := (by decide : (6 : Int32).toInt = 6); have nd := hid_out nd_g58; exact ⟨by omega, e44_g69, txQ_ok hR h6 (h7k.mp (ftQ_1 o57 (by omega))) (by omega) (by omega), Or.inl ⟨by omega, by rw [← e42_g58]; exact o75.2.2.1⟩, txM_ok (by omega) hR (o75.2.2.2.trans (memT_r (rP_eq hTf d43_g58 (by omega) (by omega)) (by have z36 := k65.2.1; omega))), fun q => absurd (by omega) q⟩)⟩
          · exact hq ((-10 : Int32) - (g58 39 15)) (qm_row g58 39 (upd (g58 39) 9 0)) ⟨(by have ⟨⟨_, _⟩, ⟨_, _⟩, ⟨_, _⟩, ⟨_, _⟩, _, _⟩ := hmmi; have ⟨⟨⟨_, _⟩, _, _⟩, _, _, _⟩ := hmsm; have ⟨⟨_, _⟩, ⟨_, _⟩, ⟨_, _⟩, ⟨_, _⟩, _, _⟩ := hgmi; have ⟨⟨_, _⟩, ⟨_, _⟩, _, _⟩ := hgpp; have ⟨⟨_, _⟩, _, _⟩ := hgdd; have ⟨⟨⟨_, _⟩, _, _⟩, _, _, _⟩ := hgsm; have ⟨⟨_, _⟩, ⟨_, _⟩, ⟨_, _⟩, ⟨_, _⟩, _, _⟩ := p47_0; have ⟨⟨_, _⟩, ⟨_, _⟩, _, _⟩ := p47_1; have ⟨⟨⟨_, _⟩, _, _⟩, _, _, _⟩ := k50; have ⟨⟨_, _⟩, _, _⟩ := k53; have ⟨⟨_, _⟩, ⟨_, _⟩, ⟨_, _⟩, ⟨_, _⟩, _, _⟩ := p59_0; have ⟨⟨_, _⟩, ⟨_, _⟩, _, _⟩ := p59_1; have ⟨⟨⟨_, _⟩, _, _⟩, _, _, _⟩ := k62; have ⟨⟨_, _⟩, _, _⟩ := k65; show (0 ≤ (g58 39 3).toInt ∧ (g58 39 3).toInt ≤ 4) ∧ (0 ≤ (0 : Int) ∧ (0 : Int) ≤ 160) ∧ (0 ≤ (g58 39 19).toInt ∧ (g58 39 19).toInt ≤ 4) ∧ (0 ≤ (g58 39 20).toInt ∧ (g58 39 20).toInt ≤ 255) ∧ (0 ≤ (g58 39 11).toInt ∧ (g58 39 11).toInt ≤ 160); have : (7 : Int32).toInt = 7 := rfl; have : (6 : Int32).toInt = 6 := rfl; have : (1 : Int32).toInt = 1 := rfl; omega), (by exact k62), (by exact k63), (by exact k64), (fun k hk => by simp only [qm_row]; rw [if_neg (by omega)]; exact f61 k hk), (by have : (7 : Int32).toInt = 7 := rfl; have : (6 : Int32).toInt = 6 := rfl; have : (1 : Int32).toInt = 1 := rfl; have : (0 : Int32).toInt = 0 := rfl; have := ti_subL (g58 39 15) (-10 : Int32) (-10) ti_n10; show (0 : Int32).toInt = 0 ∧ (g58 44) = (h 44) ∧ txQ (txF (h 44) (h 39 9).toInt.toNat 161 0 0 txS) ((-10 : Int32) - (g58 39 15)).toInt (g58 39 14).toInt (h 39 9).toInt ∧ ikQ (g58 39 14).toInt (h 42) (g58 42) ∧ txM (g58 39 14).toInt (txF (h 44) (h 39 9).toInt.toNat 161 0 0 txS) (mR h) (mR (qm_row g58 39 (upd (g58 39) 9 0))) ∧ txE (g58 39 14).toInt h (qm_row g58 39 (upd (g58 39) 9 0)); generalize ((-10 : Int32) - (g58 39 15)) = z10 at *; obtain ⟨hst, S, hR, hT, hW⟩ := rfI_end hI (by omega) (by omega) (by omega) (by omega); have h6k := hi_ck hT.1; have hTf : rP S g46 := rP_eq hT.1 d43_g46 (by omega) (by omega); have h6 : ck6 S := h6k.mp (by omega); have h7k := ft_ck hTf hW h6; have hsv := (by decide : (7 : Int32).toInt = 7); have hsx := (by decide : (6 : Int32).toInt = 6); have nd := hid_out nd_g58; exact ⟨rfl, e44_g58, txQ_7 hR h6 (fun q => ftQ_0 o57 (by omega) (h7k.mpr q)) (by omega) (by omega), Or.inr ⟨by omega, e42_g58⟩, Or.inr ⟨by omega, mR_of (show ((qm_row g58 39 (upd (g58 39) 9 0)) 39 3 = h 39 3) from k60s) (show (qm_row g58 39 (upd (g58 39) 9 0)) 40 = h 40 from e40_g58)⟩, fun _ => ⟨(show ((qm_row g58 39 (upd (g58 39) 9 0)) 39 3 = h 39 3) from k60s), e40_g58⟩⟩)⟩
    · have := ti_eqK 0 rfl c2
      refine ⟨fun c76 => ?_, fun c77 => ?_⟩
      · have := ti_eqK 0 rfl c76
        refine ⟨fun c78 => ?_, fun c79 => ?_⟩
        · have := ti_neK 0 rfl c78
          refine ⟨fun c80 => ?_, fun c81 => ?_⟩
          · refine tx_144 X (qm_row g 39 (upd (g 39) 9 0))  ⟨(by have ⟨⟨_, _⟩, ⟨_, _⟩, ⟨_, _⟩, ⟨_, _⟩, _, _⟩ := hmmi; have ⟨⟨⟨_, _⟩, _, _⟩, _, _, _⟩ := hmsm; have ⟨⟨_, _⟩, ⟨_, _⟩, ⟨_, _⟩, ⟨_, _⟩, _, _⟩ := hgmi; have ⟨⟨_, _⟩, ⟨_, _⟩, _, _⟩ := hgpp; have ⟨⟨_, _⟩, _, _⟩ := hgdd; have ⟨⟨⟨_, _⟩, _, _⟩, _, _, _⟩ := hgsm; show (0 ≤ (g 39 3).toInt ∧ (g 39 3).toInt ≤ 4) ∧ (0 ≤ (0 : Int) ∧ (0 : Int) ≤ 160) ∧ (0 ≤ (g 39 19).toInt ∧ (g 39 19).toInt ≤ 4) ∧ (0 ≤ (g 39 20).toInt ∧ (g 39 20).toInt ≤ 255) ∧ (0 ≤ (g 39 11).toInt ∧ (g 39 11).toInt ≤ 160); omega), (by have ⟨⟨_, _⟩, ⟨_, _⟩, ⟨_, _⟩, ⟨_, _⟩, _, _⟩ := hmmi; have ⟨⟨⟨_, _⟩, _, _⟩, _, _, _⟩ := hmsm; have ⟨⟨_, _⟩, ⟨_, _⟩, ⟨_, _⟩, ⟨_, _⟩, _, _⟩ := hgmi; have ⟨⟨_, _⟩, ⟨_, _⟩, _, _⟩ := hgpp; have ⟨⟨_, _⟩, _, _⟩ := hgdd; have ⟨⟨⟨_, _⟩, _, _⟩, _, _, _⟩ := hgsm; show (0 ≤ (g 39 5).toInt ∧ (g 39 5).toInt ≤ 4) ∧ (0 ≤ (g 39 10).toInt ∧ (g 39 10).toInt ≤ 160) ∧ (0 ≤ (g 39 14).toInt ∧ (g 39 14).toInt ≤ 7); omega), (by exact hgdd), (by exact hgdp), (by exact hgsm), (by show (g 39 14).toInt = 0; omega)⟩ _ (fun g82 p83 => ?_)
            obtain ⟨p83_0, p83_1, p83_2, p83_3⟩ := p83
            have f84 : ∀ k, (k < 39 ∨ 44 < k) → g82 k = h k := fun k hk => (p83_2 k (by omega)).trans (by simp only [qm_row]; rw [if_neg (by omega)]; exact hgf k hk)
            have k85 : zs g82 := by unfold zs; rw [p83_2 49 (by omega)]; exact hgzs
            have k86 : rw_ g82 := by unfold rw_; rw [p83_2 46 (by omega)]; exact hgrw
            have k87 : dd g82 := by unfold dd; rw [p83_2 43 (by omega)]; exact hgdd
            have o88 : ((g82 39 9).toInt = (0 : Int32).toInt ∧ (g82 39 14).toInt = (g 39 14).toInt ∧ (g82 42) = upd (upd (g 42) 0 0) 1 0 ∧ mR g82 = mG (g 39 5) (g 43)) := p83_3
            clear p83_3
            have d43_g82 : g82 43 = (g 43) := p83_2 43 (by omega)
            have e44_g82 : g82 44 = h 44 := (p83_2 44 (by omega)).trans e44_g
            (try rw [e44_g] at o88); (try rw [e9_g] at o88)
            show Q (some (.int l1)) g82
            exact hq l1 g82 ⟨p83_0, p83_1, k85, k86, (fun k hk => f84 k hk), (by have : (0 : Int32).toInt = 0 := rfl; show (g82 39 9).toInt = 0 ∧ (g82 44) = (h 44) ∧ txQ (txF (h 44) (h 39 9).toInt.toNat 161 0 0 txS) l1.toInt (g82 39 14).toInt (h 39 9).toInt ∧ ikQ (g82 39 14).toInt (h 42) (g82 42) ∧ txM (g82 39 14).toInt (txF (h 44) (h 39 9).toInt.toNat 161 0 0 txS) (mR h) (mR g82) ∧ txE (g82 39 14).toInt h g82; exfalso; omega)⟩
          · exact hq ((-10 : Int32) - (g 39 15)) (qm_row g 39 (upd (g 39) 9 0)) ⟨(by have ⟨⟨_, _⟩, ⟨_, _⟩, ⟨_, _⟩, ⟨_, _⟩, _, _⟩ := hmmi; have ⟨⟨⟨_, _⟩, _, _⟩, _, _, _⟩ := hmsm; have ⟨⟨_, _⟩, ⟨_, _⟩, ⟨_, _⟩, ⟨_, _⟩, _, _⟩ := hgmi; have ⟨⟨_, _⟩, ⟨_, _⟩, _, _⟩ := hgpp; have ⟨⟨_, _⟩, _, _⟩ := hgdd; have ⟨⟨⟨_, _⟩, _, _⟩, _, _, _⟩ := hgsm; show (0 ≤ (g 39 3).toInt ∧ (g 39 3).toInt ≤ 4) ∧ (0 ≤ (0 : Int) ∧ (0 : Int) ≤ 160) ∧ (0 ≤ (g 39 19).toInt ∧ (g 39 19).toInt ≤ 4) ∧ (0 ≤ (g 39 20).toInt ∧ (g 39 20).toInt ≤ 255) ∧ (0 ≤ (g 39 11).toInt ∧ (g 39 11).toInt ≤ 160); omega), (by exact hgsm), (by exact hgzs), (by exact hgrw), (fun k hk => by simp only [qm_row]; rw [if_neg (by omega)]; exact hgf k hk), (by have : (0 : Int32).toInt = 0 := rfl; have := ti_subL (g 39 15) (-10 : Int32) (-10) ti_n10; show (0 : Int32).toInt = 0 ∧ (g 44) = (h 44) ∧ txQ (txF (h 44) (h 39 9).toInt.toNat 161 0 0 txS) ((-10 : Int32) - (g 39 15)).toInt (g 39 14).toInt (h 39 9).toInt ∧ ikQ (g 39 14).toInt (h 42) (g 42) ∧ txM (g 39 14).toInt (txF (h 44) (h 39 9).toInt.toNat 161 0 0 txS) (mR h) (mR (qm_row g 39 (upd (g 39) 9 0))) ∧ txE (g 39 14).toInt h (qm_row g 39 (upd (g 39) 9 0)); generalize ((-10 : Int32) - (g 39 15)) = z10 at *; have hB := rfI_bad hI (show ¬ (g 39 14).toInt = 0 by omega); exact ⟨rfl, e44_g, txQ_bad (show ¬ (g 39 14).toInt = 0 by omega) ⟨hB.1, hB.2.1⟩ rfl (by omega), Or.inr ⟨by omega, e42_g⟩, Or.inr ⟨by omega, mR_of (show ((qm_row g 39 (upd (g 39) 9 0)) 39 3 = h 39 3) from hgs3) (show (qm_row g 39 (upd (g 39) 9 0)) 40 = h 40 from e40_g)⟩, fun _ => ⟨(show ((qm_row g 39 (upd (g 39) 9 0)) 39 3 = h 39 3) from hgs3), e40_g⟩⟩)⟩
        · have := ti_eqK 0 rfl c79
          refine ⟨fun c89 => ?_, fun c90 => ?_⟩
          · refine tx_147 X g (0 : Int32) (6 : Int32) ⟨hgmi, hgpp, (by have : (6 : Int32).toInt = 6 := rfl; omega)⟩ _ (fun g91 p92 => ?_)
            obtain ⟨p92_0, p92_1, p92_2, p92_3, p92_4⟩ := p92
            have k93s : (g91 39 3 = h 39 3) := (p92_2).trans hgs3
            have f94 : ∀ k, (k < 39 ∨ 44 < k) → g91 k = h k := fun k hk => (p92_3 k (by omega)).trans (hgf k hk)
            have k95 : sm g91 := by unfold sm; rw [p92_3 40 (by omega)]; exact hgsm
            have k96 : zs g91 := by unfold zs; rw [p92_3 49 (by omega)]; exact hgzs
            have k97 : rw_ g91 := by unfold rw_; rw [p92_3 46 (by omega)]; exact hgrw
            have k98 : dd g91 := by unfold dd; rw [p92_3 43 (by omega)]; exact hgdd
            have o99 : ((((0 : Int32).toInt = 0 ∧ (g 39 14).toInt = 0) ∧ (g91 39 14).toInt = (6 : Int32).toInt ∧ (g91 39 15).toInt = (g 39 11).toInt) ∨ (¬ ((0 : Int32).toInt = 0 ∧ (g 39 14).toInt = 0) ∧ (g91 39 14).toInt = (g 39 14).toInt ∧ (g91 39 15).toInt = (g 39 15).toInt)) ∧ ((g91 39 5).toInt = (g 39 5).toInt) ∧ ((g91 39 6).toInt = (g 39 6).toInt) ∧ ((g91 39 7).toInt = (g 39 7).toInt) ∧ ((g91 39 9).toInt = (g 39 9).toInt) ∧ ((g91 39 10).toInt = (g 39 10).toInt) ∧ ((g91 39 11).toInt = (g 39 11).toInt) ∧ ((g91 39 12).toInt = (g 39 12).toInt) ∧ ((g91 39 13).toInt = (g 39 13).toInt) := p92_4
            clear p92_4
            have kdp_g91 : dp g91 := fun hf => by rw [p92_3 43 (by omega)]; exact hgdp (by have := (hgpp).2.2; have : (0 : Int32).toInt = 0 := rfl; have : (1 : Int32).toInt = 1 := rfl; omega)
            have d43_g91 : g91 43 = (g 43) := p92_3 43 (by omega)
            have e42_g91 : g91 42 = h 42 := (p92_3 42 (by omega)).trans e42_g
            have e40_g91 : g91 40 = h 40 := (p92_3 40 (by omega)).trans e40_g
            have e44_g91 : g91 44 = h 44 := (p92_3 44 (by omega)).trans e44_g
            have e9_g91 : (g91 39 9).toInt = (h 39 9).toInt := (by omega)
            (first | (replace o99 : (g91 39 14).toInt = (6 : Int32).toInt ∧ (g91 39 15).toInt = (g 39 11).toInt ∧ ((g91 39 5).toInt = (g 39 5).toInt) ∧ ((g91 39 6).toInt = (g 39 6).toInt) ∧ ((g91 39 7).toInt = (g 39 7).toInt) ∧ ((g91 39 9).toInt = (g 39 9).toInt) ∧ ((g91 39 10).toInt = (g 39 10).toInt) ∧ ((g91 39 11).toInt = (g 39 11).toInt) ∧ ((g91 39 12).toInt = (g 39 12).toInt) ∧ ((g91 39 13).toInt = (g 39 13).toInt) := ⟨(by have : (0 : Int32).toInt = 0 := rfl; omega), (by have : (0 : Int32).toInt = 0 := rfl; omega), o99.2⟩) | (replace o99 : (g91 39 14).toInt = (g 39 14).toInt ∧ (g91 39 15).toInt = (g 39 15).toInt ∧ ((g91 39 5).toInt = (g 39 5).toInt) ∧ ((g91 39 6).toInt = (g 39 6).toInt) ∧ ((g91 39 7).toInt = (g 39 7).toInt) ∧ ((g91 39 9).toInt = (g 39 9).toInt) ∧ ((g91 39 10).toInt = (g 39 10).toInt) ∧ ((g91 39 11).toInt = (g 39 11).toInt) ∧ ((g91 39 12).toInt = (g 39 12).toInt) ∧ ((g91 39 13).toInt = (g 39 13).toInt) := ⟨(by have : (1 : Int32).toInt = 1 := rfl; have : (0 : Int32).toInt = 0 := rfl; omega), (by have : (1 : Int32).toInt = 1 := rfl; have : (0 : Int32).toInt = 0 := rfl; omega), o99.2⟩) | skip)
            (try rw [e44_g] at o99); (try rw [e9_g] at o99)
            show qm_PW X 161 [.ref 39] g91 _
            refine tx_161 X g91  ⟨p92_1, k98⟩ _ (fun r100 p101 => ?_)
            have o102 : ftQ r100 (g91 43) (g91 43 4).toInt.toNat (g91 39 5).toInt.toNat := p101
            clear p101
            show qm_PW X 147 [.ref 39, .int r100, .int 7] g91 _
            refine tx_147 X g91 r100 (7 : Int32) ⟨p92_0, p92_1, (by have : (7 : Int32).toInt = 7 := rfl; have : (6 : Int32).toInt = 6 := rfl; have : (0 : Int32).toInt = 0 := rfl; omega)⟩ _ (fun g103 p104 => ?_)
            obtain ⟨p104_0, p104_1, p104_2, p104_3, p104_4⟩ := p104
            have k105s : (g103 39 3 = h 39 3) := (p104_2).trans k93s
            have f106 : ∀ k, (k < 39 ∨ 44 < k) → g103 k = h k := fun k hk => (p104_3 k (by omega)).trans (f94 k hk)
            have k107 : sm g103 := by unfold sm; rw [p104_3 40 (by omega)]; exact k95
            have k108 : zs g103 := by unfold zs; rw [p104_3 49 (by omega)]; exact k96
            have k109 : rw_ g103 := by unfold rw_; rw [p104_3 46 (by omega)]; exact k97
            have k110 : dd g103 := by unfold dd; rw [p104_3 43 (by omega)]; exact k98
            have o111 : (((r100.toInt = 0 ∧ (g91 39 14).toInt = 0) ∧ (g103 39 14).toInt = (7 : Int32).toInt ∧ (g103 39 15).toInt = (g91 39 11).toInt) ∨ (¬ (r100.toInt = 0 ∧ (g91 39 14).toInt = 0) ∧ (g103 39 14).toInt = (g91 39 14).toInt ∧ (g103 39 15).toInt = (g91 39 15).toInt)) ∧ ((g103 39 5).toInt = (g91 39 5).toInt) ∧ ((g103 39 6).toInt = (g91 39 6).toInt) ∧ ((g103 39 7).toInt = (g91 39 7).toInt) ∧ ((g103 39 9).toInt = (g91 39 9).toInt) ∧ ((g103 39 10).toInt = (g91 39 10).toInt) ∧ ((g103 39 11).toInt = (g91 39 11).toInt) ∧ ((g103 39 12).toInt = (g91 39 12).toInt) ∧ ((g103 39 13).toInt = (g91 39 13).toInt) := p104_4
            clear p104_4
            have kdp_g103 : dp g103 := fun hf => by rw [p104_3 43 (by omega)]; exact kdp_g91 (by have := (p92_1).2.2; have : (0 : Int32).toInt = 0 := rfl; have : (1 : Int32).toInt = 1 := rfl; omega)
            have d43_g103 : g103 43 = (g91 43) := p104_3 43 (by omega)
            have e42_g103 : g103 42 = h 42 := (p104_3 42 (by omega)).trans e42_g91
            have e40_g103 : g103 40 = h 40 := (p104_3 40 (by omega)).trans e40_g91
            have e44_g103 : g103 44 = h 44 := (p104_3 44 (by omega)).trans e44_g91
            have e9_g103 : (g103 39 9).toInt = (h 39 9).toInt := (by omega)
            have nf_g103 : (g91 39 14).toInt ≤ (g103 39 14).toInt := (by have : (7 : Int32).toInt = 7 := rfl; omega); have nd_g103 := (show hid _ from o111.1); replace o111 := o111.2
            (try rw [e44_g91] at o111); (try rw [e9_g91] at o111)
            show ((g103 39 14).toInt ≤ 0 → (qm_PW X 144 [.ref 39] (qm_row g103 39 (upd (g103 39) 9 0)) _)) ∧ (0 < (g103 39 14).toInt → (Q (some (.int ((-10 : Int32) - (g103 39 15)))) (qm_row g103 39 (upd (g103 39) 9 0))))
            refine ⟨fun c112 => ?_, fun c113 => ?_⟩
            · refine tx_144 X (qm_row g103 39 (upd (g103 39) 9 0))  ⟨(by have ⟨⟨_, _⟩, ⟨_, _⟩, ⟨_, _⟩, ⟨_, _⟩, _, _⟩ := hmmi; have ⟨⟨⟨_, _⟩, _, _⟩, _, _, _⟩ := hmsm; have ⟨⟨_, _⟩, ⟨_, _⟩, ⟨_, _⟩, ⟨_, _⟩, _, _⟩ := hgmi; have ⟨⟨_, _⟩, ⟨_, _⟩, _, _⟩ := hgpp; have ⟨⟨_, _⟩, _, _⟩ := hgdd; have ⟨⟨⟨_, _⟩, _, _⟩, _, _, _⟩ := hgsm; have ⟨⟨_, _⟩, ⟨_, _⟩, ⟨_, _⟩, ⟨_, _⟩, _, _⟩ := p92_0; have ⟨⟨_, _⟩, ⟨_, _⟩, _, _⟩ := p92_1; have ⟨⟨⟨_, _⟩, _, _⟩, _, _, _⟩ := k95; have ⟨⟨_, _⟩, _, _⟩ := k98; have ⟨⟨_, _⟩, ⟨_, _⟩, ⟨_, _⟩, ⟨_, _⟩, _, _⟩ := p104_0; have ⟨⟨_, _⟩, ⟨_, _⟩, _, _⟩ := p104_1; have ⟨⟨⟨_, _⟩, _, _⟩, _, _, _⟩ := k107; have ⟨⟨_, _⟩, _, _⟩ := k110; show (0 ≤ (g103 39 3).toInt ∧ (g103 39 3).toInt ≤ 4) ∧ (0 ≤ (0 : Int) ∧ (0 : Int) ≤ 160) ∧ (0 ≤ (g103 39 19).toInt ∧ (g103 39 19).toInt ≤ 4) ∧ (0 ≤ (g103 39 20).toInt ∧ (g103 39 20).toInt ≤ 255) ∧ (0 ≤ (g103 39 11).toInt ∧ (g103 39 11).toInt ≤ 160); have : (7 : Int32).toInt = 7 := rfl; have : (6 : Int32).toInt = 6 := rfl; have : (0 : Int32).toInt = 0 := rfl; omega), (by have ⟨⟨_, _⟩, ⟨_, _⟩, ⟨_, _⟩, ⟨_, _⟩, _, _⟩ := hmmi; have ⟨⟨⟨_, _⟩, _, _⟩, _, _, _⟩ := hmsm; have ⟨⟨_, _⟩, ⟨_, _⟩, ⟨_, _⟩, ⟨_, _⟩, _, _⟩ := hgmi; have ⟨⟨_, _⟩, ⟨_, _⟩, _, _⟩ := hgpp; have ⟨⟨_, _⟩, _, _⟩ := hgdd; have ⟨⟨⟨_, _⟩, _, _⟩, _, _, _⟩ := hgsm; have ⟨⟨_, _⟩, ⟨_, _⟩, ⟨_, _⟩, ⟨_, _⟩, _, _⟩ := p92_0; have ⟨⟨_, _⟩, ⟨_, _⟩, _, _⟩ := p92_1; have ⟨⟨⟨_, _⟩, _, _⟩, _, _, _⟩ := k95; have ⟨⟨_, _⟩, _, _⟩ := k98; have ⟨⟨_, _⟩, ⟨_, _⟩, ⟨_, _⟩, ⟨_, _⟩, _, _⟩ := p104_0; have ⟨⟨_, _⟩, ⟨_, _⟩, _, _⟩ := p104_1; have ⟨⟨⟨_, _⟩, _, _⟩, _, _, _⟩ := k107; have ⟨⟨_, _⟩, _, _⟩ := k110; show (0 ≤ (g103 39 5).toInt ∧ (g103 39 5).toInt ≤ 4) ∧ (0 ≤ (g103 39 10).toInt ∧ (g103 39 10).toInt ≤ 160) ∧ (0 ≤ (g103 39 14).toInt ∧ (g103 39 14).toInt ≤ 7); have : (7 : Int32).toInt = 7 := rfl; have : (6 : Int32).toInt = 6 := rfl; have : (0 : Int32).toInt = 0 := rfl; omega), (by exact k110), (by exact kdp_g103), (by exact k107), (by have : (7 : Int32).toInt = 7 := rfl; have : (6 : Int32).toInt = 6 := rfl; have : (0 : Int32).toInt = 0 := rfl; show (g103 39 14).toInt = 0; omega)⟩ _ (fun g114 p115 => ?_)
              obtain ⟨p115_0, p115_1, p115_2, p115_3⟩ := p115
              have f116 : ∀ k, (k < 39 ∨ 44 < k) → g114 k = h k := fun k hk => (p115_2 k (by omega)).trans (by simp only [qm_row]; rw [if_neg (by omega)]; exact f106 k hk)
              have k117 : zs g114 := by unfold zs; rw [p115_2 49 (by omega)]; exact k108
              have k118 : rw_ g114 := by unfold rw_; rw [p115_2 46 (by omega)]; exact k109
              have k119 : dd g114 := by unfold dd; rw [p115_2 43 (by omega)]; exact k110
              have o120 : ((g114 39 9).toInt = (0 : Int32).toInt ∧ (g114 39 14).toInt = (g103 39 14).toInt ∧ (g114 42) = upd (upd (g103 42) 0 0) 1 0 ∧ mR g114 = mG (g103 39 5) (g103 43)) := p115_3
              clear p115_3
              have d43_g114 : g114 43 = (g103 43) := p115_2 43 (by omega)
              have e44_g114 : g114 44 = h 44 := (p115_2 44 (by omega)).trans e44_g103
              (try rw [e44_g103] at o120); (try rw [e9_g103] at o120)
              show Q (some (.int l1)) g114
              exact hq l1 g114 ⟨p115_0, p115_1, k117, k118, (fun k hk => f116 k hk), (by have : (7 : Int32).toInt = 7 := rfl; have : (6 : Int32).toInt = 6 := rfl; have : (0 : Int32).toInt = 0 := rfl; show (g114 39 9).toInt = 0 ∧ (g114 44) = (h 44) ∧ txQ (txF (h 44) (h 39 9).toInt.toNat 161 0 0 txS) l1.toInt (g114 39 14).toInt (h 39 9).toInt ∧ ikQ (g114 39 14).toInt (h 42) (g114 42) ∧ txM (g114 39 14).toInt (txF (h 44) (h 39 9).toInt.toNat 161 0 0 txS) (mR h) (mR g114) ∧ txE (g114 39 14).toInt h g114; have hsv := (by decide : (7 : Int32).toInt = 7); have hsx := (by decide : (6 : Int32).toInt = 6); have nd := hid_out nd_g103; exfalso; omega)⟩
            · exact hq ((-10 : Int32) - (g103 39 15)) (qm_row g103 39 (upd (g103 39) 9 0)) ⟨(by have ⟨⟨_, _⟩, ⟨_, _⟩, ⟨_, _⟩, ⟨_, _⟩, _, _⟩ := hmmi; have ⟨⟨⟨_, _⟩, _, _⟩, _, _, _⟩ := hmsm; have ⟨⟨_, _⟩, ⟨_, _⟩, ⟨_, _⟩, ⟨_, _⟩, _, _⟩ := hgmi; have ⟨⟨_, _⟩, ⟨_, _⟩, _, _⟩ := hgpp; have ⟨⟨_, _⟩, _, _⟩ := hgdd; have ⟨⟨⟨_, _⟩, _, _⟩, _, _, _⟩ := hgsm; have ⟨⟨_, _⟩, ⟨_, _⟩, ⟨_, _⟩, ⟨_, _⟩, _, _⟩ := p92_0; have ⟨⟨_, _⟩, ⟨_, _⟩, _, _⟩ := p92_1; have ⟨⟨⟨_, _⟩, _, _⟩, _, _, _⟩ := k95; have ⟨⟨_, _⟩, _, _⟩ := k98; have ⟨⟨_, _⟩, ⟨_, _⟩, ⟨_, _⟩, ⟨_, _⟩, _, _⟩ := p104_0; have ⟨⟨_, _⟩, ⟨_, _⟩, _, _⟩ := p104_1; have ⟨⟨⟨_, _⟩, _, _⟩, _, _, _⟩ := k107; have ⟨⟨_, _⟩, _, _⟩ := k110; show (0 ≤ (g103 39 3).toInt ∧ (g103 39 3).toInt ≤ 4) ∧ (0 ≤ (0 : Int) ∧ (0 : Int) ≤ 160) ∧ (0 ≤ (g103 39 19).toInt ∧ (g103 39 19).toInt ≤ 4) ∧ (0 ≤ (g103 39 20).toInt ∧ (g103 39 20).toInt ≤ 255) ∧ (0 ≤ (g103 39 11).toInt ∧ (g103 39 11).toInt ≤ 160); have : (7 : Int32).toInt = 7 := rfl; have : (6 : Int32).toInt = 6 := rfl; have : (0 : Int32).toInt = 0 := rfl; omega), (by exact k107), (by exact k108), (by exact k109), (fun k hk => by simp only [qm_row]; rw [if_neg (by omega)]; exact f106 k hk), (by have : (7 : Int32).toInt = 7 := rfl; have : (6 : Int32).toInt = 6 := rfl; have : (0 : Int32).toInt = 0 := rfl; have := ti_subL (g103 39 15) (-10 : Int32) (-10) ti_n10; show (0 : Int32).toInt = 0 ∧ (g103 44) = (h 44) ∧ txQ (txF (h 44) (h 39 9).toInt.toNat 161 0 0 txS) ((-10 : Int32) - (g103 39 15)).toInt (g103 39 14).toInt (h 39 9).toInt ∧ ikQ (g103 39 14).toInt (h 42) (g103 42) ∧ txM (g103 39 14).toInt (txF (h 44) (h 39 9).toInt.toNat 161 0 0 txS) (mR h) (mR (qm_row g103 39 (upd (g103 39) 9 0))) ∧ txE (g103 39 14).toInt h (qm_row g103 39 (upd (g103 39) 9 0)); generalize ((-10 : Int32) - (g103 39 15)) = z10 at *; obtain ⟨hst, S, hR, hT, hW⟩ := rfI_end hI (by omega) (by omega) (by omega) (by omega); have h6k := hi_ck hT.1; have hTf : rP S g91 := rP_eq hT.1 d43_g91 (by omega) (by omega); have hsv := (by decide : (7 : Int32).toInt = 7); have hsx := (by decide : (6 : Int32).toInt = 6); have nd := hid_out nd_g103; exact ⟨rfl, e44_g103, txQ_6 hR (fun q => absurd (h6k.mpr q) (by omega)) (by omega) (by omega), Or.inr ⟨by omega, e42_g103⟩, Or.inr ⟨by omega, mR_of (show ((qm_row g103 39 (upd (g103 39) 9 0)) 39 3 = h 39 3) from k105s) (show (qm_row g103 39 (upd (g103 39) 9 0)) 40 = h 40 from e40_g103)⟩, fun _ => ⟨(show ((qm_row g103 39 (upd (g103 39) 9 0)) 39 3 = h 39 3) from k105s), e40_g103⟩⟩)⟩
          · refine tx_147 X g (1 : Int32) (6 : Int32) ⟨hgmi, hgpp, (by have : (6 : Int32).toInt = 6 := rfl; omega)⟩ _ (fun g121 p122 => ?_)
            obtain ⟨p122_0, p122_1, p122_2, p122_3, p122_4⟩ := p122
            have k123s : (g121 39 3 = h 39 3) := (p122_2).trans hgs3
            have f124 : ∀ k, (k < 39 ∨ 44 < k) → g121 k = h k := fun k hk => (p122_3 k (by omega)).trans (hgf k hk)
            have k125 : sm g121 := by unfold sm; rw [p122_3 40 (by omega)]; exact hgsm
            have k126 : zs g121 := by unfold zs; rw [p122_3 49 (by omega)]; exact hgzs
            have k127 : rw_ g121 := by unfold rw_; rw [p122_3 46 (by omega)]; exact hgrw
            have k128 : dd g121 := by unfold dd; rw [p122_3 43 (by omega)]; exact hgdd
            have o129 : ((((1 : Int32).toInt = 0 ∧ (g 39 14).toInt = 0) ∧ (g121 39 14).toInt = (6 : Int32).toInt ∧ (g121 39 15).toInt = (g 39 11).toInt) ∨ (¬ ((1 : Int32).toInt = 0 ∧ (g 39 14).toInt = 0) ∧ (g121 39 14).toInt = (g 39 14).toInt ∧ (g121 39 15).toInt = (g 39 15).toInt)) ∧ ((g121 39 5).toInt = (g 39 5).toInt) ∧ ((g121 39 6).toInt = (g 39 6).toInt) ∧ ((g121 39 7).toInt = (g 39 7).toInt) ∧ ((g121 39 9).toInt = (g 39 9).toInt) ∧ ((g121 39 10).toInt = (g 39 10).toInt) ∧ ((g121 39 11).toInt = (g 39 11).toInt) ∧ ((g121 39 12).toInt = (g 39 12).toInt) ∧ ((g121 39 13).toInt = (g 39 13).toInt) := p122_4
            clear p122_4
            have kdp_g121 : dp g121 := fun hf => by rw [p122_3 43 (by omega)]; exact hgdp (by have := (hgpp).2.2; have : (0 : Int32).toInt = 0 := rfl; have : (1 : Int32).toInt = 1 := rfl; omega)
            have d43_g121 : g121 43 = (g 43) := p122_3 43 (by omega)
            have e42_g121 : g121 42 = h 42 := (p122_3 42 (by omega)).trans e42_g
            have e40_g121 : g121 40 = h 40 := (p122_3 40 (by omega)).trans e40_g
            have e44_g121 : g121 44 = h 44 := (p122_3 44 (by omega)).trans e44_g
            have e9_g121 : (g121 39 9).toInt = (h 39 9).toInt := (by omega)
            replace o129 : (g121 39 14).toInt = (g 39 14).toInt ∧ (g121 39 15).toInt = (g 39 15).toInt ∧ ((g121 39 5).toInt = (g 39 5).toInt) ∧ ((g121 39 6).toInt = (g 39 6).toInt) ∧ ((g121 39 7).toInt = (g 39 7).toInt) ∧ ((g121 39 9).toInt = (g 39 9).toInt) ∧ ((g121 39 10).toInt = (g 39 10).toInt) ∧ ((g121 39 11).toInt = (g 39 11).toInt) ∧ ((g121 39 12).toInt = (g 39 12).toInt) ∧ ((g121 39 13).toInt = (g 39 13).toInt) := ⟨(by have : (1 : Int32).toInt = 1 := rfl; have : (0 : Int32).toInt = 0 := rfl; omega), (by have : (1 : Int32).toInt = 1 := rfl; have : (0 : Int32).toInt = 0 := rfl; omega), o129.2⟩
            (try rw [e44_g] at o129); (try rw [e9_g] at o129)
            show qm_PW X 161 [.ref 39] g121 _
            refine tx_161 X g121  ⟨p122_1, k128⟩ _ (fun r130 p131 => ?_)
            have o132 : ftQ r130 (g121 43) (g121 43 4).toInt.toNat (g121 39 5).toInt.toNat := p131
            clear p131
            show qm_PW X 147 [.ref 39, .int r130, .int 7] g121 _
            refine tx_147 X g121 r130 (7 : Int32) ⟨p122_0, p122_1, (by have : (7 : Int32).toInt = 7 := rfl; have : (6 : Int32).toInt = 6 := rfl; have : (1 : Int32).toInt = 1 := rfl; omega)⟩ _ (fun g133 p134 => ?_)
            obtain ⟨p134_0, p134_1, p134_2, p134_3, p134_4⟩ := p134
            have k135s : (g133 39 3 = h 39 3) := (p134_2).trans k123s
            have f136 : ∀ k, (k < 39 ∨ 44 < k) → g133 k = h k := fun k hk => (p134_3 k (by omega)).trans (f124 k hk)
            have k137 : sm g133 := by unfold sm; rw [p134_3 40 (by omega)]; exact k125
            have k138 : zs g133 := by unfold zs; rw [p134_3 49 (by omega)]; exact k126
            have k139 : rw_ g133 := by unfold rw_; rw [p134_3 46 (by omega)]; exact k127
            have k140 : dd g133 := by unfold dd; rw [p134_3 43 (by omega)]; exact k128
            have o141 : (((r130.toInt = 0 ∧ (g121 39 14).toInt = 0) ∧ (g133 39 14).toInt = (7 : Int32).toInt ∧ (g133 39 15).toInt = (g121 39 11).toInt) ∨ (¬ (r130.toInt = 0 ∧ (g121 39 14).toInt = 0) ∧ (g133 39 14).toInt = (g121 39 14).toInt ∧ (g133 39 15).toInt = (g121 39 15).toInt)) ∧ ((g133 39 5).toInt = (g121 39 5).toInt) ∧ ((g133 39 6).toInt = (g121 39 6).toInt) ∧ ((g133 39 7).toInt = (g121 39 7).toInt) ∧ ((g133 39 9).toInt = (g121 39 9).toInt) ∧ ((g133 39 10).toInt = (g121 39 10).toInt) ∧ ((g133 39 11).toInt = (g121 39 11).toInt) ∧ ((g133 39 12).toInt = (g121 39 12).toInt) ∧ ((g133 39 13).toInt = (g121 39 13).toInt) := p134_4
            clear p134_4
            have kdp_g133 : dp g133 := fun hf => by rw [p134_3 43 (by omega)]; exact kdp_g121 (by have := (p122_1).2.2; have : (0 : Int32).toInt = 0 := rfl; have : (1 : Int32).toInt = 1 := rfl; omega)
            have d43_g133 : g133 43 = (g121 43) := p134_3 43 (by omega)
            have e42_g133 : g133 42 = h 42 := (p134_3 42 (by omega)).trans e42_g121
            have e40_g133 : g133 40 = h 40 := (p134_3 40 (by omega)).trans e40_g121
            have e44_g133 : g133 44 = h 44 := (p134_3 44 (by omega)).trans e44_g121
            have e9_g133 : (g133 39 9).toInt = (h 39 9).toInt := (by omega)
            have nf_g133 : (g121 39 14).toInt ≤ (g133 39 14).toInt := (by have : (7 : Int32).toInt = 7 := rfl; omega); have nd_g133 := (show hid _ from o141.1); replace o141 := o141.2
            (try rw [e44_g121] at o141); (try rw [e9_g121] at o141)
            show ((g133 39 14).toInt ≤ 0 → (qm_PW X 144 [.ref 39] (qm_row g133 39 (upd (g133 39) 9 0)) _)) ∧ (0 < (g133 39 14).toInt → (Q (some (.int ((-10 : Int32) - (g133 39 15)))) (qm_row g133 39 (upd (g133 39) 9 0))))
            refine ⟨fun c142 => ?_, fun c143 => ?_⟩
            · refine tx_144 X (qm_row g133 39 (upd (g133 39) 9 0))  ⟨(by have ⟨⟨_, _⟩, ⟨_, _⟩, ⟨_, _⟩, ⟨_, _⟩, _, _⟩ := hmmi; have ⟨⟨⟨_, _⟩, _, _⟩, _, _, _⟩ := hmsm; have ⟨⟨_, _⟩, ⟨_, _⟩, ⟨_, _⟩, ⟨_, _⟩, _, _⟩ := hgmi; have ⟨⟨_, _⟩, ⟨_, _⟩, _, _⟩ := hgpp; have ⟨⟨_, _⟩, _, _⟩ := hgdd; have ⟨⟨⟨_, _⟩, _, _⟩, _, _, _⟩ := hgsm; have ⟨⟨_, _⟩, ⟨_, _⟩, ⟨_, _⟩, ⟨_, _⟩, _, _⟩ := p122_0; have ⟨⟨_, _⟩, ⟨_, _⟩, _, _⟩ := p122_1; have ⟨⟨⟨_, _⟩, _, _⟩, _, _, _⟩ := k125; have ⟨⟨_, _⟩, _, _⟩ := k128; have ⟨⟨_, _⟩, ⟨_, _⟩, ⟨_, _⟩, ⟨_, _⟩, _, _⟩ := p134_0; have ⟨⟨_, _⟩, ⟨_, _⟩, _, _⟩ := p134_1; have ⟨⟨⟨_, _⟩, _, _⟩, _, _, _⟩ := k137; have ⟨⟨_, _⟩, _, _⟩ := k140; show (0 ≤ (g133 39 3).toInt ∧ (g133 39 3).toInt ≤ 4) ∧ (0 ≤ (0 : Int) ∧ (0 : Int) ≤ 160) ∧ (0 ≤ (g133 39 19).toInt ∧ (g133 39 19).toInt ≤ 4) ∧ (0 ≤ (g133 39 20).toInt ∧ (g133 39 20).toInt ≤ 255) ∧ (0 ≤ (g133 39 11).toInt ∧ (g133 39 11).toInt ≤ 160); have : (7 : Int32).toInt = 7 := rfl; have : (6 : Int32).toInt = 6 := rfl; have : (1 : Int32).toInt = 1 := rfl; omega), (by have ⟨⟨_, _⟩, ⟨_, _⟩, ⟨_, _⟩, ⟨_, _⟩, _, _⟩ := hmmi; have ⟨⟨⟨_, _⟩, _, _⟩, _, _, _⟩ := hmsm; have ⟨⟨_, _⟩, ⟨_, _⟩, ⟨_, _⟩, ⟨_, _⟩, _, _⟩ := hgmi; have ⟨⟨_, _⟩, ⟨_, _⟩, _, _⟩ := hgpp; have ⟨⟨_, _⟩, _, _⟩ := hgdd; have ⟨⟨⟨_, _⟩, _, _⟩, _, _, _⟩ := hgsm; have ⟨⟨_, _⟩, ⟨_, _⟩, ⟨_, _⟩, ⟨_, _⟩, _, _⟩ := p122_0; have ⟨⟨_, _⟩, ⟨_, _⟩, _, _⟩ := p122_1; have ⟨⟨⟨_, _⟩, _, _⟩, _, _, _⟩ := k125; have ⟨⟨_, _⟩, _, _⟩ := k128; have ⟨⟨_, _⟩, ⟨_, _⟩, ⟨_, _⟩, ⟨_, _⟩, _, _⟩ := p134_0; have ⟨⟨_, _⟩, ⟨_, _⟩, _, _⟩ := p134_1; have ⟨⟨⟨_, _⟩, _, _⟩, _, _, _⟩ := k137; have ⟨⟨_, _⟩, _, _⟩ := k140; show (0 ≤ (g133 39 5).toInt ∧ (g133 39 5).toInt ≤ 4) ∧ (0 ≤ (g133 39 10).toInt ∧ (g133 39 10).toInt ≤ 160) ∧ (0 ≤ (g133 39 14).toInt ∧ (g133 39 14).toInt ≤ 7); have : (7 : Int32).toInt = 7 := rfl; have : (6 : Int32).toInt = 6 := rfl; have : (1 : Int32).toInt = 1 := rfl; omega), (by exact k140), (by exact kdp_g133), (by exact k137), (by have : (7 : Int32).toInt = 7 := rfl; have : (6 : Int32).toInt = 6 := rfl; have : (1 : Int32).toInt = 1 := rfl; show (g133 39 14).toInt = 0; omega)⟩ _ (fun g144 p145 => ?_)
              obtain ⟨p145_0, p145_1, p145_2, p145_3⟩ := p145
              have f146 : ∀ k, (k < 39 ∨ 44 < k) → g144 k = h k := fun k hk => (p145_2 k (by omega)).trans (by simp only [qm_row]; rw [if_neg (by omega)]; exact f136 k hk)
              have k147 : zs g144 := by unfold zs; rw [p145_2 49 (by omega)]; exact k138
              have k148 : rw_ g144 := by unfold rw_; rw [p145_2 46 (by omega)]; exact k139
              have k149 : dd g144 := by unfold dd; rw [p145_2 43 (by omega)]; exact k140
              have o150 : ((g144 39 9).toInt = (0 : Int32).toInt ∧ (g144 39 14).toInt = (g133 39 14).toInt ∧ (g144 42) = upd (upd (g133 42) 0 0) 1 0 ∧ mR g144 = mG (g133 39 5) (g133 43)) := p145_3
              clear p145_3
              have d43_g144 : g144 43 = (g133 43) := p145_2 43 (by omega)
              have e44_g144 : g144 44 = h 44 := (p145_2 44 (by omega)).trans e44_g133
              (try rw [e44_g133] at o150); (try rw [e9_g133] at o150)
              show Q (some (.int l1)) g144
              exact hq l1 g144 ⟨p145_0, p145_1, k147, k148, (fun k hk => f146 k hk), (by have : (7 : Int32).toInt = 7 := rfl; have : (6 : Int32).toInt = 6 := rfl; have : (1 : Int32).toInt = 1 := rfl; have : (0 : Int32).toInt = 0 := rfl; show (g144 39 9).toInt = 0 ∧ (g144 44) = (h 44) ∧ txQ (txF (h 44) (h 39 9).toInt.toNat 161 0 0 txS) l1.toInt (g144 39 14).toInt (h 39 9).toInt ∧ ikQ (g144 39 14).toInt (h 42) (g144 42) ∧ txM (g144 39 14).toInt (txF (h 44) (h 39 9).toInt.toNat 161 0 0 txS) (mR h) (mR g144) ∧ txE (g144 39 14).toInt h g144; obtain ⟨hst, S, hR, hT, hW⟩ := rfI_end hI (by omega) (by omega) (by omega) (by omega); have h6k := hi_ck hT.1; have hTf : rP S g121 := rP_eq hT.1 d43_g121 (by omega) (by omega); have h6 : ck6 S := h6k.mp (by omega); have h7k := ft_ck hTf hW h6; have hsv := (by decide : (7 : Int32).toInt = 7); have hsx := (by decide : (6 : Int32).toInt = 6); have nd := hid_out nd_g133; exact ⟨by omega, e44_g144, txQ_ok hR h6 (h7k.mp (ftQ_1 o132 (by omega))) (by omega) (by omega), Or.inl ⟨by omega, by rw [← e42_g133]; exact o150.2.2.1⟩, txM_ok (by omega) hR (o150.2.2.2.trans (memT_r (rP_eq hTf d43_g133 (by omega) (by omega)) (by have z36 := k140.2.1; omega))), fun q => absurd (by omega) q⟩)⟩
            · exact hq ((-10 : Int32) - (g133 39 15)) (qm_row g133 39 (upd (g133 39) 9 0)) ⟨(by have ⟨⟨_, _⟩, ⟨_, _⟩, ⟨_, _⟩, ⟨_, _⟩, _, _⟩ := hmmi; have ⟨⟨⟨_, _⟩, _, _⟩, _, _, _⟩ := hmsm; have ⟨⟨_, _⟩, ⟨_, _⟩, ⟨_, _⟩, ⟨_, _⟩, _, _⟩ := hgmi; have ⟨⟨_, _⟩, ⟨_, _⟩, _, _⟩ := hgpp; have ⟨⟨_, _⟩, _, _⟩ := hgdd; have ⟨⟨⟨_, _⟩, _, _⟩, _, _, _⟩ := hgsm; have ⟨⟨_, _⟩, ⟨_, _⟩, ⟨_, _⟩, ⟨_, _⟩, _, _⟩ := p122_0; have ⟨⟨_, _⟩, ⟨_, _⟩, _, _⟩ := p122_1; have ⟨⟨⟨_, _⟩, _, _⟩, _, _, _⟩ := k125; have ⟨⟨_, _⟩, _, _⟩ := k128; have ⟨⟨_, _⟩, ⟨_, _⟩, ⟨_, _⟩, ⟨_, _⟩, _, _⟩ := p134_0; have ⟨⟨_, _⟩, ⟨_, _⟩, _, _⟩ := p134_1; have ⟨⟨⟨_, _⟩, _, _⟩, _, _, _⟩ := k137; have ⟨⟨_, _⟩, _, _⟩ := k140; show (0 ≤ (g133 39 3).toInt ∧ (g133 39 3).toInt ≤ 4) ∧ (0 ≤ (0 : Int) ∧ (0 : Int) ≤ 160) ∧ (0 ≤ (g133 39 19).toInt ∧ (g133 39 19).toInt ≤ 4) ∧ (0 ≤ (g133 39 20).toInt ∧ (g133 39 20).toInt ≤ 255) ∧ (0 ≤ (g133 39 11).toInt ∧ (g133 39 11).toInt ≤ 160); have : (7 : Int32).toInt = 7 := rfl; have : (6 : Int32).toInt = 6 := rfl; have : (1 : Int32).toInt = 1 := rfl; omega), (by exact k137), (by exact k138), (by exact k139), (fun k hk => by simp only [qm_row]; rw [if_neg (by omega)]; exact f136 k hk), (by have : (7 : Int32).toInt = 7 := rfl; have : (6 : Int32).toInt = 6 := rfl; have : (1 : Int32).toInt = 1 := rfl; have : (0 : Int32).toInt = 0 := rfl; have := ti_subL (g133 39 15) (-10 : Int32) (-10) ti_n10; show (0 : Int32).toInt = 0 ∧ (g133 44) = (h 44) ∧ txQ (txF (h 44) (h 39 9).toInt.toNat 161 0 0 txS) ((-10 : Int32) - (g133 39 15)).toInt (g133 39 14).toInt (h 39 9).toInt ∧ ikQ (g133 39 14).toInt (h 42) (g133 42) ∧ txM (g133 39 14).toInt (txF (h 44) (h 39 9).toInt.toNat 161 0 0 txS) (mR h) (mR (qm_row g133 39 (upd (g133 39) 9 0))) ∧ txE (g133 39 14).toInt h (qm_row g133 39 (upd (g133 39) 9 0)); generalize ((-10 : Int32) - (g133 39 15)) = z10 at *; obtain ⟨hst, S, hR, hT, hW⟩ := rfI_end hI (by omega) (by omega) (by omega) (by omega); have h6k := hi_ck hT.1; have hTf : rP S g121 := rP_eq hT.1 d43_g121 (by omega) (by omega); have h6 : ck6 S := h6k.mp (by omega); have h7k := ft_ck hTf hW h6; have hsv := (by decide : (7 : Int32).toInt = 7); have hsx := (by decide : (6 : Int32).toInt = 6); have nd := hid_out nd_g133; exact ⟨rfl, e44_g133, txQ_7 hR h6 (fun q => ftQ_0 o132 (by omega) (h7k.mpr q)) (by omega) (by omega), Or.inr ⟨by omega, e42_g133⟩, Or.inr ⟨by omega, mR_of (show ((qm_row g133 39 (upd (g133 39) 9 0)) 39 3 = h 39 3) from k135s) (show (qm_row g133 39 (upd (g133 39) 9 0)) 40 = h 40 from e40_g133)⟩, fun _ => ⟨(show ((qm_row g133 39 (upd (g133 39) 9 0)) 39 3 = h 39 3) from k135s), e40_g133⟩⟩)⟩
      · have := ti_neK 0 rfl c77
        refine tx_159 X g  ⟨hgmi, hgpp, hgdd, hgdp, hgsm, ⟨(by show bt (g 44) (g 39 9).toInt; rw [e44_g, e9_g]; exact hbt), (by have hle := rfI_le hI (show (g 39 14).toInt = 0 by omega); show (g 39 14).toInt = 0 ∧ (g 39 10).toInt ≤ (g 39 9).toInt ∧ (0 ≤ (g 39 6).toInt ∧ (g 39 6).toInt ≤ 1); omega)⟩⟩ _ (fun g151 p152 => ?_)
        obtain ⟨p152_0, p152_1, p152_2, p152_3, p152_4, p152_5, p152_6, p152_7⟩ := p152
        have k153s : (g151 39 3 = h 39 3) := (p152_5).trans hgs3
        have f154 : ∀ k, (k < 39 ∨ 44 < k) → g151 k = h k := fun k hk => (p152_6 k (by omega)).trans (hgf k hk)
        have k155 : zs g151 := by unfold zs; rw [p152_6 49 (by omega)]; exact hgzs
        have k156 : rw_ g151 := by unfold rw_; rw [p152_6 46 (by omega)]; exact hgrw
        have o157 : ((g151 39 9).toInt = (g 39 9).toInt) ∧ ((g 39 14).toInt ≤ (g151 39 14).toInt) ∧ ∃ w x y z : Int, refQ (g 44) (g 39 9).toInt.toNat (lineF (g 44) (g 39 9).toInt.toNat (g 39 11).toInt.toNat (g 39 10).toInt.toNat (g 39 12).toInt (g 39 5).toInt (g 43 4).toInt (g 39 6).toInt) w x y z (g151 39 11).toInt (g151 39 12).toInt (g151 39 10).toInt (g151 39 13).toInt (g151 39 14).toInt (g151 39 15).toInt (g 39 15).toInt ∧ ((g151 39 14).toInt = 0 → ∀ S : tS, rT S g → rT (stF S w x y z) g151) := p152_7
        clear p152_7
        have e42_g151 : g151 42 = h 42 := (p152_6 42 (by omega)).trans e42_g
        have e40_g151 : g151 40 = h 40 := (p152_6 40 (by omega)).trans e40_g
        have e44_g151 : g151 44 = h 44 := (p152_6 44 (by omega)).trans e44_g
        have e9_g151 : (g151 39 9).toInt = (h 39 9).toInt := (by omega)
        (try rw [e44_g] at o157); (try rw [e9_g] at o157)
        show qm_PA X 162 20 [(0, .ref 39), (1, .int (l1 + 1))] [] g151 Q
        exact ih (l1 + 1) g151 ⟨(by have := ti_addK l1 (1 : Int32) 1 rfl; show rfI (h 44) (h 39 9).toInt.toNat (l1 + 1).toInt (g151 39 14).toInt (g151 39 15).toInt (g151 39 11).toInt (g151 39 12).toInt (g151 39 10).toInt (g151 39 13).toInt g151 ∧ ((0 ≤ (l1 + 1).toInt ∧ (l1 + 1).toInt ≤ 160) ∧ (g151 39 9).toInt = (h 39 9).toInt) ∧ g151 44 = h 44 ∧ g151 42 = h 42 ∧ g151 40 = h 40; have hle := rfI_le hI (show (g 39 14).toInt = 0 by omega); obtain ⟨w, x, y, z, hrf, hst⟩ := o157.2.2; have hL := rfI_line (g2 := g151) (i2 := (l1 + 1).toInt) hI (by omega) (by omega) (by omega) (by omega) (by omega) (by omega) (fun S c => ⟨c.1.1.1, c.1.1.2.1, c.2⟩) hrf hst (by omega); have hL2 := hL.2; exact ⟨hL.1, by omega, e44_g151, e42_g151, e40_g151⟩), p152_0, p152_1, p152_2, p152_3, p152_4, k155, k156, k153s, (fun k hk => f154 k hk)⟩ (by have := ti_addK l1 (1 : Int32) 1 rfl; show (161 - (l1 + 1).toInt).toNat < n; omega)
set_option maxRecDepth 100000 in
set_option maxHeartbeats 4000000 in
theorem tx_162 (X : qm_X) (h : qm_H) (hp : mi h ∧ sm h ∧ zs h ∧ rw_ h ∧ (bt (h 44) (h 39 9).toInt)) (Q : qm_Q) (hq : ∀ r : Int32, ∀ h' : qm_H, (mi h' ∧ sm h' ∧ zs h' ∧ rw_ h' ∧ (∀ k, (k < 39 ∨ 44 < k) → h' k = h k) ∧ ((h' 39 9).toInt = 0 ∧ (h' 44) = (h 44) ∧ txQ (txF (h 44) (h 39 9).toInt.toNat 161 0 0 txS) r.toInt (h' 39 14).toInt (h 39 9).toInt ∧ ikQ (h' 39 14).toInt (h 42) (h' 42) ∧ txM (h' 39 14).toInt (txF (h 44) (h 39 9).toInt.toNat 161 0 0 txS) (mR h) (mR h') ∧ txE (h' 39 14).toInt h h')) → Q (some (.int r)) h') : qm_PW X 162 [.ref 39] h Q := by
  have hmmi : mi h := hp.1
  have ⟨⟨_, _⟩, ⟨_, _⟩, ⟨_, _⟩, ⟨_, _⟩, _, _⟩ := hmmi
  have hmsm : sm h := hp.2.1
  have ⟨⟨⟨_, _⟩, _, _⟩, _, _, _⟩ := hmsm
  have hmzs : zs h := hp.2.2.1
  have hmrw : rw_ h := hp.2.2.2.1
  have hp0 : bt (h 44) (h 39 9).toInt := hp.2.2.2.2
  have hbt : bt (h 44) (h 39 9).toInt := hp0
  refine qm_seg_ok (C := qc_162) (rt := some .int) rfl rfl (cuts := [(20, [0, 1])]) 400 _ _ _ _ ?_
  show qm_PW X 143 [.ref 39] (qm_row (qm_row h 39 (upd (h 39) 14 0)) 39 (upd (upd (h 39) 14 0) 10 0)) _
  refine tx_143 X (qm_row (qm_row h 39 (upd (h 39) 14 0)) 39 (upd (upd (h 39) 14 0) 10 0))  ⟨(by have ⟨⟨_, _⟩, ⟨_, _⟩, ⟨_, _⟩, ⟨_, _⟩, _, _⟩ := hmmi; have ⟨⟨⟨_, _⟩, _, _⟩, _, _, _⟩ := hmsm; show (0 ≤ (h 39 3).toInt ∧ (h 39 3).toInt ≤ 4) ∧ (0 ≤ (h 39 9).toInt ∧ (h 39 9).toInt ≤ 160) ∧ (0 ≤ (h 39 19).toInt ∧ (h 39 19).toInt ≤ 4) ∧ (0 ≤ (h 39 20).toInt ∧ (h 39 20).toInt ≤ 255) ∧ (0 ≤ (h 39 11).toInt ∧ (h 39 11).toInt ≤ 160); omega), (by exact hmsm), (by have : (0 : Int32).toInt = 0 := rfl; show (0 ≤ (0 : Int32).toInt ∧ (0 : Int32).toInt ≤ 160) ∧ (0 ≤ (0 : Int32).toInt ∧ (0 : Int32).toInt ≤ 7); omega)⟩ _ (fun g1 p2 => ?_)
  obtain ⟨p2_0, p2_1, p2_2, p2_3, p2_4, p2_5, p2_6, p2_7⟩ := p2
  have k3s : (g1 39 3 = h 39 3) := (p2_5).trans (show ((qm_row (qm_row h 39 (upd (h 39) 14 0)) 39 (upd (upd (h 39) 14 0) 10 0)) 39 3 = h 39 3) from rfl)
  have f4 : ∀ k, (k < 39 ∨ 44 < k) → g1 k = h k := fun k hk => (p2_6 k (by omega)).trans (by simp only [qm_row]; rw [if_neg (by omega)]; rw [if_neg (by omega)])
  have k5 : zs g1 := by unfold zs; rw [p2_6 49 (by omega)]; exact hmzs
  have k6 : rw_ g1 := by unfold rw_; rw [p2_6 46 (by omega)]; exact hmrw
  have o7 : ((g1 39 14).toInt = (0 : Int32).toInt) ∧ ((g1 39 10).toInt = (0 : Int32).toInt) ∧ ((g1 39 9).toInt = (h 39 9).toInt) ∧ ((g1 39 15).toInt = (h 39 15).toInt) ∧ (g1 39 5).toInt = 0 ∧ (g1 39 6).toInt = 0 ∧ (g1 39 7).toInt = -4 ∧ (g1 43 4).toInt = 0 ∧ (g1 43 5).toInt = 0 := p2_7
  clear p2_7
  have e42_g1 : g1 42 = h 42 := (p2_6 42 (by omega))
  have e40_g1 : g1 40 = h 40 := (p2_6 40 (by omega))
  have e44_g1 : g1 44 = h 44 := (p2_6 44 (by omega))
  have e9_g1 : (g1 39 9).toInt = (h 39 9).toInt := (by omega)
  show qm_PW X 152 [.ref 39] g1 _
  refine tx_152 X g1  ⟨p2_0, p2_1, (by show bt (g1 44) (g1 39 9).toInt; rw [e44_g1, e9_g1]; exact hbt)⟩ _ (fun g8 p9 => ?_)
  obtain ⟨p9_0, p9_1, p9_2, p9_3, p9_4⟩ := p9
  have k10s : (g8 39 3 = h 39 3) := (p9_2).trans k3s
  have f11 : ∀ k, (k < 39 ∨ 44 < k) → g8 k = h k := fun k hk => (p9_3 k (by omega)).trans (f4 k hk)
  have k12 : sm g8 := by unfold sm; rw [p9_3 40 (by omega)]; exact p2_4
  have k13 : zs g8 := by unfold zs; rw [p9_3 49 (by omega)]; exact k5
  have k14 : rw_ g8 := by unfold rw_; rw [p9_3 46 (by omega)]; exact k6
  have k15 : dd g8 := by unfold dd; rw [p9_3 43 (by omega)]; exact p2_2
  have o16 : nxQ (g1 44) (g1 39 9).toInt.toNat (g1 39 10).toInt.toNat (g1 39 14).toInt (g8 39 11).toInt (g8 39 12).toInt (g8 39 10).toInt (g8 39 13).toInt (g8 39 14).toInt (g8 39 15).toInt (g1 39 15).toInt ∧ ((g8 39 5).toInt = (g1 39 5).toInt) ∧ ((g8 39 6).toInt = (g1 39 6).toInt) ∧ ((g8 39 7).toInt = (g1 39 7).toInt) ∧ ((g8 39 9).toInt = (g1 39 9).toInt) ∧ ((g1 39 14).toInt ≤ (g8 39 14).toInt) := p9_4
  clear p9_4
  have kdp_g8 : dp g8 := fun hf => by rw [p9_3 43 (by omega)]; exact p2_3 (by have := (p2_1).2.2; have : (0 : Int32).toInt = 0 := rfl; have : (1 : Int32).toInt = 1 := rfl; omega)
  have d43_g8 : g8 43 = (g1 43) := p9_3 43 (by omega)
  have e42_g8 : g8 42 = h 42 := (p9_3 42 (by omega)).trans e42_g1
  have e40_g8 : g8 40 = h 40 := (p9_3 40 (by omega)).trans e40_g1
  have e44_g8 : g8 44 = h 44 := (p9_3 44 (by omega)).trans e44_g1
  have e9_g8 : (g8 39 9).toInt = (h 39 9).toInt := (by omega)
  (try rw [e44_g1] at o16); (try rw [e9_g1] at o16)
  show qm_PA X 162 20 [(0, .ref 39), (1, .int 0)] [] g8 Q
  exact (tx_162_c X h hp Q hq _) (0 : Int32) g8 ⟨(by have : (0 : Int32).toInt = 0 := rfl; show rfI (h 44) (h 39 9).toInt.toNat (0 : Int32).toInt (g8 39 14).toInt (g8 39 15).toInt (g8 39 11).toInt (g8 39 12).toInt (g8 39 10).toInt (g8 39 13).toInt g8 ∧ ((0 ≤ (0 : Int32).toInt ∧ (0 : Int32).toInt ≤ 160) ∧ (g8 39 9).toInt = (h 39 9).toInt) ∧ g8 44 = h 44 ∧ g8 42 = h 42 ∧ g8 40 = h 40; exact ⟨rfI_mk (S := txS) (p := 0) (o16.1.elim (fun z => absurd (show (g1 39 14).toInt = 0 by omega) z.1) (fun z => by have z2 := z.2; rw [show (g1 39 10).toInt.toNat = 0 by omega] at z2; exact z2)) (fun _ => rT_0 (by omega) (by rw [d43_g8]; omega) (by rw [d43_g8]; omega) (by omega) (by omega)) wfS_0 (by have : (0 : Int32).toInt = 0 := rfl; omega) (by omega) (by decide) rfl, by have : (0 : Int32).toInt = 0 := rfl; omega, e44_g8, e42_g8, e40_g8⟩), p9_0, p9_1, k15, kdp_g8, k12, k13, k14, k10s, (fun k hk => f11 k hk)⟩ (Nat.lt_succ_self _)
