-- ThreadBankModel.readNumber(II)I
set_option maxRecDepth 100000 in
set_option maxHeartbeats 4000000 in
theorem tx_154 (X : qm_X) (h : qm_H) (a : Int32) (b : Int32) (hp : mi h ∧ pp h ∧ (bt (h 44) (h 39 9).toInt ∧ 0 ≤ a.toInt ∧ 0 ≤ b.toInt)) (Q : qm_Q) (hq : ∀ r : Int32, ∀ h' : qm_H, (mi h' ∧ pp h' ∧ (h' 39 3 = h 39 3) ∧ (∀ k, (k < 39 ∨ 39 < k) → h' k = h k) ∧ (nbQ (h 44) (h 39 9).toInt.toNat (h 39 10).toInt.toNat (h 39 14).toInt (h 39 15).toInt (h 39 12).toInt (h 39 13).toInt (h 39 11).toInt (a.toInt ≤ (h 39 13).toInt ∧ (h 39 13).toInt ≤ b.toInt) ((h' 39 7).toInt = (h 39 7).toInt) r.toInt (h' 39 11).toInt (h' 39 12).toInt (h' 39 10).toInt (h' 39 13).toInt (h' 39 14).toInt (h' 39 15).toInt ∧ (0 ≤ r.toInt ∧ r.toInt ≤ b.toInt) ∧ ((h 39 14).toInt ≤ (h' 39 14).toInt) ∧ ((h' 39 5).toInt = (h 39 5).toInt) ∧ ((h' 39 6).toInt = (h 39 6).toInt) ∧ ((h' 39 7).toInt = (h 39 7).toInt) ∧ ((h' 39 9).toInt = (h 39 9).toInt))) → Q (some (.int r)) h') : qm_PW X 154 [.ref 39, .int a, .int b] h Q := by
  have hmmi : mi h := hp.1
  have ⟨⟨_, _⟩, ⟨_, _⟩, ⟨_, _⟩, ⟨_, _⟩, _, _⟩ := hmmi
  have hmpp : pp h := hp.2.1
  have ⟨⟨_, _⟩, ⟨_, _⟩, _, _⟩ := hmpp
  have hp0 : bt (h 44) (h 39 9).toInt ∧ 0 ≤ a.toInt ∧ 0 ≤ b.toInt := hp.2.2
  have hbt := hp0.1
  have hp1 := hp0.2
  refine qm_seg_ok (C := qc_154) (rt := some .int) rfl rfl (cuts := []) 400 _ _ _ _ ?_
  show qm_PW X 153 [.ref 39, .int a, .int b] h _
  refine tx_153 X h a b ⟨hmmi, hmpp, (by omega)⟩ _ (fun r1 g2 p3 => ?_)
  obtain ⟨p3_0, p3_1, p3_2, p3_3, p3_4⟩ := p3
  have k4s : (g2 39 3 = h 39 3) := (p3_2).trans rfl
  have f5 : ∀ k, (k < 39 ∨ 39 < k) → g2 k = h k := fun k hk => (p3_3 k (by omega)).trans (rfl)
  have o6 : lkQ (h 39 14).toInt (h 39 15).toInt (h 39 12).toInt (h 39 13).toInt (h 39 11).toInt a.toInt b.toInt (g2 39 14).toInt (g2 39 15).toInt r1.toInt ∧ ((h 39 14).toInt ≤ (g2 39 14).toInt ∧ ((g2 39 14).toInt = 0 ∨ r1.toInt = 0) ∧ (0 ≤ r1.toInt ∧ r1.toInt ≤ b.toInt)) ∧ ((g2 39 5).toInt = (h 39 5).toInt) ∧ ((g2 39 6).toInt = (h 39 6).toInt) ∧ ((g2 39 7).toInt = (h 39 7).toInt) ∧ ((g2 39 9).toInt = (h 39 9).toInt) ∧ ((g2 39 10).toInt = (h 39 10).toInt) ∧ ((g2 39 11).toInt = (h 39 11).toInt) ∧ ((g2 39 12).toInt = (h 39 12).toInt) ∧ ((g2 39 13).toInt = (h 39 13).toInt) := p3_4
  clear p3_4
  have e44_g2 : g2 44 = h 44 := (p3_3 44 (by omega))
  have e9_g2 : (g2 39 9).toInt = (h 39 9).toInt := (by omega)
  show qm_PW X 152 [.ref 39] g2 _
  refine tx_152 X g2  ⟨p3_0, p3_1, (by show bt (g2 44) (g2 39 9).toInt; rw [e44_g2, e9_g2]; exact hbt)⟩ _ (fun g7 p8 => ?_)
  obtain ⟨p8_0, p8_1, p8_2, p8_3, p8_4⟩ := p8
  have k9s : (g7 39 3 = h 39 3) := (p8_2).trans k4s
  have f10 : ∀ k, (k < 39 ∨ 39 < k) → g7 k = h k := fun k hk => (p8_3 k (by omega)).trans (f5 k hk)
  have o11 : nxQ (g2 44) (g2 39 9).toInt.toNat (g2 39 10).toInt.toNat (g2 39 14).toInt (g7 39 11).toInt (g7 39 12).toInt (g7 39 10).toInt (g7 39 13).toInt (g7 39 14).toInt (g7 39 15).toInt (g2 39 15).toInt ∧ ((g7 39 5).toInt = (g2 39 5).toInt) ∧ ((g7 39 6).toInt = (g2 39 6).toInt) ∧ ((g7 39 7).toInt = (g2 39 7).toInt) ∧ ((g7 39 9).toInt = (g2 39 9).toInt) ∧ ((g2 39 14).toInt ≤ (g7 39 14).toInt) := p8_4
  clear p8_4
  have e44_g7 : g7 44 = h 44 := (p8_3 44 (by omega)).trans e44_g2
  have e9_g7 : (g7 39 9).toInt = (h 39 9).toInt := (by omega)
  (try rw [e44_g2] at o11); (try rw [e9_g2] at o11)
  show Q (some (.int r1)) g7
  exact hq r1 g7 ⟨p8_0, p8_1, k9s, (fun k hk => f10 k hk), (by show nbQ (h 44) (h 39 9).toInt.toNat (h 39 10).toInt.toNat (h 39 14).toInt (h 39 15).toInt (h 39 12).toInt (h 39 13).toInt (h 39 11).toInt (a.toInt ≤ (h 39 13).toInt ∧ (h 39 13).toInt ≤ b.toInt) ((g7 39 7).toInt = (h 39 7).toInt) r1.toInt (g7 39 11).toInt (g7 39 12).toInt (g7 39 10).toInt (g7 39 13).toInt (g7 39 14).toInt (g7 39 15).toInt ∧ (0 ≤ r1.toInt ∧ r1.toInt ≤ b.toInt) ∧ ((h 39 14).toInt ≤ (g7 39 14).toInt) ∧ ((g7 39 5).toInt = (h 39 5).toInt) ∧ ((g7 39 6).toInt = (h 39 6).toInt) ∧ ((g7 39 7).toInt = (h 39 7).toInt) ∧ ((g7 39 9).toInt = (h 39 9).toInt); exact ⟨nbQ_num o6.1 o11.1 rfl rfl (by omega) (by omega), by omega, by omega, by omega⟩)⟩
-- ThreadBankModel.readPlace()I
set_option maxRecDepth 100000 in
set_option maxHeartbeats 4000000 in
theorem tx_156 (X : qm_X) (h : qm_H) (hp : mi h ∧ pp h ∧ (bt (h 44) (h 39 9).toInt)) (Q : qm_Q) (hq : ∀ r : Int32, ∀ h' : qm_H, (mi h' ∧ pp h' ∧ (h' 39 3 = h 39 3) ∧ (∀ k, (k < 39 ∨ 39 < k) → h' k = h k) ∧ (nbQ (h 44) (h 39 9).toInt.toNat (h 39 10).toInt.toNat (h 39 14).toInt (h 39 15).toInt (h 39 12).toInt (h 39 13).toInt (h 39 11).toInt (0 ≤ (h 39 13).toInt ∧ (h 39 13).toInt / 10 ≤ 3 ∧ (h 39 13).toInt % 10 ≤ 4) ((h' 39 7).toInt = mx (h 39 7).toInt ((h 39 13).toInt / 10)) r.toInt (h' 39 11).toInt (h' 39 12).toInt (h' 39 10).toInt (h' 39 13).toInt (h' 39 14).toInt (h' 39 15).toInt ∧ (0 ≤ r.toInt ∧ r.toInt ≤ 39) ∧ ((h 39 14).toInt ≤ (h' 39 14).toInt) ∧ ((h' 39 5).toInt = (h 39 5).toInt) ∧ ((h' 39 6).toInt = (h 39 6).toInt) ∧ ((h' 39 9).toInt = (h 39 9).toInt))) → Q (some (.int r)) h') : qm_PW X 156 [.ref 39] h Q := by
  have hmmi : mi h := hp.1
  have ⟨⟨_, _⟩, ⟨_, _⟩, ⟨_, _⟩, ⟨_, _⟩, _, _⟩ := hmmi
  have hmpp : pp h := hp.2.1
  have ⟨⟨_, _⟩, ⟨_, _⟩, _, _⟩ := hmpp
  have hp0 : bt (h 44) (h 39 9).toInt := hp.2.2
  have hbt : bt (h 44) (h 39 9).toInt := hp.2.2
  refine qm_seg_ok (C := qc_156) (rt := some .int) rfl rfl (cuts := []) 400 _ _ _ _ ?_
  show qm_PW X 153 [.ref 39, .int 0, .int 39] h _
  refine tx_153 X h (0 : Int32) (39 : Int32) ⟨hmmi, hmpp, (by have : (39 : Int32).toInt = 39 := rfl; have : (0 : Int32).toInt = 0 := rfl; omega)⟩ _ (fun r1 g2 p3 => ?_)
  obtain ⟨p3_0, p3_1, p3_2, p3_3, p3_4⟩ := p3
  have k4s : (g2 39 3 = h 39 3) := (p3_2).trans rfl
  have f5 : ∀ k, (k < 39 ∨ 39 < k) → g2 k = h k := fun k hk => (p3_3 k (by omega)).trans (rfl)
  have o6 : lkQ (h 39 14).toInt (h 39 15).toInt (h 39 12).toInt (h 39 13).toInt (h 39 11).toInt (0 : Int32).toInt (39 : Int32).toInt (g2 39 14).toInt (g2 39 15).toInt r1.toInt ∧ ((h 39 14).toInt ≤ (g2 39 14).toInt ∧ ((g2 39 14).toInt = 0 ∨ r1.toInt = 0) ∧ (0 ≤ r1.toInt ∧ r1.toInt ≤ (39 : Int32).toInt)) ∧ ((g2 39 5).toInt = (h 39 5).toInt) ∧ ((g2 39 6).toInt = (h 39 6).toInt) ∧ ((g2 39 7).toInt = (h 39 7).toInt) ∧ ((g2 39 9).toInt = (h 39 9).toInt) ∧ ((g2 39 10).toInt = (h 39 10).toInt) ∧ ((g2 39 11).toInt = (h 39 11).toInt) ∧ ((g2 39 12).toInt = (h 39 12).toInt) ∧ ((g2 39 13).toInt = (h 39 13).toInt) := p3_4
  clear p3_4
  have e44_g2 : g2 44 = h 44 := (p3_3 44 (by omega))
  have e9_g2 : (g2 39 9).toInt = (h 39 9).toInt := (by omega)
  show (¬ (g2 39 14) = 0 → (¬ (10 : Int32) = 0 ∧ (qm_PW X 155 [.ref 39, .int (r1 / 10)] g2 _))) ∧ ((g2 39 14) = 0 → (¬ (10 : Int32) = 0 ∧ ((5 ≤ (r1 - r1 / 10 * 10).toInt → (qm_PW X 147 [.ref 39, .int 0, .int 3] g2 _)) ∧ ((r1 - r1 / 10 * 10).toInt < 5 → (qm_PW X 147 [.ref 39, .int 1, .int 3] g2 _)))))
  refine ⟨fun c7 => ?_, fun c8 => ?_⟩
  · have := ti_neK 0 rfl c7
    refine ⟨by decide, ?_⟩
    refine tx_155 X g2 (r1 / 10) ⟨p3_0, p3_1⟩ _ (fun g9 p10 => ?_)
    obtain ⟨p10_0, p10_1, p10_2, p10_3, p10_4⟩ := p10
    have k11s : (g9 39 3 = h 39 3) := (p10_2).trans k4s
    have f12 : ∀ k, (k < 39 ∨ 39 < k) → g9 k = h k := fun k hk => (p10_3 k (by omega)).trans (f5 k hk)
    have o13 : (((g2 39 14).toInt = 0 ∧ (g9 39 7).toInt = mx (g2 39 7).toInt (r1 / 10).toInt) ∨ (¬ (g2 39 14).toInt = 0 ∧ (g9 39 7).toInt = (g2 39 7).toInt)) ∧ ((g9 39 5).toInt = (g2 39 5).toInt) ∧ ((g9 39 6).toInt = (g2 39 6).toInt) ∧ ((g9 39 9).toInt = (g2 39 9).toInt) ∧ ((g9 39 10).toInt = (g2 39 10).toInt) ∧ ((g9 39 11).toInt = (g2 39 11).toInt) ∧ ((g9 39 12).toInt = (g2 39 12).toInt) ∧ ((g9 39 13).toInt = (g2 39 13).toInt) ∧ ((g9 39 14).toInt = (g2 39 14).toInt) ∧ ((g9 39 15).toInt = (g2 39 15).toInt) := p10_4
    clear p10_4
    have e44_g9 : g9 44 = h 44 := (p10_3 44 (by omega)).trans e44_g2
    have e9_g9 : (g9 39 9).toInt = (h 39 9).toInt := (by omega)
    (first | (replace o13 : (g9 39 7).toInt = mx (g2 39 7).toInt (r1 / 10).toInt ∧ ((g9 39 5).toInt = (g2 39 5).toInt) ∧ ((g9 39 6).toInt = (g2 39 6).toInt) ∧ ((g9 39 9).toInt = (g2 39 9).toInt) ∧ ((g9 39 10).toInt = (g2 39 10).toInt) ∧ ((g9 39 11).toInt = (g2 39 11).toInt) ∧ ((g9 39 12).toInt = (g2 39 12).toInt) ∧ ((g9 39 13).toInt = (g2 39 13).toInt) ∧ ((g9 39 14).toInt = (g2 39 14).toInt) ∧ ((g9 39 15).toInt = (g2 39 15).toInt) := ⟨o13.1.elim (fun z => z.2) (fun z => absurd (show (g2 39 14).toInt = 0 by omega) z.1), o13.2⟩) | (replace o13 : (g9 39 7).toInt = (g2 39 7).toInt ∧ ((g9 39 5).toInt = (g2 39 5).toInt) ∧ ((g9 39 6).toInt = (g2 39 6).toInt) ∧ ((g9 39 9).toInt = (g2 39 9).toInt) ∧ ((g9 39 10).toInt = (g2 39 10).toInt) ∧ ((g9 39 11).toInt = (g2 39 11).toInt) ∧ ((g9 39 12).toInt = (g2 39 12).toInt) ∧ ((g9 39 13).toInt = (g2 39 13).toInt) ∧ ((g9 39 14).toInt = (g2 39 14).toInt) ∧ ((g9 39 15).toInt = (g2 39 15).toInt) := ⟨o13.1.elim (fun z => absurd z.1 (show ¬ (g2 39 14).toInt = 0 by omega)) (fun z => z.2), o13.2⟩) | skip)
    (try rw [e44_g2] at o13); (try rw [e9_g2] at o13)
    show qm_PW X 152 [.ref 39] g9 _
    refine tx_152 X g9  ⟨p10_0, p10_1, (by show bt (g9 44) (g9 39 9).toInt; rw [e44_g9, e9_g9]; exact hbt)⟩ _ (fun g14 p15 => ?_)
    obtain ⟨p15_0, p15_1, p15_2, p15_3, p15_4⟩ := p15
    have k16s : (g14 39 3 = h 39 3) := (p15_2).trans k11s
    have f17 : ∀ k, (k < 39 ∨ 39 < k) → g14 k = h k := fun k hk => (p15_3 k (by omega)).trans (f12 k hk)
    have o18 : nxQ (g9 44) (g9 39 9).toInt.toNat (g9 39 10).toInt.toNat (g9 39 14).toInt (g14 39 11).toInt (g14 39 12).toInt (g14 39 10).toInt (g14 39 13).toInt (g14 39 14).toInt (g14 39 15).toInt (g9 39 15).toInt ∧ ((g14 39 5).toInt = (g9 39 5).toInt) ∧ ((g14 39 6).toInt = (g9 39 6).toInt) ∧ ((g14 39 7).toInt = (g9 39 7).toInt) ∧ ((g14 39 9).toInt = (g9 39 9).toInt) ∧ ((g9 39 14).toInt ≤ (g14 39 14).toInt) := p15_4
    clear p15_4
    have e44_g14 : g14 44 = h 44 := (p15_3 44 (by omega)).trans e44_g9
    have e9_g14 : (g14 39 9).toInt = (h 39 9).toInt := (by omega)
    (try rw [e44_g9] at o18); (try rw [e9_g9] at o18)
    show Q (some (.int r1)) g14
    exact hq r1 g14 ⟨p15_0, p15_1, k16s, (fun k hk => f17 k hk), (by have : (39 : Int32).toInt = 39 := rfl; have : (0 : Int32).toInt = 0 := rfl; have := ti_div (10 : Int32) 10 rfl r1 (by decide); show nbQ (h 44) (h 39 9).toInt.toNat (h 39 10).toInt.toNat (h 39 14).toInt (h 39 15).toInt (h 39 12).toInt (h 39 13).toInt (h 39 11).toInt (0 ≤ (h 39 13).toInt ∧ (h 39 13).toInt / 10 ≤ 3 ∧ (h 39 13).toInt % 10 ≤ 4) ((g14 39 7).toInt = mx (h 39 7).toInt ((h 39 13).toInt / 10)) r1.toInt (g14 39 11).toInt (g14 39 12).toInt (g14 39 10).toInt (g14 39 13).toInt (g14 39 14).toInt (g14 39 15).toInt ∧ (0 ≤ r1.toInt ∧ r1.toInt ≤ 39) ∧ ((h 39 14).toInt ≤ (g14 39 14).toInt) ∧ ((g14 39 5).toInt = (h 39 5).toInt) ∧ ((g14 39 6).toInt = (h 39 6).toInt) ∧ ((g14 39 9).toInt = (h 39 9).toInt); exact ⟨nbQ_A o6.1 (by omega) o18.1 (by omega) (by omega) (by omega) (fun hc => ⟨by omega, by omega⟩), by omega, by omega, by omega⟩)⟩
  · have := ti_eqK 0 rfl c8
    refine ⟨by decide, ?_⟩
    refine ⟨fun c19 => ?_, fun c20 => ?_⟩
    · refine tx_147 X g2 (0 : Int32) (3 : Int32) ⟨p3_0, p3_1, (by have : (39 : Int32).toInt = 39 := rfl; have : (3 : Int32).toInt = 3 := rfl; have : (0 : Int32).toInt = 0 := rfl; have := ti_rem (10 : Int32) 10 rfl r1 (by decide); omega)⟩ _ (fun g21 p22 => ?_)
      obtain ⟨p22_0, p22_1, p22_2, p22_3, p22_4⟩ := p22
      have k23s : (g21 39 3 = h 39 3) := (p22_2).trans k4s
      have f24 : ∀ k, (k < 39 ∨ 39 < k) → g21 k = h k := fun k hk => (p22_3 k (by omega)).trans (f5 k hk)
      have o25 : ((((0 : Int32).toInt = 0 ∧ (g2 39 14).toInt = 0) ∧ (g21 39 14).toInt = (3 : Int32).toInt ∧ (g21 39 15).toInt = (g2 39 11).toInt) ∨ (¬ ((0 : Int32).toInt = 0 ∧ (g2 39 14).toInt = 0) ∧ (g21 39 14).toInt = (g2 39 14).toInt ∧ (g21 39 15).toInt = (g2 39 15).toInt)) ∧ ((g21 39 5).toInt = (g2 39 5).toInt) ∧ ((g21 39 6).toInt = (g2 39 6).toInt) ∧ ((g21 39 7).toInt = (g2 39 7).toInt) ∧ ((g21 39 9).toInt = (g2 39 9).toInt) ∧ ((g21 39 10).toInt = (g2 39 10).toInt) ∧ ((g21 39 11).toInt = (g2 39 11).toInt) ∧ ((g21 39 12).toInt = (g2 39 12).toInt) ∧ ((g21 39 13).toInt = (g2 39 13).toInt) := p22_4
      clear p22_4
      have e44_g21 : g21 44 = h 44 := (p22_3 44 (by omega)).trans e44_g2
      have e9_g21 : (g21 39 9).toInt = (h 39 9).toInt := (by omega)
      (first | (replace o25 : (g21 39 14).toInt = (3 : Int32).toInt ∧ (g21 39 15).toInt = (g2 39 11).toInt ∧ ((g21 39 5).toInt = (g2 39 5).toInt) ∧ ((g21 39 6).toInt = (g2 39 6).toInt) ∧ ((g21 39 7).toInt = (g2 39 7).toInt) ∧ ((g21 39 9).toInt = (g2 39 9).toInt) ∧ ((g21 39 10).toInt = (g2 39 10).toInt) ∧ ((g21 39 11).toInt = (g2 39 11).toInt) ∧ ((g21 39 12).toInt = (g2 39 12).toInt) ∧ ((g21 39 13).toInt = (g2 39 13).toInt) := ⟨(by have : (0 : Int32).toInt = 0 := rfl; omega), (by have : (0 : Int32).toInt = 0 := rfl; omega), o25.2⟩) | (replace o25 : (g21 39 14).toInt = (g2 39 14).toInt ∧ (g21 39 15).toInt = (g2 39 15).toInt ∧ ((g21 39 5).toInt = (g2 39 5).toInt) ∧ ((g21 39 6).toInt = (g2 39 6).toInt) ∧ ((g21 39 7).toInt = (g2 39 7).toInt) ∧ ((g21 39 9).toInt = (g2 39 9).toInt) ∧ ((g21 39 10).toInt = (g2 39 10).toInt) ∧ ((g21 39 11).toInt = (g2 39 11).toInt) ∧ ((g21 39 12).toInt = (g2 39 12).toInt) ∧ ((g21 39 13).toInt = (g2 39 13).toInt) := ⟨(by have : (1 : Int32).toInt = 1 := rfl; have : (0 : Int32).toInt = 0 := rfl; omega), (by have : (1 : Int32).toInt = 1 := rfl; have : (0 : Int32).toInt = 0 := rfl; omega), o25.2⟩) | skip)
      (try rw [e44_g2] at o25); (try rw [e9_g2] at o25)
      show ¬ (10 : Int32) = 0 ∧ (qm_PW X 155 [.ref 39, .int (r1 / 10)] g21 _)
      refine ⟨by decide, ?_⟩
      refine tx_155 X g21 (r1 / 10) ⟨p22_0, p22_1⟩ _ (fun g26 p27 => ?_)
      obtain ⟨p27_0, p27_1, p27_2, p27_3, p27_4⟩ := p27
      have k28s : (g26 39 3 = h 39 3) := (p27_2).trans k23s
      have f29 : ∀ k, (k < 39 ∨ 39 < k) → g26 k = h k := fun k hk => (p27_3 k (by omega)).trans (f24 k hk)
      have o30 : (((g21 39 14).toInt = 0 ∧ (g26 39 7).toInt = mx (g21 39 7).toInt (r1 / 10).toInt) ∨ (¬ (g21 39 14).toInt = 0 ∧ (g26 39 7).toInt = (g21 39 7).toInt)) ∧ ((g26 39 5).toInt = (g21 39 5).toInt) ∧ ((g26 39 6).toInt = (g21 39 6).toInt) ∧ ((g26 39 9).toInt = (g21 39 9).toInt) ∧ ((g26 39 10).toInt = (g21 39 10).toInt) ∧ ((g26 39 11).toInt = (g21 39 11).toInt) ∧ ((g26 39 12).toInt = (g21 39 12).toInt) ∧ ((g26 39 13).toInt = (g21 39 13).toInt) ∧ ((g26 39 14).toInt = (g21 39 14).toInt) ∧ ((g26 39 15).toInt = (g21 39 15).toInt) := p27_4
      clear p27_4
      have e44_g26 : g26 44 = h 44 := (p27_3 44 (by omega)).trans e44_g21
      have e9_g26 : (g26 39 9).toInt = (h 39 9).toInt := (by omega)
      (first | (replace o30 : (g26 39 7).toInt = mx (g21 39 7).toInt (r1 / 10).toInt ∧ ((g26 39 5).toInt = (g21 39 5).toInt) ∧ ((g26 39 6).toInt = (g21 39 6).toInt) ∧ ((g26 39 9).toInt = (g21 39 9).toInt) ∧ ((g26 39 10).toInt = (g21 39 10).toInt) ∧ ((g26 39 11).toInt = (g21 39 11).toInt) ∧ ((g26 39 12).toInt = (g21 39 12).toInt) ∧ ((g26 39 13).toInt = (g21 39 13).toInt) ∧ ((g26 39 14).toInt = (g21 39 14).toInt) ∧ ((g26 39 15).toInt = (g21 39 15).toInt) := ⟨o30.1.elim (fun z => z.2) (fun z => absurd (show (g21 39 14).toInt = 0 by omega) z.1), o30.2⟩) | (replace o30 : (g26 39 7).toInt = (g21 39 7).toInt ∧ ((g26 39 5).toInt = (g21 39 5).toInt) ∧ ((g26 39 6).toInt = (g21 39 6).toInt) ∧ ((g26 39 9).toInt = (g21 39 9).toInt) ∧ ((g26 39 10).toInt = (g21 39 10).toInt) ∧ ((g26 39 11).toInt = (g21 39 11).toInt) ∧ ((g26 39 12).toInt = (g21 39 12).toInt) ∧ ((g26 39 13).toInt = (g21 39 13).toInt) ∧ ((g26 39 14).toInt = (g21 39 14).toInt) ∧ ((g26 39 15).toInt = (g21 39 15).toInt) := ⟨o30.1.elim (fun z => absurd z.1 (show ¬ (g21 39 14).toInt = 0 by omega)) (fun z => z.2), o30.2⟩) | skip)
      (try rw [e44_g21] at o30); (try rw [e9_g21] at o30)
      show qm_PW X 152 [.ref 39] g26 _
      refine tx_152 X g26  ⟨p27_0, p27_1, (by show bt (g26 44) (g26 39 9).toInt; rw [e44_g26, e9_g26]; exact hbt)⟩ _ (fun g31 p32 => ?_)
      obtain ⟨p32_0, p32_1, p32_2, p32_3, p32_4⟩ := p32
      have k33s : (g31 39 3 = h 39 3) := (p32_2).trans k28s
      have f34 : ∀ k, (k < 39 ∨ 39 < k) → g31 k = h k := fun k hk => (p32_3 k (by omega)).trans (f29 k hk)
      have o35 : nxQ (g26 44) (g26 39 9).toInt.toNat (g26 39 10).toInt.toNat (g26 39 14).toInt (g31 39 11).toInt (g31 39 12).toInt (g31 39 10).toInt (g31 39 13).toInt (g31 39 14).toInt (g31 39 15).toInt (g26 39 15).toInt ∧ ((g31 39 5).toInt = (g26 39 5).toInt) ∧ ((g31 39 6).toInt = (g26 39 6).toInt) ∧ ((g31 39 7).toInt = (g26 39 7).toInt) ∧ ((g31 39 9).toInt = (g26 39 9).toInt) ∧ ((g26 39 14).toInt ≤ (g31 39 14).toInt) := p32_4
      clear p32_4
      have e44_g31 : g31 44 = h 44 := (p32_3 44 (by omega)).trans e44_g26
      have e9_g31 : (g31 39 9).toInt = (h 39 9).toInt := (by omega)
      (try rw [e44_g26] at o35); (try rw [e9_g26] at o35)
      show Q (some (.int r1)) g31
      exact hq r1 g31 ⟨p32_0, p32_1, k33s, (fun k hk => f34 k hk), (by have : (39 : Int32).toInt = 39 := rfl; have : (3 : Int32).toInt = 3 := rfl; have : (0 : Int32).toInt = 0 := rfl; have := ti_rem (10 : Int32) 10 rfl r1 (by decide); have := ti_div (10 : Int32) 10 rfl r1 (by decide); show nbQ (h 44) (h 39 9).toInt.toNat (h 39 10).toInt.toNat (h 39 14).toInt (h 39 15).toInt (h 39 12).toInt (h 39 13).toInt (h 39 11).toInt (0 ≤ (h 39 13).toInt ∧ (h 39 13).toInt / 10 ≤ 3 ∧ (h 39 13).toInt % 10 ≤ 4) ((g31 39 7).toInt = mx (h 39 7).toInt ((h 39 13).toInt / 10)) r1.toInt (g31 39 11).toInt (g31 39 12).toInt (g31 39 10).toInt (g31 39 13).toInt (g31 39 14).toInt (g31 39 15).toInt ∧ (0 ≤ r1.toInt ∧ r1.toInt ≤ 39) ∧ ((h 39 14).toInt ≤ (g31 39 14).toInt) ∧ ((g31 39 5).toInt = (h 39 5).toInt) ∧ ((g31 39 6).toInt = (h 39 6).toInt) ∧ ((g31 39 9).toInt = (h 39 9).toInt); exact ⟨nbQ_B o6.1 (by omega) o35.1 (by omega) (by omega) (by omega) (fun hr hc => by omega), by omega, by omega, by omega⟩)⟩
    · refine tx_147 X g2 (1 : Int32) (3 : Int32) ⟨p3_0, p3_1, (by have : (39 : Int32).toInt = 39 := rfl; have : (3 : Int32).toInt = 3 := rfl; have : (0 : Int32).toInt = 0 := rfl; have := ti_rem (10 : Int32) 10 rfl r1 (by decide); omega)⟩ _ (fun g36 p37 => ?_)
      obtain ⟨p37_0, p37_1, p37_2, p37_3, p37_4⟩ := p37
      have k38s : (g36 39 3 = h 39 3) := (p37_2).trans k4s
      have f39 : ∀ k, (k < 39 ∨ 39 < k) → g36 k = h k := fun k hk => (p37_3 k (by omega)).trans (f5 k hk)
      have o40 : ((((1 : Int32).toInt = 0 ∧ (g2 39 14).toInt = 0) ∧ (g36 39 14).toInt = (3 : Int32).toInt ∧ (g36 39 15).toInt = (g2 39 11).toInt) ∨ (¬ ((1 : Int32).toInt = 0 ∧ (g2 39 14).toInt = 0) ∧ (g36 39 14).toInt = (g2 39 14).toInt ∧ (g36 39 15).toInt = (g2 39 15).toInt)) ∧ ((g36 39 5).toInt = (g2 39 5).toInt) ∧ ((g36 39 6).toInt = (g2 39 6).toInt) ∧ ((g36 39 7).toInt = (g2 39 7).toInt) ∧ ((g36 39 9).toInt = (g2 39 9).toInt) ∧ ((g36 39 10).toInt = (g2 39 10).toInt) ∧ ((g36 39 11).toInt = (g2 39 11).toInt) ∧ ((g36 39 12).toInt = (g2 39 12).toInt) ∧ ((g36 39 13).toInt = (g2 39 13).toInt) := p37_4
      clear p37_4
      have e44_g36 : g36 44 = h 44 := (p37_3 44 (by omega)).trans e44_g2
      have e9_g36 : (g36 39 9).toInt = (h 39 9).toInt := (by omega)
      replace o40 : (g36 39 14).toInt = (g2 39 14).toInt ∧ (g36 39 15).toInt = (g2 39 15).toInt ∧ ((g36 39 5).toInt = (g2 39 5).toInt) ∧ ((g36 39 6).toInt = (g2 39 6).toInt) ∧ ((g36 39 7).toInt = (g2 39 7).toInt) ∧ ((g36 39 9).toInt = (g2 39 9).toInt) ∧ ((g36 39 10).toInt = (g2 39 10).toInt) ∧ ((g36 39 11).toInt = (g2 39 11).toInt) ∧ ((g36 39 12).toInt = (g2 39 12).toInt) ∧ ((g36 39 13).toInt = (g2 39 13).toInt) := ⟨(by have : (1 : Int32).toInt = 1 := rfl; have : (0 : Int32).toInt = 0 := rfl; omega), (by have : (1 : Int32).toInt = 1 := rfl; have : (0 : Int32).toInt = 0 := rfl; omega), o40.2⟩
      (try rw [e44_g2] at o40); (try rw [e9_g2] at o40)
      show ¬ (10 : Int32) = 0 ∧ (qm_PW X 155 [.ref 39, .int (r1 / 10)] g36 _)
      refine ⟨by decide, ?_⟩
      refine tx_155 X g36 (r1 / 10) ⟨p37_0, p37_1⟩ _ (fun g41 p42 => ?_)
      obtain ⟨p42_0, p42_1, p42_2, p42_3, p42_4⟩ := p42
      have k43s : (g41 39 3 = h 39 3) := (p42_2).trans k38s
      have f44 : ∀ k, (k < 39 ∨ 39 < k) → g41 k = h k := fun k hk => (p42_3 k (by omega)).trans (f39 k hk)
      have o45 : (((g36 39 14).toInt = 0 ∧ (g41 39 7).toInt = mx (g36 39 7).toInt (r1 / 10).toInt) ∨ (¬ (g36 39 14).toInt = 0 ∧ (g41 39 7).toInt = (g36 39 7).toInt)) ∧ ((g41 39 5).toInt = (g36 39 5).toInt) ∧ ((g41 39 6).toInt = (g36 39 6).toInt) ∧ ((g41 39 9).toInt = (g36 39 9).toInt) ∧ ((g41 39 10).toInt = (g36 39 10).toInt) ∧ ((g41 39 11).toInt = (g36 39 11).toInt) ∧ ((g41 39 12).toInt = (g36 39 12).toInt) ∧ ((g41 39 13).toInt = (g36 39 13).toInt) ∧ ((g41 39 14).toInt = (g36 39 14).toInt) ∧ ((g41 39 15).toInt = (g36 39 15).toInt) := p42_4
      clear p42_4
      have e44_g41 : g41 44 = h 44 := (p42_3 44 (by omega)).trans e44_g36
      have e9_g41 : (g41 39 9).toInt = (h 39 9).toInt := (by omega)
      (first | (replace o45 : (g41 39 7).toInt = mx (g36 39 7).toInt (r1 / 10).toInt ∧ ((g41 39 5).toInt = (g36 39 5).toInt) ∧ ((g41 39 6).toInt = (g36 39 6).toInt) ∧ ((g41 39 9).toInt = (g36 39 9).toInt) ∧ ((g41 39 10).toInt = (g36 39 10).toInt) ∧ ((g41 39 11).toInt = (g36 39 11).toInt) ∧ ((g41 39 12).toInt = (g36 39 12).toInt) ∧ ((g41 39 13).toInt = (g36 39 13).toInt) ∧ ((g41 39 14).toInt = (g36 39 14).toInt) ∧ ((g41 39 15).toInt = (g36 39 15).toInt) := ⟨o45.1.elim (fun z => z.2) (fun z => absurd (show (g36 39 14).toInt = 0 by omega) z.1), o45.2⟩) | (replace o45 : (g41 39 7).toInt = (g36 39 7).toInt ∧ ((g41 39 5).toInt = (g36 39 5).toInt) ∧ ((g41 39 6).toInt = (g36 39 6).toInt) ∧ ((g41 39 9).toInt = (g36 39 9).toInt) ∧ ((g41 39 10).toInt = (g36 39 10).toInt) ∧ ((g41 39 11).toInt = (g36 39 11).toInt) ∧ ((g41 39 12).toInt = (g36 39 12).toInt) ∧ ((g41 39 13).toInt = (g36 39 13).toInt) ∧ ((g41 39 14).toInt = (g36 39 14).toInt) ∧ ((g41 39 15).toInt = (g36 39 15).toInt) := ⟨o45.1.elim (fun z => absurd z.1 (show ¬ (g36 39 14).toInt = 0 by omega)) (fun z => z.2), o45.2⟩) | skip)
      (try rw [e44_g36] at o45); (try rw [e9_g36] at o45)
      show qm_PW X 152 [.ref 39] g41 _
      refine tx_152 X g41  ⟨p42_0, p42_1, (by show bt (g41 44) (g41 39 9).toInt; rw [e44_g41, e9_g41]; exact hbt)⟩ _ (fun g46 p47 => ?_)
      obtain ⟨p47_0, p47_1, p47_2, p47_3, p47_4⟩ := p47
      have k48s : (g46 39 3 = h 39 3) := (p47_2).trans k43s
      have f49 : ∀ k, (k < 39 ∨ 39 < k) → g46 k = h k := fun k hk => (p47_3 k (by omega)).trans (f44 k hk)
      have o50 : nxQ (g41 44) (g41 39 9).toInt.toNat (g41 39 10).toInt.toNat (g41 39 14).toInt (g46 39 11).toInt (g46 39 12).toInt (g46 39 10).toInt (g46 39 13).toInt (g46 39 14).toInt (g46 39 15).toInt (g41 39 15).toInt ∧ ((g46 39 5).toInt = (g41 39 5).toInt) ∧ ((g46 39 6).toInt = (g41 39 6).toInt) ∧ ((g46 39 7).toInt = (g41 39 7).toInt) ∧ ((g46 39 9).toInt = (g41 39 9).toInt) ∧ ((g41 39 14).toInt ≤ (g46 39 14).toInt) := p47_4
      clear p47_4
      have e44_g46 : g46 44 = h 44 := (p47_3 44 (by omega)).trans e44_g41
      have e9_g46 : (g46 39 9).toInt = (h 39 9).toInt := (by omega)
      (try rw [e44_g41] at o50); (try rw [e9_g41] at o50)
      show Q (some (.int r1)) g46
      exact hq r1 g46 ⟨p47_0, p47_1, k48s, (fun k hk => f49 k hk), (by have : (39 : Int32).toInt = 39 := rfl; have : (3 : Int32).toInt = 3 := rfl; have : (1 : Int32).toInt = 1 := rfl; have : (0 : Int32).toInt = 0 := rfl; have := ti_rem (10 : Int32) 10 rfl r1 (by decide); have := ti_div (10 : Int32) 10 rfl r1 (by decide); show nbQ (h 44) (h 39 9).toInt.toNat (h 39 10).toInt.toNat (h 39 14).toInt (h 39 15).toInt (h 39 12).toInt (h 39 13).toInt (h 39 11).toInt (0 ≤ (h 39 13).toInt ∧ (h 39 13).toInt / 10 ≤ 3 ∧ (h 39 13).toInt % 10 ≤ 4) ((g46 39 7).toInt = mx (h 39 7).toInt ((h 39 13).toInt / 10)) r1.toInt (g46 39 11).toInt (g46 39 12).toInt (g46 39 10).toInt (g46 39 13).toInt (g46 39 14).toInt (g46 39 15).toInt ∧ (0 ≤ r1.toInt ∧ r1.toInt ≤ 39) ∧ ((h 39 14).toInt ≤ (g46 39 14).toInt) ∧ ((g46 39 5).toInt = (h 39 5).toInt) ∧ ((g46 39 6).toInt = (h 39 6).toInt) ∧ ((g46 39 9).toInt = (h 39 9).toInt); exact ⟨nbQ_C o6.1 (by omega) o50.1 (by omega) (by omega) (by omega) (fun hr hc => by omega) (fun hr => by rw [show (g46 39 7).toInt = (g41 39 7).toInt by omega, o45.1, show (r1 / 10).toInt = (h 39 13).toInt / 10 by omega, show (g36 39 7).toInt = (h 39 7).toInt by omega]), by omega, by omega, by omega⟩)⟩
-- ThreadBankModel.readPair()I
set_option maxRecDepth 100000 in
set_option maxHeartbeats 4000000 in
theorem tx_157 (X : qm_X) (h : qm_H) (hp : mi h ∧ pp h ∧ (bt (h 44) (h 39 9).toInt)) (Q : qm_Q) (hq : ∀ r : Int32, ∀ h' : qm_H, (mi h' ∧ pp h' ∧ (h' 39 3 = h 39 3) ∧ (∀ k, (k < 39 ∨ 39 < k) → h' k = h k) ∧ (nbQ (h 44) (h 39 9).toInt.toNat (h 39 10).toInt.toNat (h 39 14).toInt (h 39 15).toInt (h 39 12).toInt (h 39 13).toInt (h 39 11).toInt (0 ≤ (h 39 13).toInt ∧ (h 39 13).toInt / 10 ≤ 3 ∧ (h 39 13).toInt % 10 ≤ 3 ∧ ¬ (h 39 13).toInt / 10 = (h 39 13).toInt % 10) ((h' 39 7).toInt = mx (mx (h 39 7).toInt ((h 39 13).toInt / 10)) ((h 39 13).toInt % 10)) r.toInt (h' 39 11).toInt (h' 39 12).toInt (h' 39 10).toInt (h' 39 13).toInt (h' 39 14).toInt (h' 39 15).toInt ∧ (0 ≤ r.toInt ∧ r.toInt ≤ 39) ∧ (r.toInt % 10 ≤ 3 + 10 * (h' 39 14).toInt) ∧ ((h 39 14).toInt ≤ (h' 39 14).toInt) ∧ ((h' 39 5).toInt = (h 39 5).toInt) ∧ ((h' 39 6).toInt = (h 39 6).toInt) ∧ ((h' 39 9).toInt = (h 39 9).toInt))) → Q (some (.int r)) h') : qm_PW X 157 [.ref 39] h Q := by
  have hmmi : mi h := hp.1
  have ⟨⟨_, _⟩, ⟨_, _⟩, ⟨_, _⟩, ⟨_, _⟩, _, _⟩ := hmmi
  have hmpp : pp h := hp.2.1
  have ⟨⟨_, _⟩, ⟨_, _⟩, _, _⟩ := hmpp
  have hp0 : bt (h 44) (h 39 9).toInt := hp.2.2
  have hbt : bt (h 44) (h 39 9).toInt := hp.2.2
  refine qm_seg_ok (C := qc_157) (rt := some .int) rfl rfl (cuts := []) 400 _ _ _ _ ?_
  show qm_PW X 153 [.ref 39, .int 0, .int 39] h _
  refine tx_153 X h (0 : Int32) (39 : Int32) ⟨hmmi, hmpp, (by have : (39 : Int32).toInt = 39 := rfl; have : (0 : Int32).toInt = 0 := rfl; omega)⟩ _ (fun r1 g2 p3 => ?_)
  obtain ⟨p3_0, p3_1, p3_2, p3_3, p3_4⟩ := p3
  have k4s : (g2 39 3 = h 39 3) := (p3_2).trans rfl
  have f5 : ∀ k, (k < 39 ∨ 39 < k) → g2 k = h k := fun k hk => (p3_3 k (by omega)).trans (rfl)
  have o6 : lkQ (h 39 14).toInt (h 39 15).toInt (h 39 12).toInt (h 39 13).toInt (h 39 11).toInt (0 : Int32).toInt (39 : Int32).toInt (g2 39 14).toInt (g2 39 15).toInt r1.toInt ∧ ((h 39 14).toInt ≤ (g2 39 14).toInt ∧ ((g2 39 14).toInt = 0 ∨ r1.toInt = 0) ∧ (0 ≤ r1.toInt ∧ r1.toInt ≤ (39 : Int32).toInt)) ∧ ((g2 39 5).toInt = (h 39 5).toInt) ∧ ((g2 39 6).toInt = (h 39 6).toInt) ∧ ((g2 39 7).toInt = (h 39 7).toInt) ∧ ((g2 39 9).toInt = (h 39 9).toInt) ∧ ((g2 39 10).toInt = (h 39 10).toInt) ∧ ((g2 39 11).toInt = (h 39 11).toInt) ∧ ((g2 39 12).toInt = (h 39 12).toInt) ∧ ((g2 39 13).toInt = (h 39 13).toInt) := p3_4
  clear p3_4
  have e44_g2 : g2 44 = h 44 := (p3_3 44 (by omega))
  have e9_g2 : (g2 39 9).toInt = (h 39 9).toInt := (by omega)
  show (¬ (g2 39 14) = 0 → (¬ (10 : Int32) = 0 ∧ (qm_PW X 155 [.ref 39, .int (r1 / 10)] g2 _))) ∧ ((g2 39 14) = 0 → (¬ (10 : Int32) = 0 ∧ ((4 ≤ (r1 - r1 / 10 * 10).toInt → (qm_PW X 147 [.ref 39, .int 0, .int 3] g2 _)) ∧ ((r1 - r1 / 10 * 10).toInt < 4 → (¬ (10 : Int32) = 0 ∧ (¬ (10 : Int32) = 0 ∧ (((r1 / 10) = (r1 - r1 / 10 * 10) → (qm_PW X 147 [.ref 39, .int 0, .int 3] g2 _)) ∧ (¬ (r1 / 10) = (r1 - r1 / 10 * 10) → (qm_PW X 147 [.ref 39, .int 1, .int 3] g2 _)))))))))
  refine ⟨fun c7 => ?_, fun c8 => ?_⟩
  · have := ti_neK 0 rfl c7
    refine ⟨by decide, ?_⟩
    refine tx_155 X g2 (r1 / 10) ⟨p3_0, p3_1⟩ _ (fun g9 p10 => ?_)
    obtain ⟨p10_0, p10_1, p10_2, p10_3, p10_4⟩ := p10
    have k11s : (g9 39 3 = h 39 3) := (p10_2).trans k4s
    have f12 : ∀ k, (k < 39 ∨ 39 < k) → g9 k = h k := fun k hk => (p10_3 k (by omega)).trans (f5 k hk)
    have o13 : (((g2 39 14).toInt = 0 ∧ (g9 39 7).toInt = mx (g2 39 7).toInt (r1 / 10).toInt) ∨ (¬ (g2 39 14).toInt = 0 ∧ (g9 39 7).toInt = (g2 39 7).toInt)) ∧ ((g9 39 5).toInt = (g2 39 5).toInt) ∧ ((g9 39 6).toInt = (g2 39 6).toInt) ∧ ((g9 39 9).toInt = (g2 39 9).toInt) ∧ ((g9 39 10).toInt = (g2 39 10).toInt) ∧ ((g9 39 11).toInt = (g2 39 11).toInt) ∧ ((g9 39 12).toInt = (g2 39 12).toInt) ∧ ((g9 39 13).toInt = (g2 39 13).toInt) ∧ ((g9 39 14).toInt = (g2 39 14).toInt) ∧ ((g9 39 15).toInt = (g2 39 15).toInt) := p10_4
    clear p10_4
    have e44_g9 : g9 44 = h 44 := (p10_3 44 (by omega)).trans e44_g2
    have e9_g9 : (g9 39 9).toInt = (h 39 9).toInt := (by omega)
    (first | (replace o13 : (g9 39 7).toInt = mx (g2 39 7).toInt (r1 / 10).toInt ∧ ((g9 39 5).toInt = (g2 39 5).toInt) ∧ ((g9 39 6).toInt = (g2 39 6).toInt) ∧ ((g9 39 9).toInt = (g2 39 9).toInt) ∧ ((g9 39 10).toInt = (g2 39 10).toInt) ∧ ((g9 39 11).toInt = (g2 39 11).toInt) ∧ ((g9 39 12).toInt = (g2 39 12).toInt) ∧ ((g9 39 13).toInt = (g2 39 13).toInt) ∧ ((g9 39 14).toInt = (g2 39 14).toInt) ∧ ((g9 39 15).toInt = (g2 39 15).toInt) := ⟨o13.1.elim (fun z => z.2) (fun z => absurd (show (g2 39 14).toInt = 0 by omega) z.1), o13.2⟩) | (replace o13 : (g9 39 7).toInt = (g2 39 7).toInt ∧ ((g9 39 5).toInt = (g2 39 5).toInt) ∧ ((g9 39 6).toInt = (g2 39 6).toInt) ∧ ((g9 39 9).toInt = (g2 39 9).toInt) ∧ ((g9 39 10).toInt = (g2 39 10).toInt) ∧ ((g9 39 11).toInt = (g2 39 11).toInt) ∧ ((g9 39 12).toInt = (g2 39 12).toInt) ∧ ((g9 39 13).toInt = (g2 39 13).toInt) ∧ ((g9 39 14).toInt = (g2 39 14).toInt) ∧ ((g9 39 15).toInt = (g2 39 15).toInt) := ⟨o13.1.elim (fun z => absurd z.1 (show ¬ (g2 39 14).toInt = 0 by omega)) (fun z => z.2), o13.2⟩) | skip)
    (try rw [e44_g2] at o13); (try rw [e9_g2] at o13)
    show ¬ (10 : Int32) = 0 ∧ (qm_PW X 155 [.ref 39, .int (r1 - r1 / 10 * 10)] g9 _)
    refine ⟨by decide, ?_⟩
    refine tx_155 X g9 (r1 - r1 / 10 * 10) ⟨p10_0, p10_1⟩ _ (fun g14 p15 => ?_)
    obtain ⟨p15_0, p15_1, p15_2, p15_3, p15_4⟩ := p15
    have k16s : (g14 39 3 = h 39 3) := (p15_2).trans k11s
    have f17 : ∀ k, (k < 39 ∨ 39 < k) → g14 k = h k := fun k hk => (p15_3 k (by omega)).trans (f12 k hk)
    have o18 : (((g9 39 14).toInt = 0 ∧ (g14 39 7).toInt = mx (g9 39 7).toInt (r1 - r1 / 10 * 10).toInt) ∨ (¬ (g9 39 14).toInt = 0 ∧ (g14 39 7).toInt = (g9 39 7).toInt)) ∧ ((g14 39 5).toInt = (g9 39 5).toInt) ∧ ((g14 39 6).toInt = (g9 39 6).toInt) ∧ ((g14 39 9).toInt = (g9 39 9).toInt) ∧ ((g14 39 10).toInt = (g9 39 10).toInt) ∧ ((g14 39 11).toInt = (g9 39 11).toInt) ∧ ((g14 39 12).toInt = (g9 39 12).toInt) ∧ ((g14 39 13).toInt = (g9 39 13).toInt) ∧ ((g14 39 14).toInt = (g9 39 14).toInt) ∧ ((g14 39 15).toInt = (g9 39 15).toInt) := p15_4
    clear p15_4
    have e44_g14 : g14 44 = h 44 := (p15_3 44 (by omega)).trans e44_g9
    have e9_g14 : (g14 39 9).toInt = (h 39 9).toInt := (by omega)
    (first | (replace o18 : (g14 39 7).toInt = mx (g9 39 7).toInt (r1 - r1 / 10 * 10).toInt ∧ ((g14 39 5).toInt = (g9 39 5).toInt) ∧ ((g14 39 6).toInt = (g9 39 6).toInt) ∧ ((g14 39 9).toInt = (g9 39 9).toInt) ∧ ((g14 39 10).toInt = (g9 39 10).toInt) ∧ ((g14 39 11).toInt = (g9 39 11).toInt) ∧ ((g14 39 12).toInt = (g9 39 12).toInt) ∧ ((g14 39 13).toInt = (g9 39 13).toInt) ∧ ((g14 39 14).toInt = (g9 39 14).toInt) ∧ ((g14 39 15).toInt = (g9 39 15).toInt) := ⟨o18.1.elim (fun z => z.2) (fun z => absurd (show (g9 39 14).toInt = 0 by omega) z.1), o18.2⟩) | (replace o18 : (g14 39 7).toInt = (g9 39 7).toInt ∧ ((g14 39 5).toInt = (g9 39 5).toInt) ∧ ((g14 39 6).toInt = (g9 39 6).toInt) ∧ ((g14 39 9).toInt = (g9 39 9).toInt) ∧ ((g14 39 10).toInt = (g9 39 10).toInt) ∧ ((g14 39 11).toInt = (g9 39 11).toInt) ∧ ((g14 39 12).toInt = (g9 39 12).toInt) ∧ ((g14 39 13).toInt = (g9 39 13).toInt) ∧ ((g14 39 14).toInt = (g9 39 14).toInt) ∧ ((g14 39 15).toInt = (g9 39 15).toInt) := ⟨o18.1.elim (fun z => absurd z.1 (show ¬ (g9 39 14).toInt = 0 by omega)) (fun z => z.2), o18.2⟩) | skip)
    (try rw [e44_g9] at o18); (try rw [e9_g9] at o18)
    show qm_PW X 152 [.ref 39] g14 _
    refine tx_152 X g14  ⟨p15_0, p15_1, (by show bt (g14 44) (g14 39 9).toInt; rw [e44_g14, e9_g14]; exact hbt)⟩ _ (fun g19 p20 => ?_)
    obtain ⟨p20_0, p20_1, p20_2, p20_3, p20_4⟩ := p20
    have k21s : (g19 39 3 = h 39 3) := (p20_2).trans k16s
    have f22 : ∀ k, (k < 39 ∨ 39 < k) → g19 k = h k := fun k hk => (p20_3 k (by omega)).trans (f17 k hk)
    have o23 : nxQ (g14 44) (g14 39 9).toInt.toNat (g14 39 10).toInt.toNat (g14 39 14).toInt (g19 39 11).toInt (g19 39 12).toInt (g19 39 10).toInt (g19 39 13).toInt (g19 39 14).toInt (g19 39 15).toInt (g14 39 15).toInt ∧ ((g19 39 5).toInt = (g14 39 5).toInt) ∧ ((g19 39 6).toInt = (g14 39 6).toInt) ∧ ((g19 39 7).toInt = (g14 39 7).toInt) ∧ ((g19 39 9).toInt = (g14 39 9).toInt) ∧ ((g14 39 14).toInt ≤ (g19 39 14).toInt) := p20_4
    clear p20_4
    have e44_g19 : g19 44 = h 44 := (p20_3 44 (by omega)).trans e44_g14
    have e9_g19 : (g19 39 9).toInt = (h 39 9).toInt := (by omega)
    (try rw [e44_g14] at o23); (try rw [e9_g14] at o23)
    show Q (some (.int r1)) g19
    exact hq r1 g19 ⟨p20_0, p20_1, k21s, (fun k hk => f22 k hk), (by have : (39 : Int32).toInt = 39 := rfl; have : (0 : Int32).toInt = 0 := rfl; have := ti_div (10 : Int32) 10 rfl r1 (by decide); have := ti_rem (10 : Int32) 10 rfl r1 (by decide); show nbQ (h 44) (h 39 9).toInt.toNat (h 39 10).toInt.toNat (h 39 14).toInt (h 39 15).toInt (h 39 12).toInt (h 39 13).toInt (h 39 11).toInt (0 ≤ (h 39 13).toInt ∧ (h 39 13).toInt / 10 ≤ 3 ∧ (h 39 13).toInt % 10 ≤ 3 ∧ ¬ (h 39 13).toInt / 10 = (h 39 13).toInt % 10) ((g19 39 7).toInt = mx (mx (h 39 7).toInt ((h 39 13).toInt / 10)) ((h 39 13).toInt % 10)) r1.toInt (g19 39 11).toInt (g19 39 12).toInt (g19 39 10).toInt (g19 39 13).toInt (g19 39 14).toInt (g19 39 15).toInt ∧ (0 ≤ r1.toInt ∧ r1.toInt ≤ 39) ∧ (r1.toInt % 10 ≤ 3 + 10 * (g19 39 14).toInt) ∧ ((h 39 14).toInt ≤ (g19 39 14).toInt) ∧ ((g19 39 5).toInt = (h 39 5).toInt) ∧ ((g19 39 6).toInt = (h 39 6).toInt) ∧ ((g19 39 9).toInt = (h 39 9).toInt); exact ⟨nbQ_A o6.1 (by omega) o23.1 (by omega) (by omega) (by omega) (fun hc => ⟨by omega, by omega⟩), by omega, by omega, by omega, by omega⟩)⟩
  · have := ti_eqK 0 rfl c8
    refine ⟨by decide, ?_⟩
    refine ⟨fun c24 => ?_, fun c25 => ?_⟩
    · refine tx_147 X g2 (0 : Int32) (3 : Int32) ⟨p3_0, p3_1, (by have : (39 : Int32).toInt = 39 := rfl; have : (3 : Int32).toInt = 3 := rfl; have : (0 : Int32).toInt = 0 := rfl; have := ti_rem (10 : Int32) 10 rfl r1 (by decide); omega)⟩ _ (fun g26 p27 => ?_)
      obtain ⟨p27_0, p27_1, p27_2, p27_3, p27_4⟩ := p27
      have k28s : (g26 39 3 = h 39 3) := (p27_2).trans k4s
      have f29 : ∀ k, (k < 39 ∨ 39 < k) → g26 k = h k := fun k hk => (p27_3 k (by omega)).trans (f5 k hk)
      have o30 : ((((0 : Int32).toInt = 0 ∧ (g2 39 14).toInt = 0) ∧ (g26 39 14).toInt = (3 : Int32).toInt ∧ (g26 39 15).toInt = (g2 39 11).toInt) ∨ (¬ ((0 : Int32).toInt = 0 ∧ (g2 39 14).toInt = 0) ∧ (g26 39 14).toInt = (g2 39 14).toInt ∧ (g26 39 15).toInt = (g2 39 15).toInt)) ∧ ((g26 39 5).toInt = (g2 39 5).toInt) ∧ ((g26 39 6).toInt = (g2 39 6).toInt) ∧ ((g26 39 7).toInt = (g2 39 7).toInt) ∧ ((g26 39 9).toInt = (g2 39 9).toInt) ∧ ((g26 39 10).toInt = (g2 39 10).toInt) ∧ ((g26 39 11).toInt = (g2 39 11).toInt) ∧ ((g26 39 12).toInt = (g2 39 12).toInt) ∧ ((g26 39 13).toInt = (g2 39 13).toInt) := p27_4
      clear p27_4
      have e44_g26 : g26 44 = h 44 := (p27_3 44 (by omega)).trans e44_g2
      have e9_g26 : (g26 39 9).toInt = (h 39 9).toInt := (by omega)
      (first | (replace o30 : (g26 39 14).toInt = (3 : Int32).toInt ∧ (g26 39 15).toInt = (g2 39 11).toInt ∧ ((g26 39 5).toInt = (g2 39 5).toInt) ∧ ((g26 39 6).toInt = (g2 39 6).toInt) ∧ ((g26 39 7).toInt = (g2 39 7).toInt) ∧ ((g26 39 9).toInt = (g2 39 9).toInt) ∧ ((g26 39 10).toInt = (g2 39 10).toInt) ∧ ((g26 39 11).toInt = (g2 39 11).toInt) ∧ ((g26 39 12).toInt = (g2 39 12).toInt) ∧ ((g26 39 13).toInt = (g2 39 13).toInt) := ⟨(by have : (0 : Int32).toInt = 0 := rfl; omega), (by have : (0 : Int32).toInt = 0 := rfl; omega), o30.2⟩) | (replace o30 : (g26 39 14).toInt = (g2 39 14).toInt ∧ (g26 39 15).toInt = (g2 39 15).toInt ∧ ((g26 39 5).toInt = (g2 39 5).toInt) ∧ ((g26 39 6).toInt = (g2 39 6).toInt) ∧ ((g26 39 7).toInt = (g2 39 7).toInt) ∧ ((g26 39 9).toInt = (g2 39 9).toInt) ∧ ((g26 39 10).toInt = (g2 39 10).toInt) ∧ ((g26 39 11).toInt = (g2 39 11).toInt) ∧ ((g26 39 12).toInt = (g2 39 12).toInt) ∧ ((g26 39 13).toInt = (g2 39 13).toInt) := ⟨(by have : (1 : Int32).toInt = 1 := rfl; have : (0 : Int32).toInt = 0 := rfl; omega), (by have : (1 : Int32).toInt = 1 := rfl; have : (0 : Int32).toInt = 0 := rfl; omega), o30.2⟩) | skip)
      (try rw [e44_g2] at o30); (try rw [e9_g2] at o30)
      show ¬ (10 : Int32) = 0 ∧ (qm_PW X 155 [.ref 39, .int (r1 / 10)] g26 _)
      refine ⟨by decide, ?_⟩
      refine tx_155 X g26 (r1 / 10) ⟨p27_0, p27_1⟩ _ (fun g31 p32 => ?_)
      obtain ⟨p32_0, p32_1, p32_2, p32_3, p32_4⟩ := p32
      have k33s : (g31 39 3 = h 39 3) := (p32_2).trans k28s
      have f34 : ∀ k, (k < 39 ∨ 39 < k) → g31 k = h k := fun k hk => (p32_3 k (by omega)).trans (f29 k hk)
      have o35 : (((g26 39 14).toInt = 0 ∧ (g31 39 7).toInt = mx (g26 39 7).toInt (r1 / 10).toInt) ∨ (¬ (g26 39 14).toInt = 0 ∧ (g31 39 7).toInt = (g26 39 7).toInt)) ∧ ((g31 39 5).toInt = (g26 39 5).toInt) ∧ ((g31 39 6).toInt = (g26 39 6).toInt) ∧ ((g31 39 9).toInt = (g26 39 9).toInt) ∧ ((g31 39 10).toInt = (g26 39 10).toInt) ∧ ((g31 39 11).toInt = (g26 39 11).toInt) ∧ ((g31 39 12).toInt = (g26 39 12).toInt) ∧ ((g31 39 13).toInt = (g26 39 13).toInt) ∧ ((g31 39 14).toInt = (g26 39 14).toInt) ∧ ((g31 39 15).toInt = (g26 39 15).toInt) := p32_4
      clear p32_4
      have e44_g31 : g31 44 = h 44 := (p32_3 44 (by omega)).trans e44_g26
      have e9_g31 : (g31 39 9).toInt = (h 39 9).toInt := (by omega)
      (first | (replace o35 : (g31 39 7).toInt = mx (g26 39 7).toInt (r1 / 10).toInt ∧ ((g31 39 5).toInt = (g26 39 5).toInt) ∧ ((g31 39 6).toInt = (g26 39 6).toInt) ∧ ((g31 39 9).toInt = (g26 39 9).toInt) ∧ ((g31 39 10).toInt = (g26 39 10).toInt) ∧ ((g31 39 11).toInt = (g26 39 11).toInt) ∧ ((g31 39 12).toInt = (g26 39 12).toInt) ∧ ((g31 39 13).toInt = (g26 39 13).toInt) ∧ ((g31 39 14).toInt = (g26 39 14).toInt) ∧ ((g31 39 15).toInt = (g26 39 15).toInt) := ⟨o35.1.elim (fun z => z.2) (fun z => absurd (show (g26 39 14).toInt = 0 by omega) z.1), o35.2⟩) | (replace o35 : (g31 39 7).toInt = (g26 39 7).toInt ∧ ((g31 39 5).toInt = (g26 39 5).toInt) ∧ ((g31 39 6).toInt = (g26 39 6).toInt) ∧ ((g31 39 9).toInt = (g26 39 9).toInt) ∧ ((g31 39 10).toInt = (g26 39 10).toInt) ∧ ((g31 39 11).toInt = (g26 39 11).toInt) ∧ ((g31 39 12).toInt = (g26 39 12).toInt) ∧ ((g31 39 13).toInt = (g26 39 13).toInt) ∧ ((g31 39 14).toInt = (g26 39 14).toInt) ∧ ((g31 39 15).toInt = (g26 39 15).toInt) := ⟨o35.1.elim (fun z => absurd z.1 (show ¬ (g26 39 14).toInt = 0 by omega)) (fun z => z.2), o35.2⟩) | skip)
      (try rw [e44_g26] at o35); (try rw [e9_g26] at o35)
      show ¬ (10 : Int32) = 0 ∧ (qm_PW X 155 [.ref 39, .int (r1 - r1 / 10 * 10)] g31 _)
      refine ⟨by decide, ?_⟩
      refine tx_155 X g31 (r1 - r1 / 10 * 10) ⟨p32_0, p32_1⟩ _ (fun g36 p37 => ?_)
      obtain ⟨p37_0, p37_1, p37_2, p37_3, p37_4⟩ := p37
      have k38s : (g36 39 3 = h 39 3) := (p37_2).trans k33s
      have f39 : ∀ k, (k < 39 ∨ 39 < k) → g36 k = h k := fun k hk => (p37_3 k (by omega)).trans (f34 k hk)
      have o40 : (((g31 39 14).toInt = 0 ∧ (g36 39 7).toInt = mx (g31 39 7).toInt (r1 - r1 / 10 * 10).toInt) ∨ (¬ (g31 39 14).toInt = 0 ∧ (g36 39 7).toInt = (g31 39 7).toInt)) ∧ ((g36 39 5).toInt = (g31 39 5).toInt) ∧ ((g36 39 6).toInt = (g31 39 6).toInt) ∧ ((g36 39 9).toInt = (g31 39 9).toInt) ∧ ((g36 39 10).toInt = (g31 39 10).toInt) ∧ ((g36 39 11).toInt = (g31 39 11).toInt) ∧ ((g36 39 12).toInt = (g31 39 12).toInt) ∧ ((g36 39 13).toInt = (g31 39 13).toInt) ∧ ((g36 39 14).toInt = (g31 39 14).toInt) ∧ ((g36 39 15).toInt = (g31 39 15).toInt) := p37_4
      clear p37_4
      have e44_g36 : g36 44 = h 44 := (p37_3 44 (by omega)).trans e44_g31
      have e9_g36 : (g36 39 9).toInt = (h 39 9).toInt := (by omega)
      (first | (replace o40 : (g36 39 7).toInt = mx (g31 39 7).toInt (r1 - r1 / 10 * 10).toInt ∧ ((g36 39 5).toInt = (g31 39 5).toInt) ∧ ((g36 39 6).toInt = (g31 39 6).toInt) ∧ ((g36 39 9).toInt = (g31 39 9).toInt) ∧ ((g36 39 10).toInt = (g31 39 10).toInt) ∧ ((g36 39 11).toInt = (g31 39 11).toInt) ∧ ((g36 39 12).toInt = (g31 39 12).toInt) ∧ ((g36 39 13).toInt = (g31 39 13).toInt) ∧ ((g36 39 14).toInt = (g31 39 14).toInt) ∧ ((g36 39 15).toInt = (g31 39 15).toInt) := ⟨o40.1.elim (fun z => z.2) (fun z => absurd (show (g31 39 14).toInt = 0 by omega) z.1), o40.2⟩) | (replace o40 : (g36 39 7).toInt = (g31 39 7).toInt ∧ ((g36 39 5).toInt = (g31 39 5).toInt) ∧ ((g36 39 6).toInt = (g31 39 6).toInt) ∧ ((g36 39 9).toInt = (g31 39 9).toInt) ∧ ((g36 39 10).toInt = (g31 39 10).toInt) ∧ ((g36 39 11).toInt = (g31 39 11).toInt) ∧ ((g36 39 12).toInt = (g31 39 12).toInt) ∧ ((g36 39 13).toInt = (g31 39 13).toInt) ∧ ((g36 39 14).toInt = (g31 39 14).toInt) ∧ ((g36 39 15).toInt = (g31 39 15).toInt) := ⟨o40.1.elim (fun z => absurd z.1 (show ¬ (g31 39 14).toInt = 0 by omega)) (fun z => z.2), o40.2⟩) | skip)
      (try rw [e44_g31] at o40); (try rw [e9_g31] at o40)
      show qm_PW X 152 [.ref 39] g36 _
      refine tx_152 X g36  ⟨p37_0, p37_1, (by show bt (g36 44) (g36 39 9).toInt; rw [e44_g36, e9_g36]; exact hbt)⟩ _ (fun g41 p42 => ?_)
      obtain ⟨p42_0, p42_1, p42_2, p42_3, p42_4⟩ := p42
      have k43s : (g41 39 3 = h 39 3) := (p42_2).trans k38s
      have f44 : ∀ k, (k < 39 ∨ 39 < k) → g41 k = h k := fun k hk => (p42_3 k (by omega)).trans (f39 k hk)
      have o45 : nxQ (g36 44) (g36 39 9).toInt.toNat (g36 39 10).toInt.toNat (g36 39 14).toInt (g41 39 11).toInt (g41 39 12).toInt (g41 39 10).toInt (g41 39 13).toInt (g41 39 14).toInt (g41 39 15).toInt (g36 39 15).toInt ∧ ((g41 39 5).toInt = (g36 39 5).toInt) ∧ ((g41 39 6).toInt = (g36 39 6).toInt) ∧ ((g41 39 7).toInt = (g36 39 7).toInt) ∧ ((g41 39 9).toInt = (g36 39 9).toInt) ∧ ((g36 39 14).toInt ≤ (g41 39 14).toInt) := p42_4
      clear p42_4
      have e44_g41 : g41 44 = h 44 := (p42_3 44 (by omega)).trans e44_g36
      have e9_g41 : (g41 39 9).toInt = (h 39 9).toInt := (by omega)
      (try rw [e44_g36] at o45); (try rw [e9_g36] at o45)
      show Q (some (.int r1)) g41
      exact hq r1 g41 ⟨p42_0, p42_1, k43s, (fun k hk => f44 k hk), (by have : (39 : Int32).toInt = 39 := rfl; have : (3 : Int32).toInt = 3 := rfl; have : (0 : Int32).toInt = 0 := rfl; have := ti_rem (10 : Int32) 10 rfl r1 (by decide); have := ti_div (10 : Int32) 10 rfl r1 (by decide); show nbQ (h 44) (h 39 9).toInt.toNat (h 39 10).toInt.toNat (h 39 14).toInt (h 39 15).toInt (h 39 12).toInt (h 39 13).toInt (h 39 11).toInt (0 ≤ (h 39 13).toInt ∧ (h 39 13).toInt / 10 ≤ 3 ∧ (h 39 13).toInt % 10 ≤ 3 ∧ ¬ (h 39 13).toInt / 10 = (h 39 13).toInt % 10) ((g41 39 7).toInt = mx (mx (h 39 7).toInt ((h 39 13).toInt / 10)) ((h 39 13).toInt % 10)) r1.toInt (g41 39 11).toInt (g41 39 12).toInt (g41 39 10).toInt (g41 39 13).toInt (g41 39 14).toInt (g41 39 15).toInt ∧ (0 ≤ r1.toInt ∧ r1.toInt ≤ 39) ∧ (r1.toInt % 10 ≤ 3 + 10 * (g41 39 14).toInt) ∧ ((h 39 14).toInt ≤ (g41 39 14).toInt) ∧ ((g41 39 5).toInt = (h 39 5).toInt) ∧ ((g41 39 6).toInt = (h 39 6).toInt) ∧ ((g41 39 9).toInt = (h 39 9).toInt); exact ⟨nbQ_B o6.1 (by omega) o45.1 (by omega) (by omega) (by omega) (fun hr hc => by omega), by omega, by omega, by omega, by omega⟩)⟩
    · refine ⟨by decide, ?_⟩
      refine ⟨by decide, ?_⟩
      refine ⟨fun c46 => ?_, fun c47 => ?_⟩
      · have : (r1 / 10).toInt = (r1 - r1 / 10 * 10).toInt := congrArg Int32.toInt c46
        refine tx_147 X g2 (0 : Int32) (3 : Int32) ⟨p3_0, p3_1, (by have : (39 : Int32).toInt = 39 := rfl; have : (3 : Int32).toInt = 3 := rfl; have : (0 : Int32).toInt = 0 := rfl; have := ti_rem (10 : Int32) 10 rfl r1 (by decide); have := ti_div (10 : Int32) 10 rfl r1 (by decide); omega)⟩ _ (fun g48 p49 => ?_)
        obtain ⟨p49_0, p49_1, p49_2, p49_3, p49_4⟩ := p49
        have k50s : (g48 39 3 = h 39 3) := (p49_2).trans k4s
        have f51 : ∀ k, (k < 39 ∨ 39 < k) → g48 k = h k := fun k hk => (p49_3 k (by omega)).trans (f5 k hk)
        have o52 : ((((0 : Int32).toInt = 0 ∧ (g2 39 14).toInt = 0) ∧ (g48 39 14).toInt = (3 : Int32).toInt ∧ (g48 39 15).toInt = (g2 39 11).toInt) ∨ (¬ ((0 : Int32).toInt = 0 ∧ (g2 39 14).toInt = 0) ∧ (g48 39 14).toInt = (g2 39 14).toInt ∧ (g48 39 15).toInt = (g2 39 15).toInt)) ∧ ((g48 39 5).toInt = (g2 39 5).toInt) ∧ ((g48 39 6).toInt = (g2 39 6).toInt) ∧ ((g48 39 7).toInt = (g2 39 7).toInt) ∧ ((g48 39 9).toInt = (g2 39 9).toInt) ∧ ((g48 39 10).toInt = (g2 39 10).toInt) ∧ ((g48 39 11).toInt = (g2 39 11).toInt) ∧ ((g48 39 12).toInt = (g2 39 12).toInt) ∧ ((g48 39 13).toInt = (g2 39 13).toInt) := p49_4
        clear p49_4
        have e44_g48 : g48 44 = h 44 := (p49_3 44 (by omega)).trans e44_g2
        have e9_g48 : (g48 39 9).toInt = (h 39 9).toInt := (by omega)
        (first | (replace o52 : (g48 39 14).toInt = (3 : Int32).toInt ∧ (g48 39 15).toInt = (g2 39 11).toInt ∧ ((g48 39 5).toInt = (g2 39 5).toInt) ∧ ((g48 39 6).toInt = (g2 39 6).toInt) ∧ ((g48 39 7).toInt = (g2 39 7).toInt) ∧ ((g48 39 9).toInt = (g2 39 9).toInt) ∧ ((g48 39 10).toInt = (g2 39 10).toInt) ∧ ((g48 39 11).toInt = (g2 39 11).toInt) ∧ ((g48 39 12).toInt = (g2 39 12).toInt) ∧ ((g48 39 13).toInt = (g2 39 13).toInt) := ⟨(by have : (0 : Int32).toInt = 0 := rfl; omega), (by have : (0 : Int32).toInt = 0 := rfl; omega), o52.2⟩) | (replace o52 : (g48 39 14).toInt = (g2 39 14).toInt ∧ (g48 39 15).toInt = (g2 39 15).toInt ∧ ((g48 39 5).toInt = (g2 39 5).toInt) ∧ ((g48 39 6).toInt = (g2 39 6).toInt) ∧ ((g48 39 7).toInt = (g2 39 7).toInt) ∧ ((g48 39 9).toInt = (g2 39 9).toInt) ∧ ((g48 39 10).toInt = (g2 39 10).toInt) ∧ ((g48 39 11).toInt = (g2 39 11).toInt) ∧ ((g48 39 12).toInt = (g2 39 12).toInt) ∧ ((g48 39 13).toInt = (g2 39 13).toInt) := ⟨(by have : (1 : Int32).toInt = 1 := rfl; have : (0 : Int32).toInt = 0 := rfl; omega), (by have : (1 : Int32).toInt = 1 := rfl; have : (0 : Int32).toInt = 0 := rfl; omega), o52.2⟩) | skip)
        (try rw [e44_g2] at o52); (try rw [e9_g2] at o52)
        show ¬ (10 : Int32) = 0 ∧ (qm_PW X 155 [.ref 39, .int (r1 / 10)] g48 _)
        refine ⟨by decide, ?_⟩
        refine tx_155 X g48 (r1 / 10) ⟨p49_0, p49_1⟩ _ (fun g53 p54 => ?_)
        obtain ⟨p54_0, p54_1, p54_2, p54_3, p54_4⟩ := p54
        have k55s : (g53 39 3 = h 39 3) := (p54_2).trans k50s
        have f56 : ∀ k, (k < 39 ∨ 39 < k) → g53 k = h k := fun k hk => (p54_3 k (by omega)).trans (f51 k hk)
        have o57 : (((g48 39 14).toInt = 0 ∧ (g53 39 7).toInt = mx (g48 39 7).toInt (r1 / 10).toInt) ∨ (¬ (g48 39 14).toInt = 0 ∧ (g53 39 7).toInt = (g48 39 7).toInt)) ∧ ((g53 39 5).toInt = (g48 39 5).toInt) ∧ ((g53 39 6).toInt = (g48 39 6).toInt) ∧ ((g53 39 9).toInt = (g48 39 9).toInt) ∧ ((g53 39 10).toInt = (g48 39 10).toInt) ∧ ((g53 39 11).toInt = (g48 39 11).toInt) ∧ ((g53 39 12).toInt = (g48 39 12).toInt) ∧ ((g53 39 13).toInt = (g48 39 13).toInt) ∧ ((g53 39 14).toInt = (g48 39 14).toInt) ∧ ((g53 39 15).toInt = (g48 39 15).toInt) := p54_4
        clear p54_4
        have e44_g53 : g53 44 = h 44 := (p54_3 44 (by omega)).trans e44_g48
        have e9_g53 : (g53 39 9).toInt = (h 39 9).toInt := (by omega)
        (first | (replace o57 : (g53 39 7).toInt = mx (g48 39 7).toInt (r1 / 10).toInt ∧ ((g53 39 5).toInt = (g48 39 5).toInt) ∧ ((g53 39 6).toInt = (g48 39 6).toInt) ∧ ((g53 39 9).toInt = (g48 39 9).toInt) ∧ ((g53 39 10).toInt = (g48 39 10).toInt) ∧ ((g53 39 11).toInt = (g48 39 11).toInt) ∧ ((g53 39 12).toInt = (g48 39 12).toInt) ∧ ((g53 39 13).toInt = (g48 39 13).toInt) ∧ ((g53 39 14).toInt = (g48 39 14).toInt) ∧ ((g53 39 15).toInt = (g48 39 15).toInt) := ⟨o57.1.elim (fun z => z.2) (fun z => absurd (show (g48 39 14).toInt = 0 by omega) z.1), o57.2⟩) | (replace o57 : (g53 39 7).toInt = (g48 39 7).toInt ∧ ((g53 39 5).toInt = (g48 39 5).toInt) ∧ ((g53 39 6).toInt = (g48 39 6).toInt) ∧ ((g53 39 9).toInt = (g48 39 9).toInt) ∧ ((g53 39 10).toInt = (g48 39 10).toInt) ∧ ((g53 39 11).toInt = (g48 39 11).toInt) ∧ ((g53 39 12).toInt = (g48 39 12).toInt) ∧ ((g53 39 13).toInt = (g48 39 13).toInt) ∧ ((g53 39 14).toInt = (g48 39 14).toInt) ∧ ((g53 39 15).toInt = (g48 39 15).toInt) := ⟨o57.1.elim (fun z => absurd z.1 (show ¬ (g48 39 14).toInt = 0 by omega)) (fun z => z.2), o57.2⟩) | skip)
        (try rw [e44_g48] at o57); (try rw [e9_g48] at o57)
        show ¬ (10 : Int32) = 0 ∧ (qm_PW X 155 [.ref 39, .int (r1 - r1 / 10 * 10)] g53 _)
        refine ⟨by decide, ?_⟩
        refine tx_155 X g53 (r1 - r1 / 10 * 10) ⟨p54_0, p54_1⟩ _ (fun g58 p59 => ?_)
        obtain ⟨p59_0, p59_1, p59_2, p59_3, p59_4⟩ := p59
        have k60s : (g58 39 3 = h 39 3) := (p59_2).trans k55s
        have f61 : ∀ k, (k < 39 ∨ 39 < k) → g58 k = h k := fun k hk => (p59_3 k (by omega)).trans (f56 k hk)
        have o62 : (((g53 39 14).toInt = 0 ∧ (g58 39 7).toInt = mx (g53 39 7).toInt (r1 - r1 / 10 * 10).toInt) ∨ (¬ (g53 39 14).toInt = 0 ∧ (g58 39 7).toInt = (g53 39 7).toInt)) ∧ ((g58 39 5).toInt = (g53 39 5).toInt) ∧ ((g58 39 6).toInt = (g53 39 6).toInt) ∧ ((g58 39 9).toInt = (g53 39 9).toInt) ∧ ((g58 39 10).toInt = (g53 39 10).toInt) ∧ ((g58 39 11).toInt = (g53 39 11).toInt) ∧ ((g58 39 12).toInt = (g53 39 12).toInt) ∧ ((g58 39 13).toInt = (g53 39 13).toInt) ∧ ((g58 39 14).toInt = (g53 39 14).toInt) ∧ ((g58 39 15).toInt = (g53 39 15).toInt) := p59_4
        clear p59_4
        have e44_g58 : g58 44 = h 44 := (p59_3 44 (by omega)).trans e44_g53
        have e9_g58 : (g58 39 9).toInt = (h 39 9).toInt := (by omega)
        (first | (replace o62 : (g58 39 7).toInt = mx (g53 39 7).toInt (r1 - r1 / 10 * 10).toInt ∧ ((g58 39 5).toInt = (g53 39 5).toInt) ∧ ((g58 39 6).toInt = (g53 39 6).toInt) ∧ ((g58 39 9).toInt = (g53 39 9).toInt) ∧ ((g58 39 10).toInt = (g53 39 10).toInt) ∧ ((g58 39 11).toInt = (g53 39 11).toInt) ∧ ((g58 39 12).toInt = (g53 39 12).toInt) ∧ ((g58 39 13).toInt = (g53 39 13).toInt) ∧ ((g58 39 14).toInt = (g53 39 14).toInt) ∧ ((g58 39 15).toInt = (g53 39 15).toInt) := ⟨o62.1.elim (fun z => z.2) (fun z => absurd (show (g53 39 14).toInt = 0 by omega) z.1), o62.2⟩) | (replace o62 : (g58 39 7).toInt = (g53 39 7).toInt ∧ ((g58 39 5).toInt = (g53 39 5).toInt) ∧ ((g58 39 6).toInt = (g53 39 6).toInt) ∧ ((g58 39 9).toInt = (g53 39 9).toInt) ∧ ((g58 39 10).toInt = (g53 39 10).toInt) ∧ ((g58 39 11).toInt = (g53 39 11).toInt) ∧ ((g58 39 12).toInt = (g53 39 12).toInt) ∧ ((g58 39 13).toInt = (g53 39 13).toInt) ∧ ((g58 39 14).toInt = (g53 39 14).toInt) ∧ ((g58 39 15).toInt = (g53 39 15).toInt) := ⟨o62.1.elim (fun z => absurd z.1 (show ¬ (g53 39 14).toInt = 0 by omega)) (fun z => z.2), o62.2⟩) | skip)
        (try rw [e44_g53] at o62); (try rw [e9_g53] at o62)
        show qm_PW X 152 [.ref 39] g58 _
        refine tx_152 X g58  ⟨p59_0, p59_1, (by show bt (g58 44) (g58 39 9).toInt; rw [e44_g58, e9_g58]; exact hbt)⟩ _ (fun g63 p64 => ?_)
        obtain ⟨p64_0, p64_1, p64_2, p64_3, p64_4⟩ := p64
        have k65s : (g63 39 3 = h 39 3) := (p64_2).trans k60s
        have f66 : ∀ k, (k < 39 ∨ 39 < k) → g63 k = h k := fun k hk => (p64_3 k (by omega)).trans (f61 k hk)
        have o67 : nxQ (g58 44) (g58 39 9).toInt.toNat (g58 39 10).toInt.toNat (g58 39 14).toInt (g63 39 11).toInt (g63 39 12).toInt (g63 39 10).toInt (g63 39 13).toInt (g63 39 14).toInt (g63 39 15).toInt (g58 39 15).toInt ∧ ((g63 39 5).toInt = (g58 39 5).toInt) ∧ ((g63 39 6).toInt = (g58 39 6).toInt) ∧ ((g63 39 7).toInt = (g58 39 7).toInt) ∧ ((g63 39 9).toInt = (g58 39 9).toInt) ∧ ((g58 39 14).toInt ≤ (g63 39 14).toInt) := p64_4
        clear p64_4
        have e44_g63 : g63 44 = h 44 := (p64_3 44 (by omega)).trans e44_g58
        have e9_g63 : (g63 39 9).toInt = (h 39 9).toInt := (by omega)
        (try rw [e44_g58] at o67); (try rw [e9_g58] at o67)
        show Q (some (.int r1)) g63
        exact hq r1 g63 ⟨p64_0, p64_1, k65s, (fun k hk => f66 k hk), (by have : (39 : Int32).toInt = 39 := rfl; have : (3 : Int32).toInt = 3 := rfl; have : (0 : Int32).toInt = 0 := rfl; have := ti_rem (10 : Int32) 10 rfl r1 (by decide); have := ti_div (10 : Int32) 10 rfl r1 (by decide); show nbQ (h 44) (h 39 9).toInt.toNat (h 39 10).toInt.toNat (h 39 14).toInt (h 39 15).toInt (h 39 12).toInt (h 39 13).toInt (h 39 11).toInt (0 ≤ (h 39 13).toInt ∧ (h 39 13).toInt / 10 ≤ 3 ∧ (h 39 13).toInt % 10 ≤ 3 ∧ ¬ (h 39 13).toInt / 10 = (h 39 13).toInt % 10) ((g63 39 7).toInt = mx (mx (h 39 7).toInt ((h 39 13).toInt / 10)) ((h 39 13).toInt % 10)) r1.toInt (g63 39 11).toInt (g63 39 12).toInt (g63 39 10).toInt (g63 39 13).toInt (g63 39 14).toInt (g63 39 15).toInt ∧ (0 ≤ r1.toInt ∧ r1.toInt ≤ 39) ∧ (r1.toInt % 10 ≤ 3 + 10 * (g63 39 14).toInt) ∧ ((h 39 14).toInt ≤ (g63 39 14).toInt) ∧ ((g63 39 5).toInt = (h 39 5).toInt) ∧ ((g63 39 6).toInt = (h 39 6).toInt) ∧ ((g63 39 9).toInt = (h 39 9).toInt); exact ⟨nbQ_B o6.1 (by omega) o67.1 (by omega) (by omega) (by omega) (fun hr hc => by omega), by omega, by omega, by omega, by omega⟩)⟩
      · have : ¬ (r1 / 10).toInt = (r1 - r1 / 10 * 10).toInt := fun q => c47 (Int32.toInt_inj.mp q)
        refine tx_147 X g2 (1 : Int32) (3 : Int32) ⟨p3_0, p3_1, (by have : (39 : Int32).toInt = 39 := rfl; have : (3 : Int32).toInt = 3 := rfl; have : (0 : Int32).toInt = 0 := rfl; have := ti_rem (10 : Int32) 10 rfl r1 (by decide); have := ti_div (10 : Int32) 10 rfl r1 (by decide); omega)⟩ _ (fun g68 p69 => ?_)
        obtain ⟨p69_0, p69_1, p69_2, p69_3, p69_4⟩ := p69
        have k70s : (g68 39 3 = h 39 3) := (p69_2).trans k4s
        have f71 : ∀ k, (k < 39 ∨ 39 < k) → g68 k = h k := fun k hk => (p69_3 k (by omega)).trans (f5 k hk)
        have o72 : ((((1 : Int32).toInt = 0 ∧ (g2 39 14).toInt = 0) ∧ (g68 39 14).toInt = (3 : Int32).toInt ∧ (g68 39 15).toInt = (g2 39 11).toInt) ∨ (¬ ((1 : Int32).toInt = 0 ∧ (g2 39 14).toInt = 0) ∧ (g68 39 14).toInt = (g2 39 14).toInt ∧ (g68 39 15).toInt = (g2 39 15).toInt)) ∧ ((g68 39 5).toInt = (g2 39 5).toInt) ∧ ((g68 39 6).toInt = (g2 39 6).toInt) ∧ ((g68 39 7).toInt = (g2 39 7).toInt) ∧ ((g68 39 9).toInt = (g2 39 9).toInt) ∧ ((g68 39 10).toInt = (g2 39 10).toInt) ∧ ((g68 39 11).toInt = (g2 39 11).toInt) ∧ ((g68 39 12).toInt = (g2 39 12).toInt) ∧ ((g68 39 13).toInt = (g2 39 13).toInt) := p69_4
        clear p69_4
        have e44_g68 : g68 44 = h 44 := (p69_3 44 (by omega)).trans e44_g2
        have e9_g68 : (g68 39 9).toInt = (h 39 9).toInt := (by omega)
        replace o72 : (g68 39 14).toInt = (g2 39 14).toInt ∧ (g68 39 15).toInt = (g2 39 15).toInt ∧ ((g68 39 5).toInt = (g2 39 5).toInt) ∧ ((g68 39 6).toInt = (g2 39 6).toInt) ∧ ((g68 39 7).toInt = (g2 39 7).toInt) ∧ ((g68 39 9).toInt = (g2 39 9).toInt) ∧ ((g68 39 10).toInt = (g2 39 10).toInt) ∧ ((g68 39 11).toInt = (g2 39 11).toInt) ∧ ((g68 39 12).toInt = (g2 39 12).toInt) ∧ ((g68 39 13).toInt = (g2 39 13).toInt) := ⟨(by have : (1 : Int32).toInt = 1 := rfl; have : (0 : Int32).toInt = 0 := rfl; omega), (by have : (1 : Int32).toInt = 1 := rfl; have : (0 : Int32).toInt = 0 := rfl; omega), o72.2⟩
        (try rw [e44_g2] at o72); (try rw [e9_g2] at o72)
        show ¬ (10 : Int32) = 0 ∧ (qm_PW X 155 [.ref 39, .int (r1 / 10)] g68 _)
        refine ⟨by decide, ?_⟩
        refine tx_155 X g68 (r1 / 10) ⟨p69_0, p69_1⟩ _ (fun g73 p74 => ?_)
        obtain ⟨p74_0, p74_1, p74_2, p74_3, p74_4⟩ := p74
        have k75s : (g73 39 3 = h 39 3) := (p74_2).trans k70s
        have f76 : ∀ k, (k < 39 ∨ 39 < k) → g73 k = h k := fun k hk => (p74_3 k (by omega)).trans (f71 k hk)
        have o77 : (((g68 39 14).toInt = 0 ∧ (g73 39 7).toInt = mx (g68 39 7).toInt (r1 / 10).toInt) ∨ (¬ (g68 39 14).toInt = 0 ∧ (g73 39 7).toInt = (g68 39 7).toInt)) ∧ ((g73 39 5).toInt = (g68 39 5).toInt) ∧ ((g73 39 6).toInt = (g68 39 6).toInt) ∧ ((g73 39 9).toInt = (g68 39 9).toInt) ∧ ((g73 39 10).toInt = (g68 39 10).toInt) ∧ ((g73 39 11).toInt = (g68 39 11).toInt) ∧ ((g73 39 12).toInt = (g68 39 12).toInt) ∧ ((g73 39 13).toInt = (g68 39 13).toInt) ∧ ((g73 39 14).toInt = (g68 39 14).toInt) ∧ ((g73 39 15).toInt = (g68 39 15).toInt) := p74_4
        clear p74_4
        have e44_g73 : g73 44 = h 44 := (p74_3 44 (by omega)).trans e44_g68
        have e9_g73 : (g73 39 9).toInt = (h 39 9).toInt := (by omega)
        (first | (replace o77 : (g73 39 7).toInt = mx (g68 39 7).toInt (r1 / 10).toInt ∧ ((g73 39 5).toInt = (g68 39 5).toInt) ∧ ((g73 39 6).toInt = (g68 39 6).toInt) ∧ ((g73 39 9).toInt = (g68 39 9).toInt) ∧ ((g73 39 10).toInt = (g68 39 10).toInt) ∧ ((g73 39 11).toInt = (g68 39 11).toInt) ∧ ((g73 39 12).toInt = (g68 39 12).toInt) ∧ ((g73 39 13).toInt = (g68 39 13).toInt) ∧ ((g73 39 14).toInt = (g68 39 14).toInt) ∧ ((g73 39 15).toInt = (g68 39 15).toInt) := ⟨o77.1.elim (fun z => z.2) (fun z => absurd (show (g68 39 14).toInt = 0 by omega) z.1), o77.2⟩) | (replace o77 : (g73 39 7).toInt = (g68 39 7).toInt ∧ ((g73 39 5).toInt = (g68 39 5).toInt) ∧ ((g73 39 6).toInt = (g68 39 6).toInt) ∧ ((g73 39 9).toInt = (g68 39 9).toInt) ∧ ((g73 39 10).toInt = (g68 39 10).toInt) ∧ ((g73 39 11).toInt = (g68 39 11).toInt) ∧ ((g73 39 12).toInt = (g68 39 12).toInt) ∧ ((g73 39 13).toInt = (g68 39 13).toInt) ∧ ((g73 39 14).toInt = (g68 39 14).toInt) ∧ ((g73 39 15).toInt = (g68 39 15).toInt) := ⟨o77.1.elim (fun z => absurd z.1 (show ¬ (g68 39 14).toInt = 0 by omega)) (fun z => z.2), o77.2⟩) | skip)
        (try rw [e44_g68] at o77); (try rw [e9_g68] at o77)
        show ¬ (10 : Int32) = 0 ∧ (qm_PW X 155 [.ref 39, .int (r1 - r1 / 10 * 10)] g73 _)
        refine ⟨by decide, ?_⟩
        refine tx_155 X g73 (r1 - r1 / 10 * 10) ⟨p74_0, p74_1⟩ _ (fun g78 p79 => ?_)
        obtain ⟨p79_0, p79_1, p79_2, p79_3, p79_4⟩ := p79
        have k80s : (g78 39 3 = h 39 3) := (p79_2).trans k75s
        have f81 : ∀ k, (k < 39 ∨ 39 < k) → g78 k = h k := fun k hk => (p79_3 k (by omega)).trans (f76 k hk)
        have o82 : (((g73 39 14).toInt = 0 ∧ (g78 39 7).toInt = mx (g73 39 7).toInt (r1 - r1 / 10 * 10).toInt) ∨ (¬ (g73 39 14).toInt = 0 ∧ (g78 39 7).toInt = (g73 39 7).toInt)) ∧ ((g78 39 5).toInt = (g73 39 5).toInt) ∧ ((g78 39 6).toInt = (g73 39 6).toInt) ∧ ((g78 39 9).toInt = (g73 39 9).toInt) ∧ ((g78 39 10).toInt = (g73 39 10).toInt) ∧ ((g78 39 11).toInt = (g73 39 11).toInt) ∧ ((g78 39 12).toInt = (g73 39 12).toInt) ∧ ((g78 39 13).toInt = (g73 39 13).toInt) ∧ ((g78 39 14).toInt = (g73 39 14).toInt) ∧ ((g78 39 15).toInt = (g73 39 15).toInt) := p79_4
        clear p79_4
        have e44_g78 : g78 44 = h 44 := (p79_3 44 (by omega)).trans e44_g73
        have e9_g78 : (g78 39 9).toInt = (h 39 9).toInt := (by omega)
        (first | (replace o82 : (g78 39 7).toInt = mx (g73 39 7).toInt (r1 - r1 / 10 * 10).toInt ∧ ((g78 39 5).toInt = (g73 39 5).toInt) ∧ ((g78 39 6).toInt = (g73 39 6).toInt) ∧ ((g78 39 9).toInt = (g73 39 9).toInt) ∧ ((g78 39 10).toInt = (g73 39 10).toInt) ∧ ((g78 39 11).toInt = (g73 39 11).toInt) ∧ ((g78 39 12).toInt = (g73 39 12).toInt) ∧ ((g78 39 13).toInt = (g73 39 13).toInt) ∧ ((g78 39 14).toInt = (g73 39 14).toInt) ∧ ((g78 39 15).toInt = (g73 39 15).toInt) := ⟨o82.1.elim (fun z => z.2) (fun z => absurd (show (g73 39 14).toInt = 0 by omega) z.1), o82.2⟩) | (replace o82 : (g78 39 7).toInt = (g73 39 7).toInt ∧ ((g78 39 5).toInt = (g73 39 5).toInt) ∧ ((g78 39 6).toInt = (g73 39 6).toInt) ∧ ((g78 39 9).toInt = (g73 39 9).toInt) ∧ ((g78 39 10).toInt = (g73 39 10).toInt) ∧ ((g78 39 11).toInt = (g73 39 11).toInt) ∧ ((g78 39 12).toInt = (g73 39 12).toInt) ∧ ((g78 39 13).toInt = (g73 39 13).toInt) ∧ ((g78 39 14).toInt = (g73 39 14).toInt) ∧ ((g78 39 15).toInt = (g73 39 15).toInt) := ⟨o82.1.elim (fun z => absurd z.1 (show ¬ (g73 39 14).toInt = 0 by omega)) (fun z => z.2), o82.2⟩) | skip)
        (try rw [e44_g73] at o82); (try rw [e9_g73] at o82)
        show qm_PW X 152 [.ref 39] g78 _
        refine tx_152 X g78  ⟨p79_0, p79_1, (by show bt (g78 44) (g78 39 9).toInt; rw [e44_g78, e9_g78]; exact hbt)⟩ _ (fun g83 p84 => ?_)
        obtain ⟨p84_0, p84_1, p84_2, p84_3, p84_4⟩ := p84
        have k85s : (g83 39 3 = h 39 3) := (p84_2).trans k80s
        have f86 : ∀ k, (k < 39 ∨ 39 < k) → g83 k = h k := fun k hk => (p84_3 k (by omega)).trans (f81 k hk)
        have o87 : nxQ (g78 44) (g78 39 9).toInt.toNat (g78 39 10).toInt.toNat (g78 39 14).toInt (g83 39 11).toInt (g83 39 12).toInt (g83 39 10).toInt (g83 39 13).toInt (g83 39 14).toInt (g83 39 15).toInt (g78 39 15).toInt ∧ ((g83 39 5).toInt = (g78 39 5).toInt) ∧ ((g83 39 6).toInt = (g78 39 6).toInt) ∧ ((g83 39 7).toInt = (g78 39 7).toInt) ∧ ((g83 39 9).toInt = (g78 39 9).toInt) ∧ ((g78 39 14).toInt ≤ (g83 39 14).toInt) := p84_4
        clear p84_4
        have e44_g83 : g83 44 = h 44 := (p84_3 44 (by omega)).trans e44_g78
        have e9_g83 : (g83 39 9).toInt = (h 39 9).toInt := (by omega)
        (try rw [e44_g78] at o87); (try rw [e9_g78] at o87)
        show Q (some (.int r1)) g83
        exact hq r1 g83 ⟨p84_0, p84_1, k85s, (fun k hk => f86 k hk), (by have : (39 : Int32).toInt = 39 := rfl; have : (3 : Int32).toInt = 3 := rfl; have : (1 : Int32).toInt = 1 := rfl; have : (0 : Int32).toInt = 0 := rfl; have := ti_rem (10 : Int32) 10 rfl r1 (by decide); have := ti_div (10 : Int32) 10 rfl r1 (by decide); show nbQ (h 44) (h 39 9).toInt.toNat (h 39 10).toInt.toNat (h 39 14).toInt (h 39 15).toInt (h 39 12).toInt (h 39 13).toInt (h 39 11).toInt (0 ≤ (h 39 13).toInt ∧ (h 39 13).toInt / 10 ≤ 3 ∧ (h 39 13).toInt % 10 ≤ 3 ∧ ¬ (h 39 13).toInt / 10 = (h 39 13).toInt % 10) ((g83 39 7).toInt = mx (mx (h 39 7).toInt ((h 39 13).toInt / 10)) ((h 39 13).toInt % 10)) r1.toInt (g83 39 11).toInt (g83 39 12).toInt (g83 39 10).toInt (g83 39 13).toInt (g83 39 14).toInt (g83 39 15).toInt ∧ (0 ≤ r1.toInt ∧ r1.toInt ≤ 39) ∧ (r1.toInt % 10 ≤ 3 + 10 * (g83 39 14).toInt) ∧ ((h 39 14).toInt ≤ (g83 39 14).toInt) ∧ ((g83 39 5).toInt = (h 39 5).toInt) ∧ ((g83 39 6).toInt = (h 39 6).toInt) ∧ ((g83 39 9).toInt = (h 39 9).toInt); exact ⟨nbQ_C o6.1 (by omega) o87.1 (by omega) (by omega) (by omega) (fun hr hc => by omega) (fun hr => by rw [show (g83 39 7).toInt = (g78 39 7).toInt by omega, o82.1, o77.1, show (r1 / 10).toInt = (h 39 13).toInt / 10 by omega, show (r1 - r1 / 10 * 10).toInt = (h 39 13).toInt % 10 by omega, show (g68 39 7).toInt = (h 39 7).toInt by omega]), by omega, by omega, by omega, by omega⟩)⟩
