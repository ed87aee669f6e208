-- ThreadBankModel.readNumber(II)I
set_option maxRecDepth 100000 in
set_option maxHeartbeats 4000000 in
theorem tx_154 (X : qm_X) (h : qm_H) (a : Int32) (b : Int32) (hp : mi h ∧ pp h ∧ (bt (h 44) (h 39 9).toInt ∧ 0 ≤ a.toInt ∧ 0 ≤ b.toInt)) (Q : qm_Q) (hq : ∀ r : Int32, ∀ h' : qm_H, (mi h' ∧ pp h' ∧ (∀ k, (k < 39 ∨ 39 < k) → h' k = h k) ∧ (nbQ (h 44) (h 39 9).toInt.toNat (h 39 10).toInt.toNat (h 39 14).toInt (h 39 15).toInt (h 39 12).toInt (h 39 13).toInt (h 39 11).toInt (a.toInt ≤ (h 39 13).toInt ∧ (h 39 13).toInt ≤ b.toInt) ((h' 39 7).toInt = (h 39 7).toInt) r.toInt (h' 39 11).toInt (h' 39 12).toInt (h' 39 10).toInt (h' 39 13).toInt (h' 39 14).toInt (h' 39 15).toInt ∧ (0 ≤ r.toInt ∧ r.toInt ≤ b.toInt) ∧ ((h 39 14).toInt ≤ (h' 39 14).toInt) ∧ ((h' 39 5).toInt = (h 39 5).toInt) ∧ ((h' 39 6).toInt = (h 39 6).toInt) ∧ ((h' 39 7).toInt = (h 39 7).toInt) ∧ ((h' 39 9).toInt = (h 39 9).toInt))) → Q (some (.int r)) h') : qm_PW X 154 [.ref 39, .int a, .int b] h Q := by
  have hmmi : mi h := hp.1
  have ⟨⟨_, _⟩, ⟨_, _⟩, ⟨_, _⟩, ⟨_, _⟩, _, _⟩ := hmmi
  have hmpp : pp h := hp.2.1
  have ⟨⟨_, _⟩, ⟨_, _⟩, _, _⟩ := hmpp
  have hp0 : bt (h 44) (h 39 9).toInt ∧ 0 ≤ a.toInt ∧ 0 ≤ b.toInt := hp.2.2
  have hbt := hp0.1
  have hp1 := hp0.2
  refine qm_seg_ok (C := qc_154) (rt := some .int) rfl rfl (cuts := []) 400 _ _ _ _ ?_
  show qm_PW X 153 [.ref 39, .int a, .int b] h _
  refine tx_153 X h a b ⟨hmmi, hmpp, (by omega)⟩ _ (fun r1 g2 p3 => ?_)
  obtain ⟨p3_0, p3_1, p3_2, p3_3⟩ := p3
  have f4 : ∀ k, (k < 39 ∨ 39 < k) → g2 k = h k := fun k hk => (p3_2 k (by omega)).trans (rfl)
  have o5 : lkQ (h 39 14).toInt (h 39 15).toInt (h 39 12).toInt (h 39 13).toInt (h 39 11).toInt a.toInt b.toInt (g2 39 14).toInt (g2 39 15).toInt r1.toInt ∧ ((h 39 14).toInt ≤ (g2 39 14).toInt ∧ ((g2 39 14).toInt = 0 ∨ r1.toInt = 0) ∧ (0 ≤ r1.toInt ∧ r1.toInt ≤ b.toInt)) ∧ ((g2 39 5).toInt = (h 39 5).toInt) ∧ ((g2 39 6).toInt = (h 39 6).toInt) ∧ ((g2 39 7).toInt = (h 39 7).toInt) ∧ ((g2 39 9).toInt = (h 39 9).toInt) ∧ ((g2 39 10).toInt = (h 39 10).toInt) ∧ ((g2 39 11).toInt = (h 39 11).toInt) ∧ ((g2 39 12).toInt = (h 39 12).toInt) ∧ ((g2 39 13).toInt = (h 39 13).toInt) := p3_3
  clear p3_3
  have e44_g2 : g2 44 = h 44 := (p3_2 44 (by omega))
  have e9_g2 : (g2 39 9).toInt = (h 39 9).toInt := (by omega)
  show qm_PW X 152 [.ref 39] g2 _
  refine tx_152 X g2  ⟨p3_0, p3_1, (by show bt (g2 44) (g2 39 9).toInt; rw [e44_g2, e9_g2]; exact hbt)⟩ _ (fun g6 p7 => ?_)
  obtain ⟨p7_0, p7_1, p7_2, p7_3⟩ := p7
  have f8 : ∀ k, (k < 39 ∨ 39 < k) → g6 k = h k := fun k hk => (p7_2 k (by omega)).trans (f4 k hk)
  have o9 : nxQ (g2 44) (g2 39 9).toInt.toNat (g2 39 10).toInt.toNat (g2 39 14).toInt (g6 39 11).toInt (g6 39 12).toInt (g6 39 10).toInt (g6 39 13).toInt (g6 39 14).toInt (g6 39 15).toInt (g2 39 15).toInt ∧ ((g6 39 5).toInt = (g2 39 5).toInt) ∧ ((g6 39 6).toInt = (g2 39 6).toInt) ∧ ((g6 39 7).toInt = (g2 39 7).toInt) ∧ ((g6 39 9).toInt = (g2 39 9).toInt) ∧ ((g2 39 14).toInt ≤ (g6 39 14).toInt) := p7_3
  clear p7_3
  have e44_g6 : g6 44 = h 44 := (p7_2 44 (by omega)).trans e44_g2
  have e9_g6 : (g6 39 9).toInt = (h 39 9).toInt := (by omega)
  (try rw [e44_g2] at o9); (try rw [e9_g2] at o9)
  show Q (some (.int r1)) g6
  exact hq r1 g6 ⟨p7_0, p7_1, (fun k hk => f8 k hk), (by show nbQ (h 44) (h 39 9).toInt.toNat (h 39 10).toInt.toNat (h 39 14).toInt (h 39 15).toInt (h 39 12).toInt (h 39 13).toInt (h 39 11).toInt (a.toInt ≤ (h 39 13).toInt ∧ (h 39 13).toInt ≤ b.toInt) ((g6 39 7).toInt = (h 39 7).toInt) r1.toInt (g6 39 11).toInt (g6 39 12).toInt (g6 39 10).toInt (g6 39 13).toInt (g6 39 14).toInt (g6 39 15).toInt ∧ (0 ≤ r1.toInt ∧ r1.toInt ≤ b.toInt) ∧ ((h 39 14).toInt ≤ (g6 39 14).toInt) ∧ ((g6 39 5).toInt = (h 39 5).toInt) ∧ ((g6 39 6).toInt = (h 39 6).toInt) ∧ ((g6 39 7).toInt = (h 39 7).toInt) ∧ ((g6 39 9).toInt = (h 39 9).toInt); exact ⟨nbQ_num o5.1 o9.1 rfl rfl (by omega) (by omega), by omega, by omega, by omega⟩)⟩
-- ThreadBankModel.readPlace()I
set_option maxRecDepth 100000 in
set_option maxHeartbeats 4000000 in
theorem tx_156 (X : qm_X) (h : qm_H) (hp : mi h ∧ pp h ∧ (bt (h 44) (h 39 9).toInt)) (Q : qm_Q) (hq : ∀ r : Int32, ∀ h' : qm_H, (mi h' ∧ pp h' ∧ (∀ k, (k < 39 ∨ 39 < k) → h' k = h k) ∧ (nbQ (h 44) (h 39 9).toInt.toNat (h 39 10).toInt.toNat (h 39 14).toInt (h 39 15).toInt (h 39 12).toInt (h 39 13).toInt (h 39 11).toInt (0 ≤ (h 39 13).toInt ∧ (h 39 13).toInt / 10 ≤ 3 ∧ (h 39 13).toInt % 10 ≤ 4) ((h' 39 7).toInt = mx (h 39 7).toInt ((h 39 13).toInt / 10)) r.toInt (h' 39 11).toInt (h' 39 12).toInt (h' 39 10).toInt (h' 39 13).toInt (h' 39 14).toInt (h' 39 15).toInt ∧ (0 ≤ r.toInt ∧ r.toInt ≤ 39) ∧ ((h 39 14).toInt ≤ (h' 39 14).toInt) ∧ ((h' 39 5).toInt = (h 39 5).toInt) ∧ ((h' 39 6).toInt = (h 39 6).toInt) ∧ ((h' 39 9).toInt = (h 39 9).toInt))) → Q (some (.int r)) h') : qm_PW X 156 [.ref 39] h Q := by
  have hmmi : mi h := hp.1
  have ⟨⟨_, _⟩, ⟨_, _⟩, ⟨_, _⟩, ⟨_, _⟩, _, _⟩ := hmmi
  have hmpp : pp h := hp.2.1
  have ⟨⟨_, _⟩, ⟨_, _⟩, _, _⟩ := hmpp
  have hp0 : bt (h 44) (h 39 9).toInt := hp.2.2
  have hbt : bt (h 44) (h 39 9).toInt := hp.2.2
  refine qm_seg_ok (C := qc_156) (rt := some .int) rfl rfl (cuts := []) 400 _ _ _ _ ?_
  show qm_PW X 153 [.ref 39, .int 0, .int 39] h _
  refine tx_153 X h (0 : Int32) (39 : Int32) ⟨hmmi, hmpp, (by have : (39 : Int32).toInt = 39 := rfl; have : (0 : Int32).toInt = 0 := rfl; omega)⟩ _ (fun r1 g2 p3 => ?_)
  obtain ⟨p3_0, p3_1, p3_2, p3_3⟩ := p3
  have f4 : ∀ k, (k < 39 ∨ 39 < k) → g2 k = h k := fun k hk => (p3_2 k (by omega)).trans (rfl)
  have o5 : lkQ (h 39 14).toInt (h 39 15).toInt (h 39 12).toInt (h 39 13).toInt (h 39 11).toInt (0 : Int32).toInt (39 : Int32).toInt (g2 39 14).toInt (g2 39 15).toInt r1.toInt ∧ ((h 39 14).toInt ≤ (g2 39 14).toInt ∧ ((g2 39 14).toInt = 0 ∨ r1.toInt = 0) ∧ (0 ≤ r1.toInt ∧ r1.toInt ≤ (39 : Int32).toInt)) ∧ ((g2 39 5).toInt = (h 39 5).toInt) ∧ ((g2 39 6).toInt = (h 39 6).toInt) ∧ ((g2 39 7).toInt = (h 39 7).toInt) ∧ ((g2 39 9).toInt = (h 39 9).toInt) ∧ ((g2 39 10).toInt = (h 39 10).toInt) ∧ ((g2 39 11).toInt = (h 39 11).toInt) ∧ ((g2 39 12).toInt = (h 39 12).toInt) ∧ ((g2 39 13).toInt = (h 39 13).toInt) := p3_3
  clear p3_3
  have e44_g2 : g2 44 = h 44 := (p3_2 44 (by omega))
  have e9_g2 : (g2 39 9).toInt = (h 39 9).toInt := (by omega)
  show (¬ (g2 39 14) = 0 → (¬ (10 : Int32) = 0 ∧ (qm_PW X 155 [.ref 39, .int (r1 / 10)] g2 _))) ∧ ((g2 39 14) = 0 → (¬ (10 : Int32) = 0 ∧ ((5 ≤ (r1 - r1 / 10 * 10).toInt → (qm_PW X 147 [.ref 39, .int 0, .int 3] g2 _)) ∧ ((r1 - r1 / 10 * 10).toInt < 5 → (qm_PW X 147 [.ref 39, .int 1, .int 3] g2 _)))))
  refine ⟨fun c6 => ?_, fun c7 => ?_⟩
  · have := ti_neK 0 rfl c6
    refine ⟨by decide, ?_⟩
    refine tx_155 X g2 (r1 / 10) ⟨p3_0, p3_1⟩ _ (fun g8 p9 => ?_)
    obtain ⟨p9_0, p9_1, p9_2, p9_3⟩ := p9
    have f10 : ∀ k, (k < 39 ∨ 39 < k) → g8 k = h k := fun k hk => (p9_2 k (by omega)).trans (f4 k hk)
    have o11 : (((g2 39 14).toInt = 0 ∧ (g8 39 7).toInt = mx (g2 39 7).toInt (r1 / 10).toInt) ∨ (¬ (g2 39 14).toInt = 0 ∧ (g8 39 7).toInt = (g2 39 7).toInt)) ∧ ((g8 39 5).toInt = (g2 39 5).toInt) ∧ ((g8 39 6).toInt = (g2 39 6).toInt) ∧ ((g8 39 9).toInt = (g2 39 9).toInt) ∧ ((g8 39 10).toInt = (g2 39 10).toInt) ∧ ((g8 39 11).toInt = (g2 39 11).toInt) ∧ ((g8 39 12).toInt = (g2 39 12).toInt) ∧ ((g8 39 13).toInt = (g2 39 13).toInt) ∧ ((g8 39 14).toInt = (g2 39 14).toInt) ∧ ((g8 39 15).toInt = (g2 39 15).toInt) := p9_3
    clear p9_3
    have e44_g8 : g8 44 = h 44 := (p9_2 44 (by omega)).trans e44_g2
    have e9_g8 : (g8 39 9).toInt = (h 39 9).toInt := (by omega)
    (first | (replace o11 : (g8 39 7).toInt = mx (g2 39 7).toInt (r1 / 10).toInt ∧ ((g8 39 5).toInt = (g2 39 5).toInt) ∧ ((g8 39 6).toInt = (g2 39 6).toInt) ∧ ((g8 39 9).toInt = (g2 39 9).toInt) ∧ ((g8 39 10).toInt = (g2 39 10).toInt) ∧ ((g8 39 11).toInt = (g2 39 11).toInt) ∧ ((g8 39 12).toInt = (g2 39 12).toInt) ∧ ((g8 39 13).toInt = (g2 39 13).toInt) ∧ ((g8 39 14).toInt = (g2 39 14).toInt) ∧ ((g8 39 15).toInt = (g2 39 15).toInt) := ⟨o11.1.elim (fun z => z.2) (fun z => absurd (show (g2 39 14).toInt = 0 by omega) z.1), o11.2⟩) | (replace o11 : (g8 39 7).toInt = (g2 39 7).toInt ∧ ((g8 39 5).toInt = (g2 39 5).toInt) ∧ ((g8 39 6).toInt = (g2 39 6).toInt) ∧ ((g8 39 9).toInt = (g2 39 9).toInt) ∧ ((g8 39 10).toInt = (g2 39 10).toInt) ∧ ((g8 39 11).toInt = (g2 39 11).toInt) ∧ ((g8 39 12).toInt = (g2 39 12).toInt) ∧ ((g8 39 13).toInt = (g2 39 13).toInt) ∧ ((g8 39 14).toInt = (g2 39 14).toInt) ∧ ((g8 39 15).toInt = (g2 39 15).toInt) := ⟨o11.1.elim (fun z => absurd z.1 (show ¬ (g2 39 14).toInt = 0 by omega)) (fun z => z.2), o11.2⟩) | skip)
    (try rw [e44_g2] at o11); (try rw [e9_g2] at o11)
    show qm_PW X 152 [.ref 39] g8 _
    refine tx_152 X g8  ⟨p9_0, p9_1, (by show bt (g8 44) (g8 39 9).toInt; rw [e44_g8, e9_g8]; exact hbt)⟩ _ (fun g12 p13 => ?_)
    obtain ⟨p13_0, p13_1, p13_2, p13_3⟩ := p13
    have f14 : ∀ k, (k < 39 ∨ 39 < k) → g12 k = h k := fun k hk => (p13_2 k (by omega)).trans (f10 k hk)
    have o15 : nxQ (g8 44) (g8 39 9).toInt.toNat (g8 39 10).toInt.toNat (g8 39 14).toInt (g12 39 11).toInt (g12 39 12).toInt (g12 39 10).toInt (g12 39 13).toInt (g12 39 14).toInt (g12 39 15).toInt (g8 39 15).toInt ∧ ((g12 39 5).toInt = (g8 39 5).toInt) ∧ ((g12 39 6).toInt = (g8 39 6).toInt) ∧ ((g12 39 7).toInt = (g8 39 7).toInt) ∧ ((g12 39 9).toInt = (g8 39 9).toInt) ∧ ((g8 39 14).toInt ≤ (g12 39 14).toInt) := p13_3
    clear p13_3
    have e44_g12 : g12 44 = h 44 := (p13_2 44 (by omega)).trans e44_g8
    have e9_g12 : (g12 39 9).toInt = (h 39 9).toInt := (by omega)
    (try rw [e44_g8] at o15); (try rw [e9_g8] at o15)
    show Q (some (.int r1)) g12
    exact hq r1 g12 ⟨p13_0, p13_1, (fun k hk => f14 k hk), (by have : (39 : Int32).toInt = 39 := rfl; have : (0 : Int32).toInt = 0 := rfl; have := ti_div (10 : Int32) 10 rfl r1 (by decide); show nbQ (h 44) (h 39 9).toInt.toNat (h 39 10).toInt.toNat (h 39 14).toInt (h 39 15).toInt (h 39 12).toInt (h 39 13).toInt (h 39 11).toInt (0 ≤ (h 39 13).toInt ∧ (h 39 13).toInt / 10 ≤ 3 ∧ (h 39 13).toInt % 10 ≤ 4) ((g12 39 7).toInt = mx (h 39 7).toInt ((h 39 13).toInt / 10)) r1.toInt (g12 39 11).toInt (g12 39 12).toInt (g12 39 10).toInt (g12 39 13).toInt (g12 39 14).toInt (g12 39 15).toInt ∧ (0 ≤ r1.toInt ∧ r1.toInt ≤ 39) ∧ ((h 39 14).toInt ≤ (g12 39 14).toInt) ∧ ((g12 39 5).toInt = (h 39 5).toInt) ∧ ((g12 39 6).toInt = (h 39 6).toInt) ∧ ((g12 39 9).toInt = (h 39 9).toInt); exact ⟨nbQ_A o5.1 (by omega) o15.1 (by omega) (by omega) (by omega) (fun hc => ⟨by omega, by omega⟩), by omega, by omega, by omega⟩)⟩
  · have := ti_eqK 0 rfl c7
    refine ⟨by decide, ?_⟩
    refine ⟨fun c16 => ?_, fun c17 => ?_⟩
    · refine tx_147 X g2 (0 : Int32) (3 : Int32) ⟨p3_0, p3_1, (by have : (39 : Int32).toInt = 39 := rfl; have : (3 : Int32).toInt = 3 := rfl; have : (0 : Int32).toInt = 0 := rfl; have := ti_rem (10 : Int32) 10 rfl r1 (by decide); omega)⟩ _ (fun g18 p19 => ?_)
      obtain ⟨p19_0, p19_1, p19_2, p19_3⟩ := p19
      have f20 : ∀ k, (k < 39 ∨ 39 < k) → g18 k = h k := fun k hk => (p19_2 k (by omega)).trans (f4 k hk)
      have o21 : ((((0 : Int32).toInt = 0 ∧ (g2 39 14).toInt = 0) ∧ (g18 39 14).toInt = (3 : Int32).toInt ∧ (g18 39 15).toInt = (g2 39 11).toInt) ∨ (¬ ((0 : Int32).toInt = 0 ∧ (g2 39 14).toInt = 0) ∧ (g18 39 14).toInt = (g2 39 14).toInt ∧ (g18 39 15).toInt = (g2 39 15).toInt)) ∧ ((g18 39 5).toInt = (g2 39 5).toInt) ∧ ((g18 39 6).toInt = (g2 39 6).toInt) ∧ ((g18 39 7).toInt = (g2 39 7).toInt) ∧ ((g18 39 9).toInt = (g2 39 9).toInt) ∧ ((g18 39 10).toInt = (g2 39 10).toInt) ∧ ((g18 39 11).toInt = (g2 39 11).toInt) ∧ ((g18 39 12).toInt = (g2 39 12).toInt) ∧ ((g18 39 13).toInt = (g2 39 13).toInt) := p19_3
      clear p19_3
      have e44_g18 : g18 44 = h 44 := (p19_2 44 (by omega)).trans e44_g2
      have e9_g18 : (g18 39 9).toInt = (h 39 9).toInt := (by omega)
      (first | (replace o21 : (g18 39 14).toInt = (3 : Int32).toInt ∧ (g18 39 15).toInt = (g2 39 11).toInt ∧ ((g18 39 5).toInt = (g2 39 5).toInt) ∧ ((g18 39 6).toInt = (g2 39 6).toInt) ∧ ((g18 39 7).toInt = (g2 39 7).toInt) ∧ ((g18 39 9).toInt = (g2 39 9).toInt) ∧ ((g18 39 10).toInt = (g2 39 10).toInt) ∧ ((g18 39 11).toInt = (g2 39 11).toInt) ∧ ((g18 39 12).toInt = (g2 39 12).toInt) ∧ ((g18 39 13).toInt = (g2 39 13).toInt) := ⟨(by have : (0 : Int32).toInt = 0 := rfl; omega), (by have : (0 : Int32).toInt = 0 := rfl; omega), o21.2⟩) | (replace o21 : (g18 39 14).toInt = (g2 39 14).toInt ∧ (g18 39 15).toInt = (g2 39 15).toInt ∧ ((g18 39 5).toInt = (g2 39 5).toInt) ∧ ((g18 39 6).toInt = (g2 39 6).toInt) ∧ ((g18 39 7).toInt = (g2 39 7).toInt) ∧ ((g18 39 9).toInt = (g2 39 9).toInt) ∧ ((g18 39 10).toInt = (g2 39 10).toInt) ∧ ((g18 39 11).toInt = (g2 39 11).toInt) ∧ ((g18 39 12).toInt = (g2 39 12).toInt) ∧ ((g18 39 13).toInt = (g2 39 13).toInt) := ⟨(by have : (1 : Int32).toInt = 1 := rfl; have : (0 : Int32).toInt = 0 := rfl; omega), (by have : (1 : Int32).toInt = 1 := rfl; have : (0 : Int32).toInt = 0 := rfl; omega), o21.2⟩) | skip)
      (try rw [e44_g2] at o21); (try rw [e9_g2] at o21)
      show ¬ (10 : Int32) = 0 ∧ (qm_PW X 155 [.ref 39, .int (r1 / 10)] g18 _)
      refine ⟨by decide, ?_⟩
      refine tx_155 X g18 (r1 / 10) ⟨p19_0, p19_1⟩ _ (fun g22 p23 => ?_)
      obtain ⟨p23_0, p23_1, p23_2, p23_3⟩ := p23
      have f24 : ∀ k, (k < 39 ∨ 39 < k) → g22 k = h k := fun k hk => (p23_2 k (by omega)).trans (f20 k hk)
      have o25 : (((g18 39 14).toInt = 0 ∧ (g22 39 7).toInt = mx (g18 39 7).toInt (r1 / 10).toInt) ∨ (¬ (g18 39 14).toInt = 0 ∧ (g22 39 7).toInt = (g18 39 7).toInt)) ∧ ((g22 39 5).toInt = (g18 39 5).toInt) ∧ ((g22 39 6).toInt = (g18 39 6).toInt) ∧ ((g22 39 9).toInt = (g18 39 9).toInt) ∧ ((g22 39 10).toInt = (g18 39 10).toInt) ∧ ((g22 39 11).toInt = (g18 39 11).toInt) ∧ ((g22 39 12).toInt = (g18 39 12).toInt) ∧ ((g22 39 13).toInt = (g18 39 13).toInt) ∧ ((g22 39 14).toInt = (g18 39 14).toInt) ∧ ((g22 39 15).toInt = (g18 39 15).toInt) := p23_3
      clear p23_3
      have e44_g22 : g22 44 = h 44 := (p23_2 44 (by omega)).trans e44_g18
      have e9_g22 : (g22 39 9).toInt = (h 39 9).toInt := (by omega)
      (first | (replace o25 : (g22 39 7).toInt = mx (g18 39 7).toInt (r1 / 10).toInt ∧ ((g22 39 5).toInt = (g18 39 5).toInt) ∧ ((g22 39 6).toInt = (g18 39 6).toInt) ∧ ((g22 39 9).toInt = (g18 39 9).toInt) ∧ ((g22 39 10).toInt = (g18 39 10).toInt) ∧ ((g22 39 11).toInt = (g18 39 11).toInt) ∧ ((g22 39 12).toInt = (g18 39 12).toInt) ∧ ((g22 39 13).toInt = (g18 39 13).toInt) ∧ ((g22 39 14).toInt = (g18 39 14).toInt) ∧ ((g22 39 15).toInt = (g18 39 15).toInt) := ⟨o25.1.elim (fun z => z.2) (fun z => absurd (show (g18 39 14).toInt = 0 by omega) z.1), o25.2⟩) | (replace o25 : (g22 39 7).toInt = (g18 39 7).toInt ∧ ((g22 39 5).toInt = (g18 39 5).toInt) ∧ ((g22 39 6).toInt = (g18 39 6).toInt) ∧ ((g22 39 9).toInt = (g18 39 9).toInt) ∧ ((g22 39 10).toInt = (g18 39 10).toInt) ∧ ((g22 39 11).toInt = (g18 39 11).toInt) ∧ ((g22 39 12).toInt = (g18 39 12).toInt) ∧ ((g22 39 13).toInt = (g18 39 13).toInt) ∧ ((g22 39 14).toInt = (g18 39 14).toInt) ∧ ((g22 39 15).toInt = (g18 39 15).toInt) := ⟨o25.1.elim (fun z => absurd z.1 (show ¬ (g18 39 14).toInt = 0 by omega)) (fun z => z.2), o25.2⟩) | skip)
      (try rw [e44_g18] at o25); (try rw [e9_g18] at o25)
      show qm_PW X 152 [.ref 39] g22 _
      refine tx_152 X g22  ⟨p23_0, p23_1, (by show bt (g22 44) (g22 39 9).toInt; rw [e44_g22, e9_g22]; exact hbt)⟩ _ (fun g26 p27 => ?_)
      obtain ⟨p27_0, p27_1, p27_2, p27_3⟩ := p27
      have f28 : ∀ k, (k < 39 ∨ 39 < k) → g26 k = h k := fun k hk => (p27_2 k (by omega)).trans (f24 k hk)
      have o29 : nxQ (g22 44) (g22 39 9).toInt.toNat (g22 39 10).toInt.toNat (g22 39 14).toInt (g26 39 11).toInt (g26 39 12).toInt (g26 39 10).toInt (g26 39 13).toInt (g26 39 14).toInt (g26 39 15).toInt (g22 39 15).toInt ∧ ((g26 39 5).toInt = (g22 39 5).toInt) ∧ ((g26 39 6).toInt = (g22 39 6).toInt) ∧ ((g26 39 7).toInt = (g22 39 7).toInt) ∧ ((g26 39 9).toInt = (g22 39 9).toInt) ∧ ((g22 39 14).toInt ≤ (g26 39 14).toInt) := p27_3
      clear p27_3
      have e44_g26 : g26 44 = h 44 := (p27_2 44 (by omega)).trans e44_g22
      have e9_g26 : (g26 39 9).toInt = (h 39 9).toInt := (by omega)
      (try rw [e44_g22] at o29); (try rw [e9_g22] at o29)
      show Q (some (.int r1)) g26
      exact hq r1 g26 ⟨p27_0, p27_1, (fun k hk => f28 k hk), (by have : (39 : Int32).toInt = 39 := rfl; have : (3 : Int32).toInt = 3 := rfl; have : (0 : Int32).toInt = 0 := rfl; have := ti_rem (10 : Int32) 10 rfl r1 (by decide); have := ti_div (10 : Int32) 10 rfl r1 (by decide); show nbQ (h 44) (h 39 9).toInt.toNat (h 39 10).toInt.toNat (h 39 14).toInt (h 39 15).toInt (h 39 12).toInt (h 39 13).toInt (h 39 11).toInt (0 ≤ (h 39 13).toInt ∧ (h 39 13).toInt / 10 ≤ 3 ∧ (h 39 13).toInt % 10 ≤ 4) ((g26 39 7).toInt = mx (h 39 7).toInt ((h 39 13).toInt / 10)) r1.toInt (g26 39 11).toInt (g26 39 12).toInt (g26 39 10).toInt (g26 39 13).toInt (g26 39 14).toInt (g26 39 15).toInt ∧ (0 ≤ r1.toInt ∧ r1.toInt ≤ 39) ∧ ((h 39 14).toInt ≤ (g26 39 14).toInt) ∧ ((g26 39 5).toInt = (h 39 5).toInt) ∧ ((g26 39 6).toInt = (h 39 6).toInt) ∧ ((g26 39 9).toInt = (h 39 9).toInt); exact ⟨nbQ_B o5.1 (by omega) o29.1 (by omega) (by omega) (by omega) (fun hr hc => by omega), by omega, by omega, by omega⟩)⟩
    · refine tx_147 X g2 (1 : Int32) (3 : Int32) ⟨p3_0, p3_1, (by have : (39 : Int32).toInt = 39 := rfl; have : (3 : Int32).toInt = 3 := rfl; have : (0 : Int32).toInt = 0 := rfl; have := ti_rem (10 : Int32) 10 rfl r1 (by decide); omega)⟩ _ (fun g30 p31 => ?_)
      obtain ⟨p31_0, p31_1, p31_2, p31_3⟩ := p31
      have f32 : ∀ k, (k < 39 ∨ 39 < k) → g30 k = h k := fun k hk => (p31_2 k (by omega)).trans (f4 k hk)
      have o33 : ((((1 : Int32).toInt = 0 ∧ (g2 39 14).toInt = 0) ∧ (g30 39 14).toInt = (3 : Int32).toInt ∧ (g30 39 15).toInt = (g2 39 11).toInt) ∨ (¬ ((1 : Int32).toInt = 0 ∧ (g2 39 14).toInt = 0) ∧ (g30 39 14).toInt = (g2 39 14).toInt ∧ (g30 39 15).toInt = (g2 39 15).toInt)) ∧ ((g30 39 5).toInt = (g2 39 5).toInt) ∧ ((g30 39 6).toInt = (g2 39 6).toInt) ∧ ((g30 39 7).toInt = (g2 39 7).toInt) ∧ ((g30 39 9).toInt = (g2 39 9).toInt) ∧ ((g30 39 10).toInt = (g2 39 10).toInt) ∧ ((g30 39 11).toInt = (g2 39 11).toInt) ∧ ((g30 39 12).toInt = (g2 39 12).toInt) ∧ ((g30 39 13).toInt = (g2 39 13).toInt) := p31_3
      clear p31_3
      have e44_g30 : g30 44 = h 44 := (p31_2 44 (by omega)).trans e44_g2
      have e9_g30 : (g30 39 9).toInt = (h 39 9).toInt := (by omega)
      replace o33 : (g30 39 14).toInt = (g2 39 14).toInt ∧ (g30 39 15).toInt = (g2 39 15).toInt ∧ ((g30 39 5).toInt = (g2 39 5).toInt) ∧ ((g30 39 6).toInt = (g2 39 6).toInt) ∧ ((g30 39 7).toInt = (g2 39 7).toInt) ∧ ((g30 39 9).toInt = (g2 39 9).toInt) ∧ ((g30 39 10).toInt = (g2 39 10).toInt) ∧ ((g30 39 11).toInt = (g2 39 11).toInt) ∧ ((g30 39 12).toInt = (g2 39 12).toInt) ∧ ((g30 39 13).toInt = (g2 39 13).toInt) := ⟨(by have : (1 : Int32).toInt = 1 := rfl; have : (0 : Int32).toInt = 0 := rfl; omega), (by have : (1 : Int32).toInt = 1 := rfl; have : (0 : Int32).toInt = 0 := rfl; omega), o33.2⟩
      (try rw [e44_g2] at o33); (try rw [e9_g2] at o33)
      show ¬ (10 : Int32) = 0 ∧ (qm_PW X 155 [.ref 39, .int (r1 / 10)] g30 _)
      refine ⟨by decide, ?_⟩
      refine tx_155 X g30 (r1 / 10) ⟨p31_0, p31_1⟩ _ (fun g34 p35 => ?_)
      obtain ⟨p35_0, p35_1, p35_2, p35_3⟩ := p35
      have f36 : ∀ k, (k < 39 ∨ 39 < k) → g34 k = h k := fun k hk => (p35_2 k (by omega)).trans (f32 k hk)
      have o37 : (((g30 39 14).toInt = 0 ∧ (g34 39 7).toInt = mx (g30 39 7).toInt (r1 / 10).toInt) ∨ (¬ (g30 39 14).toInt = 0 ∧ (g34 39 7).toInt = (g30 39 7).toInt)) ∧ ((g34 39 5).toInt = (g30 39 5).toInt) ∧ ((g34 39 6).toInt = (g30 39 6).toInt) ∧ ((g34 39 9).toInt = (g30 39 9).toInt) ∧ ((g34 39 10).toInt = (g30 39 10).toInt) ∧ ((g34 39 11).toInt = (g30 39 11).toInt) ∧ ((g34 39 12).toInt = (g30 39 12).toInt) ∧ ((g34 39 13).toInt = (g30 39 13).toInt) ∧ ((g34 39 14).toInt = (g30 39 14).toInt) ∧ ((g34 39 15).toInt = (g30 39 15).toInt) := p35_3
      clear p35_3
      have e44_g34 : g34 44 = h 44 := (p35_2 44 (by omega)).trans e44_g30
      have e9_g34 : (g34 39 9).toInt = (h 39 9).toInt := (by omega)
      (first | (replace o37 : (g34 39 7).toInt = mx (g30 39 7).toInt (r1 / 10).toInt ∧ ((g34 39 5).toInt = (g30 39 5).toInt) ∧ ((g34 39 6).toInt = (g30 39 6).toInt) ∧ ((g34 39 9).toInt = (g30 39 9).toInt) ∧ ((g34 39 10).toInt = (g30 39 10).toInt) ∧ ((g34 39 11).toInt = (g30 39 11).toInt) ∧ ((g34 39 12).toInt = (g30 39 12).toInt) ∧ ((g34 39 13).toInt = (g30 39 13).toInt) ∧ ((g34 39 14).toInt = (g30 39 14).toInt) ∧ ((g34 39 15).toInt = (g30 39 15).toInt) := ⟨o37.1.elim (fun z => z.2) (fun z => absurd (show (g30 39 14).toInt = 0 by omega) z.1), o37.2⟩) | (replace o37 : (g34 39 7).toInt = (g30 39 7).toInt ∧ ((g34 39 5).toInt = (g30 39 5).toInt) ∧ ((g34 39 6).toInt = (g30 39 6).toInt) ∧ ((g34 39 9).toInt = (g30 39 9).toInt) ∧ ((g34 39 10).toInt = (g30 39 10).toInt) ∧ ((g34 39 11).toInt = (g30 39 11).toInt) ∧ ((g34 39 12).toInt = (g30 39 12).toInt) ∧ ((g34 39 13).toInt = (g30 39 13).toInt) ∧ ((g34 39 14).toInt = (g30 39 14).toInt) ∧ ((g34 39 15).toInt = (g30 39 15).toInt) := ⟨o37.1.elim (fun z => absurd z.1 (show ¬ (g30 39 14).toInt = 0 by omega)) (fun z => z.2), o37.2⟩) | skip)
      (try rw [e44_g30] at o37); (try rw [e9_g30] at o37)
      show qm_PW X 152 [.ref 39] g34 _
      refine tx_152 X g34  ⟨p35_0, p35_1, (by show bt (g34 44) (g34 39 9).toInt; rw [e44_g34, e9_g34]; exact hbt)⟩ _ (fun g38 p39 => ?_)
      obtain ⟨p39_0, p39_1, p39_2, p39_3⟩ := p39
      have f40 : ∀ k, (k < 39 ∨ 39 < k) → g38 k = h k := fun k hk => (p39_2 k (by omega)).trans (f36 k hk)
      have o41 : nxQ (g34 44) (g34 39 9).toInt.toNat (g34 39 10).toInt.toNat (g34 39 14).toInt (g38 39 11).toInt (g38 39 12).toInt (g38 39 10).toInt (g38 39 13).toInt (g38 39 14).toInt (g38 39 15).toInt (g34 39 15).toInt ∧ ((g38 39 5).toInt = (g34 39 5).toInt) ∧ ((g38 39 6).toInt = (g34 39 6).toInt) ∧ ((g38 39 7).toInt = (g34 39 7).toInt) ∧ ((g38 39 9).toInt = (g34 39 9).toInt) ∧ ((g34 39 14).toInt ≤ (g38 39 14).toInt) := p39_3
      clear p39_3
      have e44_g38 : g38 44 = h 44 := (p39_2 44 (by omega)).trans e44_g34
      have e9_g38 : (g38 39 9).toInt = (h 39 9).toInt := (by omega)
      (try rw [e44_g34] at o41); (try rw [e9_g34] at o41)
      show Q (some (.int r1)) g38
      exact hq r1 g38 ⟨p39_0, p39_1, (fun k hk => f40 k hk), (by have : (39 : Int32).toInt = 39 := rfl; have : (3 : Int32).toInt = 3 := rfl; have : (1 : Int32).toInt = 1 := rfl; have : (0 : Int32).toInt = 0 := rfl; have := ti_rem (10 : Int32) 10 rfl r1 (by decide); have := ti_div (10 : Int32) 10 rfl r1 (by decide); show nbQ (h 44) (h 39 9).toInt.toNat (h 39 10).toInt.toNat (h 39 14).toInt (h 39 15).toInt (h 39 12).toInt (h 39 13).toInt (h 39 11).toInt (0 ≤ (h 39 13).toInt ∧ (h 39 13).toInt / 10 ≤ 3 ∧ (h 39 13).toInt % 10 ≤ 4) ((g38 39 7).toInt = mx (h 39 7).toInt ((h 39 13).toInt / 10)) r1.toInt (g38 39 11).toInt (g38 39 12).toInt (g38 39 10).toInt (g38 39 13).toInt (g38 39 14).toInt (g38 39 15).toInt ∧ (0 ≤ r1.toInt ∧ r1.toInt ≤ 39) ∧ ((h 39 14).toInt ≤ (g38 39 14).toInt) ∧ ((g38 39 5).toInt = (h 39 5).toInt) ∧ ((g38 39 6).toInt = (h 39 6).toInt) ∧ ((g38 39 9).toInt = (h 39 9).toInt); exact ⟨nbQ_C o5.1 (by omega) o41.1 (by omega) (by omega) (by omega) (fun hr hc => by omega) (fun hr => by rw [show (g38 39 7).toInt = (g34 39 7).toInt by omega, o37.1, show (r1 / 10).toInt = (h 39 13).toInt / 10 by omega, show (g30 39 7).toInt = (h 39 7).toInt by omega]), by omega, by omega, by omega⟩)⟩
-- ThreadBankModel.readPair()I
set_option maxRecDepth 100000 in
set_option maxHeartbeats 4000000 in
theorem tx_157 (X : qm_X) (h : qm_H) (hp : mi h ∧ pp h ∧ (bt (h 44) (h 39 9).toInt)) (Q : qm_Q) (hq : ∀ r : Int32, ∀ h' : qm_H, (mi h' ∧ pp h' ∧ (∀ k, (k < 39 ∨ 39 < k) → h' k = h k) ∧ (nbQ (h 44) (h 39 9).toInt.toNat (h 39 10).toInt.toNat (h 39 14).toInt (h 39 15).toInt (h 39 12).toInt (h 39 13).toInt (h 39 11).toInt (0 ≤ (h 39 13).toInt ∧ (h 39 13).toInt / 10 ≤ 3 ∧ (h 39 13).toInt % 10 ≤ 3 ∧ ¬ (h 39 13).toInt / 10 = (h 39 13).toInt % 10) ((h' 39 7).toInt = mx (mx (h 39 7).toInt ((h 39 13).toInt / 10)) ((h 39 13).toInt % 10)) r.toInt (h' 39 11).toInt (h' 39 12).toInt (h' 39 10).toInt (h' 39 13).toInt (h' 39 14).toInt (h' 39 15).toInt ∧ (0 ≤ r.toInt ∧ r.toInt ≤ 39) ∧ (r.toInt % 10 ≤ 3 + 10 * (h' 39 14).toInt) ∧ ((h 39 14).toInt ≤ (h' 39 14).toInt) ∧ ((h' 39 5).toInt = (h 39 5).toInt) ∧ ((h' 39 6).toInt = (h 39 6).toInt) ∧ ((h' 39 9).toInt = (h 39 9).toInt))) → Q (some (.int r)) h') : qm_PW X 157 [.ref 39] h Q := by
  have hmmi : mi h := hp.1
  have ⟨⟨_, _⟩, ⟨_, _⟩, ⟨_, _⟩, ⟨_, _⟩, _, _⟩ := hmmi
  have hmpp : pp h := hp.2.1
  have ⟨⟨_, _⟩, ⟨_, _⟩, _, _⟩ := hmpp
  have hp0 : bt (h 44) (h 39 9).toInt := hp.2.2
  have hbt : bt (h 44) (h 39 9).toInt := hp.2.2
  refine qm_seg_ok (C := qc_157) (rt := some .int) rfl rfl (cuts := []) 400 _ _ _ _ ?_
  show qm_PW X 153 [.ref 39, .int 0, .int 39] h _
  refine tx_153 X h (0 : Int32) (39 : Int32) ⟨hmmi, hmpp, (by have : (39 : Int32).toInt = 39 := rfl; have : (0 : Int32).toInt = 0 := rfl; omega)⟩ _ (fun r1 g2 p3 => ?_)
  obtain ⟨p3_0, p3_1, p3_2, p3_3⟩ := p3
  have f4 : ∀ k, (k < 39 ∨ 39 < k) → g2 k = h k := fun k hk => (p3_2 k (by omega)).trans (rfl)
  have o5 : lkQ (h 39 14).toInt (h 39 15).toInt (h 39 12).toInt (h 39 13).toInt (h 39 11).toInt (0 : Int32).toInt (39 : Int32).toInt (g2 39 14).toInt (g2 39 15).toInt r1.toInt ∧ ((h 39 14).toInt ≤ (g2 39 14).toInt ∧ ((g2 39 14).toInt = 0 ∨ r1.toInt = 0) ∧ (0 ≤ r1.toInt ∧ r1.toInt ≤ (39 : Int32).toInt)) ∧ ((g2 39 5).toInt = (h 39 5).toInt) ∧ ((g2 39 6).toInt = (h 39 6).toInt) ∧ ((g2 39 7).toInt = (h 39 7).toInt) ∧ ((g2 39 9).toInt = (h 39 9).toInt) ∧ ((g2 39 10).toInt = (h 39 10).toInt) ∧ ((g2 39 11).toInt = (h 39 11).toInt) ∧ ((g2 39 12).toInt = (h 39 12).toInt) ∧ ((g2 39 13).toInt = (h 39 13).toInt) := p3_3
  clear p3_3
  have e44_g2 : g2 44 = h 44 := (p3_2 44 (by omega))
  have e9_g2 : (g2 39 9).toInt = (h 39 9).toInt := (by omega)
  show (¬ (g2 39 14) = 0 → (¬ (10 : Int32) = 0 ∧ (qm_PW X 155 [.ref 39, .int (r1 / 10)] g2 _))) ∧ ((g2 39 14) = 0 → (¬ (10 : Int32) = 0 ∧ ((4 ≤ (r1 - r1 / 10 * 10).toInt → (qm_PW X 147 [.ref 39, .int 0, .int 3] g2 _)) ∧ ((r1 - r1 / 10 * 10).toInt < 4 → (¬ (10 : Int32) = 0 ∧ (¬ (10 : Int32) = 0 ∧ (((r1 / 10) = (r1 - r1 / 10 * 10) → (qm_PW X 147 [.ref 39, .int 0, .int 3] g2 _)) ∧ (¬ (r1 / 10) = (r1 - r1 / 10 * 10) → (qm_PW X 147 [.ref 39, .int 1, .int 3] g2 _)))))))))
  refine ⟨fun c6 => ?_, fun c7 => ?_⟩
  · have := ti_neK 0 rfl c6
    refine ⟨by decide, ?_⟩
    refine tx_155 X g2 (r1 / 10) ⟨p3_0, p3_1⟩ _ (fun g8 p9 => ?_)
    obtain ⟨p9_0, p9_1, p9_2, p9_3⟩ := p9
    have f10 : ∀ k, (k < 39 ∨ 39 < k) → g8 k = h k := fun k hk => (p9_2 k (by omega)).trans (f4 k hk)
    have o11 : (((g2 39 14).toInt = 0 ∧ (g8 39 7).toInt = mx (g2 39 7).toInt (r1 / 10).toInt) ∨ (¬ (g2 39 14).toInt = 0 ∧ (g8 39 7).toInt = (g2 39 7).toInt)) ∧ ((g8 39 5).toInt = (g2 39 5).toInt) ∧ ((g8 39 6).toInt = (g2 39 6).toInt) ∧ ((g8 39 9).toInt = (g2 39 9).toInt) ∧ ((g8 39 10).toInt = (g2 39 10).toInt) ∧ ((g8 39 11).toInt = (g2 39 11).toInt) ∧ ((g8 39 12).toInt = (g2 39 12).toInt) ∧ ((g8 39 13).toInt = (g2 39 13).toInt) ∧ ((g8 39 14).toInt = (g2 39 14).toInt) ∧ ((g8 39 15).toInt = (g2 39 15).toInt) := p9_3
    clear p9_3
    have e44_g8 : g8 44 = h 44 := (p9_2 44 (by omega)).trans e44_g2
    have e9_g8 : (g8 39 9).toInt = (h 39 9).toInt := (by omega)
    (first | (replace o11 : (g8 39 7).toInt = mx (g2 39 7).toInt (r1 / 10).toInt ∧ ((g8 39 5).toInt = (g2 39 5).toInt) ∧ ((g8 39 6).toInt = (g2 39 6).toInt) ∧ ((g8 39 9).toInt = (g2 39 9).toInt) ∧ ((g8 39 10).toInt = (g2 39 10).toInt) ∧ ((g8 39 11).toInt = (g2 39 11).toInt) ∧ ((g8 39 12).toInt = (g2 39 12).toInt) ∧ ((g8 39 13).toInt = (g2 39 13).toInt) ∧ ((g8 39 14).toInt = (g2 39 14).toInt) ∧ ((g8 39 15).toInt = (g2 39 15).toInt) := ⟨o11.1.elim (fun z => z.2) (fun z => absurd (show (g2 39 14).toInt = 0 by omega) z.1), o11.2⟩) | (replace o11 : (g8 39 7).toInt = (g2 39 7).toInt ∧ ((g8 39 5).toInt = (g2 39 5).toInt) ∧ ((g8 39 6).toInt = (g2 39 6).toInt) ∧ ((g8 39 9).toInt = (g2 39 9).toInt) ∧ ((g8 39 10).toInt = (g2 39 10).toInt) ∧ ((g8 39 11).toInt = (g2 39 11).toInt) ∧ ((g8 39 12).toInt = (g2 39 12).toInt) ∧ ((g8 39 13).toInt = (g2 39 13).toInt) ∧ ((g8 39 14).toInt = (g2 39 14).toInt) ∧ ((g8 39 15).toInt = (g2 39 15).toInt) := ⟨o11.1.elim (fun z => absurd z.1 (show ¬ (g2 39 14).toInt = 0 by omega)) (fun z => z.2), o11.2⟩) | skip)
    (try rw [e44_g2] at o11); (try rw [e9_g2] at o11)
    show ¬ (10 : Int32) = 0 ∧ (qm_PW X 155 [.ref 39, .int (r1 - r1 / 10 * 10)] g8 _)
    refine ⟨by decide, ?_⟩
    refine tx_155 X g8 (r1 - r1 / 10 * 10) ⟨p9_0, p9_1⟩ _ (fun g12 p13 => ?_)
    obtain ⟨p13_0, p13_1, p13_2, p13_3⟩ := p13
    have f14 : ∀ k, (k < 39 ∨ 39 < k) → g12 k = h k := fun k hk => (p13_2 k (by omega)).trans (f10 k hk)
    have o15 : (((g8 39 14).toInt = 0 ∧ (g12 39 7).toInt = mx (g8 39 7).toInt (r1 - r1 / 10 * 10).toInt) ∨ (¬ (g8 39 14).toInt = 0 ∧ (g12 39 7).toInt = (g8 39 7).toInt)) ∧ ((g12 39 5).toInt = (g8 39 5).toInt) ∧ ((g12 39 6).toInt = (g8 39 6).toInt) ∧ ((g12 39 9).toInt = (g8 39 9).toInt) ∧ ((g12 39 10).toInt = (g8 39 10).toInt) ∧ ((g12 39 11).toInt = (g8 39 11).toInt) ∧ ((g12 39 12).toInt = (g8 39 12).toInt) ∧ ((g12 39 13).toInt = (g8 39 13).toInt) ∧ ((g12 39 14).toInt = (g8 39 14).toInt) ∧ ((g12 39 15).toInt = (g8 39 15).toInt) := p13_3
    clear p13_3
    have e44_g12 : g12 44 = h 44 := (p13_2 44 (by omega)).trans e44_g8
    have e9_g12 : (g12 39 9).toInt = (h 39 9).toInt := (by omega)
    (first | (replace o15 : (g12 39 7).toInt = mx (g8 39 7).toInt (r1 - r1 / 10 * 10).toInt ∧ ((g12 39 5).toInt = (g8 39 5).toInt) ∧ ((g12 39 6).toInt = (g8 39 6).toInt) ∧ ((g12 39 9).toInt = (g8 39 9).toInt) ∧ ((g12 39 10).toInt = (g8 39 10).toInt) ∧ ((g12 39 11).toInt = (g8 39 11).toInt) ∧ ((g12 39 12).toInt = (g8 39 12).toInt) ∧ ((g12 39 13).toInt = (g8 39 13).toInt) ∧ ((g12 39 14).toInt = (g8 39 14).toInt) ∧ ((g12 39 15).toInt = (g8 39 15).toInt) := ⟨o15.1.elim (fun z => z.2) (fun z => absurd (show (g8 39 14).toInt = 0 by omega) z.1), o15.2⟩) | (replace o15 : (g12 39 7).toInt = (g8 39 7).toInt ∧ ((g12 39 5).toInt = (g8 39 5).toInt) ∧ ((g12 39 6).toInt = (g8 39 6).toInt) ∧ ((g12 39 9).toInt = (g8 39 9).toInt) ∧ ((g12 39 10).toInt = (g8 39 10).toInt) ∧ ((g12 39 11).toInt = (g8 39 11).toInt) ∧ ((g12 39 12).toInt = (g8 39 12).toInt) ∧ ((g12 39 13).toInt = (g8 39 13).toInt) ∧ ((g12 39 14).toInt = (g8 39 14).toInt) ∧ ((g12 39 15).toInt = (g8 39 15).toInt) := ⟨o15.1.elim (fun z => absurd z.1 (show ¬ (g8 39 14).toInt = 0 by omega)) (fun z => z.2), o15.2⟩) | skip)
    (try rw [e44_g8] at o15); (try rw [e9_g8] at o15)
    show qm_PW X 152 [.ref 39] g12 _
    refine tx_152 X g12  ⟨p13_0, p13_1, (by show bt (g12 44) (g12 39 9).toInt; rw [e44_g12, e9_g12]; exact hbt)⟩ _ (fun g16 p17 => ?_)
    obtain ⟨p17_0, p17_1, p17_2, p17_3⟩ := p17
    have f18 : ∀ k, (k < 39 ∨ 39 < k) → g16 k = h k := fun k hk => (p17_2 k (by omega)).trans (f14 k hk)
    have o19 : nxQ (g12 44) (g12 39 9).toInt.toNat (g12 39 10).toInt.toNat (g12 39 14).toInt (g16 39 11).toInt (g16 39 12).toInt (g16 39 10).toInt (g16 39 13).toInt (g16 39 14).toInt (g16 39 15).toInt (g12 39 15).toInt ∧ ((g16 39 5).toInt = (g12 39 5).toInt) ∧ ((g16 39 6).toInt = (g12 39 6).toInt) ∧ ((g16 39 7).toInt = (g12 39 7).toInt) ∧ ((g16 39 9).toInt = (g12 39 9).toInt) ∧ ((g12 39 14).toInt ≤ (g16 39 14).toInt) := p17_3
    clear p17_3
    have e44_g16 : g16 44 = h 44 := (p17_2 44 (by omega)).trans e44_g12
    have e9_g16 : (g16 39 9).toInt = (h 39 9).toInt := (by omega)
    (try rw [e44_g12] at o19); (try rw [e9_g12] at o19)
    show Q (some (.int r1)) g16
    exact hq r1 g16 ⟨p17_0, p17_1, (fun k hk => f18 k hk), (by have : (39 : Int32).toInt = 39 := rfl; have : (0 : Int32).toInt = 0 := rfl; have := ti_div (10 : Int32) 10 rfl r1 (by decide); have := ti_rem (10 : Int32) 10 rfl r1 (by decide); show nbQ (h 44) (h 39 9).toInt.toNat (h 39 10).toInt.toNat (h 39 14).toInt (h 39 15).toInt (h 39 12).toInt (h 39 13).toInt (h 39 11).toInt (0 ≤ (h 39 13).toInt ∧ (h 39 13).toInt / 10 ≤ 3 ∧ (h 39 13).toInt % 10 ≤ 3 ∧ ¬ (h 39 13).toInt / 10 = (h 39 13).toInt % 10) ((g16 39 7).toInt = mx (mx (h 39 7).toInt ((h 39 13).toInt / 10)) ((h 39 13).toInt % 10)) r1.toInt (g16 39 11).toInt (g16 39 12).toInt (g16 39 10).toInt (g16 39 13).toInt (g16 39 14).toInt (g16 39 15).toInt ∧ (0 ≤ r1.toInt ∧ r1.toInt ≤ 39) ∧ (r1.toInt % 10 ≤ 3 + 10 * (g16 39 14).toInt) ∧ ((h 39 14).toInt ≤ (g16 39 14).toInt) ∧ ((g16 39 5).toInt = (h 39 5).toInt) ∧ ((g16 39 6).toInt = (h 39 6).toInt) ∧ ((g16 39 9).toInt = (h 39 9).toInt); exact ⟨nbQ_A o5.1 (by omega) o19.1 (by omega) (by omega) (by omega) (fun hc => ⟨by omega, by omega⟩), by omega, by omega, by omega, by omega⟩)⟩
  · have := ti_eqK 0 rfl c7
    refine ⟨by decide, ?_⟩
    refine ⟨fun c20 => ?_, fun c21 => ?_⟩
    · refine tx_147 X g2 (0 : Int32) (3 : Int32) ⟨p3_0, p3_1, (by have : (39 : Int32).toInt = 39 := rfl; have : (3 : Int32).toInt = 3 := rfl; have : (0 : Int32).toInt = 0 := rfl; have := ti_rem (10 : Int32) 10 rfl r1 (by decide); omega)⟩ _ (fun g22 p23 => ?_)
      obtain ⟨p23_0, p23_1, p23_2, p23_3⟩ := p23
      have f24 : ∀ k, (k < 39 ∨ 39 < k) → g22 k = h k := fun k hk => (p23_2 k (by omega)).trans (f4 k hk)
      have o25 : ((((0 : Int32).toInt = 0 ∧ (g2 39 14).toInt = 0) ∧ (g22 39 14).toInt = (3 : Int32).toInt ∧ (g22 39 15).toInt = (g2 39 11).toInt) ∨ (¬ ((0 : Int32).toInt = 0 ∧ (g2 39 14).toInt = 0) ∧ (g22 39 14).toInt = (g2 39 14).toInt ∧ (g22 39 15).toInt = (g2 39 15).toInt)) ∧ ((g22 39 5).toInt = (g2 39 5).toInt) ∧ ((g22 39 6).toInt = (g2 39 6).toInt) ∧ ((g22 39 7).toInt = (g2 39 7).toInt) ∧ ((g22 39 9).toInt = (g2 39 9).toInt) ∧ ((g22 39 10).toInt = (g2 39 10).toInt) ∧ ((g22 39 11).toInt = (g2 39 11).toInt) ∧ ((g22 39 12).toInt = (g2 39 12).toInt) ∧ ((g22 39 13).toInt = (g2 39 13).toInt) := p23_3
      clear p23_3
      have e44_g22 : g22 44 = h 44 := (p23_2 44 (by omega)).trans e44_g2
      have e9_g22 : (g22 39 9).toInt = (h 39 9).toInt := (by omega)
      (first | (replace o25 : (g22 39 14).toInt = (3 : Int32).toInt ∧ (g22 39 15).toInt = (g2 39 11).toInt ∧ ((g22 39 5).toInt = (g2 39 5).toInt) ∧ ((g22 39 6).toInt = (g2 39 6).toInt) ∧ ((g22 39 7).toInt = (g2 39 7).toInt) ∧ ((g22 39 9).toInt = (g2 39 9).toInt) ∧ ((g22 39 10).toInt = (g2 39 10).toInt) ∧ ((g22 39 11).toInt = (g2 39 11).toInt) ∧ ((g22 39 12).toInt = (g2 39 12).toInt) ∧ ((g22 39 13).toInt = (g2 39 13).toInt) := ⟨(by have : (0 : Int32).toInt = 0 := rfl; omega), (by have : (0 : Int32).toInt = 0 := rfl; omega), o25.2⟩) | (replace o25 : (g22 39 14).toInt = (g2 39 14).toInt ∧ (g22 39 15).toInt = (g2 39 15).toInt ∧ ((g22 39 5).toInt = (g2 39 5).toInt) ∧ ((g22 39 6).toInt = (g2 39 6).toInt) ∧ ((g22 39 7).toInt = (g2 39 7).toInt) ∧ ((g22 39 9).toInt = (g2 39 9).toInt) ∧ ((g22 39 10).toInt = (g2 39 10).toInt) ∧ ((g22 39 11).toInt = (g2 39 11).toInt) ∧ ((g22 39 12).toInt = (g2 39 12).toInt) ∧ ((g22 39 13).toInt = (g2 39 13).toInt) := ⟨(by have : (1 : Int32).toInt = 1 := rfl; have : (0 : Int32).toInt = 0 := rfl; omega), (by have : (1 : Int32).toInt = 1 := rfl; have : (0 : Int32).toInt = 0 := rfl; omega), o25.2⟩) | skip)
      (try rw [e44_g2] at o25); (try rw [e9_g2] at o25)
      show ¬ (10 : Int32) = 0 ∧ (qm_PW X 155 [.ref 39, .int (r1 / 10)] g22 _)
      refine ⟨by decide, ?_⟩
      refine tx_155 X g22 (r1 / 10) ⟨p23_0, p23_1⟩ _ (fun g26 p27 => ?_)
      obtain ⟨p27_0, p27_1, p27_2, p27_3⟩ := p27
      have f28 : ∀ k, (k < 39 ∨ 39 < k) → g26 k = h k := fun k hk => (p27_2 k (by omega)).trans (f24 k hk)
      have o29 : (((g22 39 14).toInt = 0 ∧ (g26 39 7).toInt = mx (g22 39 7).toInt (r1 / 10).toInt) ∨ (¬ (g22 39 14).toInt = 0 ∧ (g26 39 7).toInt = (g22 39 7).toInt)) ∧ ((g26 39 5).toInt = (g22 39 5).toInt) ∧ ((g26 39 6).toInt = (g22 39 6).toInt) ∧ ((g26 39 9).toInt = (g22 39 9).toInt) ∧ ((g26 39 10).toInt = (g22 39 10).toInt) ∧ ((g26 39 11).toInt = (g22 39 11).toInt) ∧ ((g26 39 12).toInt = (g22 39 12).toInt) ∧ ((g26 39 13).toInt = (g22 39 13).toInt) ∧ ((g26 39 14).toInt = (g22 39 14).toInt) ∧ ((g26 39 15).toInt = (g22 39 15).toInt) := p27_3
      clear p27_3
      have e44_g26 : g26 44 = h 44 := (p27_2 44 (by omega)).trans e44_g22
      have e9_g26 : (g26 39 9).toInt = (h 39 9).toInt := (by omega)
      (first | (replace o29 : (g26 39 7).toInt = mx (g22 39 7).toInt (r1 / 10).toInt ∧ ((g26 39 5).toInt = (g22 39 5).toInt) ∧ ((g26 39 6).toInt = (g22 39 6).toInt) ∧ ((g26 39 9).toInt = (g22 39 9).toInt) ∧ ((g26 39 10).toInt = (g22 39 10).toInt) ∧ ((g26 39 11).toInt = (g22 39 11).toInt) ∧ ((g26 39 12).toInt = (g22 39 12).toInt) ∧ ((g26 39 13).toInt = (g22 39 13).toInt) ∧ ((g26 39 14).toInt = (g22 39 14).toInt) ∧ ((g26 39 15).toInt = (g22 39 15).toInt) := ⟨o29.1.elim (fun z => z.2) (fun z => absurd (show (g22 39 14).toInt = 0 by omega) z.1), o29.2⟩) | (replace o29 : (g26 39 7).toInt = (g22 39 7).toInt ∧ ((g26 39 5).toInt = (g22 39 5).toInt) ∧ ((g26 39 6).toInt = (g22 39 6).toInt) ∧ ((g26 39 9).toInt = (g22 39 9).toInt) ∧ ((g26 39 10).toInt = (g22 39 10).toInt) ∧ ((g26 39 11).toInt = (g22 39 11).toInt) ∧ ((g26 39 12).toInt = (g22 39 12).toInt) ∧ ((g26 39 13).toInt = (g22 39 13).toInt) ∧ ((g26 39 14).toInt = (g22 39 14).toInt) ∧ ((g26 39 15).toInt = (g22 39 15).toInt) := ⟨o29.1.elim (fun z => absurd z.1 (show ¬ (g22 39 14).toInt = 0 by omega)) (fun z => z.2), o29.2⟩) | skip)
      (try rw [e44_g22] at o29); (try rw [e9_g22] at o29)
      show ¬ (10 : Int32) = 0 ∧ (qm_PW X 155 [.ref 39, .int (r1 - r1 / 10 * 10)] g26 _)
      refine ⟨by decide, ?_⟩
      refine tx_155 X g26 (r1 - r1 / 10 * 10) ⟨p27_0, p27_1⟩ _ (fun g30 p31 => ?_)
      obtain ⟨p31_0, p31_1, p31_2, p31_3⟩ := p31
      have f32 : ∀ k, (k < 39 ∨ 39 < k) → g30 k = h k := fun k hk => (p31_2 k (by omega)).trans (f28 k hk)
      have o33 : (((g26 39 14).toInt = 0 ∧ (g30 39 7).toInt = mx (g26 39 7).toInt (r1 - r1 / 10 * 10).toInt) ∨ (¬ (g26 39 14).toInt = 0 ∧ (g30 39 7).toInt = (g26 39 7).toInt)) ∧ ((g30 39 5).toInt = (g26 39 5).toInt) ∧ ((g30 39 6).toInt = (g26 39 6).toInt) ∧ ((g30 39 9).toInt = (g26 39 9).toInt) ∧ ((g30 39 10).toInt = (g26 39 10).toInt) ∧ ((g30 39 11).toInt = (g26 39 11).toInt) ∧ ((g30 39 12).toInt = (g26 39 12).toInt) ∧ ((g30 39 13).toInt = (g26 39 13).toInt) ∧ ((g30 39 14).toInt = (g26 39 14).toInt) ∧ ((g30 39 15).toInt = (g26 39 15).toInt) := p31_3
      clear p31_3
      have e44_g30 : g30 44 = h 44 := (p31_2 44 (by omega)).trans e44_g26
      have e9_g30 : (g30 39 9).toInt = (h 39 9).toInt := (by omega)
      (first | (replace o33 : (g30 39 7).toInt = mx (g26 39 7).toInt (r1 - r1 / 10 * 10).toInt ∧ ((g30 39 5).toInt = (g26 39 5).toInt) ∧ ((g30 39 6).toInt = (g26 39 6).toInt) ∧ ((g30 39 9).toInt = (g26 39 9).toInt) ∧ ((g30 39 10).toInt = (g26 39 10).toInt) ∧ ((g30 39 11).toInt = (g26 39 11).toInt) ∧ ((g30 39 12).toInt = (g26 39 12).toInt) ∧ ((g30 39 13).toInt = (g26 39 13).toInt) ∧ ((g30 39 14).toInt = (g26 39 14).toInt) ∧ ((g30 39 15).toInt = (g26 39 15).toInt) := ⟨o33.1.elim (fun z => z.2) (fun z => absurd (show (g26 39 14).toInt = 0 by omega) z.1), o33.2⟩) | (replace o33 : (g30 39 7).toInt = (g26 39 7).toInt ∧ ((g30 39 5).toInt = (g26 39 5).toInt) ∧ ((g30 39 6).toInt = (g26 39 6).toInt) ∧ ((g30 39 9).toInt = (g26 39 9).toInt) ∧ ((g30 39 10).toInt = (g26 39 10).toInt) ∧ ((g30 39 11).toInt = (g26 39 11).toInt) ∧ ((g30 39 12).toInt = (g26 39 12).toInt) ∧ ((g30 39 13).toInt = (g26 39 13).toInt) ∧ ((g30 39 14).toInt = (g26 39 14).toInt) ∧ ((g30 39 15).toInt = (g26 39 15).toInt) := ⟨o33.1.elim (fun z => absurd z.1 (show ¬ (g26 39 14).toInt = 0 by omega)) (fun z => z.2), o33.2⟩) | skip)
      (try rw [e44_g26] at o33); (try rw [e9_g26] at o33)
      show qm_PW X 152 [.ref 39] g30 _
      refine tx_152 X g30  ⟨p31_0, p31_1, (by show bt (g30 44) (g30 39 9).toInt; rw [e44_g30, e9_g30]; exact hbt)⟩ _ (fun g34 p35 => ?_)
      obtain ⟨p35_0, p35_1, p35_2, p35_3⟩ := p35
      have f36 : ∀ k, (k < 39 ∨ 39 < k) → g34 k = h k := fun k hk => (p35_2 k (by omega)).trans (f32 k hk)
      have o37 : nxQ (g30 44) (g30 39 9).toInt.toNat (g30 39 10).toInt.toNat (g30 39 14).toInt (g34 39 11).toInt (g34 39 12).toInt (g34 39 10).toInt (g34 39 13).toInt (g34 39 14).toInt (g34 39 15).toInt (g30 39 15).toInt ∧ ((g34 39 5).toInt = (g30 39 5).toInt) ∧ ((g34 39 6).toInt = (g30 39 6).toInt) ∧ ((g34 39 7).toInt = (g30 39 7).toInt) ∧ ((g34 39 9).toInt = (g30 39 9).toInt) ∧ ((g30 39 14).toInt ≤ (g34 39 14).toInt) := p35_3
      clear p35_3
      have e44_g34 : g34 44 = h 44 := (p35_2 44 (by omega)).trans e44_g30
      have e9_g34 : (g34 39 9).toInt = (h 39 9).toInt := (by omega)
      (try rw [e44_g30] at o37); (try rw [e9_g30] at o37)
      show Q (some (.int r1)) g34
      exact hq r1 g34 ⟨p35_0, p35_1, (fun k hk => f36 k hk), (by have : (39 : Int32).toInt = 39 := rfl; have : (3 : Int32).toInt = 3 := rfl; have : (0 : Int32).toInt = 0 := rfl; have := ti_rem (10 : Int32) 10 rfl r1 (by decide); have := ti_div (10 : Int32) 10 rfl r1 (by decide); show nbQ (h 44) (h 39 9).toInt.toNat (h 39 10).toInt.toNat (h 39 14).toInt (h 39 15).toInt (h 39 12).toInt (h 39 13).toInt (h 39 11).toInt (0 ≤ (h 39 13).toInt ∧ (h 39 13).toInt / 10 ≤ 3 ∧ (h 39 13).toInt % 10 ≤ 3 ∧ ¬ (h 39 13).toInt / 10 = (h 39 13).toInt % 10) ((g34 39 7).toInt = mx (mx (h 39 7).toInt ((h 39 13).toInt / 10)) ((h 39 13).toInt % 10)) r1.toInt (g34 39 11).toInt (g34 39 12).toInt (g34 39 10).toInt (g34 39 13).toInt (g34 39 14).toInt (g34 39 15).toInt ∧ (0 ≤ r1.toInt ∧ r1.toInt ≤ 39) ∧ (r1.toInt % 10 ≤ 3 + 10 * (g34 39 14).toInt) ∧ ((h 39 14).toInt ≤ (g34 39 14).toInt) ∧ ((g34 39 5).toInt = (h 39 5).toInt) ∧ ((g34 39 6).toInt = (h 39 6).toInt) ∧ ((g34 39 9).toInt = (h 39 9).toInt); exact ⟨nbQ_B o5.1 (by omega) o37.1 (by omega) (by omega) (by omega) (fun hr hc => by omega), by omega, by omega, by omega, by omega⟩)⟩
    · refine ⟨by decide, ?_⟩
      refine ⟨by decide, ?_⟩
      refine ⟨fun c38 => ?_, fun c39 => ?_⟩
      · have : (r1 / 10).toInt = (r1 - r1 / 10 * 10).toInt := congrArg Int32.toInt c38
        refine tx_147 X g2 (0 : Int32) (3 : Int32) ⟨p3_0, p3_1, (by have : (39 : Int32).toInt = 39 := rfl; have : (3 : Int32).toInt = 3 := rfl; have : (0 : Int32).toInt = 0 := rfl; have := ti_rem (10 : Int32) 10 rfl r1 (by decide); have := ti_div (10 : Int32) 10 rfl r1 (by decide); omega)⟩ _ (fun g40 p41 => ?_)
        obtain ⟨p41_0, p41_1, p41_2, p41_3⟩ := p41
        have f42 : ∀ k, (k < 39 ∨ 39 < k) → g40 k = h k := fun k hk => (p41_2 k (by omega)).trans (f4 k hk)
        have o43 : ((((0 : Int32).toInt = 0 ∧ (g2 39 14).toInt = 0) ∧ (g40 39 14).toInt = (3 : Int32).toInt ∧ (g40 39 15).toInt = (g2 39 11).toInt) ∨ (¬ ((0 : Int32).toInt = 0 ∧ (g2 39 14).toInt = 0) ∧ (g40 39 14).toInt = (g2 39 14).toInt ∧ (g40 39 15).toInt = (g2 39 15).toInt)) ∧ ((g40 39 5).toInt = (g2 39 5).toInt) ∧ ((g40 39 6).toInt = (g2 39 6).toInt) ∧ ((g40 39 7).toInt = (g2 39 7).toInt) ∧ ((g40 39 9).toInt = (g2 39 9).toInt) ∧ ((g40 39 10).toInt = (g2 39 10).toInt) ∧ ((g40 39 11).toInt = (g2 39 11).toInt) ∧ ((g40 39 12).toInt = (g2 39 12).toInt) ∧ ((g40 39 13).toInt = (g2 39 13).toInt) := p41_3
        clear p41_3
        have e44_g40 : g40 44 = h 44 := (p41_2 44 (by omega)).trans e44_g2
        have e9_g40 : (g40 39 9).toInt = (h 39 9).toInt := (by omega)
        (first | (replace o43 : (g40 39 14).toInt = (3 : Int32).toInt ∧ (g40 39 15).toInt = (g2 39 11).toInt ∧ ((g40 39 5).toInt = (g2 39 5).toInt) ∧ ((g40 39 6).toInt = (g2 39 6).toInt) ∧ ((g40 39 7).toInt = (g2 39 7).toInt) ∧ ((g40 39 9).toInt = (g2 39 9).toInt) ∧ ((g40 39 10).toInt = (g2 39 10).toInt) ∧ ((g40 39 11).toInt = (g2 39 11).toInt) ∧ ((g40 39 12).toInt = (g2 39 12).toInt) ∧ ((g40 39 13).toInt = (g2 39 13).toInt) := ⟨(by have : (0 : Int32).toInt = 0 := rfl; omega), (by have : (0 : Int32).toInt = 0 := rfl; omega), o43.2⟩) | (replace o43 : (g40 39 14).toInt = (g2 39 14).toInt ∧ (g40 39 15).toInt = (g2 39 15).toInt ∧ ((g40 39 5).toInt = (g2 39 5).toInt) ∧ ((g40 39 6).toInt = (g2 39 6).toInt) ∧ ((g40 39 7).toInt = (g2 39 7).toInt) ∧ ((g40 39 9).toInt = (g2 39 9).toInt) ∧ ((g40 39 10).toInt = (g2 39 10).toInt) ∧ ((g40 39 11).toInt = (g2 39 11).toInt) ∧ ((g40 39 12).toInt = (g2 39 12).toInt) ∧ ((g40 39 13).toInt = (g2 39 13).toInt) := ⟨(by have : (1 : Int32).toInt = 1 := rfl; have : (0 : Int32).toInt = 0 := rfl; omega), (by have : (1 : Int32).toInt = 1 := rfl; have : (0 : Int32).toInt = 0 := rfl; omega), o43.2⟩) | skip)
        (try rw [e44_g2] at o43); (try rw [e9_g2] at o43)
        show ¬ (10 : Int32) = 0 ∧ (qm_PW X 155 [.ref 39, .int (r1 / 10)] g40 _)
        refine ⟨by decide, ?_⟩
        refine tx_155 X g40 (r1 / 10) ⟨p41_0, p41_1⟩ _ (fun g44 p45 => ?_)
        obtain ⟨p45_0, p45_1, p45_2, p45_3⟩ := p45
        have f46 : ∀ k, (k < 39 ∨ 39 < k) → g44 k = h k := fun k hk => (p45_2 k (by omega)).trans (f42 k hk)
        have o47 : (((g40 39 14).toInt = 0 ∧ (g44 39 7).toInt = mx (g40 39 7).toInt (r1 / 10).toInt) ∨ (¬ (g40 39 14).toInt = 0 ∧ (g44 39 7).toInt = (g40 39 7).toInt)) ∧ ((g44 39 5).toInt = (g40 39 5).toInt) ∧ ((g44 39 6).toInt = (g40 39 6).toInt) ∧ ((g44 39 9).toInt = (g40 39 9).toInt) ∧ ((g44 39 10).toInt = (g40 39 10).toInt) ∧ ((g44 39 11).toInt = (g40 39 11).toInt) ∧ ((g44 39 12).toInt = (g40 39 12).toInt) ∧ ((g44 39 13).toInt = (g40 39 13).toInt) ∧ ((g44 39 14).toInt = (g40 39 14).toInt) ∧ ((g44 39 15).toInt = (g40 39 15).toInt) := p45_3
        clear p45_3
        have e44_g44 : g44 44 = h 44 := (p45_2 44 (by omega)).trans e44_g40
        have e9_g44 : (g44 39 9).toInt = (h 39 9).toInt := (by omega)
        (first | (replace o47 : (g44 39 7).toInt = mx (g40 39 7).toInt (r1 / 10).toInt ∧ ((g44 39 5).toInt = (g40 39 5).toInt) ∧ ((g44 39 6).toInt = (g40 39 6).toInt) ∧ ((g44 39 9).toInt = (g40 39 9).toInt) ∧ ((g44 39 10).toInt = (g40 39 10).toInt) ∧ ((g44 39 11).toInt = (g40 39 11).toInt) ∧ ((g44 39 12).toInt = (g40 39 12).toInt) ∧ ((g44 39 13).toInt = (g40 39 13).toInt) ∧ ((g44 39 14).toInt = (g40 39 14).toInt) ∧ ((g44 39 15).toInt = (g40 39 15).toInt) := ⟨o47.1.elim (fun z => z.2) (fun z => absurd (show (g40 39 14).toInt = 0 by omega) z.1), o47.2⟩) | (replace o47 : (g44 39 7).toInt = (g40 39 7).toInt ∧ ((g44 39 5).toInt = (g40 39 5).toInt) ∧ ((g44 39 6).toInt = (g40 39 6).toInt) ∧ ((g44 39 9).toInt = (g40 39 9).toInt) ∧ ((g44 39 10).toInt = (g40 39 10).toInt) ∧ ((g44 39 11).toInt = (g40 39 11).toInt) ∧ ((g44 39 12).toInt = (g40 39 12).toInt) ∧ ((g44 39 13).toInt = (g40 39 13).toInt) ∧ ((g44 39 14).toInt = (g40 39 14).toInt) ∧ ((g44 39 15).toInt = (g40 39 15).toInt) := ⟨o47.1.elim (fun z => absurd z.1 (show ¬ (g40 39 14).toInt = 0 by omega)) (fun z => z.2), o47.2⟩) | skip)
        (try rw [e44_g40] at o47); (try rw [e9_g40] at o47)
        show ¬ (10 : Int32) = 0 ∧ (qm_PW X 155 [.ref 39, .int (r1 - r1 / 10 * 10)] g44 _)
        refine ⟨by decide, ?_⟩
        refine tx_155 X g44 (r1 - r1 / 10 * 10) ⟨p45_0, p45_1⟩ _ (fun g48 p49 => ?_)
        obtain ⟨p49_0, p49_1, p49_2, p49_3⟩ := p49
        have f50 : ∀ k, (k < 39 ∨ 39 < k) → g48 k = h k := fun k hk => (p49_2 k (by omega)).trans (f46 k hk)
        have o51 : (((g44 39 14).toInt = 0 ∧ (g48 39 7).toInt = mx (g44 39 7).toInt (r1 - r1 / 10 * 10).toInt) ∨ (¬ (g44 39 14).toInt = 0 ∧ (g48 39 7).toInt = (g44 39 7).toInt)) ∧ ((g48 39 5).toInt = (g44 39 5).toInt) ∧ ((g48 39 6).toInt = (g44 39 6).toInt) ∧ ((g48 39 9).toInt = (g44 39 9).toInt) ∧ ((g48 39 10).toInt = (g44 39 10).toInt) ∧ ((g48 39 11).toInt = (g44 39 11).toInt) ∧ ((g48 39 12).toInt = (g44 39 12).toInt) ∧ ((g48 39 13).toInt = (g44 39 13).toInt) ∧ ((g48 39 14).toInt = (g44 39 14).toInt) ∧ ((g48 39 15).toInt = (g44 39 15).toInt) := p49_3
        clear p49_3
        have e44_g48 : g48 44 = h 44 := (p49_2 44 (by omega)).trans e44_g44
        have e9_g48 : (g48 39 9).toInt = (h 39 9).toInt := (by omega)
        (first | (replace o51 : (g48 39 7).toInt = mx (g44 39 7).toInt (r1 - r1 / 10 * 10).toInt ∧ ((g48 39 5).toInt = (g44 39 5).toInt) ∧ ((g48 39 6).toInt = (g44 39 6).toInt) ∧ ((g48 39 9).toInt = (g44 39 9).toInt) ∧ ((g48 39 10).toInt = (g44 39 10).toInt) ∧ ((g48 39 11).toInt = (g44 39 11).toInt) ∧ ((g48 39 12).toInt = (g44 39 12).toInt) ∧ ((g48 39 13).toInt = (g44 39 13).toInt) ∧ ((g48 39 14).toInt = (g44 39 14).toInt) ∧ ((g48 39 15).toInt = (g44 39 15).toInt) := ⟨o51.1.elim (fun z => z.2) (fun z => absurd (show (g44 39 14).toInt = 0 by omega) z.1), o51.2⟩) | (replace o51 : (g48 39 7).toInt = (g44 39 7).toInt ∧ ((g48 39 5).toInt = (g44 39 5).toInt) ∧ ((g48 39 6).toInt = (g44 39 6).toInt) ∧ ((g48 39 9).toInt = (g44 39 9).toInt) ∧ ((g48 39 10).toInt = (g44 39 10).toInt) ∧ ((g48 39 11).toInt = (g44 39 11).toInt) ∧ ((g48 39 12).toInt = (g44 39 12).toInt) ∧ ((g48 39 13).toInt = (g44 39 13).toInt) ∧ ((g48 39 14).toInt = (g44 39 14).toInt) ∧ ((g48 39 15).toInt = (g44 39 15).toInt) := ⟨o51.1.elim (fun z => absurd z.1 (show ¬ (g44 39 14).toInt = 0 by omega)) (fun z => z.2), o51.2⟩) | skip)
        (try rw [e44_g44] at o51); (try rw [e9_g44] at o51)
        show qm_PW X 152 [.ref 39] g48 _
        refine tx_152 X g48  ⟨p49_0, p49_1, (by show bt (g48 44) (g48 39 9).toInt; rw [e44_g48, e9_g48]; exact hbt)⟩ _ (fun g52 p53 => ?_)
        obtain ⟨p53_0, p53_1, p53_2, p53_3⟩ := p53
        have f54 : ∀ k, (k < 39 ∨ 39 < k) → g52 k = h k := fun k hk => (p53_2 k (by omega)).trans (f50 k hk)
        have o55 : nxQ (g48 44) (g48 39 9).toInt.toNat (g48 39 10).toInt.toNat (g48 39 14).toInt (g52 39 11).toInt (g52 39 12).toInt (g52 39 10).toInt (g52 39 13).toInt (g52 39 14).toInt (g52 39 15).toInt (g48 39 15).toInt ∧ ((g52 39 5).toInt = (g48 39 5).toInt) ∧ ((g52 39 6).toInt = (g48 39 6).toInt) ∧ ((g52 39 7).toInt = (g48 39 7).toInt) ∧ ((g52 39 9).toInt = (g48 39 9).toInt) ∧ ((g48 39 14).toInt ≤ (g52 39 14).toInt) := p53_3
        clear p53_3
        have e44_g52 : g52 44 = h 44 := (p53_2 44 (by omega)).trans e44_g48
        have e9_g52 : (g52 39 9).toInt = (h 39 9).toInt := (by omega)
        (try rw [e44_g48] at o55); (try rw [e9_g48] at o55)
        show Q (some (.int r1)) g52
        exact hq r1 g52 ⟨p53_0, p53_1, (fun k hk => f54 k hk), (by have : (39 : Int32).toInt = 39 := rfl; have : (3 : Int32).toInt = 3 := rfl; have : (0 : Int32).toInt = 0 := rfl; have := ti_rem (10 : Int32) 10 rfl r1 (by decide); have := ti_div (10 : Int32) 10 rfl r1 (by decide); show nbQ (h 44) (h 39 9).toInt.toNat (h 39 10).toInt.toNat (h 39 14).toInt (h 39 15).toInt (h 39 12).toInt (h 39 13).toInt (h 39 11).toInt (0 ≤ (h 39 13).toInt ∧ (h 39 13).toInt / 10 ≤ 3 ∧ (h 39 13).toInt % 10 ≤ 3 ∧ ¬ (h 39 13).toInt / 10 = (h 39 13).toInt % 10) ((g52 39 7).toInt = mx (mx (h 39 7).toInt ((h 39 13).toInt / 10)) ((h 39 13).toInt % 10)) r1.toInt (g52 39 11).toInt (g52 39 12).toInt (g52 39 10).toInt (g52 39 13).toInt (g52 39 14).toInt (g52 39 15).toInt ∧ (0 ≤ r1.toInt ∧ r1.toInt ≤ 39) ∧ (r1.toInt % 10 ≤ 3 + 10 * (g52 39 14).toInt) ∧ ((h 39 14).toInt ≤ (g52 39 14).toInt) ∧ ((g52 39 5).toInt = (h 39 5).toInt) ∧ ((g52 39 6).toInt = (h 39 6).toInt) ∧ ((g52 39 9).toInt = (h 39 9).toInt); exact ⟨nbQ_B o5.1 (by omega) o55.1 (by omega) (by omega) (by omega) (fun hr hc => by omega), by omega, by omega, by omega, by omega⟩)⟩
      · have : ¬ (r1 / 10).toInt = (r1 - r1 / 10 * 10).toInt := fun q => c39 (Int32.toInt_inj.mp q)
        refine tx_147 X g2 (1 : Int32) (3 : Int32) ⟨p3_0, p3_1, (by have : (39 : Int32).toInt = 39 := rfl; have : (3 : Int32).toInt = 3 := rfl; have : (0 : Int32).toInt = 0 := rfl; have := ti_rem (10 : Int32) 10 rfl r1 (by decide); have := ti_div (10 : Int32) 10 rfl r1 (by decide); omega)⟩ _ (fun g56 p57 => ?_)
        obtain ⟨p57_0, p57_1, p57_2, p57_3⟩ := p57
        have f58 : ∀ k, (k < 39 ∨ 39 < k) → g56 k = h k := fun k hk => (p57_2 k (by omega)).trans (f4 k hk)
        have o59 : ((((1 : Int32).toInt = 0 ∧ (g2 39 14).toInt = 0) ∧ (g56 39 14).toInt = (3 : Int32).toInt ∧ (g56 39 15).toInt = (g2 39 11).toInt) ∨ (¬ ((1 : Int32).toInt = 0 ∧ (g2 39 14).toInt = 0) ∧ (g56 39 14).toInt = (g2 39 14).toInt ∧ (g56 39 15).toInt = (g2 39 15).toInt)) ∧ ((g56 39 5).toInt = (g2 39 5).toInt) ∧ ((g56 39 6).toInt = (g2 39 6).toInt) ∧ ((g56 39 7).toInt = (g2 39 7).toInt) ∧ ((g56 39 9).toInt = (g2 39 9).toInt) ∧ ((g56 39 10).toInt = (g2 39 10).toInt) ∧ ((g56 39 11).toInt = (g2 39 11).toInt) ∧ ((g56 39 12).toInt = (g2 39 12).toInt) ∧ ((g56 39 13).toInt = (g2 39 13).toInt) := p57_3
        clear p57_3
        have e44_g56 : g56 44 = h 44 := (p57_2 44 (by omega)).trans e44_g2
        have e9_g56 : (g56 39 9).toInt = (h 39 9).toInt := (by omega)
        replace o59 : (g56 39 14).toInt = (g2 39 14).toInt ∧ (g56 39 15).toInt = (g2 39 15).toInt ∧ ((g56 39 5).toInt = (g2 39 5).toInt) ∧ ((g56 39 6).toInt = (g2 39 6).toInt) ∧ ((g56 39 7).toInt = (g2 39 7).toInt) ∧ ((g56 39 9).toInt = (g2 39 9).toInt) ∧ ((g56 39 10).toInt = (g2 39 10).toInt) ∧ ((g56 39 11).toInt = (g2 39 11).toInt) ∧ ((g56 39 12).toInt = (g2 39 12).toInt) ∧ ((g56 39 13).toInt = (g2 39 13).toInt) := ⟨(by have : (1 : Int32).toInt = 1 := rfl; have : (0 : Int32).toInt = 0 := rfl; omega), (by have : (1 : Int32).toInt = 1 := rfl; have : (0 : Int32).toInt = 0 := rfl; omega), o59.2⟩
        (try rw [e44_g2] at o59); (try rw [e9_g2] at o59)
        show ¬ (10 : Int32) = 0 ∧ (qm_PW X 155 [.ref 39, .int (r1 / 10)] g56 _)
        refine ⟨by decide, ?_⟩
        refine tx_155 X g56 (r1 / 10) ⟨p57_0, p57_1⟩ _ (fun g60 p61 => ?_)
        obtain ⟨p61_0, p61_1, p61_2, p61_3⟩ := p61
        have f62 : ∀ k, (k < 39 ∨ 39 < k) → g60 k = h k := fun k hk => (p61_2 k (by omega)).trans (f58 k hk)
        have o63 : (((g56 39 14).toInt = 0 ∧ (g60 39 7).toInt = mx (g56 39 7).toInt (r1 / 10).toInt) ∨ (¬ (g56 39 14).toInt = 0 ∧ (g60 39 7).toInt = (g56 39 7).toInt)) ∧ ((g60 39 5).toInt = (g56 39 5).toInt) ∧ ((g60 39 6).toInt = (g56 39 6).toInt) ∧ ((g60 39 9).toInt = (g56 39 9).toInt) ∧ ((g60 39 10).toInt = (g56 39 10).toInt) ∧ ((g60 39 11).toInt = (g56 39 11).toInt) ∧ ((g60 39 12).toInt = (g56 39 12).toInt) ∧ ((g60 39 13).toInt = (g56 39 13).toInt) ∧ ((g60 39 14).toInt = (g56 39 14).toInt) ∧ ((g60 39 15).toInt = (g56 39 15).toInt) := p61_3
        clear p61_3
        have e44_g60 : g60 44 = h 44 := (p61_2 44 (by omega)).trans e44_g56
        have e9_g60 : (g60 39 9).toInt = (h 39 9).toInt := (by omega)
        (first | (replace o63 : (g60 39 7).toInt = mx (g56 39 7).toInt (r1 / 10).toInt ∧ ((g60 39 5).toInt = (g56 39 5).toInt) ∧ ((g60 39 6).toInt = (g56 39 6).toInt) ∧ ((g60 39 9).toInt = (g56 39 9).toInt) ∧ ((g60 39 10).toInt = (g56 39 10).toInt) ∧ ((g60 39 11).toInt = (g56 39 11).toInt) ∧ ((g60 39 12).toInt = (g56 39 12).toInt) ∧ ((g60 39 13).toInt = (g56 39 13).toInt) ∧ ((g60 39 14).toInt = (g56 39 14).toInt) ∧ ((g60 39 15).toInt = (g56 39 15).toInt) := ⟨o63.1.elim (fun z => z.2) (fun z => absurd (show (g56 39 14).toInt = 0 by omega) z.1), o63.2⟩) | (replace o63 : (g60 39 7).toInt = (g56 39 7).toInt ∧ ((g60 39 5).toInt = (g56 39 5).toInt) ∧ ((g60 39 6).toInt = (g56 39 6).toInt) ∧ ((g60 39 9).toInt = (g56 39 9).toInt) ∧ ((g60 39 10).toInt = (g56 39 10).toInt) ∧ ((g60 39 11).toInt = (g56 39 11).toInt) ∧ ((g60 39 12).toInt = (g56 39 12).toInt) ∧ ((g60 39 13).toInt = (g56 39 13).toInt) ∧ ((g60 39 14).toInt = (g56 39 14).toInt) ∧ ((g60 39 15).toInt = (g56 39 15).toInt) := ⟨o63.1.elim (fun z => absurd z.1 (show ¬ (g56 39 14).toInt = 0 by omega)) (fun z => z.2), o63.2⟩) | skip)
        (try rw [e44_g56] at o63); (try rw [e9_g56] at o63)
        show ¬ (10 : Int32) = 0 ∧ (qm_PW X 155 [.ref 39, .int (r1 - r1 / 10 * 10)] g60 _)
        refine ⟨by decide, ?_⟩
        refine tx_155 X g60 (r1 - r1 / 10 * 10) ⟨p61_0, p61_1⟩ _ (fun g64 p65 => ?_)
        obtain ⟨p65_0, p65_1, p65_2, p65_3⟩ := p65
        have f66 : ∀ k, (k < 39 ∨ 39 < k) → g64 k = h k := fun k hk => (p65_2 k (by omega)).trans (f62 k hk)
        have o67 : (((g60 39 14).toInt = 0 ∧ (g64 39 7).toInt = mx (g60 39 7).toInt (r1 - r1 / 10 * 10).toInt) ∨ (¬ (g60 39 14).toInt = 0 ∧ (g64 39 7).toInt = (g60 39 7).toInt)) ∧ ((g64 39 5).toInt = (g60 39 5).toInt) ∧ ((g64 39 6).toInt = (g60 39 6).toInt) ∧ ((g64 39 9).toInt = (g60 39 9).toInt) ∧ ((g64 39 10).toInt = (g60 39 10).toInt) ∧ ((g64 39 11).toInt = (g60 39 11).toInt) ∧ ((g64 39 12).toInt = (g60 39 12).toInt) ∧ ((g64 39 13).toInt = (g60 39 13).toInt) ∧ ((g64 39 14).toInt = (g60 39 14).toInt) ∧ ((g64 39 15).toInt = (g60 39 15).toInt) := p65_3
        clear p65_3
        have e44_g64 : g64 44 = h 44 := (p65_2 44 (by omega)).trans e44_g60
        have e9_g64 : (g64 39 9).toInt = (h 39 9).toInt := (by omega)
        (first | (replace o67 : (g64 39 7).toInt = mx (g60 39 7).toInt (r1 - r1 / 10 * 10).toInt ∧ ((g64 39 5).toInt = (g60 39 5).toInt) ∧ ((g64 39 6).toInt = (g60 39 6).toInt) ∧ ((g64 39 9).toInt = (g60 39 9).toInt) ∧ ((g64 39 10).toInt = (g60 39 10).toInt) ∧ ((g64 39 11).toInt = (g60 39 11).toInt) ∧ ((g64 39 12).toInt = (g60 39 12).toInt) ∧ ((g64 39 13).toInt = (g60 39 13).toInt) ∧ ((g64 39 14).toInt = (g60 39 14).toInt) ∧ ((g64 39 15).toInt = (g60 39 15).toInt) := ⟨o67.1.elim (fun z => z.2) (fun z => absurd (show (g60 39 14).toInt = 0 by omega) z.1), o67.2⟩) | (replace o67 : (g64 39 7).toInt = (g60 39 7).toInt ∧ ((g64 39 5).toInt = (g60 39 5).toInt) ∧ ((g64 39 6).toInt = (g60 39 6).toInt) ∧ ((g64 39 9).toInt = (g60 39 9).toInt) ∧ ((g64 39 10).toInt = (g60 39 10).toInt) ∧ ((g64 39 11).toInt = (g60 39 11).toInt) ∧ ((g64 39 12).toInt = (g60 39 12).toInt) ∧ ((g64 39 13).toInt = (g60 39 13).toInt) ∧ ((g64 39 14).toInt = (g60 39 14).toInt) ∧ ((g64 39 15).toInt = (g60 39 15).toInt) := ⟨o67.1.elim (fun z => absurd z.1 (show ¬ (g60 39 14).toInt = 0 by omega)) (fun z => z.2), o67.2⟩) | skip)
        (try rw [e44_g60] at o67); (try rw [e9_g60] at o67)
        show qm_PW X 152 [.ref 39] g64 _
        refine tx_152 X g64  ⟨p65_0, p65_1, (by show bt (g64 44) (g64 39 9).toInt; rw [e44_g64, e9_g64]; exact hbt)⟩ _ (fun g68 p69 => ?_)
        obtain ⟨p69_0, p69_1, p69_2, p69_3⟩ := p69
        have f70 : ∀ k, (k < 39 ∨ 39 < k) → g68 k = h k := fun k hk => (p69_2 k (by omega)).trans (f66 k hk)
        have o71 : nxQ (g64 44) (g64 39 9).toInt.toNat (g64 39 10).toInt.toNat (g64 39 14).toInt (g68 39 11).toInt (g68 39 12).toInt (g68 39 10).toInt (g68 39 13).toInt (g68 39 14).toInt (g68 39 15).toInt (g64 39 15).toInt ∧ ((g68 39 5).toInt = (g64 39 5).toInt) ∧ ((g68 39 6).toInt = (g64 39 6).toInt) ∧ ((g68 39 7).toInt = (g64 39 7).toInt) ∧ ((g68 39 9).toInt = (g64 39 9).toInt) ∧ ((g64 39 14).toInt ≤ (g68 39 14).toInt) := p69_3
        clear p69_3
        have e44_g68 : g68 44 = h 44 := (p69_2 44 (by omega)).trans e44_g64
        have e9_g68 : (g68 39 9).toInt = (h 39 9).toInt := (by omega)
        (try rw [e44_g64] at o71); (try rw [e9_g64] at o71)
        show Q (some (.int r1)) g68
        exact hq r1 g68 ⟨p69_0, p69_1, (fun k hk => f70 k hk), (by have : (39 : Int32).toInt = 39 := rfl; have : (3 : Int32).toInt = 3 := rfl; have : (1 : Int32).toInt = 1 := rfl; have : (0 : Int32).toInt = 0 := rfl; have := ti_rem (10 : Int32) 10 rfl r1 (by decide); have := ti_div (10 : Int32) 10 rfl r1 (by decide); show nbQ (h 44) (h 39 9).toInt.toNat (h 39 10).toInt.toNat (h 39 14).toInt (h 39 15).toInt (h 39 12).toInt (h 39 13).toInt (h 39 11).toInt (0 ≤ (h 39 13).toInt ∧ (h 39 13).toInt / 10 ≤ 3 ∧ (h 39 13).toInt % 10 ≤ 3 ∧ ¬ (h 39 13).toInt / 10 = (h 39 13).toInt % 10) ((g68 39 7).toInt = mx (mx (h 39 7).toInt ((h 39 13).toInt / 10)) ((h 39 13).toInt % 10)) r1.toInt (g68 39 11).toInt (g68 39 12).toInt (g68 39 10).toInt (g68 39 13).toInt (g68 39 14).toInt (g68 39 15).toInt ∧ (0 ≤ r1.toInt ∧ r1.toInt ≤ 39) ∧ (r1.toInt % 10 ≤ 3 + 10 * (g68 39 14).toInt) ∧ ((h 39 14).toInt ≤ (g68 39 14).toInt) ∧ ((g68 39 5).toInt = (h 39 5).toInt) ∧ ((g68 39 6).toInt = (h 39 6).toInt) ∧ ((g68 39 9).toInt = (h 39 9).toInt); exact ⟨nbQ_C o5.1 (by omega) o71.1 (by omega) (by omega) (by omega) (fun hr hc => by omega) (fun hr => by rw [show (g68 39 7).toInt = (g64 39 7).toInt by omega, o67.1, o63.1, show (r1 / 10).toInt = (h 39 13).toInt / 10 by omega, show (r1 - r1 / 10 * 10).toInt = (h 39 13).toInt % 10 by omega, show (g56 39 7).toInt = (h 39 7).toInt by omega]), by omega, by omega, by omega, by omega⟩)⟩
