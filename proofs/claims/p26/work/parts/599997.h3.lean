-- ThreadBankModel.handsOf(I)I
set_option maxRecDepth 100000 in
set_option maxHeartbeats 4000000 in
theorem ty_212_c (X : qm_X) (h : qm_H) (a : Int32) (hp : am h ∧ (0 ≤ a.toInt ∧ a.toInt ≤ 9)) (Q : qm_Q) (hq : ∀ r : Int32, ((0 ≤ r.toInt ∧ r.toInt ≤ 15) ∧ hoQ (fun t => (h 41 (6 + 3 * t))) (fun t => (h 41 (7 + 3 * t))) (fun t => (h 41 (8 + 3 * t))) (h 41 4).toInt.toNat a.toInt.toNat r) → Q (some (.int r)) h) : ∀ n : Nat, (∀ (l2 : Int32) (l3 : Int32), ((0 ≤ l3.toInt ∧ l3.toInt ≤ (h 41 4).toInt) ∧ (0 ≤ l2.toInt ∧ l2.toInt ≤ 15) ∧ hoQ (fun t => h 41 (6 + 3 * t)) (fun t => h 41 (7 + 3 * t)) (fun t => h 41 (8 + 3 * t)) l3.toInt.toNat a.toInt.toNat l2) → (10 - l3.toInt).toNat < n → qm_PA X 212 4 [(0, .ref 39), (1, .int a), (2, .int l2), (3, .int l3)] [] h Q) := by
  have hmam : am h := hp.1
  have ⟨⟨_, _⟩, ⟨_, _⟩, _, _, _⟩ := hmam
  have hp0 : 0 ≤ a.toInt ∧ a.toInt ≤ 9 := hp.2
  intro n
  induction n with
  | zero => exact fun _ _ _ h0 => absurd h0 (Nat.not_lt_zero _)
  | succ n ih =>
    intro l2 l3 hi hr
    have ti_l3 := ti_rng l3
    refine qm_seg_ok (C := qc_212) (rt := some .int) rfl rfl (cuts := [(4, [0, 1, 2, 3])]) 400 _ _ _ _ ?_
    show (0 ≤ (4 : Int) ∧ (4 : Int) < 49) ∧ (((h 41 4).toInt ≤ l3.toInt → (Q (some (.int l2)) h)) ∧ (l3.toInt < (h 41 4).toInt → (qm_PW X 178 [.ref 39, .int a, .int l3] h _)))
    refine ⟨by decide, ?_⟩
    refine ⟨fun c1 => ?_, fun c2 => ?_⟩
    · exact hq l2 (by show (0 ≤ l2.toInt ∧ l2.toInt ≤ 15) ∧ hoQ (fun t => (h 41 (6 + 3 * t))) (fun t => (h 41 (7 + 3 * t))) (fun t => (h 41 (8 + 3 * t))) (h 41 4).toInt.toNat a.toInt.toNat l2; rw [show (h 41 4).toInt.toNat = l3.toInt.toNat by omega]; exact hi.2)
    · refine ty_178 X h a l3 ⟨hmam, (by omega)⟩ _ (fun r3 p4 => ?_)
      have o5 : (r3 = 0 ∨ r3 = 1) ∧ ((r3.toInt = 1 ∧ (h 41 (7 + 3 * a.toInt.toNat)).toInt = (h 41 (7 + 3 * l3.toInt.toNat)).toInt ∧ (h 41 (8 + 3 * a.toInt.toNat)).toInt = (h 41 (8 + 3 * l3.toInt.toNat)).toInt) ∨ (r3.toInt = 0 ∧ ¬ ((h 41 (7 + 3 * a.toInt.toNat)).toInt = (h 41 (7 + 3 * l3.toInt.toNat)).toInt ∧ (h 41 (8 + 3 * a.toInt.toNat)).toInt = (h 41 (8 + 3 * l3.toInt.toNat)).toInt))) := p4
      clear p4
      show qm_PW X 142 [.int r3] h _
      refine tx_142 X h r3 trivial _ (fun r6 p7 => ?_)
      have o8 : (r3.toInt = 0 ∧ r6.toInt = 0) ∨ (¬ r3.toInt = 0 ∧ r6.toInt = 1) := p7
      clear p7
      show qm_PW X 172 [.ref 39, .int l3] h _
      refine ty_172 X h l3 ⟨hmam, (by omega)⟩ _ (fun r9 p10 => ?_)
      have o11 : r9.toInt = ((h 41 (6 + 3 * l3.toInt.toNat)) / 10).toInt ∧ (0 ≤ r9.toInt ∧ r9.toInt ≤ 3) := p10
      clear p10
      show qm_PA X 212 4 [(0, .ref 39), (1, .int a), (2, .int (l2 ||| (r6 <<< (r9 &&& 31)))), (3, .int (l3 + 1))] [] h Q
      exact ih (l2 ||| (r6 <<< (r9 &&& 31))) (l3 + 1) (by have := ti_addK l3 (1 : Int32) 1 rfl; have := ti_div (10 : Int32) 10 rfl (h 41 (6 + 3 * l3.toInt.toNat)) (by decide); have hb9 := or_le l2 r6 r9 (by omega) (by omega) (by omega); exact ⟨by omega, hb9, by rw [show (l3 + 1).toInt.toNat = l3.toInt.toNat + 1 by omega]; exact hoQ_s hi.2.2 (l := r9) (f := r6) (show r9.toInt = ((h 41 (6 + 3 * l3.toInt.toNat)) / 10).toInt by omega) (by omega) (show (r6.toInt = 1 ∧ (h 41 (7 + 3 * a.toInt.toNat)).toInt = (h 41 (7 + 3 * l3.toInt.toNat)).toInt ∧ (h 41 (8 + 3 * a.toInt.toNat)).toInt = (h 41 (8 + 3 * l3.toInt.toNat)).toInt) ∨ (r6.toInt = 0 ∧ ¬ ((h 41 (7 + 3 * a.toInt.toNat)).toInt = (h 41 (7 + 3 * l3.toInt.toNat)).toInt ∧ (h 41 (8 + 3 * a.toInt.toNat)).toInt = (h 41 (8 + 3 * l3.toInt.toNat)).toInt)) by omega)⟩) (by have := ti_addK l3 (1 : Int32) 1 rfl; have := ti_div (10 : Int32) 10 rfl (h 41 (6 + 3 * l3.toInt.toNat)) (by decide); omega)
set_option maxRecDepth 100000 in
set_option maxHeartbeats 4000000 in
theorem ty_212 (X : qm_X) (h : qm_H) (a : Int32) (hp : am h ∧ (0 ≤ a.toInt ∧ a.toInt ≤ 9)) (Q : qm_Q) (hq : ∀ r : Int32, ((0 ≤ r.toInt ∧ r.toInt ≤ 15) ∧ hoQ (fun t => (h 41 (6 + 3 * t))) (fun t => (h 41 (7 + 3 * t))) (fun t => (h 41 (8 + 3 * t))) (h 41 4).toInt.toNat a.toInt.toNat r) → Q (some (.int r)) h) : qm_PW X 212 [.ref 39, .int a] h Q := by
  have hmam : am h := hp.1
  have ⟨⟨_, _⟩, ⟨_, _⟩, _, _, _⟩ := hmam
  have hp0 : 0 ≤ a.toInt ∧ a.toInt ≤ 9 := hp.2
  refine qm_seg_ok (C := qc_212) (rt := some .int) rfl rfl (cuts := [(4, [0, 1, 2, 3])]) 400 _ _ _ _ ?_
  show qm_PA X 212 4 [(0, .ref 39), (1, .int a), (2, .int 0), (3, .int 0)] [] h Q
  exact (ty_212_c X h a hp Q hq _) (0 : Int32) (0 : Int32) (by have : (0 : Int32).toInt = 0 := rfl; exact ⟨by have : (0 : Int32).toInt = 0 := rfl; omega, by decide, hoQ_0 rfl⟩) (Nat.lt_succ_self _)
-- ThreadBankModel.atRisk(I)I
set_option maxRecDepth 100000 in
set_option maxHeartbeats 4000000 in
theorem ty_214_c (X : qm_X) (h : qm_H) (a : Int32) (hp : am h ∧ (0 ≤ a.toInt ∧ a.toInt ≤ 3)) (Q : qm_Q) (hq : ∀ r : Int32, (r.toInt = cntP (rkA (fun t => (h 41 (6 + 3 * t))) (fun t => (h 41 (7 + 3 * t))) (fun t => (h 41 (8 + 3 * t))) (h 41 4).toInt.toNat (1 <<< (a &&& 31))) (h 41 4).toInt.toNat ∧ (0 ≤ r.toInt ∧ r.toInt ≤ 10)) → Q (some (.int r)) h) : ∀ n : Nat, (∀ (l2 : Int32) (l3 : Int32), ((0 ≤ l3.toInt ∧ l3.toInt ≤ (h 41 4).toInt) ∧ l2.toInt = cntP (rkA (fun t => h 41 (6 + 3 * t)) (fun t => h 41 (7 + 3 * t)) (fun t => h 41 (8 + 3 * t)) (h 41 4).toInt.toNat (1 <<< (a &&& 31))) l3.toInt.toNat) → (10 - l3.toInt).toNat < n → qm_PA X 214 4 [(0, .ref 39), (1, .int a), (2, .int l2), (3, .int l3)] [] h Q) := by
  have hmam : am h := hp.1
  have ⟨⟨_, _⟩, ⟨_, _⟩, _, _, _⟩ := hmam
  have hp0 : 0 ≤ a.toInt ∧ a.toInt ≤ 3 := hp.2
  intro n
  induction n with
  | zero => exact fun _ _ _ h0 => absurd h0 (Nat.not_lt_zero _)
  | succ n ih =>
    intro l2 l3 hi hr
    have ti_l3 := ti_rng l3
    have hcr := cntP_rng (P := rkA (fun t => h 41 (6 + 3 * t)) (fun t => h 41 (7 + 3 * t)) (fun t => h 41 (8 + 3 * t)) (h 41 4).toInt.toNat (1 <<< (a &&& 31))) (n := l3.toInt.toNat)
    refine qm_seg_ok (C := qc_214) (rt := some .int) rfl rfl (cuts := [(4, [0, 1, 2, 3])]) 400 _ _ _ _ ?_
    show (0 ≤ (4 : Int) ∧ (4 : Int) < 49) ∧ (((h 41 4).toInt ≤ l3.toInt → (Q (some (.int l2)) h)) ∧ (l3.toInt < (h 41 4).toInt → (qm_PW X 213 [.ref 39, .int l3] h _)))
    refine ⟨by decide, ?_⟩
    refine ⟨fun c1 => ?_, fun c2 => ?_⟩
    · exact hq l2 (by show l2.toInt = cntP (rkA (fun t => (h 41 (6 + 3 * t))) (fun t => (h 41 (7 + 3 * t))) (fun t => (h 41 (8 + 3 * t))) (h 41 4).toInt.toNat (1 <<< (a &&& 31))) (h 41 4).toInt.toNat ∧ (0 ≤ l2.toInt ∧ l2.toInt ≤ 10); have hi2 := hi.2; rw [show l3.toInt.toNat = (h 41 4).toInt.toNat by omega] at hi2; have hcr := cntP_rng (P := rkA (fun t => h 41 (6 + 3 * t)) (fun t => h 41 (7 + 3 * t)) (fun t => h 41 (8 + 3 * t)) (h 41 4).toInt.toNat (1 <<< (a &&& 31))) (n := (h 41 4).toInt.toNat); exact ⟨hi2, by omega⟩)
    · refine ty_213 X h l3 ⟨hmam, (by omega)⟩ _ (fun r3 p4 => ?_)
      have o5 : (r3 = 0 ∨ r3 = 1) ∧ ((¬ r3 = 0 ∧ fsA (fun t => (h 41 (7 + 3 * t))) (fun t => (h 41 (8 + 3 * t))) l3.toInt.toNat) ∨ (r3 = 0 ∧ ¬ fsA (fun t => (h 41 (7 + 3 * t))) (fun t => (h 41 (8 + 3 * t))) l3.toInt.toNat)) := p4
      clear p4
      show (r3 = 0 → (qm_PW X 142 [.int 0] h _)) ∧ (¬ r3 = 0 → (qm_PW X 212 [.ref 39, .int l3] h _))
      refine ⟨fun c6 => ?_, fun c7 => ?_⟩
      · refine tx_142 X h (0 : Int32) trivial _ (fun r8 p9 => ?_)
        have o10 : ((0 : Int32).toInt = 0 ∧ r8.toInt = 0) ∨ (¬ (0 : Int32).toInt = 0 ∧ r8.toInt = 1) := p9
        clear p9
        show qm_PA X 214 4 [(0, .ref 39), (1, .int a), (2, .int (l2 + r8)), (3, .int (l3 + 1))] [] h Q
        exact ih (l2 + r8) (l3 + 1) (by have : (0 : Int32).toInt = 0 := rfl; have := ti_addK l3 (1 : Int32) 1 rfl; have := ti_add l2 r8; have h01 : (0 : Int32).toInt = 0 := rfl; have h11 : (1 : Int32).toInt = 1 := rfl; have hF := (o5.2.resolve_left (fun w => absurd (by assumption) w.1)).2; exact ⟨by omega, by rw [show (l3 + 1).toInt.toNat = l3.toInt.toNat + 1 by omega, cntP_f (fun w => hF w.1)]; omega⟩) (by have : (0 : Int32).toInt = 0 := rfl; have := ti_addK l3 (1 : Int32) 1 rfl; omega)
      · refine ty_212 X h l3 ⟨hmam, (by omega)⟩ _ (fun r11 p12 => ?_)
        have o13 : (0 ≤ r11.toInt ∧ r11.toInt ≤ 15) ∧ hoQ (fun t => (h 41 (6 + 3 * t))) (fun t => (h 41 (7 + 3 * t))) (fun t => (h 41 (8 + 3 * t))) (h 41 4).toInt.toNat l3.toInt.toNat r11 := p12
        clear p12
        show (¬ r11 = (1 <<< (a &&& 31)) → (qm_PW X 142 [.int 0] h _)) ∧ (r11 = (1 <<< (a &&& 31)) → (qm_PW X 142 [.int 1] h _))
        refine ⟨fun c14 => ?_, fun c15 => ?_⟩
        · refine tx_142 X h (0 : Int32) trivial _ (fun r16 p17 => ?_)
          have o18 : ((0 : Int32).toInt = 0 ∧ r16.toInt = 0) ∨ (¬ (0 : Int32).toInt = 0 ∧ r16.toInt = 1) := p17
          clear p17
          show qm_PA X 214 4 [(0, .ref 39), (1, .int a), (2, .int (l2 + r16)), (3, .int (l3 + 1))] [] h Q
          exact ih (l2 + r16) (l3 + 1) (by have : (0 : Int32).toInt = 0 := rfl; have := ti_addK l3 (1 : Int32) 1 rfl; have := ti_add l2 r16; have h01 : (0 : Int32).toInt = 0 := rfl; have h11 : (1 : Int32).toInt = 1 := rfl; have hq9 := rk_iff o13.2 o13.1 (show l3.toInt.toNat < (h 41 4).toInt.toNat by omega) (hdB_le (am_hd hmam) (by omega)) (show a.toInt.toNat < 4 by omega); rw [← i32_nI (x := a) (by omega)] at hq9; exact ⟨by omega, by rw [show (l3 + 1).toInt.toNat = l3.toInt.toNat + 1 by omega, cntP_f (fun w => absurd (hq9.mpr w.2) (by assumption))]; omega⟩) (by have : (0 : Int32).toInt = 0 := rfl; have := ti_addK l3 (1 : Int32) 1 rfl; omega)
        · refine tx_142 X h (1 : Int32) trivial _ (fun r19 p20 => ?_)
          have o21 : ((1 : Int32).toInt = 0 ∧ r19.toInt = 0) ∨ (¬ (1 : Int32).toInt = 0 ∧ r19.toInt = 1) := p20
          clear p20
          show qm_PA X 214 4 [(0, .ref 39), (1, .int a), (2, .int (l2 + r19)), (3, .int (l3 + 1))] [] h Q
          exact ih (l2 + r19) (l3 + 1) (by have : (1 : Int32).toInt = 1 := rfl; have := ti_addK l3 (1 : Int32) 1 rfl; have := ti_add l2 r19; have h01 : (0 : Int32).toInt = 0 := rfl; have h11 : (1 : Int32).toInt = 1 := rfl; have hq9 := rk_iff o13.2 o13.1 (show l3.toInt.toNat < (h 41 4).toInt.toNat by omega) (hdB_le (am_hd hmam) (by omega)) (show a.toInt.toNat < 4 by omega); rw [← i32_nI (x := a) (by omega)] at hq9; have hF := (o5.2.resolve_right (fun w => absurd w.1 (by assumption))).2; exact ⟨by omega, by rw [show (l3 + 1).toInt.toNat = l3.toInt.toNat + 1 by omega, cntP_t (P := rkA (fun t => h 41 (6 + 3 * t)) (fun t => h 41 (7 + 3 * t)) (fun t => h 41 (8 + 3 * t)) (h 41 4).toInt.toNat (1 <<< (a &&& 31))) ⟨hF, hq9.mp (by assumption)⟩]; omega⟩) (by have : (1 : Int32).toInt = 1 := rfl; have := ti_addK l3 (1 : Int32) 1 rfl; omega)
set_option maxRecDepth 100000 in
set_option maxHeartbeats 4000000 in
theorem ty_214 (X : qm_X) (h : qm_H) (a : Int32) (hp : am h ∧ (0 ≤ a.toInt ∧ a.toInt ≤ 3)) (Q : qm_Q) (hq : ∀ r : Int32, (r.toInt = cntP (rkA (fun t => (h 41 (6 + 3 * t))) (fun t => (h 41 (7 + 3 * t))) (fun t => (h 41 (8 + 3 * t))) (h 41 4).toInt.toNat (1 <<< (a &&& 31))) (h 41 4).toInt.toNat ∧ (0 ≤ r.toInt ∧ r.toInt ≤ 10)) → Q (some (.int r)) h) : qm_PW X 214 [.ref 39, .int a] h Q := by
  have hmam : am h := hp.1
  have ⟨⟨_, _⟩, ⟨_, _⟩, _, _, _⟩ := hmam
  have hp0 : 0 ≤ a.toInt ∧ a.toInt ≤ 3 := hp.2
  refine qm_seg_ok (C := qc_214) (rt := some .int) rfl rfl (cuts := [(4, [0, 1, 2, 3])]) 400 _ _ _ _ ?_
  show qm_PA X 214 4 [(0, .ref 39), (1, .int a), (2, .int 0), (3, .int 0)] [] h Q
  exact (ty_214_c X h a hp Q hq _) (0 : Int32) (0 : Int32) (by have : (0 : Int32).toInt = 0 := rfl; exact ⟨by have : (0 : Int32).toInt = 0 := rfl; omega, rfl⟩) (Nat.lt_succ_self _)
-- ThreadBankModel.risk(I)I
set_option maxRecDepth 100000 in
set_option maxHeartbeats 4000000 in
theorem ty_215 (X : qm_X) (h : qm_H) (a : Int32) (hp : mi h ∧ sm h ∧ zs h ∧ rw_ h) (Q : qm_Q) (hq : ∀ r : Int32, ∀ h' : qm_H, (mi h' ∧ sm h' ∧ zs h' ∧ rw_ h' ∧ (∀ k, (k < 41 ∨ 41 < k) → h' k = h k) ∧ (r.toInt = qRisk a.toInt (mR h))) → Q (some (.int r)) h') : qm_PW X 215 [.ref 39, .int a] h Q := by
  have hmmi : mi h := hp.1
  have ⟨⟨_, _⟩, ⟨_, _⟩, ⟨_, _⟩, ⟨_, _⟩, _, _⟩ := hmmi
  have hmsm : sm h := hp.2.1
  have ⟨⟨⟨_, _⟩, _, _⟩, _, _, _⟩ := hmsm
  have hmzs : zs h := hp.2.2.1
  have hmrw : rw_ h := hp.2.2.2
  refine qm_seg_ok (C := qc_215) (rt := some .int) rfl rfl (cuts := []) 400 _ _ _ _ ?_
  show qm_PW X 164 [.ref 39, .int a] h _
  refine ty_164 X h a hmmi _ (fun r1 p2 => ?_)
  have o3 : (r1 = 0 ∨ r1 = 1) ∧ ((r1.toInt = 1 ∧ 0 ≤ a.toInt ∧ a.toInt < (h 39 3).toInt) ∨ (r1.toInt = 0 ∧ ¬ (0 ≤ a.toInt ∧ a.toInt < (h 39 3).toInt))) := p2
  clear p2
  show (¬ r1 = 0 → (qm_PW X 169 [.ref 39] h _)) ∧ (r1 = 0 → (Q (some (.int (-1 : Int32))) h))
  refine ⟨fun c4 => ?_, fun c5 => ?_⟩
  · have := ti_neK 0 rfl c4
    refine sf_169_39 X h  hmsm _ (fun g6 p7 => ?_)
    obtain ⟨p7_0, p7_1, p7_2⟩ := p7
    have f8 : ∀ k, (k < 41 ∨ 41 < k) → g6 k = h k := fun k hk => (p7_1 k (by omega)).trans (rfl)
    have k9 : mi g6 := by unfold mi; rw [p7_1 39 (by omega)]; exact hmmi
    have k10 : sm g6 := by unfold sm; rw [p7_1 40 (by omega)]; exact hmsm
    have k11 : zs g6 := by unfold zs; rw [p7_1 49 (by omega)]; exact hmzs
    have k12 : rw_ g6 := by unfold rw_; rw [p7_1 46 (by omega)]; exact hmrw
    have o13 : (∀ j : Nat, j < 49 → g6 41 j = h 40 j) := p7_2
    clear p7_2
    have w39_g6 : g6 39 = h 39 := (p7_1 39 (by omega))
    have w40_g6 : g6 40 = h 40 := (p7_1 40 (by omega))
    have sA_g6 : ∀ j : Nat, j < 49 → g6 41 j = h 40 j := o13
    have s4_g6 : (g6 41 4).toInt = (h 40 4).toInt := congrArg Int32.toInt (sA_g6 4 (by decide))
    show qm_PW X 214 [.ref 39, .int a] g6 _
    refine ty_214 X g6 a ⟨p7_0, (by have ⟨⟨_, _⟩, ⟨_, _⟩, ⟨_, _⟩, ⟨_, _⟩, _, _⟩ := hmmi; omega)⟩ _ (fun r14 p15 => ?_)
    have o16 : r14.toInt = cntP (rkA (fun t => (g6 41 (6 + 3 * t))) (fun t => (g6 41 (7 + 3 * t))) (fun t => (g6 41 (8 + 3 * t))) (g6 41 4).toInt.toNat (1 <<< (a &&& 31))) (g6 41 4).toInt.toNat ∧ (0 ≤ r14.toInt ∧ r14.toInt ≤ 10) := p15
    clear p15
    show Q (some (.int r14)) g6
    exact hq r14 g6 ⟨k9, k10, k11, k12, (fun k hk => f8 k hk), (by have ⟨⟨_, _⟩, ⟨_, _⟩, ⟨_, _⟩, ⟨_, _⟩, _, _⟩ := hmmi; show r14.toInt = qRisk a.toInt (mR h); have hk9 := rk_sh (c := a) (k := a.toInt.toNat) (by omega) o16.1; rw [show (g6 41 4) = h 40 4 from sA_g6 4 (by decide)] at hk9; exact (hk9.trans (rkN_eq (eq3_41 sA_g6 (by omega)))).trans (show qRisk a.toInt (mR h) = _ from risk_ok (by omega)).symm)⟩
  · have := ti_eqK 0 rfl c5
    exact hq (-1 : Int32) h ⟨hmmi, hmsm, hmzs, hmrw, (fun k hk => rfl), (by have ⟨⟨_, _⟩, ⟨_, _⟩, ⟨_, _⟩, ⟨_, _⟩, _, _⟩ := hmmi; show (-1 : Int32).toInt = qRisk a.toInt (mR h); rw [ti_n1]; exact (risk_no (M := mR h) (show ¬ (0 ≤ a.toInt ∧ a.toInt < (h 39 3).toInt) by omega)).symm)⟩
