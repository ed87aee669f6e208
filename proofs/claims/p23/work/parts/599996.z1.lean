-- ThreadBank$Memory.threadsOn(I)I
set_option maxRecDepth 100000 in
set_option maxHeartbeats 4000000 in
theorem ty_36_c (X : qm_X) (h : qm_H) (a : Int32) (hp : mq 1 h) (Q : qm_Q) (hq : ∀ r : Int32, (r.toInt = cntR (fun t => (h 3 t) / 10) (h 1 7).toInt.toNat a.toInt ∧ (0 ≤ r.toInt ∧ r.toInt ≤ 10)) → Q (some (.int r)) h) : ∀ n : Nat, (∀ (l2 : Int32) (l3 : Int32), ((0 ≤ l3.toInt ∧ l3.toInt ≤ (h 1 7).toInt) ∧ l2.toInt = cntR (fun t => h 3 t / 10) l3.toInt.toNat a.toInt) → (10 - l3.toInt).toNat < n → qm_PA X 36 4 [(0, .ref 1), (1, .int a), (2, .int l2), (3, .int l3)] [] h Q) := by
  have hm1 : mq 1 h := hp
  have ⟨⟨_, _⟩, ⟨_, _⟩, _, _⟩ := hm1
  intro n
  induction n with
  | zero => exact fun _ _ _ h0 => absurd h0 (Nat.not_lt_zero _)
  | succ n ih =>
    intro l2 l3 hi hr
    have hcr := cntR_rng (f := fun t => h 3 t / 10) (x := a.toInt) l3.toInt.toNat
    have hlt := ti_rng l3
    refine qm_seg_ok (C := qc_36) (rt := some .int) rfl rfl (cuts := [(4, [0, 1, 2, 3])]) 400 _ _ _ _ ?_
    show ((h 1 7).toInt ≤ l3.toInt → (Q (some (.int l2)) h)) ∧ (l3.toInt < (h 1 7).toInt → (qm_PW X 33 [.ref 1, .int l3] h _))
    refine ⟨fun c1 => ?_, fun c2 => ?_⟩
    · exact hq l2 (by show l2.toInt = cntR (fun t => (h 3 t) / 10) (h 1 7).toInt.toNat a.toInt ∧ (0 ≤ l2.toInt ∧ l2.toInt ≤ 10); exact ⟨by rw [show (h 1 7).toInt.toNat = l3.toInt.toNat by omega]; exact hi.2, by omega⟩)
    · refine ty_33 X h l3 hm1 _ (fun r3 p4 => ?_)
      have o5 : ((0 ≤ l3.toInt ∧ l3.toInt < (h 1 7).toInt) ∧ r3.toInt = ((h 3 l3.toInt.toNat) / 10).toInt) ∨ (¬ (0 ≤ l3.toInt ∧ l3.toInt < (h 1 7).toInt) ∧ r3.toInt = -4) := p4
      clear p4
      show (¬ r3 = a → (qm_PA X 36 4 [(0, .ref 1), (1, .int a), (2, .int l2), (3, .int (l3 + 1))] [] h Q)) ∧ (r3 = a → (qm_PA X 36 4 [(0, .ref 1), (1, .int a), (2, .int (l2 + 1)), (3, .int (l3 + 1))] [] h Q))
      refine ⟨fun c6 => ?_, fun c7 => ?_⟩
      · exact ih l2 (l3 + 1) (by have := ti_addK l3 (1 : Int32) 1 rfl; have := ti_div (10 : Int32) 10 rfl (h 3 l3.toInt.toNat) (by decide); have hx : ¬ ((h 3 l3.toInt.toNat) / 10) = a := (fun w => absurd (Int32.toInt_inj.mp (show r3.toInt = a.toInt by have := congrArg Int32.toInt w; omega)) (by assumption)); exact ⟨by omega, by rw [show (l3 + 1).toInt.toNat = l3.toInt.toNat + 1 by omega, cntR_neg (f := fun t => (h 3 t) / 10) (y := a) hx]; omega⟩) (by have := ti_addK l3 (1 : Int32) 1 rfl; have := ti_div (10 : Int32) 10 rfl (h 3 l3.toInt.toNat) (by decide); omega)
      · exact ih (l2 + 1) (l3 + 1) (by have := ti_addK l3 (1 : Int32) 1 rfl; have := ti_addK l2 (1 : Int32) 1 rfl; have := ti_div (10 : Int32) 10 rfl (h 3 l3.toInt.toNat) (by decide); have hc := congrArg Int32.toInt (show r3 = a from by assumption); have hx : ((h 3 l3.toInt.toNat) / 10) = a := Int32.toInt_inj.mp (by omega); exact ⟨by omega, by rw [show (l3 + 1).toInt.toNat = l3.toInt.toNat + 1 by omega, cntR_pos (f := fun t => (h 3 t) / 10) (y := a) hx]; omega⟩) (by have := ti_addK l3 (1 : Int32) 1 rfl; have := ti_div (10 : Int32) 10 rfl (h 3 l3.toInt.toNat) (by decide); omega)
set_option maxRecDepth 100000 in
set_option maxHeartbeats 4000000 in
theorem ty_36 (X : qm_X) (h : qm_H) (a : Int32) (hp : mq 1 h) (Q : qm_Q) (hq : ∀ r : Int32, (r.toInt = cntR (fun t => (h 3 t) / 10) (h 1 7).toInt.toNat a.toInt ∧ (0 ≤ r.toInt ∧ r.toInt ≤ 10)) → Q (some (.int r)) h) : qm_PW X 36 [.ref 1, .int a] h Q := by
  have hm1 : mq 1 h := hp
  have ⟨⟨_, _⟩, ⟨_, _⟩, _, _⟩ := hm1
  refine qm_seg_ok (C := qc_36) (rt := some .int) rfl rfl (cuts := [(4, [0, 1, 2, 3])]) 400 _ _ _ _ ?_
  show qm_PA X 36 4 [(0, .ref 1), (1, .int a), (2, .int 0), (3, .int 0)] [] h Q
  exact (ty_36_c X h a hp Q hq _) (0 : Int32) (0 : Int32) (by have : (0 : Int32).toInt = 0 := rfl; exact ⟨by have : (0 : Int32).toInt = 0 := rfl; omega, rfl⟩) (Nat.lt_succ_self _)
-- ThreadBankModel.tiedOn(I)I
set_option maxRecDepth 100000 in
set_option maxHeartbeats 4000000 in
theorem ty_175_c (X : qm_X) (h : qm_H) (a : Int32) (hp : am h) (Q : qm_Q) (hq : ∀ r : Int32, (r.toInt = cntR (fun t => (h 41 (6 + 3 * t)) / 10) (h 41 4).toInt.toNat a.toInt ∧ (0 ≤ r.toInt ∧ r.toInt ≤ 10)) → Q (some (.int r)) h) : ∀ n : Nat, (∀ (l2 : Int32) (l3 : Int32), ((0 ≤ l3.toInt ∧ l3.toInt ≤ (h 41 4).toInt) ∧ l2.toInt = cntR (fun t => h 41 (6 + 3 * t) / 10) l3.toInt.toNat a.toInt) → (10 - l3.toInt).toNat < n → qm_PA X 175 4 [(0, .ref 39), (1, .int a), (2, .int l2), (3, .int l3)] [] h Q) := by
  have hmam : am h := hp
  have ⟨⟨_, _⟩, ⟨_, _⟩, _, _, _⟩ := hmam
  intro n
  induction n with
  | zero => exact fun _ _ _ h0 => absurd h0 (Nat.not_lt_zero _)
  | succ n ih =>
    intro l2 l3 hi hr
    have hcr := cntR_rng (f := (fun t => h 41 (6 + 3 * t) / 10)) (x := a.toInt) l3.toInt.toNat
    have hlt := ti_rng l3
    refine qm_seg_ok (C := qc_175) (rt := some .int) rfl rfl (cuts := [(4, [0, 1, 2, 3])]) 400 _ _ _ _ ?_
    show (0 ≤ (4 : Int) ∧ (4 : Int) < 49) ∧ (((h 41 4).toInt ≤ l3.toInt → (Q (some (.int l2)) h)) ∧ (l3.toInt < (h 41 4).toInt → (qm_PW X 172 [.ref 39, .int l3] h _)))
    refine ⟨by decide, ?_⟩
    refine ⟨fun c1 => ?_, fun c2 => ?_⟩
    · exact hq l2 (by show l2.toInt = cntR (fun t => (h 41 (6 + 3 * t)) / 10) (h 41 4).toInt.toNat a.toInt ∧ (0 ≤ l2.toInt ∧ l2.toInt ≤ 10); exact ⟨by rw [show (h 41 4).toInt.toNat = l3.toInt.toNat by omega]; exact hi.2, by omega⟩)
    · refine ty_172 X h l3 ⟨hmam, (by omega)⟩ _ (fun r3 p4 => ?_)
      have o5 : r3.toInt = ((h 41 (6 + 3 * l3.toInt.toNat)) / 10).toInt ∧ (0 ≤ r3.toInt ∧ r3.toInt ≤ 3) := p4
      clear p4
      show (¬ r3 = a → (qm_PW X 142 [.int 0] h _)) ∧ (r3 = a → (qm_PW X 142 [.int 1] h _))
      refine ⟨fun c6 => ?_, fun c7 => ?_⟩
      · refine tx_142 X h (0 : Int32) trivial _ (fun r8 p9 => ?_)
        have o10 : ((0 : Int32).toInt = 0 ∧ r8.toInt = 0) ∨ (¬ (0 : Int32).toInt = 0 ∧ r8.toInt = 1) := p9
        clear p9
        show qm_PA X 175 4 [(0, .ref 39), (1, .int a), (2, .int (l2 + r8)), (3, .int (l3 + 1))] [] h Q
        exact ih (l2 + r8) (l3 + 1) (by have : (0 : Int32).toInt = 0 := rfl; have := ti_addK l3 (1 : Int32) 1 rfl; have := ti_add l2 r8; have := ti_div (10 : Int32) 10 rfl (h 41 (6 + 3 * l3.toInt.toNat)) (by decide); have h01 : (0 : Int32).toInt = 0 := rfl; have h11 : (1 : Int32).toInt = 1 := rfl; have hx : ¬ (h 41 (6 + 3 * l3.toInt.toNat) / 10) = a := (fun w => absurd (Int32.toInt_inj.mp (show r3.toInt = a.toInt by have := congrArg Int32.toInt w; omega)) (by assumption)); exact ⟨by omega, by rw [show (l3 + 1).toInt.toNat = l3.toInt.toNat + 1 by omega, cntR_neg (f := (fun t => h 41 (6 + 3 * t) / 10)) (y := a) hx]; omega⟩) (by have : (0 : Int32).toInt = 0 := rfl; have := ti_addK l3 (1 : Int32) 1 rfl; have := ti_div (10 : Int32) 10 rfl (h 41 (6 + 3 * l3.toInt.toNat)) (by decide); omega)
      · refine tx_142 X h (1 : Int32) trivial _ (fun r11 p12 => ?_)
        have o13 : ((1 : Int32).toInt = 0 ∧ r11.toInt = 0) ∨ (¬ (1 : Int32).toInt = 0 ∧ r11.toInt = 1) := p12
        clear p12
        show qm_PA X 175 4 [(0, .ref 39), (1, .int a), (2, .int (l2 + r11)), (3, .int (l3 + 1))] [] h Q
        exact ih (l2 + r11) (l3 + 1) (by have : (1 : Int32).toInt = 1 := rfl; have := ti_addK l3 (1 : Int32) 1 rfl; have := ti_add l2 r11; have := ti_div (10 : Int32) 10 rfl (h 41 (6 + 3 * l3.toInt.toNat)) (by decide); have h01 : (0 : Int32).toInt = 0 := rfl; have h11 : (1 : Int32).toInt = 1 := rfl; have hc := congrArg Int32.toInt (show r3 = a from by assumption); have hx : (h 41 (6 + 3 * l3.toInt.toNat) / 10) = a := Int32.toInt_inj.mp (by omega); exact ⟨by omega, by rw [show (l3 + 1).toInt.toNat = l3.toInt.toNat + 1 by omega, cntR_pos (f := (fun t => h 41 (6 + 3 * t) / 10)) (y := a) hx]; omega⟩) (by have : (1 : Int32).toInt = 1 := rfl; have := ti_addK l3 (1 : Int32) 1 rfl; have := ti_div (10 : Int32) 10 rfl (h 41 (6 + 3 * l3.toInt.toNat)) (by decide); omega)
set_option maxRecDepth 100000 in
set_option maxHeartbeats 4000000 in
theorem ty_175 (X : qm_X) (h : qm_H) (a : Int32) (hp : am h) (Q : qm_Q) (hq : ∀ r : Int32, (r.toInt = cntR (fun t => (h 41 (6 + 3 * t)) / 10) (h 41 4).toInt.toNat a.toInt ∧ (0 ≤ r.toInt ∧ r.toInt ≤ 10)) → Q (some (.int r)) h) : qm_PW X 175 [.ref 39, .int a] h Q := by
  have hmam : am h := hp
  have ⟨⟨_, _⟩, ⟨_, _⟩, _, _, _⟩ := hmam
  refine qm_seg_ok (C := qc_175) (rt := some .int) rfl rfl (cuts := [(4, [0, 1, 2, 3])]) 400 _ _ _ _ ?_
  show qm_PA X 175 4 [(0, .ref 39), (1, .int a), (2, .int 0), (3, .int 0)] [] h Q
  exact (ty_175_c X h a hp Q hq _) (0 : Int32) (0 : Int32) (by have : (0 : Int32).toInt = 0 := rfl; exact ⟨by have : (0 : Int32).toInt = 0 := rfl; omega, rfl⟩) (Nat.lt_succ_self _)
-- ThreadBank$Memory.roomLeftOn(I)I
set_option maxRecDepth 100000 in
set_option maxHeartbeats 4000000 in
theorem ty_41 (X : qm_X) (h : qm_H) (a : Int32) (hp : mq 1 h ∧ (0 ≤ a.toInt ∧ a.toInt < (h 1 6).toInt)) (Q : qm_Q) (hq : ∀ r : Int32, (r.toInt = lfN (h 2) (h 3) (h 1 7).toInt.toNat a.toInt.toNat ∧ (-10 ≤ r.toInt ∧ r.toInt ≤ 15)) → Q (some (.int r)) h) : qm_PW X 41 [.ref 1, .int a] h Q := by
  have hm1 : mq 1 h := hp.1
  have ⟨⟨_, _⟩, ⟨_, _⟩, _, _⟩ := hm1
  have hp0 : 0 ≤ a.toInt ∧ a.toInt < (h 1 6).toInt := hp.2
  refine qm_seg_ok (C := qc_41) (rt := some .int) rfl rfl (cuts := []) 400 _ _ _ _ ?_
  show qm_PW X 38 [.ref 1, .int a] h _
  refine ty_38 X h a ⟨hm1, (by show 0 ≤ a.toInt ∧ a.toInt < (h 1 6).toInt; omega)⟩ _ (fun r1 p2 => ?_)
  have o3 : r1.toInt = rmH (h 2 a.toInt.toNat).toInt ∧ (0 ≤ r1.toInt ∧ r1.toInt ≤ 15) := p2
  clear p2
  show qm_PW X 36 [.ref 1, .int a] h _
  refine ty_36 X h a hm1 _ (fun r4 p5 => ?_)
  have o6 : r4.toInt = cntR (fun t => (h 3 t) / 10) (h 1 7).toInt.toNat a.toInt ∧ (0 ≤ r4.toInt ∧ r4.toInt ≤ 10) := p5
  clear p5
  show Q (some (.int (r1 - r4))) h
  exact hq (r1 - r4) (by have := ti_sub r1 r4; show (r1 - r4).toInt = lfN (h 2) (h 3) (h 1 7).toInt.toNat a.toInt.toNat ∧ (-10 ≤ (r1 - r4).toInt ∧ (r1 - r4).toInt ≤ 15); have q9 := lfN_rng (kd := h 2) (pl := h 3) (n := (h 1 7).toInt.toNat) (c := a.toInt.toNat) (by omega); have x8 := o3.1; have x7 := o6.1; have e9 : lfN (h 2) (h 3) (h 1 7).toInt.toNat a.toInt.toNat = rmH (h 2 a.toInt.toNat).toInt - cntR (fun t => (h 3 t) / 10) (h 1 7).toInt.toNat ((a.toInt.toNat : Nat) : Int) := rfl; rw [show ((a.toInt.toNat : Nat) : Int) = a.toInt by omega] at e9; exact ⟨by omega, by omega⟩)
