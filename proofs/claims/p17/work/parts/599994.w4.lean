-- ThreadBank$Memory.roomOn(I)I
set_option maxRecDepth 100000 in
set_option maxHeartbeats 4000000 in
theorem ty_38_c (X : qm_X) (h : qm_H) (a : Int32) (hp : mq 1 h ∧ (0 ≤ a.toInt ∧ a.toInt < (h 1 6).toInt)) (Q : qm_Q) (hq : ∀ r : Int32, (r.toInt = rmH (h 2 a.toInt.toNat).toInt ∧ (0 ≤ r.toInt ∧ r.toInt ≤ 15)) → Q (some (.int r)) h) : ∀ n : Nat, (∀ (l2 : Int32) (l3 : Int32), ((0 ≤ l3.toInt ∧ l3.toInt ≤ 5) ∧ l2.toInt = sumI (fun f => rmC (h 2 a.toInt.toNat).toInt (f : Int)) l3.toInt.toNat) → (5 - l3.toInt).toNat < n → qm_PA X 38 4 [(0, .ref 1), (1, .int a), (2, .int l2), (3, .int l3)] [] h Q) := by
  have hm1 : mq 1 h := hp.1
  have ⟨⟨_, _⟩, ⟨_, _⟩, _, _⟩ := hm1
  have hp0 : 0 ≤ a.toInt ∧ a.toInt < (h 1 6).toInt := hp.2
  intro n
  induction n with
  | zero => exact fun _ _ _ h0 => absurd h0 (Nat.not_lt_zero _)
  | succ n ih =>
    intro l2 l3 hi hr
    have ti_l3 := ti_rng l3
    have hsr := sumI_rng (f := (fun f => rmC (h 2 a.toInt.toNat).toInt (f : Int))) (m := 3) (fun j => rmC_rng) l3.toInt.toNat
    refine qm_seg_ok (C := qc_38) (rt := some .int) rfl rfl (cuts := [(4, [0, 1, 2, 3])]) 400 _ _ _ _ ?_
    show (5 ≤ l3.toInt → (Q (some (.int l2)) h)) ∧ (l3.toInt < 5 → (qm_PW X 37 [.ref 1, .int ((10 * a) + l3)] h _))
    refine ⟨fun c1 => ?_, fun c2 => ?_⟩
    · exact hq l2 (by show l2.toInt = rmH (h 2 a.toInt.toNat).toInt ∧ (0 ≤ l2.toInt ∧ l2.toInt ≤ 15); exact ⟨by rw [hi.2, show l3.toInt.toNat = 5 by omega]; rfl, by omega⟩)
    · refine ty_37 X h ((10 * a) + l3) hm1 _ (fun r3 p4 => ?_)
      have o5 : (((0 ≤ ((10 * a) + l3).toInt ∧ ((10 * a) + l3).toInt / 10 < (h 1 6).toInt ∧ ((10 * a) + l3).toInt % 10 < 5) ∧ r3.toInt = rmC (h 2 (((10 * a) + l3).toInt / 10).toNat).toInt (((10 * a) + l3).toInt % 10)) ∨ (¬ (0 ≤ ((10 * a) + l3).toInt ∧ ((10 * a) + l3).toInt / 10 < (h 1 6).toInt ∧ ((10 * a) + l3).toInt % 10 < 5) ∧ r3.toInt = 0)) ∧ (0 ≤ r3.toInt ∧ r3.toInt ≤ 3) := p4
      clear p4
      show qm_PA X 38 4 [(0, .ref 1), (1, .int a), (2, .int (l2 + r3)), (3, .int (l3 + 1))] [] h Q
      exact ih (l2 + r3) (l3 + 1) (by have := ti_addK l3 (1 : Int32) 1 rfl; have := ti_add l2 r3; have := ti_mulL (10 : Int32) 10 rfl a; have := ti_add (10 * a) l3; have q1 := ti_mulL (10 : Int32) 10 rfl a; have q2 := ti_add (10 * a) l3; have q3 : ((10 * a) + l3).toInt = 10 * a.toInt + l3.toInt := (by omega); rw [q3, show (10 * a.toInt + l3.toInt) / 10 = a.toInt by omega, show (10 * a.toInt + l3.toInt) % 10 = ((l3.toInt.toNat : Nat) : Int) by omega] at o5; exact ⟨by omega, by rw [show (l3 + 1).toInt.toNat = l3.toInt.toNat + 1 by omega, sumI_s]; omega⟩) (by have := ti_addK l3 (1 : Int32) 1 rfl; have := ti_mulL (10 : Int32) 10 rfl a; have := ti_add (10 * a) l3; omega)
set_option maxRecDepth 100000 in
set_option maxHeartbeats 4000000 in
theorem ty_38 (X : qm_X) (h : qm_H) (a : Int32) (hp : mq 1 h ∧ (0 ≤ a.toInt ∧ a.toInt < (h 1 6).toInt)) (Q : qm_Q) (hq : ∀ r : Int32, (r.toInt = rmH (h 2 a.toInt.toNat).toInt ∧ (0 ≤ r.toInt ∧ r.toInt ≤ 15)) → Q (some (.int r)) h) : qm_PW X 38 [.ref 1, .int a] h Q := by
  have hm1 : mq 1 h := hp.1
  have ⟨⟨_, _⟩, ⟨_, _⟩, _, _⟩ := hm1
  have hp0 : 0 ≤ a.toInt ∧ a.toInt < (h 1 6).toInt := hp.2
  refine qm_seg_ok (C := qc_38) (rt := some .int) rfl rfl (cuts := [(4, [0, 1, 2, 3])]) 400 _ _ _ _ ?_
  show qm_PA X 38 4 [(0, .ref 1), (1, .int a), (2, .int 0), (3, .int 0)] [] h Q
  exact (ty_38_c X h a hp Q hq _) (0 : Int32) (0 : Int32) (by have : (0 : Int32).toInt = 0 := rfl; exact ⟨by have : (0 : Int32).toInt = 0 := rfl; omega, rfl⟩) (Nat.lt_succ_self _)
-- ThreadBank$Memory.roomOfAll()I
set_option maxRecDepth 100000 in
set_option maxHeartbeats 4000000 in
theorem ty_39_c (X : qm_X) (h : qm_H) (hp : mq 1 h) (Q : qm_Q) (hq : ∀ r : Int32, (r.toInt = rmA (h 2) (h 1 6).toInt.toNat) → Q (some (.int r)) h) : ∀ n : Nat, (∀ (l1 : Int32) (l2 : Int32), ((0 ≤ l2.toInt ∧ l2.toInt ≤ (h 1 6).toInt) ∧ l1.toInt = rmA (h 2) l2.toInt.toNat) → (4 - l2.toInt).toNat < n → qm_PA X 39 4 [(0, .ref 1), (1, .int l1), (2, .int l2)] [] h Q) := by
  have hm1 : mq 1 h := hp
  have ⟨⟨_, _⟩, ⟨_, _⟩, _, _⟩ := hm1
  intro n
  induction n with
  | zero => exact fun _ _ _ h0 => absurd h0 (Nat.not_lt_zero _)
  | succ n ih =>
    intro l1 l2 hi hr
    have ti_l2 := ti_rng l2
    have hsr := rmA_rng (kd := h 2) (n := l2.toInt.toNat)
    refine qm_seg_ok (C := qc_39) (rt := some .int) rfl rfl (cuts := [(4, [0, 1, 2])]) 400 _ _ _ _ ?_
    show ((h 1 6).toInt ≤ l2.toInt → (Q (some (.int l1)) h)) ∧ (l2.toInt < (h 1 6).toInt → (qm_PW X 38 [.ref 1, .int l2] h _))
    refine ⟨fun c1 => ?_, fun c2 => ?_⟩
    · exact hq l1 (by show l1.toInt = rmA (h 2) (h 1 6).toInt.toNat; rw [show (h 1 6).toInt.toNat = l2.toInt.toNat by omega]; exact hi.2)
    · refine ty_38 X h l2 ⟨hm1, (by show 0 ≤ l2.toInt ∧ l2.toInt < (h 1 6).toInt; omega)⟩ _ (fun r3 p4 => ?_)
      have o5 : r3.toInt = rmH (h 2 l2.toInt.toNat).toInt ∧ (0 ≤ r3.toInt ∧ r3.toInt ≤ 15) := p4
      clear p4
      show qm_PA X 39 4 [(0, .ref 1), (1, .int (l1 + r3)), (2, .int (l2 + 1))] [] h Q
      exact ih (l1 + r3) (l2 + 1) (by have := ti_addK l2 (1 : Int32) 1 rfl; have := ti_add l1 r3; have o9 := o5.1; exact ⟨by omega, by rw [show (l2 + 1).toInt.toNat = l2.toInt.toNat + 1 by omega]; show _ = rmA (h 2) l2.toInt.toNat + rmH (h 2 l2.toInt.toNat).toInt; omega⟩) (by have := ti_addK l2 (1 : Int32) 1 rfl; omega)
set_option maxRecDepth 100000 in
set_option maxHeartbeats 4000000 in
theorem ty_39 (X : qm_X) (h : qm_H) (hp : mq 1 h) (Q : qm_Q) (hq : ∀ r : Int32, (r.toInt = rmA (h 2) (h 1 6).toInt.toNat) → Q (some (.int r)) h) : qm_PW X 39 [.ref 1] h Q := by
  have hm1 : mq 1 h := hp
  have ⟨⟨_, _⟩, ⟨_, _⟩, _, _⟩ := hm1
  refine qm_seg_ok (C := qc_39) (rt := some .int) rfl rfl (cuts := [(4, [0, 1, 2])]) 400 _ _ _ _ ?_
  show qm_PA X 39 4 [(0, .ref 1), (1, .int 0), (2, .int 0)] [] h Q
  exact (ty_39_c X h hp Q hq _) (0 : Int32) (0 : Int32) (by have : (0 : Int32).toInt = 0 := rfl; exact ⟨by have : (0 : Int32).toInt = 0 := rfl; omega, rfl⟩) (Nat.lt_succ_self _)
-- ThreadBank$Memory.fingersInUse()I
set_option maxRecDepth 100000 in
set_option maxHeartbeats 4000000 in
theorem ty_43_c (X : qm_X) (h : qm_H) (hp : mq 1 h) (Q : qm_Q) (hq : ∀ r : Int32, (r.toInt = usA (h 3) (h 1 7).toInt.toNat (h 1 6).toInt.toNat) → Q (some (.int r)) h) : ∀ n : Nat, (∀ (l1 : Int32) (l2 : Int32), ((0 ≤ l2.toInt ∧ l2.toInt ≤ (h 1 6).toInt) ∧ l1.toInt = usA (h 3) (h 1 7).toInt.toNat l2.toInt.toNat) → ((4 - l2.toInt) * 100 + 50).toNat < n → qm_PA X 43 4 [(0, .ref 1), (1, .int l1), (2, .int l2)] [] h Q) ∧ (∀ (l1 : Int32) (l2 : Int32) (l3 : Int32), (((0 ≤ l2.toInt ∧ l2.toInt < (h 1 6).toInt) ∧ 0 ≤ l3.toInt ∧ l3.toInt ≤ 5) ∧ l1.toInt = usA (h 3) (h 1 7).toInt.toNat l2.toInt.toNat + usH (h 3) (h 1 7).toInt.toNat l2.toInt.toNat l3.toInt.toNat) → ((4 - l2.toInt) * 100 + 40 - l3.toInt).toNat < n → qm_PA X 43 14 [(0, .ref 1), (1, .int l1), (2, .int l2), (3, .int l3)] [] h Q) := by
  have hm1 : mq 1 h := hp
  have ⟨⟨_, _⟩, ⟨_, _⟩, _, _⟩ := hm1
  intro n
  induction n with
  | zero => exact ⟨fun _ _ _ h0 => absurd h0 (Nat.not_lt_zero _), fun _ _ _ _ h0 => absurd h0 (Nat.not_lt_zero _)⟩
  | succ n ih =>
    refine ⟨?_, ?_⟩
    · intro l1 l2 hi hr
      have ti_l2 := ti_rng l2
      have hsr := usA_rng (pl := h 3) (n := (h 1 7).toInt.toNat) (k := l2.toInt.toNat)
      refine qm_seg_ok (C := qc_43) (rt := some .int) rfl rfl (cuts := [(4, [0, 1, 2]), (14, [0, 1, 2, 3])]) 400 _ _ _ _ ?_
      show ((h 1 6).toInt ≤ l2.toInt → (Q (some (.int l1)) h)) ∧ (l2.toInt < (h 1 6).toInt → (qm_PA X 43 14 [(0, .ref 1), (1, .int l1), (2, .int l2), (3, .int 0)] [] h Q))
      refine ⟨fun c1 => ?_, fun c2 => ?_⟩
      · exact hq l1 (by show l1.toInt = usA (h 3) (h 1 7).toInt.toNat (h 1 6).toInt.toNat; rw [show (h 1 6).toInt.toNat = l2.toInt.toNat by omega]; exact hi.2)
      · exact ih.2 l1 l2 (0 : Int32) (by have : (0 : Int32).toInt = 0 := rfl; exact ⟨by have : (0 : Int32).toInt = 0 := rfl; omega, by show _ = usA (h 3) (h 1 7).toInt.toNat l2.toInt.toNat + 0; omega⟩) (by have : (0 : Int32).toInt = 0 := rfl; omega)
    · intro l1 l2 l3 hi hr
      have ti_l3 := ti_rng l3
      have hsr := usA_rng (pl := h 3) (n := (h 1 7).toInt.toNat) (k := l2.toInt.toNat)
      have hss := usH_rng (pl := h 3) (n := (h 1 7).toInt.toNat) (c := l2.toInt.toNat) (k := l3.toInt.toNat)
      refine qm_seg_ok (C := qc_43) (rt := some .int) rfl rfl (cuts := [(4, [0, 1, 2]), (14, [0, 1, 2, 3])]) 400 _ _ _ _ ?_
      show (5 ≤ l3.toInt → (qm_PA X 43 4 [(0, .ref 1), (1, .int l1), (2, .int (l2 + 1))] [] h Q)) ∧ (l3.toInt < 5 → (qm_PW X 35 [.ref 1, .int ((10 * l2) + l3)] h _))
      refine ⟨fun c1 => ?_, fun c2 => ?_⟩
      · exact ih.1 l1 (l2 + 1) (by have := ti_addK l2 (1 : Int32) 1 rfl; have h5 : l3.toInt.toNat = 5 := (by omega); have hi2 := hi.2; rw [h5] at hi2; exact ⟨by omega, by rw [show (l2 + 1).toInt.toNat = l2.toInt.toNat + 1 by omega]; show _ = usA (h 3) (h 1 7).toInt.toNat l2.toInt.toNat + usH (h 3) (h 1 7).toInt.toNat l2.toInt.toNat 5; omega⟩) (by have := ti_addK l2 (1 : Int32) 1 rfl; omega)
      · refine ty_35 X h ((10 * l2) + l3) hm1 _ (fun r3 p4 => ?_)
        have o5 : r3.toInt = cntR (h 3) (h 1 7).toInt.toNat ((10 * l2) + l3).toInt ∧ (0 ≤ r3.toInt ∧ r3.toInt ≤ 10) := p4
        clear p4
        show (r3.toInt ≤ 0 → (qm_PA X 43 14 [(0, .ref 1), (1, .int l1), (2, .int l2), (3, .int (l3 + 1))] [] h Q)) ∧ (0 < r3.toInt → (qm_PA X 43 14 [(0, .ref 1), (1, .int (l1 + 1)), (2, .int l2), (3, .int (l3 + 1))] [] h Q))
        refine ⟨fun c6 => ?_, fun c7 => ?_⟩
        · exact ih.2 l1 l2 (l3 + 1) (by have := ti_addK l3 (1 : Int32) 1 rfl; have := ti_mulL (10 : Int32) 10 rfl l2; have := ti_add (10 * l2) l3; have q1 := ti_mulL (10 : Int32) 10 rfl l2; have q2 := ti_add (10 * l2) l3; have q3 : ((10 * l2) + l3).toInt = 10 * l2.toInt + l3.toInt := (by omega); rw [q3] at o5; have hu : usF (h 3) (h 1 7).toInt.toNat (10 * ((l2.toInt.toNat : Nat) : Int) + ((l3.toInt.toNat : Nat) : Int)) = 0 := (if_neg (by rw [show 10 * ((l2.toInt.toNat : Nat) : Int) + ((l3.toInt.toNat : Nat) : Int) = 10 * l2.toInt + l3.toInt by omega]; omega)); exact ⟨by omega, by rw [show (l3 + 1).toInt.toNat = l3.toInt.toNat + 1 by omega]; show _ = usA (h 3) (h 1 7).toInt.toNat l2.toInt.toNat + (usH (h 3) (h 1 7).toInt.toNat l2.toInt.toNat l3.toInt.toNat + usF (h 3) (h 1 7).toInt.toNat (10 * ((l2.toInt.toNat : Nat) : Int) + ((l3.toInt.toNat : Nat) : Int))); omega⟩) (by have := ti_addK l3 (1 : Int32) 1 rfl; have := ti_mulL (10 : Int32) 10 rfl l2; have := ti_add (10 * l2) l3; omega)
        · exact ih.2 (l1 + 1) l2 (l3 + 1) (by have := ti_addK l3 (1 : Int32) 1 rfl; have := ti_addK l1 (1 : Int32) 1 rfl; have := ti_mulL (10 : Int32) 10 rfl l2; have := ti_add (10 * l2) l3; have q1 := ti_mulL (10 : Int32) 10 rfl l2; have q2 := ti_add (10 * l2) l3; have q3 : ((10 * l2) + l3).toInt = 10 * l2.toInt + l3.toInt := (by omega); rw [q3] at o5; have hu : usF (h 3) (h 1 7).toInt.toNat (10 * ((l2.toInt.toNat : Nat) : Int) + ((l3.toInt.toNat : Nat) : Int)) = 1 := (if_pos (by rw [show 10 * ((l2.toInt.toNat : Nat) : Int) + ((l3.toInt.toNat : Nat) : Int) = 10 * l2.toInt + l3.toInt by omega]; omega)); exact ⟨by omega, by rw [show (l3 + 1).toInt.toNat = l3.toInt.toNat + 1 by omega]; show _ = usA (h 3) (h 1 7).toInt.toNat l2.toInt.toNat + (usH (h 3) (h 1 7).toInt.toNat l2.toInt.toNat l3.toInt.toNat + usF (h 3) (h 1 7).toInt.toNat (10 * ((l2.toInt.toNat : Nat) : Int) + ((l3.toInt.toNat : Nat) : Int))); omega⟩) (by have := ti_addK l3 (1 : Int32) 1 rfl; have := ti_mulL (10 : Int32) 10 rfl l2; have := ti_add (10 * l2) l3; omega)
set_option maxRecDepth 100000 in
set_option maxHeartbeats 4000000 in
theorem ty_43 (X : qm_X) (h : qm_H) (hp : mq 1 h) (Q : qm_Q) (hq : ∀ r : Int32, (r.toInt = usA (h 3) (h 1 7).toInt.toNat (h 1 6).toInt.toNat) → Q (some (.int r)) h) : qm_PW X 43 [.ref 1] h Q := by
  have hm1 : mq 1 h := hp
  have ⟨⟨_, _⟩, ⟨_, _⟩, _, _⟩ := hm1
  refine qm_seg_ok (C := qc_43) (rt := some .int) rfl rfl (cuts := [(4, [0, 1, 2]), (14, [0, 1, 2, 3])]) 400 _ _ _ _ ?_
  show qm_PA X 43 4 [(0, .ref 1), (1, .int 0), (2, .int 0)] [] h Q
  exact (ty_43_c X h hp Q hq _).1 (0 : Int32) (0 : Int32) (by have : (0 : Int32).toInt = 0 := rfl; exact ⟨by have : (0 : Int32).toInt = 0 := rfl; omega, rfl⟩) (Nat.lt_succ_self _)
-- ThreadBank.rule(I)I
set_option maxRecDepth 100000 in
set_option maxHeartbeats 4000000 in
theorem ty_94 (X : qm_X) (h : qm_H) (a : Int32) (hp : mq 1 h) (Q : qm_Q) (hq : ∀ r : Int32, (r.toInt = qRule a.toInt (mC h)) → Q (some (.int r)) h) : qm_PW X 94 [.ref 0, .int a] h Q := by
  have hm1 : mq 1 h := hp
  have ⟨⟨_, _⟩, ⟨_, _⟩, _, _⟩ := hm1
  refine qm_seg_ok (C := qc_94) (rt := some .int) rfl rfl (cuts := []) 400 _ _ _ _ ?_
  show ((a = 0 → (Q (some (.int (h 1 6))) h)) ∧ (¬ a = 0 → ((a = 1 → (Q (some (.int (h 1 7))) h)) ∧ (¬ a = 1 → ((a = 2 → (Q (some (.int (h 1 8))) h)) ∧ (¬ a = 2 → ((a = 3 → (qm_PW X 39 [.ref 1] h _)) ∧ (¬ a = 3 → ((a = 4 → (qm_PW X 43 [.ref 1] h _)) ∧ (¬ a = 4 → (Q (some (.int (-1 : Int32))) h)))))))))))
  refine ⟨fun c1 => ?_, fun c2 => ?_⟩
  · have := ti_eqK 0 rfl c1
    exact hq (h 1 6) (by show (h 1 6).toInt = qRule a.toInt (mC h); exact (show qRule a.toInt (mC h) = _ from rule_0 (M := mC h) (by omega)).symm)
  · have := ti_neK 0 rfl c2
    refine ⟨fun c3 => ?_, fun c4 => ?_⟩
    · have := ti_eqK 1 rfl c3
      exact hq (h 1 7) (by show (h 1 7).toInt = qRule a.toInt (mC h); exact (show qRule a.toInt (mC h) = _ from rule_1 (M := mC h) (by omega)).symm)
    · have := ti_neK 1 rfl c4
      refine ⟨fun c5 => ?_, fun c6 => ?_⟩
      · have := ti_eqK 2 rfl c5
        exact hq (h 1 8) (by show (h 1 8).toInt = qRule a.toInt (mC h); exact (show qRule a.toInt (mC h) = _ from rule_2 (M := mC h) (by omega)).symm)
      · have := ti_neK 2 rfl c6
        refine ⟨fun c7 => ?_, fun c8 => ?_⟩
        · have := ti_eqK 3 rfl c7
          refine ty_39 X h  hm1 _ (fun r9 p10 => ?_)
          have o11 : r9.toInt = rmA (h 2) (h 1 6).toInt.toNat := p10
          clear p10
          show Q (some (.int r9)) h
          exact hq r9 (by show r9.toInt = qRule a.toInt (mC h); exact (o11).trans (show qRule a.toInt (mC h) = _ from rule_3 (by omega)).symm)
        · have := ti_neK 3 rfl c8
          refine ⟨fun c12 => ?_, fun c13 => ?_⟩
          · have := ti_eqK 4 rfl c12
            refine ty_43 X h  hm1 _ (fun r14 p15 => ?_)
            have o16 : r14.toInt = usA (h 3) (h 1 7).toInt.toNat (h 1 6).toInt.toNat := p15
            clear p15
            show Q (some (.int r14)) h
            exact hq r14 (by show r14.toInt = qRule a.toInt (mC h); exact (o16).trans (show qRule a.toInt (mC h) = _ from rule_4 (by omega)).symm)
          · have := ti_neK 4 rfl c13
            exact hq (-1 : Int32) (by show (-1 : Int32).toInt = qRule a.toInt (mC h); rw [ti_n1]; exact (rule_d (M := mC h) ⟨by omega, by omega, by omega, by omega, by omega⟩).symm)
-- ThreadBank$Memory.owedBy(II)I
set_option maxRecDepth 100000 in
set_option maxHeartbeats 4000000 in
theorem ty_53_c (X : qm_X) (h : qm_H) (a : Int32) (b : Int32) (hp : mq 1 h ∧ wc h) (Q : qm_Q) (hq : ∀ r : Int32, (r.toInt = owS (h 3) (h 4) (h 5) a.toInt b.toInt (h 1 7).toInt.toNat ∧ (0 ≤ r.toInt ∧ r.toInt ≤ 90)) → Q (some (.int r)) h) : ∀ n : Nat, (∀ (l3 : Int32) (l4 : Int32), ((0 ≤ l4.toInt ∧ l4.toInt ≤ (h 1 7).toInt) ∧ l3.toInt = owS (h 3) (h 4) (h 5) a.toInt b.toInt l4.toInt.toNat) → (10 - l4.toInt).toNat < n → qm_PA X 53 5 [(0, .ref 1), (1, .int a), (2, .int b), (3, .int l3), (4, .int l4)] [] h Q) := by
  have hm1 : mq 1 h := hp.1
  have ⟨⟨_, _⟩, ⟨_, _⟩, _, _⟩ := hm1
  have hmwc : wc h := hp.2
  have hkn := wf_kn (show wfM (mC h) from hmwc)
  intro n
  induction n with
  | zero => exact fun _ _ _ h0 => absurd h0 (Nat.not_lt_zero _)
  | succ n ih =>
    intro l3 l4 hi hr
    have ti_l4 := ti_rng l4
    have hrg := owS_rng (pl := h 3) (pa := h 4) (kn := h 5) (p := a.toInt) (d := b.toInt) (n := l4.toInt.toNat) (fun j q => hkn j (by omega))
    have hkq := hkn l4.toInt.toNat
    refine qm_seg_ok (C := qc_53) (rt := some .int) rfl rfl (cuts := [(5, [0, 1, 2, 3, 4])]) 400 _ _ _ _ ?_
    show ((h 1 7).toInt ≤ l4.toInt → (Q (some (.int l3)) h)) ∧ (l4.toInt < (h 1 7).toInt → ((0 ≤ l4.toInt ∧ l4.toInt < 10) ∧ ((¬ (h 4 l4.toInt.toNat) = a → (qm_PA X 53 5 [(0, .ref 1), (1, .int a), (2, .int b), (3, .int l3), (4, .int (l4 + 1))] [] h Q)) ∧ ((h 4 l4.toInt.toNat) = a → ((0 ≤ l4.toInt ∧ l4.toInt < 10) ∧ (¬ (10 : Int32) = 0 ∧ ((b.toInt < ((h 5 l4.toInt.toNat) - (h 5 l4.toInt.toNat) / 10 * 10).toInt → (qm_PA X 53 5 [(0, .ref 1), (1, .int a), (2, .int b), (3, .int l3), (4, .int (l4 + 1))] [] h Q)) ∧ (((h 5 l4.toInt.toNat) - (h 5 l4.toInt.toNat) / 10 * 10).toInt ≤ b.toInt → (qm_PW X 51 [.ref 1, .int l4] h _)))))))))
    refine ⟨fun c1 => ?_, fun c2 => ?_⟩
    · exact hq l3 (by show l3.toInt = owS (h 3) (h 4) (h 5) a.toInt b.toInt (h 1 7).toInt.toNat ∧ (0 ≤ l3.toInt ∧ l3.toInt ≤ 90); have hrg := owS_rng (pl := h 3) (pa := h 4) (kn := h 5) (p := a.toInt) (d := b.toInt) (n := l4.toInt.toNat) (fun j q => hkn j (by omega)); exact ⟨by rw [show (h 1 7).toInt.toNat = l4.toInt.toNat by omega]; exact hi.2, by omega⟩)
    · refine ⟨(by omega), ?_⟩
      refine ⟨fun c3 => ?_, fun c4 => ?_⟩
      · exact ih l3 (l4 + 1) (by have := ti_addK l4 (1 : Int32) 1 rfl; have e9 : (l4 + 1).toInt.toNat = l4.toInt.toNat + 1 := (by omega); have hk4 := hkn l4.toInt.toNat (by omega); have hT : owT (h 3) (h 4) (h 5) a.toInt b.toInt l4.toInt.toNat = 0 := ifP_f (fun w => by first | exact absurd (Int32.toInt_inj.mp w.1) (by assumption) | (have w2 := w.2.1; omega)); exact ⟨by omega, by rw [e9]; show _ = owS (h 3) (h 4) (h 5) a.toInt b.toInt l4.toInt.toNat + owT (h 3) (h 4) (h 5) a.toInt b.toInt l4.toInt.toNat; rw [hT]; omega⟩) (by have := ti_addK l4 (1 : Int32) 1 rfl; omega)
      · refine ⟨(by omega), ?_⟩
        refine ⟨by decide, ?_⟩
        refine ⟨fun c5 => ?_, fun c6 => ?_⟩
        · exact ih l3 (l4 + 1) (by have := ti_addK l4 (1 : Int32) 1 rfl; have := ti_rem (10 : Int32) 10 rfl (h 5 l4.toInt.toNat) (by decide); have e9 : (l4 + 1).toInt.toNat = l4.toInt.toNat + 1 := (by omega); have hk4 := hkn l4.toInt.toNat (by omega); have hT : owT (h 3) (h 4) (h 5) a.toInt b.toInt l4.toInt.toNat = 0 := ifP_f (fun w => by first | exact absurd (Int32.toInt_inj.mp w.1) (by assumption) | (have w2 := w.2.1; omega)); exact ⟨by omega, by rw [e9]; show _ = owS (h 3) (h 4) (h 5) a.toInt b.toInt l4.toInt.toNat + owT (h 3) (h 4) (h 5) a.toInt b.toInt l4.toInt.toNat; rw [hT]; omega⟩) (by have := ti_addK l4 (1 : Int32) 1 rfl; have := ti_rem (10 : Int32) 10 rfl (h 5 l4.toInt.toNat) (by decide); omega)
        · refine ty_51 X h l4 ⟨hm1, (by have := ti_rem (10 : Int32) 10 rfl (h 5 l4.toInt.toNat) (by decide); show 0 ≤ l4.toInt ∧ l4.toInt < (h 1 7).toInt; omega)⟩ _ (fun r7 p8 => ?_)
          have o9 : (r7 = 0 ∨ r7 = 1) ∧ ((r7.toInt = 1 ∧ icA (h 3) (h 4) (h 5) l4.toInt.toNat) ∨ (r7.toInt = 0 ∧ ¬ icA (h 3) (h 4) (h 5) l4.toInt.toNat)) := p8
          clear p8
          show (¬ r7 = 0 → (qm_PA X 53 5 [(0, .ref 1), (1, .int a), (2, .int b), (3, .int l3), (4, .int (l4 + 1))] [] h Q)) ∧ (r7 = 0 → ((0 ≤ l4.toInt ∧ l4.toInt < 10) ∧ (¬ (10 : Int32) = 0 ∧ (qm_PA X 53 5 [(0, .ref 1), (1, .int a), (2, .int b), (3, .int (l3 + ((h 5 l4.toInt.toNat) / 10))), (4, .int (l4 + 1))] [] h Q))))
          refine ⟨fun c10 => ?_, fun c11 => ?_⟩
          · have := ti_neK 0 rfl c10
            exact ih l3 (l4 + 1) (by have := ti_addK l4 (1 : Int32) 1 rfl; have := ti_rem (10 : Int32) 10 rfl (h 5 l4.toInt.toNat) (by decide); have e9 : (l4 + 1).toInt.toNat = l4.toInt.toNat + 1 := (by omega); have hk4 := hkn l4.toInt.toNat (by omega); have hT : owT (h 3) (h 4) (h 5) a.toInt b.toInt l4.toInt.toNat = 0 := ifP_f (fun w => w.2.2 ((o9.2.resolve_right (fun v => absurd v.1 (by omega))).2)); exact ⟨by omega, by rw [e9]; show _ = owS (h 3) (h 4) (h 5) a.toInt b.toInt l4.toInt.toNat + owT (h 3) (h 4) (h 5) a.toInt b.toInt l4.toInt.toNat; rw [hT]; omega⟩) (by have := ti_addK l4 (1 : Int32) 1 rfl; have := ti_rem (10 : Int32) 10 rfl (h 5 l4.toInt.toNat) (by decide); omega)
          · have := ti_eqK 0 rfl c11
            refine ⟨(by have := ti_rem (10 : Int32) 10 rfl (h 5 l4.toInt.toNat) (by decide); omega), ?_⟩
            refine ⟨by decide, ?_⟩
            exact ih (l3 + ((h 5 l4.toInt.toNat) / 10)) (l4 + 1) (by have := ti_addK l4 (1 : Int32) 1 rfl; have := ti_div (10 : Int32) 10 rfl (h 5 l4.toInt.toNat) (by decide); have := ti_add l3 ((h 5 l4.toInt.toNat) / 10); have := ti_rem (10 : Int32) 10 rfl (h 5 l4.toInt.toNat) (by decide); have e9 : (l4 + 1).toInt.toNat = l4.toInt.toNat + 1 := (by omega); have hk4 := hkn l4.toInt.toNat (by omega); have hp9 := congrArg Int32.toInt (show (h 4 l4.toInt.toNat) = a from by assumption); have hc9 := (o9.2.resolve_left (fun w => absurd w.1 (by omega))).2; have hT : owT (h 3) (h 4) (h 5) a.toInt b.toInt l4.toInt.toNat = (h 5 l4.toInt.toNat).toInt / 10 := ifP_t ⟨hp9, by omega, hc9⟩; exact ⟨by omega, by rw [e9]; show _ = owS (h 3) (h 4) (h 5) a.toInt b.toInt l4.toInt.toNat + owT (h 3) (h 4) (h 5) a.toInt b.toInt l4.toInt.toNat; rw [hT]; omega⟩) (by have := ti_addK l4 (1 : Int32) 1 rfl; have := ti_rem (10 : Int32) 10 rfl (h 5 l4.toInt.toNat) (by decide); omega)
set_option maxRecDepth 100000 in
set_option maxHeartbeats 4000000 in
theorem ty_53 (X : qm_X) (h : qm_H) (a : Int32) (b : Int32) (hp : mq 1 h ∧ wc h) (Q : qm_Q) (hq : ∀ r : Int32, (r.toInt = owS (h 3) (h 4) (h 5) a.toInt b.toInt (h 1 7).toInt.toNat ∧ (0 ≤ r.toInt ∧ r.toInt ≤ 90)) → Q (some (.int r)) h) : qm_PW X 53 [.ref 1, .int a, .int b] h Q := by
  have hm1 : mq 1 h := hp.1
  have ⟨⟨_, _⟩, ⟨_, _⟩, _, _⟩ := hm1
  have hmwc : wc h := hp.2
  have hkn := wf_kn (show wfM (mC h) from hmwc)
  refine qm_seg_ok (C := qc_53) (rt := some .int) rfl rfl (cuts := [(5, [0, 1, 2, 3, 4])]) 400 _ _ _ _ ?_
  show qm_PA X 53 5 [(0, .ref 1), (1, .int a), (2, .int b), (3, .int 0), (4, .int 0)] [] h Q
  exact (ty_53_c X h a b hp Q hq _) (0 : Int32) (0 : Int32) (by have : (0 : Int32).toInt = 0 := rfl; exact ⟨by have : (0 : Int32).toInt = 0 := rfl; omega, rfl⟩) (Nat.lt_succ_self _)
-- ThreadBank.owed(II)I
set_option maxRecDepth 100000 in
set_option maxHeartbeats 4000000 in
theorem ty_104 (X : qm_X) (h : qm_H) (a : Int32) (b : Int32) (hp : mq 1 h ∧ wc h) (Q : qm_Q) (hq : ∀ r : Int32, (r.toInt = qOwed a.toInt b.toInt (mC h)) → Q (some (.int r)) h) : qm_PW X 104 [.ref 0, .int a, .int b] h Q := by
  have hm1 : mq 1 h := hp.1
  have ⟨⟨_, _⟩, ⟨_, _⟩, _, _⟩ := hm1
  have hmwc : wc h := hp.2
  refine qm_seg_ok (C := qc_104) (rt := some .int) rfl rfl (cuts := []) 400 _ _ _ _ ?_
  show qm_PW X 31 [.ref 1, .int a] h _
  refine ty_31 X h a trivial _ (fun r1 p2 => ?_)
  have o3 : (r1 = 0 ∨ r1 = 1) ∧ ((r1.toInt = 1 ∧ 0 ≤ a.toInt ∧ a.toInt / 10 < (h 1 6).toInt ∧ a.toInt % 10 < (h 1 6).toInt ∧ ¬ a.toInt / 10 = a.toInt % 10) ∨ (r1.toInt = 0 ∧ ¬ (0 ≤ a.toInt ∧ a.toInt / 10 < (h 1 6).toInt ∧ a.toInt % 10 < (h 1 6).toInt ∧ ¬ a.toInt / 10 = a.toInt % 10))) := p2
  clear p2
  show (r1 = 0 → (Q (some (.int (-1 : Int32))) h)) ∧ (¬ r1 = 0 → ((b.toInt < 0 → (Q (some (.int (-1 : Int32))) h)) ∧ (0 ≤ b.toInt → ((b.toInt ≤ 1 → ((¬ b = 0 → (qm_PW X 53 [.ref 1, .int a, .int (h 1 8)] h _)) ∧ (b = 0 → (qm_PW X 53 [.ref 1, .int a, .int 9] h _)))) ∧ (1 < b.toInt → (Q (some (.int (-1 : Int32))) h))))))
  refine ⟨fun c4 => ?_, fun c5 => ?_⟩
  · have := ti_eqK 0 rfl c4
    exact hq (-1 : Int32) (by show (-1 : Int32).toInt = qOwed a.toInt b.toInt (mC h); rw [ti_n1]; exact (show qOwed a.toInt b.toInt (mC h) = _ from owed_no (by omega)).symm)
  · have := ti_neK 0 rfl c5
    refine ⟨fun c6 => ?_, fun c7 => ?_⟩
    · exact hq (-1 : Int32) (by show (-1 : Int32).toInt = qOwed a.toInt b.toInt (mC h); rw [ti_n1]; exact (show qOwed a.toInt b.toInt (mC h) = _ from owed_no (by omega)).symm)
    · refine ⟨fun c8 => ?_, fun c9 => ?_⟩
      · refine ⟨fun c10 => ?_, fun c11 => ?_⟩
        · have := ti_neK 0 rfl c10
          refine ty_53 X h a (h 1 8) ⟨hm1, hmwc⟩ _ (fun r12 p13 => ?_)
          have o14 : r12.toInt = owS (h 3) (h 4) (h 5) a.toInt (h 1 8).toInt (h 1 7).toInt.toNat ∧ (0 ≤ r12.toInt ∧ r12.toInt ≤ 90) := p13
          clear p13
          show Q (some (.int r12)) h
          exact hq r12 (by show r12.toInt = qOwed a.toInt b.toInt (mC h); exact (o14.1).trans (show qOwed a.toInt b.toInt (mC h) = _ from owed_ok ⟨by omega, by omega⟩ (Or.inr ⟨by omega, rfl⟩)).symm)
        · have := ti_eqK 0 rfl c11
          refine ty_53 X h a (9 : Int32) ⟨hm1, hmwc⟩ _ (fun r15 p16 => ?_)
          have o17 : r15.toInt = owS (h 3) (h 4) (h 5) a.toInt (9 : Int32).toInt (h 1 7).toInt.toNat ∧ (0 ≤ r15.toInt ∧ r15.toInt ≤ 90) := p16
          clear p16
          show Q (some (.int r15)) h
          exact hq r15 (by have : (9 : Int32).toInt = 9 := rfl; show r15.toInt = qOwed a.toInt b.toInt (mC h); exact (o17.1).trans (show qOwed a.toInt b.toInt (mC h) = _ from owed_ok ⟨by omega, by omega⟩ (Or.inl ⟨by omega, rfl⟩)).symm)
      · exact hq (-1 : Int32) (by show (-1 : Int32).toInt = qOwed a.toInt b.toInt (mC h); rw [ti_n1]; exact (show qOwed a.toInt b.toInt (mC h) = _ from owed_no (by omega)).symm)
