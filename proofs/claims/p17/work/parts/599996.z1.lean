-- ThreadBank$Memory.threadsOn(I)I
set_option maxRecDepth 100000 in
set_option maxHeartbeats 4000000 in
theorem ty_36_c (X : qm_X) (h : qm_H) (a : Int32) (hp : mq 1 h) (Q : qm_Q) (hq : ∀ r : Int32, (r.toInt = cntR (fun t => (h 3 t) / 10) (h 1 7).toInt.toNat a.toInt ∧ (0 ≤ r.toInt ∧ r.toInt ≤ 10)) → Q (some (.int r)) h) : ∀ n : Nat, (∀ (l2 : Int32) (l3 : Int32), ((0 ≤ l3.toInt ∧ l3.toInt ≤ (h 1 7).toInt) ∧ l2.toInt = cntR (fun t => h 3 t / 10) l3.toInt.toNat a.toInt) → (10 - l3.toInt).toNat < n → qm_PA X 36 4 [(0, .ref 1), (1, .int a), (2, .int l2), (3, .int l3)] [] h Q) := by
  have hm1 : mq 1 h := hp
  have ⟨⟨_, _⟩, ⟨_, _⟩, _, _⟩ := hm1
  intro n
  induction n with
  | zero => exact fun _ _ _ h0 => absurd h0 (Nat.not_lt_zero _)
  | succ n ih =>
    intro l2 l3 hi hr
    have hcr := cntR_rng (f := fun t => h 3 t / 10) (x := a.toInt) l3.toInt.toNat
    have hlt := ti_rng l3
    refine qm_seg_ok (C := qc_36) (rt := some .int) rfl rfl (cuts := [(4, [0, 1, 2, 3])]) 400 _ _ _ _ ?_
    show ((h 1 7).toInt ≤ l3.toInt → (Q (some (.int l2)) h)) ∧ (l3.toInt < (h 1 7).toInt → (qm_PW X 33 [.ref 1, .int l3] h _))
    refine ⟨fun c1 => ?_, fun c2 => ?_⟩
    · exact hq l2 (by show l2.toInt = cntR (fun t => (h 3 t) / 10) (h 1 7).toInt.toNat a.toInt ∧ (0 ≤ l2.toInt ∧ l2.toInt ≤ 10); exact ⟨by rw [show (h 1 7).toInt.toNat = l3.toInt.toNat by omega]; exact hi.2, by omega⟩)
    · refine ty_33 X h l3 hm1 _ (fun r3 p4 => ?_)
      have o5 : ((0 ≤ l3.toInt ∧ l3.toInt < (h 1 7).toInt) ∧ r3.toInt = ((h 3 l3.toInt.toNat) / 10).toInt) ∨ (¬ (0 ≤ l3.toInt ∧ l3.toInt < (h 1 7).toInt) ∧ r3.toInt = -4) := p4
      clear p4
      show (¬ r3 = a → (qm_PA X 36 4 [(0, .ref 1), (1, .int a), (2, .int l2), (3, .int (l3 + 1))] [] h Q)) ∧ (r3 = a → (qm_PA X 36 4 [(0, .ref 1), (1, .int a), (2, .int (l2 + 1)), (3, .int (l3 + 1))] [] h Q))
      refine ⟨fun c6 => ?_, fun c7 => ?_⟩
      · exact ih l2 (l3 + 1) (by have := ti_addK l3 (1 : Int32) 1 rfl; have := ti_div (10 : Int32) 10 rfl (h 3 l3.toInt.toNat) (by decide); have hx : ¬ ((h 3 l3.toInt.toNat) / 10) = a := (fun w => absurd (Int32.toInt_inj.mp (show r3.toInt = a.toInt by have := congrArg Int32.toInt w; omega)) (by assumption)); exact ⟨by omega, by rw [show (l3 + 1).toInt.toNat = l3.toInt.toNat + 1 by omega, cntR_neg (f := fun t => (h 3 t) / 10) (y := a) hx]; omega⟩) (by have := ti_addK l3 (1 : Int32) 1 rfl; have := ti_div (10 : Int32) 10 rfl (h 3 l3.toInt.toNat) (by decide); omega)
      · exact ih (l2 + 1) (l3 + 1) (by have := ti_addK l3 (1 : Int32) 1 rfl; have := ti_addK l2 (1 : Int32) 1 rfl; have := ti_div (10 : Int32) 10 rfl (h 3 l3.toInt.toNat) (by decide); have hc := congrArg Int32.toInt (show r3 = a from by assumption); have hx : ((h 3 l3.toInt.toNat) / 10) = a := Int32.toInt_inj.mp (by omega); exact ⟨by omega, by rw [show (l3 + 1).toInt.toNat = l3.toInt.toNat + 1 by omega, cntR_pos (f := fun t => (h 3 t) / 10) (y := a) hx]; omega⟩) (by have := ti_addK l3 (1 : Int32) 1 rfl; have := ti_div (10 : Int32) 10 rfl (h 3 l3.toInt.toNat) (by decide); omega)
set_option maxRecDepth 100000 in
set_option maxHeartbeats 4000000 in
theorem ty_36 (X : qm_X) (h : qm_H) (a : Int32) (hp : mq 1 h) (Q : qm_Q) (hq : ∀ r : Int32, (r.toInt = cntR (fun t => (h 3 t) / 10) (h 1 7).toInt.toNat a.toInt ∧ (0 ≤ r.toInt ∧ r.toInt ≤ 10)) → Q (some (.int r)) h) : qm_PW X 36 [.ref 1, .int a] h Q := by
  have hm1 : mq 1 h := hp
  have ⟨⟨_, _⟩, ⟨_, _⟩, _, _⟩ := hm1
  refine qm_seg_ok (C := qc_36) (rt := some .int) rfl rfl (cuts := [(4, [0, 1, 2, 3])]) 400 _ _ _ _ ?_
  show qm_PA X 36 4 [(0, .ref 1), (1, .int a), (2, .int 0), (3, .int 0)] [] h Q
  exact (ty_36_c X h a hp Q hq _) (0 : Int32) (0 : Int32) (by have : (0 : Int32).toInt = 0 := rfl; exact ⟨by have : (0 : Int32).toInt = 0 := rfl; omega, rfl⟩) (Nat.lt_succ_self _)
-- ThreadBank$Memory.owedInAll(I)I
set_option maxRecDepth 100000 in
set_option maxHeartbeats 4000000 in
theorem ty_54_c (X : qm_X) (h : qm_H) (a : Int32) (hp : mq 1 h ∧ wc h) (Q : qm_Q) (hq : ∀ r : Int32, (r.toInt = oaS (h 3) (h 4) (h 5) a.toInt (h 1 7).toInt.toNat (h 1 6).toInt.toNat (h 1 6).toInt.toNat) → Q (some (.int r)) h) : ∀ n : Nat, (∀ (l2 : Int32) (l3 : Int32), ((0 ≤ l3.toInt ∧ l3.toInt ≤ (h 1 6).toInt) ∧ l2.toInt = oaS (h 3) (h 4) (h 5) a.toInt (h 1 7).toInt.toNat (h 1 6).toInt.toNat l3.toInt.toNat) → ((4 - l3.toInt) * 100 + 50).toNat < n → qm_PA X 54 4 [(0, .ref 1), (1, .int a), (2, .int l2), (3, .int l3)] [] h Q) ∧ (∀ (l2 : Int32) (l3 : Int32) (l4 : Int32), (((0 ≤ l3.toInt ∧ l3.toInt < (h 1 6).toInt) ∧ 0 ≤ l4.toInt ∧ l4.toInt ≤ (h 1 6).toInt) ∧ l2.toInt = oaS (h 3) (h 4) (h 5) a.toInt (h 1 7).toInt.toNat (h 1 6).toInt.toNat l3.toInt.toNat + oaR (h 3) (h 4) (h 5) a.toInt (h 1 7).toInt.toNat l3.toInt.toNat l4.toInt.toNat) → ((4 - l3.toInt) * 100 + 40 - l4.toInt).toNat < n → qm_PA X 54 15 [(0, .ref 1), (1, .int a), (2, .int l2), (3, .int l3), (4, .int l4)] [] h Q) := by
  have hm1 : mq 1 h := hp.1
  have ⟨⟨_, _⟩, ⟨_, _⟩, _, _⟩ := hm1
  have hmwc : wc h := hp.2
  have hkn := wf_kn (show wfM (mC h) from hmwc)
  have hkb : ∀ j : Nat, j < (h 1 7).toInt.toNat → 0 ≤ (h 5 j).toInt ∧ (h 5 j).toInt ≤ 99 := fun j q => hkn j (by omega)
  intro n
  induction n with
  | zero => exact ⟨fun _ _ _ h0 => absurd h0 (Nat.not_lt_zero _), fun _ _ _ _ h0 => absurd h0 (Nat.not_lt_zero _)⟩
  | succ n ih =>
    refine ⟨?_, ?_⟩
    · intro l2 l3 hi hr
      have ti_l3 := ti_rng l3
      have hr1 := oaS_rng (pl := h 3) (pa := h 4) (kn := h 5) (d := a.toInt) (n := (h 1 7).toInt.toNat) (c := (h 1 6).toInt.toNat) (m := l3.toInt.toNat) (by omega) (by omega) hkb
      refine qm_seg_ok (C := qc_54) (rt := some .int) rfl rfl (cuts := [(4, [0, 1, 2, 3]), (15, [0, 1, 2, 3, 4])]) 400 _ _ _ _ ?_
      show ((h 1 6).toInt ≤ l3.toInt → (Q (some (.int l2)) h)) ∧ (l3.toInt < (h 1 6).toInt → (qm_PA X 54 15 [(0, .ref 1), (1, .int a), (2, .int l2), (3, .int l3), (4, .int 0)] [] h Q))
      refine ⟨fun c1 => ?_, fun c2 => ?_⟩
      · exact hq l2 (by show l2.toInt = oaS (h 3) (h 4) (h 5) a.toInt (h 1 7).toInt.toNat (h 1 6).toInt.toNat (h 1 6).toInt.toNat; rw [hi.2, show l3.toInt.toNat = (h 1 6).toInt.toNat by omega])
      · exact ih.2 l2 l3 (0 : Int32) (by have : (0 : Int32).toInt = 0 := rfl; exact ⟨by have : (0 : Int32).toInt = 0 := rfl; omega, by show _ = oaS (h 3) (h 4) (h 5) a.toInt (h 1 7).toInt.toNat (h 1 6).toInt.toNat l3.toInt.toNat + 0; omega⟩) (by have : (0 : Int32).toInt = 0 := rfl; omega)
    · intro l2 l3 l4 hi hr
      have ti_l4 := ti_rng l4
      have hr1 := oaS_rng (pl := h 3) (pa := h 4) (kn := h 5) (d := a.toInt) (n := (h 1 7).toInt.toNat) (c := (h 1 6).toInt.toNat) (m := l3.toInt.toNat) (by omega) (by omega) hkb
      have hr2 := oaR_rng (pl := h 3) (pa := h 4) (kn := h 5) (d := a.toInt) (n := (h 1 7).toInt.toNat) (x := l3.toInt.toNat) (c := l4.toInt.toNat) (by omega) hkb
      refine qm_seg_ok (C := qc_54) (rt := some .int) rfl rfl (cuts := [(4, [0, 1, 2, 3]), (15, [0, 1, 2, 3, 4])]) 400 _ _ _ _ ?_
      show ((h 1 6).toInt ≤ l4.toInt → (qm_PA X 54 4 [(0, .ref 1), (1, .int a), (2, .int l2), (3, .int (l3 + 1))] [] h Q)) ∧ (l4.toInt < (h 1 6).toInt → (qm_PW X 53 [.ref 1, .int ((10 * l3) + l4), .int a] h _))
      refine ⟨fun c1 => ?_, fun c2 => ?_⟩
      · exact ih.1 l2 (l3 + 1) (by have := ti_addK l3 (1 : Int32) 1 rfl; have h5 : l4.toInt.toNat = (h 1 6).toInt.toNat := (by omega); have hi2 := hi.2; rw [h5] at hi2; exact ⟨by omega, by rw [show (l3 + 1).toInt.toNat = l3.toInt.toNat + 1 by omega]; show _ = oaS (h 3) (h 4) (h 5) a.toInt (h 1 7).toInt.toNat (h 1 6).toInt.toNat l3.toInt.toNat + oaR (h 3) (h 4) (h 5) a.toInt (h 1 7).toInt.toNat l3.toInt.toNat (h 1 6).toInt.toNat; omega⟩) (by have := ti_addK l3 (1 : Int32) 1 rfl; omega)
      · refine ty_53 X h ((10 * l3) + l4) a ⟨hm1, hmwc⟩ _ (fun r3 p4 => ?_)
        have o5 : r3.toInt = owS (h 3) (h 4) (h 5) ((10 * l3) + l4).toInt a.toInt (h 1 7).toInt.toNat ∧ (0 ≤ r3.toInt ∧ r3.toInt ≤ 90) := p4
        clear p4
        show qm_PA X 54 15 [(0, .ref 1), (1, .int a), (2, .int (l2 + r3)), (3, .int l3), (4, .int (l4 + 1))] [] h Q
        exact ih.2 (l2 + r3) l3 (l4 + 1) (by have := ti_addK l4 (1 : Int32) 1 rfl; have := ti_add l2 r3; have := ti_mulL (10 : Int32) 10 rfl l3; have := ti_add (10 * l3) l4; have q1Al3l4 := ti_mulL (10 : Int32) 10 rfl l3; have q2Al3l4 := ti_add (10 * l3) l4; have q3Al3l4 : ((10 * l3) + l4).toInt = 10 * ((l3.toInt.toNat : Nat) : Int) + ((l4.toInt.toNat : Nat) : Int) := (by omega); have oy9 := o5.1; rw [q3Al3l4] at oy9; exact ⟨by omega, by rw [show (l4 + 1).toInt.toNat = l4.toInt.toNat + 1 by omega]; show _ = oaS (h 3) (h 4) (h 5) a.toInt (h 1 7).toInt.toNat (h 1 6).toInt.toNat l3.toInt.toNat + (oaR (h 3) (h 4) (h 5) a.toInt (h 1 7).toInt.toNat l3.toInt.toNat l4.toInt.toNat + owS (h 3) (h 4) (h 5) (10 * ((l3.toInt.toNat : Nat) : Int) + ((l4.toInt.toNat : Nat) : Int)) a.toInt (h 1 7).toInt.toNat); omega⟩) (by have := ti_addK l4 (1 : Int32) 1 rfl; have := ti_mulL (10 : Int32) 10 rfl l3; have := ti_add (10 * l3) l4; omega)
set_option maxRecDepth 100000 in
set_option maxHeartbeats 4000000 in
theorem ty_54 (X : qm_X) (h : qm_H) (a : Int32) (hp : mq 1 h ∧ wc h) (Q : qm_Q) (hq : ∀ r : Int32, (r.toInt = oaS (h 3) (h 4) (h 5) a.toInt (h 1 7).toInt.toNat (h 1 6).toInt.toNat (h 1 6).toInt.toNat) → Q (some (.int r)) h) : qm_PW X 54 [.ref 1, .int a] h Q := by
  have hm1 : mq 1 h := hp.1
  have ⟨⟨_, _⟩, ⟨_, _⟩, _, _⟩ := hm1
  have hmwc : wc h := hp.2
  have hkn := wf_kn (show wfM (mC h) from hmwc)
  have hkb : ∀ j : Nat, j < (h 1 7).toInt.toNat → 0 ≤ (h 5 j).toInt ∧ (h 5 j).toInt ≤ 99 := fun j q => hkn j (by omega)
  refine qm_seg_ok (C := qc_54) (rt := some .int) rfl rfl (cuts := [(4, [0, 1, 2, 3]), (15, [0, 1, 2, 3, 4])]) 400 _ _ _ _ ?_
  show qm_PA X 54 4 [(0, .ref 1), (1, .int a), (2, .int 0), (3, .int 0)] [] h Q
  exact (ty_54_c X h a hp Q hq _).1 (0 : Int32) (0 : Int32) (by have : (0 : Int32).toInt = 0 := rfl; exact ⟨by have : (0 : Int32).toInt = 0 := rfl; omega, rfl⟩) (Nat.lt_succ_self _)
-- ThreadBank$Memory.netOf(I)I
set_option maxRecDepth 100000 in
set_option maxHeartbeats 4000000 in
theorem ty_55_c (X : qm_X) (h : qm_H) (a : Int32) (hp : mq 1 h ∧ wc h ∧ (0 ≤ a.toInt ∧ a.toInt < (h 1 6).toInt)) (Q : qm_Q) (hq : ∀ r : Int32, (r.toInt = ntS (h 3) (h 4) (h 5) (h 1 7).toInt.toNat a.toInt.toNat (h 1 6).toInt.toNat ∧ (-360 ≤ r.toInt ∧ r.toInt ≤ 360)) → Q (some (.int r)) h) : ∀ n : Nat, (∀ (l2 : Int32) (l3 : Int32), ((0 ≤ l3.toInt ∧ l3.toInt ≤ (h 1 6).toInt) ∧ l2.toInt = ntS (h 3) (h 4) (h 5) (h 1 7).toInt.toNat a.toInt.toNat l3.toInt.toNat) → (4 - l3.toInt).toNat < n → qm_PA X 55 4 [(0, .ref 1), (1, .int a), (2, .int l2), (3, .int l3)] [] h Q) := by
  have hm1 : mq 1 h := hp.1
  have ⟨⟨_, _⟩, ⟨_, _⟩, _, _⟩ := hm1
  have hmwc : wc h := hp.2.1
  have hp0 : 0 ≤ a.toInt ∧ a.toInt < (h 1 6).toInt := hp.2.2
  have hkn := wf_kn (show wfM (mC h) from hmwc)
  have hkb : ∀ j : Nat, j < (h 1 7).toInt.toNat → 0 ≤ (h 5 j).toInt ∧ (h 5 j).toInt ≤ 99 := fun j q => hkn j (by omega)
  intro n
  induction n with
  | zero => exact fun _ _ _ h0 => absurd h0 (Nat.not_lt_zero _)
  | succ n ih =>
    intro l2 l3 hi hr
    have ti_l3 := ti_rng l3
    have hr3 := ntS_rng (pl := h 3) (pa := h 4) (kn := h 5) (n := (h 1 7).toInt.toNat) (c := a.toInt.toNat) (m := l3.toInt.toNat) (by omega) hkb
    refine qm_seg_ok (C := qc_55) (rt := some .int) rfl rfl (cuts := [(4, [0, 1, 2, 3])]) 400 _ _ _ _ ?_
    show ((h 1 6).toInt ≤ l3.toInt → (Q (some (.int l2)) h)) ∧ (l3.toInt < (h 1 6).toInt → (qm_PW X 53 [.ref 1, .int ((10 * l3) + a), .int 9] h _))
    refine ⟨fun c1 => ?_, fun c2 => ?_⟩
    · exact hq l2 (by show l2.toInt = ntS (h 3) (h 4) (h 5) (h 1 7).toInt.toNat a.toInt.toNat (h 1 6).toInt.toNat ∧ (-360 ≤ l2.toInt ∧ l2.toInt ≤ 360); exact ⟨by rw [hi.2, show l3.toInt.toNat = (h 1 6).toInt.toNat by omega], by omega⟩)
    · refine ty_53 X h ((10 * l3) + a) (9 : Int32) ⟨hm1, hmwc⟩ _ (fun r3 p4 => ?_)
      have o5 : r3.toInt = owS (h 3) (h 4) (h 5) ((10 * l3) + a).toInt (9 : Int32).toInt (h 1 7).toInt.toNat ∧ (0 ≤ r3.toInt ∧ r3.toInt ≤ 90) := p4
      clear p4
      show qm_PW X 53 [.ref 1, .int ((10 * a) + l3), .int 9] h _
      refine ty_53 X h ((10 * a) + l3) (9 : Int32) ⟨hm1, hmwc⟩ _ (fun r6 p7 => ?_)
      have o8 : r6.toInt = owS (h 3) (h 4) (h 5) ((10 * a) + l3).toInt (9 : Int32).toInt (h 1 7).toInt.toNat ∧ (0 ≤ r6.toInt ∧ r6.toInt ≤ 90) := p7
      clear p7
      show qm_PA X 55 4 [(0, .ref 1), (1, .int a), (2, .int ((l2 + r3) - r6)), (3, .int (l3 + 1))] [] h Q
      exact ih ((l2 + r3) - r6) (l3 + 1) (by have : (9 : Int32).toInt = 9 := rfl; have := ti_addK l3 (1 : Int32) 1 rfl; have := ti_add l2 r3; have := ti_sub (l2 + r3) r6; have := ti_mulL (10 : Int32) 10 rfl l3; have := ti_add (10 * l3) a; have := ti_mulL (10 : Int32) 10 rfl a; have := ti_add (10 * a) l3; have q1Al3a := ti_mulL (10 : Int32) 10 rfl l3; have q2Al3a := ti_add (10 * l3) a; have q3Al3a : ((10 * l3) + a).toInt = 10 * ((l3.toInt.toNat : Nat) : Int) + ((a.toInt.toNat : Nat) : Int) := (by omega); have q1Aal3 := ti_mulL (10 : Int32) 10 rfl a; have q2Aal3 := ti_add (10 * a) l3; have q3Aal3 : ((10 * a) + l3).toInt = 10 * ((a.toInt.toNat : Nat) : Int) + ((l3.toInt.toNat : Nat) : Int) := (by omega); have oy8 := o5.1; have oy9 := o8.1; rw [q3Al3a] at oy8; rw [q3Aal3] at oy9; have h99 : (9 : Int32).toInt = 9 := rfl; rw [h99] at oy8 oy9; exact ⟨by omega, by rw [show (l3 + 1).toInt.toNat = l3.toInt.toNat + 1 by omega]; show _ = ntS (h 3) (h 4) (h 5) (h 1 7).toInt.toNat a.toInt.toNat l3.toInt.toNat + (owS (h 3) (h 4) (h 5) (10 * ((l3.toInt.toNat : Nat) : Int) + ((a.toInt.toNat : Nat) : Int)) 9 (h 1 7).toInt.toNat - owS (h 3) (h 4) (h 5) (10 * ((a.toInt.toNat : Nat) : Int) + ((l3.toInt.toNat : Nat) : Int)) 9 (h 1 7).toInt.toNat); omega⟩) (by have : (9 : Int32).toInt = 9 := rfl; have := ti_addK l3 (1 : Int32) 1 rfl; have := ti_mulL (10 : Int32) 10 rfl l3; have := ti_add (10 * l3) a; have := ti_mulL (10 : Int32) 10 rfl a; have := ti_add (10 * a) l3; omega)
set_option maxRecDepth 100000 in
set_option maxHeartbeats 4000000 in
theorem ty_55 (X : qm_X) (h : qm_H) (a : Int32) (hp : mq 1 h ∧ wc h ∧ (0 ≤ a.toInt ∧ a.toInt < (h 1 6).toInt)) (Q : qm_Q) (hq : ∀ r : Int32, (r.toInt = ntS (h 3) (h 4) (h 5) (h 1 7).toInt.toNat a.toInt.toNat (h 1 6).toInt.toNat ∧ (-360 ≤ r.toInt ∧ r.toInt ≤ 360)) → Q (some (.int r)) h) : qm_PW X 55 [.ref 1, .int a] h Q := by
  have hm1 : mq 1 h := hp.1
  have ⟨⟨_, _⟩, ⟨_, _⟩, _, _⟩ := hm1
  have hmwc : wc h := hp.2.1
  have hp0 : 0 ≤ a.toInt ∧ a.toInt < (h 1 6).toInt := hp.2.2
  have hkn := wf_kn (show wfM (mC h) from hmwc)
  have hkb : ∀ j : Nat, j < (h 1 7).toInt.toNat → 0 ≤ (h 5 j).toInt ∧ (h 5 j).toInt ≤ 99 := fun j q => hkn j (by omega)
  refine qm_seg_ok (C := qc_55) (rt := some .int) rfl rfl (cuts := [(4, [0, 1, 2, 3])]) 400 _ _ _ _ ?_
  show qm_PA X 55 4 [(0, .ref 1), (1, .int a), (2, .int 0), (3, .int 0)] [] h Q
  exact (ty_55_c X h a hp Q hq _) (0 : Int32) (0 : Int32) (by have : (0 : Int32).toInt = 0 := rfl; exact ⟨by have : (0 : Int32).toInt = 0 := rfl; omega, rfl⟩) (Nat.lt_succ_self _)
-- ThreadBank.sumOfNetsAboveNothing()I
set_option maxRecDepth 100000 in
set_option maxHeartbeats 4000000 in
theorem ty_131_c (X : qm_X) (h : qm_H) (hp : mq 1 h ∧ wc h) (Q : qm_Q) (hq : ∀ r : Int32, (r.toInt = npS (h 3) (h 4) (h 5) (h 1 7).toInt.toNat (h 1 6).toInt.toNat (h 1 6).toInt.toNat) → Q (some (.int r)) h) : ∀ n : Nat, (∀ (l1 : Int32) (l2 : Int32), ((0 ≤ l2.toInt ∧ l2.toInt ≤ (h 1 6).toInt) ∧ l1.toInt = npS (h 3) (h 4) (h 5) (h 1 7).toInt.toNat (h 1 6).toInt.toNat l2.toInt.toNat) → (4 - l2.toInt).toNat < n → qm_PA X 131 4 [(0, .ref 0), (1, .int l1), (2, .int l2)] [] h Q) := by
  have hm1 : mq 1 h := hp.1
  have ⟨⟨_, _⟩, ⟨_, _⟩, _, _⟩ := hm1
  have hmwc : wc h := hp.2
  have hkn := wf_kn (show wfM (mC h) from hmwc)
  have hkb : ∀ j : Nat, j < (h 1 7).toInt.toNat → 0 ≤ (h 5 j).toInt ∧ (h 5 j).toInt ≤ 99 := fun j q => hkn j (by omega)
  intro n
  induction n with
  | zero => exact fun _ _ _ h0 => absurd h0 (Nat.not_lt_zero _)
  | succ n ih =>
    intro l1 l2 hi hr
    have ti_l2 := ti_rng l2
    have hr1 := npS_rng (pl := h 3) (pa := h 4) (kn := h 5) (n := (h 1 7).toInt.toNat) (c := (h 1 6).toInt.toNat) (m := l2.toInt.toNat) (by omega) (by omega) hkb
    refine qm_seg_ok (C := qc_131) (rt := some .int) rfl rfl (cuts := [(4, [0, 1, 2])]) 400 _ _ _ _ ?_
    show ((h 1 6).toInt ≤ l2.toInt → (Q (some (.int l1)) h)) ∧ (l2.toInt < (h 1 6).toInt → (qm_PW X 55 [.ref 1, .int l2] h _))
    refine ⟨fun c1 => ?_, fun c2 => ?_⟩
    · exact hq l1 (by show l1.toInt = npS (h 3) (h 4) (h 5) (h 1 7).toInt.toNat (h 1 6).toInt.toNat (h 1 6).toInt.toNat; rw [hi.2, show l2.toInt.toNat = (h 1 6).toInt.toNat by omega])
    · refine ty_55 X h l2 ⟨hm1, hmwc, (by show 0 ≤ l2.toInt ∧ l2.toInt < (h 1 6).toInt; omega)⟩ _ (fun r3 p4 => ?_)
      have o5 : r3.toInt = ntS (h 3) (h 4) (h 5) (h 1 7).toInt.toNat l2.toInt.toNat (h 1 6).toInt.toNat ∧ (-360 ≤ r3.toInt ∧ r3.toInt ≤ 360) := p4
      clear p4
      show qm_PW X 1 [.int 0, .int r3] h _
      refine tx_1 X h (0 : Int32) r3 trivial _ (fun r6 p7 => ?_)
      show qm_PA X 131 4 [(0, .ref 0), (1, .int (l1 + r6)), (2, .int (l2 + 1))] [] h Q
      exact ih (l1 + r6) (l2 + 1) (by have : (0 : Int32).toInt = 0 := rfl; have := ti_addK l2 (1 : Int32) 1 rfl; have := ti_add l1 r6; have oy9 := o5.1; have h00 : (0 : Int32).toInt = 0 := rfl; have hm : r6.toInt = mx0 (ntS (h 3) (h 4) (h 5) (h 1 7).toInt.toNat l2.toInt.toNat (h 1 6).toInt.toNat) := (by rw [← oy9]; unfold mx0; split <;> omega); exact ⟨by omega, by rw [show (l2 + 1).toInt.toNat = l2.toInt.toNat + 1 by omega]; show _ = npS (h 3) (h 4) (h 5) (h 1 7).toInt.toNat (h 1 6).toInt.toNat l2.toInt.toNat + mx0 (ntS (h 3) (h 4) (h 5) (h 1 7).toInt.toNat l2.toInt.toNat (h 1 6).toInt.toNat); omega⟩) (by have : (0 : Int32).toInt = 0 := rfl; have := ti_addK l2 (1 : Int32) 1 rfl; omega)
set_option maxRecDepth 100000 in
set_option maxHeartbeats 4000000 in
theorem ty_131 (X : qm_X) (h : qm_H) (hp : mq 1 h ∧ wc h) (Q : qm_Q) (hq : ∀ r : Int32, (r.toInt = npS (h 3) (h 4) (h 5) (h 1 7).toInt.toNat (h 1 6).toInt.toNat (h 1 6).toInt.toNat) → Q (some (.int r)) h) : qm_PW X 131 [.ref 0] h Q := by
  have hm1 : mq 1 h := hp.1
  have ⟨⟨_, _⟩, ⟨_, _⟩, _, _⟩ := hm1
  have hmwc : wc h := hp.2
  have hkn := wf_kn (show wfM (mC h) from hmwc)
  have hkb : ∀ j : Nat, j < (h 1 7).toInt.toNat → 0 ≤ (h 5 j).toInt ∧ (h 5 j).toInt ≤ 99 := fun j q => hkn j (by omega)
  refine qm_seg_ok (C := qc_131) (rt := some .int) rfl rfl (cuts := [(4, [0, 1, 2])]) 400 _ _ _ _ ?_
  show qm_PA X 131 4 [(0, .ref 0), (1, .int 0), (2, .int 0)] [] h Q
  exact (ty_131_c X h hp Q hq _) (0 : Int32) (0 : Int32) (by have : (0 : Int32).toInt = 0 := rfl; exact ⟨by have : (0 : Int32).toInt = 0 := rfl; omega, rfl⟩) (Nat.lt_succ_self _)
-- ThreadBank.sum(I)I
set_option maxRecDepth 100000 in
set_option maxHeartbeats 4000000 in
theorem ty_105 (X : qm_X) (h : qm_H) (a : Int32) (hp : mq 1 h ∧ wc h) (Q : qm_Q) (hq : ∀ r : Int32, (r.toInt = qSum a.toInt (mC h)) → Q (some (.int r)) h) : qm_PW X 105 [.ref 0, .int a] h Q := by
  have hm1 : mq 1 h := hp.1
  have ⟨⟨_, _⟩, ⟨_, _⟩, _, _⟩ := hm1
  have hmwc : wc h := hp.2
  refine qm_seg_ok (C := qc_105) (rt := some .int) rfl rfl (cuts := []) 400 _ _ _ _ ?_
  show ((a = 0 → (qm_PW X 54 [.ref 1, .int 9] h _)) ∧ (¬ a = 0 → ((a = 1 → (qm_PW X 54 [.ref 1, .int (h 1 8)] h _)) ∧ (¬ a = 1 → ((a = 2 → (qm_PW X 131 [.ref 0] h _)) ∧ (¬ a = 2 → (Q (some (.int (-1 : Int32))) h)))))))
  refine ⟨fun c1 => ?_, fun c2 => ?_⟩
  · have := ti_eqK 0 rfl c1
    refine ty_54 X h (9 : Int32) ⟨hm1, hmwc⟩ _ (fun r3 p4 => ?_)
    have o5 : r3.toInt = oaS (h 3) (h 4) (h 5) (9 : Int32).toInt (h 1 7).toInt.toNat (h 1 6).toInt.toNat (h 1 6).toInt.toNat := p4
    clear p4
    show Q (some (.int r3)) h
    exact hq r3 (by have : (9 : Int32).toInt = 9 := rfl; show r3.toInt = qSum a.toInt (mC h); exact (o5).trans (show qSum a.toInt (mC h) = _ from sum_01 (Or.inl ⟨by omega, rfl⟩)).symm)
  · have := ti_neK 0 rfl c2
    refine ⟨fun c6 => ?_, fun c7 => ?_⟩
    · have := ti_eqK 1 rfl c6
      refine ty_54 X h (h 1 8) ⟨hm1, hmwc⟩ _ (fun r8 p9 => ?_)
      have o10 : r8.toInt = oaS (h 3) (h 4) (h 5) (h 1 8).toInt (h 1 7).toInt.toNat (h 1 6).toInt.toNat (h 1 6).toInt.toNat := p9
      clear p9
      show Q (some (.int r8)) h
      exact hq r8 (by show r8.toInt = qSum a.toInt (mC h); exact (o10).trans (show qSum a.toInt (mC h) = _ from sum_01 (Or.inr ⟨by omega, rfl⟩)).symm)
    · have := ti_neK 1 rfl c7
      refine ⟨fun c11 => ?_, fun c12 => ?_⟩
      · have := ti_eqK 2 rfl c11
        refine ty_131 X h  ⟨hm1, hmwc⟩ _ (fun r13 p14 => ?_)
        have o15 : r13.toInt = npS (h 3) (h 4) (h 5) (h 1 7).toInt.toNat (h 1 6).toInt.toNat (h 1 6).toInt.toNat := p14
        clear p14
        show Q (some (.int r13)) h
        exact hq r13 (by show r13.toInt = qSum a.toInt (mC h); exact (o15).trans (show qSum a.toInt (mC h) = _ from sum_2 (by omega)).symm)
      · have := ti_neK 2 rfl c12
        exact hq (-1 : Int32) (by show (-1 : Int32).toInt = qSum a.toInt (mC h); rw [ti_n1]; exact (sum_d (M := mC h) ⟨by omega, by omega, by omega⟩).symm)
-- ThreadBank.clerk(II)I
set_option maxRecDepth 100000 in
set_option maxHeartbeats 4000000 in
theorem ty_95 (X : qm_X) (h : qm_H) (a : Int32) (b : Int32) (hp : mq 1 h ∧ wc h) (Q : qm_Q) (hq : ∀ r : Int32, (r.toInt = qClerk a.toInt b.toInt (mC h)) → Q (some (.int r)) h) : qm_PW X 95 [.ref 0, .int a, .int b] h Q := by
  have hm1 : mq 1 h := hp.1
  have ⟨⟨_, _⟩, ⟨_, _⟩, _, _⟩ := hm1
  have hmwc : wc h := hp.2
  refine qm_seg_ok (C := qc_95) (rt := some .int) rfl rfl (cuts := []) 400 _ _ _ _ ?_
  show qm_PW X 28 [.ref 1, .int a] h _
  refine ty_28 X h a trivial _ (fun r1 p2 => ?_)
  have o3 : (r1 = 0 ∨ r1 = 1) ∧ ((r1.toInt = 1 ∧ 0 ≤ a.toInt ∧ a.toInt < (h 1 6).toInt) ∨ (r1.toInt = 0 ∧ ¬ (0 ≤ a.toInt ∧ a.toInt < (h 1 6).toInt))) := p2
  clear p2
  show (¬ r1 = 0 → (((b = 0 → (qm_PW X 32 [.ref 1, .int a] h _)) ∧ (¬ b = 0 → ((b = 1 → (qm_PW X 36 [.ref 1, .int a] h _)) ∧ (¬ b = 1 → ((b = 2 → (qm_PW X 38 [.ref 1, .int a] h _)) ∧ (¬ b = 2 → ((b = 3 → (qm_PW X 55 [.ref 1, .int a] h _)) ∧ (¬ b = 3 → (Q (some (.int (-1 : Int32))) h))))))))))) ∧ (r1 = 0 → (Q (some (.int (-1 : Int32))) h))
  refine ⟨fun c4 => ?_, fun c5 => ?_⟩
  · have := ti_neK 0 rfl c4
    refine ⟨fun c6 => ?_, fun c7 => ?_⟩
    · have := ti_eqK 0 rfl c6
      refine ty_32 X h a hm1 _ (fun r8 p9 => ?_)
      have o10 : ((0 ≤ a.toInt ∧ a.toInt < (h 1 6).toInt) ∧ r8.toInt = (h 2 a.toInt.toNat).toInt) ∨ (¬ (0 ≤ a.toInt ∧ a.toInt < (h 1 6).toInt) ∧ r8.toInt = -4) := p9
      clear p9
      show Q (some (.int r8)) h
      exact hq r8 (by show r8.toInt = qClerk a.toInt b.toInt (mC h); exact (show _ = (h 2 a.toInt.toNat).toInt by omega).trans (show qClerk a.toInt b.toInt (mC h) = _ from clerk_0 (by omega) (by omega)).symm)
    · have := ti_neK 0 rfl c7
      refine ⟨fun c11 => ?_, fun c12 => ?_⟩
      · have := ti_eqK 1 rfl c11
        refine ty_36 X h a hm1 _ (fun r13 p14 => ?_)
        have o15 : r13.toInt = cntR (fun t => (h 3 t) / 10) (h 1 7).toInt.toNat a.toInt ∧ (0 ≤ r13.toInt ∧ r13.toInt ≤ 10) := p14
        clear p14
        show Q (some (.int r13)) h
        exact hq r13 (by show r13.toInt = qClerk a.toInt b.toInt (mC h); exact (o15.1).trans (show qClerk a.toInt b.toInt (mC h) = _ from clerk_1 (by omega) (by omega)).symm)
      · have := ti_neK 1 rfl c12
        refine ⟨fun c16 => ?_, fun c17 => ?_⟩
        · have := ti_eqK 2 rfl c16
          refine ty_38 X h a ⟨hm1, (by show 0 ≤ a.toInt ∧ a.toInt < (h 1 6).toInt; omega)⟩ _ (fun r18 p19 => ?_)
          have o20 : r18.toInt = rmH (h 2 a.toInt.toNat).toInt ∧ (0 ≤ r18.toInt ∧ r18.toInt ≤ 15) := p19
          clear p19
          show Q (some (.int r18)) h
          exact hq r18 (by show r18.toInt = qClerk a.toInt b.toInt (mC h); exact (o20.1).trans (show qClerk a.toInt b.toInt (mC h) = _ from clerk_2 (by omega) (by omega)).symm)
        · have := ti_neK 2 rfl c17
          refine ⟨fun c21 => ?_, fun c22 => ?_⟩
          · have := ti_eqK 3 rfl c21
            refine ty_55 X h a ⟨hm1, hmwc, (by show 0 ≤ a.toInt ∧ a.toInt < (h 1 6).toInt; omega)⟩ _ (fun r23 p24 => ?_)
            have o25 : r23.toInt = ntS (h 3) (h 4) (h 5) (h 1 7).toInt.toNat a.toInt.toNat (h 1 6).toInt.toNat ∧ (-360 ≤ r23.toInt ∧ r23.toInt ≤ 360) := p24
            clear p24
            show Q (some (.int (1000 + r23))) h
            exact hq (1000 + r23) (by have := ti_addL r23 (1000 : Int32) 1000 rfl; show (1000 + r23).toInt = qClerk a.toInt b.toInt (mC h); have oy9 := o25.1; have q9 := ti_addL r23 (1000 : Int32) 1000 rfl (by omega); exact (show _ = 1000 + ntS (h 3) (h 4) (h 5) (h 1 7).toInt.toNat a.toInt.toNat (h 1 6).toInt.toNat by omega).trans (show qClerk a.toInt b.toInt (mC h) = _ from clerk_3 (by omega) (by omega)).symm)
          · have := ti_neK 3 rfl c22
            exact hq (-1 : Int32) (by show (-1 : Int32).toInt = qClerk a.toInt b.toInt (mC h); rw [ti_n1]; exact (clerk_no (M := mC h) (show ¬ (0 ≤ a.toInt ∧ a.toInt < (h 1 6).toInt) ∨ (¬ b.toInt = 0 ∧ ¬ b.toInt = 1 ∧ ¬ b.toInt = 2 ∧ ¬ b.toInt = 3) by omega)).symm)
  · have := ti_eqK 0 rfl c5
    exact hq (-1 : Int32) (by show (-1 : Int32).toInt = qClerk a.toInt b.toInt (mC h); rw [ti_n1]; exact (clerk_no (M := mC h) (show ¬ (0 ≤ a.toInt ∧ a.toInt < (h 1 6).toInt) ∨ (¬ b.toInt = 0 ∧ ¬ b.toInt = 1 ∧ ¬ b.toInt = 2 ∧ ¬ b.toInt = 3) by omega)).symm)
-- ThreadBankModel.netOf(I)I
set_option maxRecDepth 100000 in
set_option maxHeartbeats 4000000 in
theorem ty_182_c (X : qm_X) (h : qm_H) (a : Int32) (hp : (0 ≤ a.toInt ∧ a.toInt ≤ 3) ∧ owb (h 45) 90) (Q : qm_Q) (hq : ∀ r : Int32, (r.toInt = nt45 (h 45) a.toInt.toNat 4 ∧ (-360 ≤ r.toInt ∧ r.toInt ≤ 360)) → Q (some (.int r)) h) : ∀ n : Nat, (∀ (l2 : Int32) (l3 : Int32), ((0 ≤ l3.toInt ∧ l3.toInt ≤ 4) ∧ l2.toInt = nt45 (h 45) a.toInt.toNat l3.toInt.toNat) → (4 - l3.toInt).toNat < n → qm_PA X 182 4 [(0, .ref 39), (1, .int a), (2, .int l2), (3, .int l3)] [] h Q) := by
  have hp0 : (0 ≤ a.toInt ∧ a.toInt ≤ 3) ∧ owb (h 45) 90 := hp
  intro n
  induction n with
  | zero => exact fun _ _ _ h0 => absurd h0 (Nat.not_lt_zero _)
  | succ n ih =>
    intro l2 l3 hi hr
    have ti_l3 := ti_rng l3
    have hr9 := nt45_rng (f := h 45) (c := a.toInt.toNat) (m := l3.toInt.toNat) hp0.2 (by omega) (by omega)
    refine qm_seg_ok (C := qc_182) (rt := some .int) rfl rfl (cuts := [(4, [0, 1, 2, 3])]) 400 _ _ _ _ ?_
    show (4 ≤ l3.toInt → (Q (some (.int l2)) h)) ∧ (l3.toInt < 4 → ((0 ≤ ((4 * l3) + a).toInt ∧ ((4 * l3) + a).toInt < 16) ∧ ((0 ≤ ((4 * a) + l3).toInt ∧ ((4 * a) + l3).toInt < 16) ∧ (qm_PA X 182 4 [(0, .ref 39), (1, .int a), (2, .int (l2 + ((h 45 ((4 * l3) + a).toInt.toNat) - (h 45 ((4 * a) + l3).toInt.toNat)))), (3, .int (l3 + 1))] [] h Q))))
    refine ⟨fun c1 => ?_, fun c2 => ?_⟩
    · exact hq l2 (by show l2.toInt = nt45 (h 45) a.toInt.toNat 4 ∧ (-360 ≤ l2.toInt ∧ l2.toInt ≤ 360); have hr9 := nt45_rng (f := h 45) (c := a.toInt.toNat) (m := 4) hp0.2 (by omega) (by omega); have hi2 := hi.2; rw [show l3.toInt.toNat = 4 by omega] at hi2; exact ⟨hi2, by omega⟩)
    · refine ⟨(by have := ti_mulL (4 : Int32) 4 rfl l3; have := ti_add (4 * l3) a; omega), ?_⟩
      refine ⟨(by have := ti_mulL (4 : Int32) 4 rfl a; have := ti_add (4 * a) l3; omega), ?_⟩
      exact ih (l2 + ((h 45 ((4 * l3) + a).toInt.toNat) - (h 45 ((4 * a) + l3).toInt.toNat))) (l3 + 1) (by have := ti_addK l3 (1 : Int32) 1 rfl; have := ti_sub (h 45 ((4 * l3) + a).toInt.toNat) (h 45 ((4 * a) + l3).toInt.toNat); have := ti_add l2 ((h 45 ((4 * l3) + a).toInt.toNat) - (h 45 ((4 * a) + l3).toInt.toNat)); have := ti_mulL (4 : Int32) 4 rfl l3; have := ti_add (4 * l3) a; have := ti_mulL (4 : Int32) 4 rfl a; have := ti_add (4 * a) l3; have q1 := ti_mulL (4 : Int32) 4 rfl l3; have q2 := ti_add (4 * l3) a; have q3 := ti_mulL (4 : Int32) 4 rfl a; have q4 := ti_add (4 * a) l3; have e1 : ((4 * l3) + a).toInt.toNat = 4 * l3.toInt.toNat + a.toInt.toNat := (by omega); have e2 : ((4 * a) + l3).toInt.toNat = 4 * a.toInt.toNat + l3.toInt.toNat := (by omega); rw [e1, e2]; have b1 := hp0.2 (4 * l3.toInt.toNat + a.toInt.toNat) (by omega); have b2 := hp0.2 (4 * a.toInt.toNat + l3.toInt.toNat) (by omega); have q5 := ti_sub (h 45 (4 * l3.toInt.toNat + a.toInt.toNat)) (h 45 (4 * a.toInt.toNat + l3.toInt.toNat)) (by omega); have q6 := ti_add l2 ((h 45 (4 * l3.toInt.toNat + a.toInt.toNat)) - (h 45 (4 * a.toInt.toNat + l3.toInt.toNat))) (by omega); exact ⟨by omega, by rw [show (l3 + 1).toInt.toNat = l3.toInt.toNat + 1 by omega]; show _ = nt45 (h 45) a.toInt.toNat l3.toInt.toNat + ((h 45 (4 * l3.toInt.toNat + a.toInt.toNat)).toInt - (h 45 (4 * a.toInt.toNat + l3.toInt.toNat)).toInt); omega⟩) (by have := ti_addK l3 (1 : Int32) 1 rfl; omega)
set_option maxRecDepth 100000 in
set_option maxHeartbeats 4000000 in
theorem ty_182 (X : qm_X) (h : qm_H) (a : Int32) (hp : (0 ≤ a.toInt ∧ a.toInt ≤ 3) ∧ owb (h 45) 90) (Q : qm_Q) (hq : ∀ r : Int32, (r.toInt = nt45 (h 45) a.toInt.toNat 4 ∧ (-360 ≤ r.toInt ∧ r.toInt ≤ 360)) → Q (some (.int r)) h) : qm_PW X 182 [.ref 39, .int a] h Q := by
  have hp0 : (0 ≤ a.toInt ∧ a.toInt ≤ 3) ∧ owb (h 45) 90 := hp
  refine qm_seg_ok (C := qc_182) (rt := some .int) rfl rfl (cuts := [(4, [0, 1, 2, 3])]) 400 _ _ _ _ ?_
  show qm_PA X 182 4 [(0, .ref 39), (1, .int a), (2, .int 0), (3, .int 0)] [] h Q
  exact (ty_182_c X h a hp Q hq _) (0 : Int32) (0 : Int32) (by have : (0 : Int32).toInt = 0 := rfl; exact ⟨by have : (0 : Int32).toInt = 0 := rfl; omega, rfl⟩) (Nat.lt_succ_self _)
-- ThreadBankModel.allOwed()I
set_option maxRecDepth 100000 in
set_option maxHeartbeats 4000000 in
theorem ty_183_c (X : qm_X) (h : qm_H) (hp : owb (h 45) 90) (Q : qm_Q) (hq : ∀ r : Int32, (r.toInt = all45 (h 45) 16) → Q (some (.int r)) h) : ∀ n : Nat, (∀ (l1 : Int32) (l2 : Int32), ((0 ≤ l2.toInt ∧ l2.toInt ≤ 16) ∧ l1.toInt = all45 (h 45) l2.toInt.toNat) → (16 - l2.toInt).toNat < n → qm_PA X 183 4 [(0, .ref 39), (1, .int l1), (2, .int l2)] [] h Q) := by
  have hp0 : owb (h 45) 90 := hp
  intro n
  induction n with
  | zero => exact fun _ _ _ h0 => absurd h0 (Nat.not_lt_zero _)
  | succ n ih =>
    intro l1 l2 hi hr
    have ti_l2 := ti_rng l2
    have hr9 := all45_rng (f := h 45) (m := l2.toInt.toNat) hp0 (by omega)
    refine qm_seg_ok (C := qc_183) (rt := some .int) rfl rfl (cuts := [(4, [0, 1, 2])]) 400 _ _ _ _ ?_
    show (16 ≤ l2.toInt → (Q (some (.int l1)) h)) ∧ (l2.toInt < 16 → ((0 ≤ l2.toInt ∧ l2.toInt < 16) ∧ (qm_PA X 183 4 [(0, .ref 39), (1, .int (l1 + (h 45 l2.toInt.toNat))), (2, .int (l2 + 1))] [] h Q)))
    refine ⟨fun c1 => ?_, fun c2 => ?_⟩
    · exact hq l1 (by show l1.toInt = all45 (h 45) 16; have hi2 := hi.2; rw [show l2.toInt.toNat = 16 by omega] at hi2; exact hi2)
    · refine ⟨(by omega), ?_⟩
      exact ih (l1 + (h 45 l2.toInt.toNat)) (l2 + 1) (by have := ti_addK l2 (1 : Int32) 1 rfl; have := ti_add l1 (h 45 l2.toInt.toNat); have b1 := hp0 l2.toInt.toNat (by omega); have q6 := ti_add l1 (h 45 l2.toInt.toNat) (by omega); exact ⟨by omega, by rw [show (l2 + 1).toInt.toNat = l2.toInt.toNat + 1 by omega]; show _ = all45 (h 45) l2.toInt.toNat + (h 45 l2.toInt.toNat).toInt; omega⟩) (by have := ti_addK l2 (1 : Int32) 1 rfl; omega)
set_option maxRecDepth 100000 in
set_option maxHeartbeats 4000000 in
theorem ty_183 (X : qm_X) (h : qm_H) (hp : owb (h 45) 90) (Q : qm_Q) (hq : ∀ r : Int32, (r.toInt = all45 (h 45) 16) → Q (some (.int r)) h) : qm_PW X 183 [.ref 39] h Q := by
  have hp0 : owb (h 45) 90 := hp
  refine qm_seg_ok (C := qc_183) (rt := some .int) rfl rfl (cuts := [(4, [0, 1, 2])]) 400 _ _ _ _ ?_
  show qm_PA X 183 4 [(0, .ref 39), (1, .int 0), (2, .int 0)] [] h Q
  exact (ty_183_c X h hp Q hq _) (0 : Int32) (0 : Int32) (by have : (0 : Int32).toInt = 0 := rfl; exact ⟨by have : (0 : Int32).toInt = 0 := rfl; omega, rfl⟩) (Nat.lt_succ_self _)
