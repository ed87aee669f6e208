-- ThreadBank$Memory.threadsOn(I)I
set_option maxRecDepth 100000 in
set_option maxHeartbeats 4000000 in
theorem ty_36_c (X : qm_X) (h : qm_H) (a : Int32) (hp : mq 1 h) (Q : qm_Q) (hq : ∀ r : Int32, (r.toInt = cntR (fun t => (h 3 t) / 10) (h 1 7).toInt.toNat a.toInt ∧ (0 ≤ r.toInt ∧ r.toInt ≤ 10)) → Q (some (.int r)) h) : ∀ n : Nat, (∀ (l2 : Int32) (l3 : Int32), ((0 ≤ l3.toInt ∧ l3.toInt ≤ (h 1 7).toInt) ∧ l2.toInt = cntR (fun t => h 3 t / 10) l3.toInt.toNat a.toInt) → (10 - l3.toInt).toNat < n → qm_PA X 36 4 [(0, .ref 1), (1, .int a), (2, .int l2), (3, .int l3)] [] h Q) := by
  have hm1 : mq 1 h := hp
  have ⟨⟨_, _⟩, ⟨_, _⟩, _, _⟩ := hm1
  intro n
  induction n with
  | zero => exact fun _ _ _ h0 => absurd h0 (Nat.not_lt_zero _)
  | succ n ih =>
    intro l2 l3 hi hr
    have hcr := cntR_rng (f := fun t => h 3 t / 10) (x := a.toInt) l3.toInt.toNat
    have hlt := ti_rng l3
    refine qm_seg_ok (C := qc_36) (rt := some .int) rfl rfl (cuts := [(4, [0, 1, 2, 3])]) 400 _ _ _ _ ?_
    show ((h 1 7).toInt ≤ l3.toInt → (Q (some (.int l2)) h)) ∧ (l3.toInt < (h 1 7).toInt → (qm_PW X 33 [.ref 1, .int l3] h _))
    refine ⟨fun c1 => ?_, fun c2 => ?_⟩
    · exact hq l2 (by show l2.toInt = cntR (fun t => (h 3 t) / 10) (h 1 7).toInt.toNat a.toInt ∧ (0 ≤ l2.toInt ∧ l2.toInt ≤ 10); exact ⟨by rw [show (h 1 7).toInt.toNat = l3.toInt.toNat by omega]; exact hi.2, by omega⟩)
    · refine ty_33 X h l3 hm1 _ (fun r3 p4 => ?_)
      have o5 : ((0 ≤ l3.toInt ∧ l3.toInt < (h 1 7).toInt) ∧ r3.toInt = ((h 3 l3.toInt.toNat) / 10).toInt) ∨ (¬ (0 ≤ l3.toInt ∧ l3.toInt < (h 1 7).toInt) ∧ r3.toInt = -4) := p4
      clear p4
      show (¬ r3 = a → (qm_PA X 36 4 [(0, .ref 1), (1, .int a), (2, .int l2), (3, .int (l3 + 1))] [] h Q)) ∧ (r3 = a → (qm_PA X 36 4 [(0, .ref 1), (1, .int a), (2, .int (l2 + 1)), (3, .int (l3 + 1))] [] h Q))
      refine ⟨fun c6 => ?_, fun c7 => ?_⟩
      · exact ih l2 (l3 + 1) (by have := ti_addK l3 (1 : Int32) 1 rfl; have := ti_div (10 : Int32) 10 rfl (h 3 l3.toInt.toNat) (by decide); have hx : ¬ ((h 3 l3.toInt.toNat) / 10) = a := (fun w => absurd (Int32.toInt_inj.mp (show r3.toInt = a.toInt by have := congrArg Int32.toInt w; omega)) (by assumption)); exact ⟨by omega, by rw [show (l3 + 1).toInt.toNat = l3.toInt.toNat + 1 by omega, cntR_neg (f := fun t => (h 3 t) / 10) (y := a) hx]; omega⟩) (by have := ti_addK l3 (1 : Int32) 1 rfl; have := ti_div (10 : Int32) 10 rfl (h 3 l3.toInt.toNat) (by decide); omega)
      · exact ih (l2 + 1) (l3 + 1) (by have := ti_addK l3 (1 : Int32) 1 rfl; have := ti_addK l2 (1 : Int32) 1 rfl; have := ti_div (10 : Int32) 10 rfl (h 3 l3.toInt.toNat) (by decide); have hc := congrArg Int32.toInt (show r3 = a from by assumption); have hx : ((h 3 l3.toInt.toNat) / 10) = a := Int32.toInt_inj.mp (by omega); exact ⟨by omega, by rw [show (l3 + 1).toInt.toNat = l3.toInt.toNat + 1 by omega, cntR_pos (f := fun t => (h 3 t) / 10) (y := a) hx]; omega⟩) (by have := ti_addK l3 (1 : Int32) 1 rfl; have := ti_div (10 : Int32) 10 rfl (h 3 l3.toInt.toNat) (by decide); omega)
set_option maxRecDepth 100000 in
set_option maxHeartbeats 4000000 in
theorem ty_36 (X : qm_X) (h : qm_H) (a : Int32) (hp : mq 1 h) (Q : qm_Q) (hq : ∀ r : Int32, (r.toInt = cntR (fun t => (h 3 t) / 10) (h 1 7).toInt.toNat a.toInt ∧ (0 ≤ r.toInt ∧ r.toInt ≤ 10)) → Q (some (.int r)) h) : qm_PW X 36 [.ref 1, .int a] h Q := by
  have hm1 : mq 1 h := hp
  have ⟨⟨_, _⟩, ⟨_, _⟩, _, _⟩ := hm1
  refine qm_seg_ok (C := qc_36) (rt := some .int) rfl rfl (cuts := [(4, [0, 1, 2, 3])]) 400 _ _ _ _ ?_
  show qm_PA X 36 4 [(0, .ref 1), (1, .int a), (2, .int 0), (3, .int 0)] [] h Q
  exact (ty_36_c X h a hp Q hq _) (0 : Int32) (0 : Int32) (by have : (0 : Int32).toInt = 0 := rfl; exact ⟨by have : (0 : Int32).toInt = 0 := rfl; omega, rfl⟩) (Nat.lt_succ_self _)
-- ThreadBank$Memory.owedInAll(I)I
set_option maxRecDepth 100000 in
set_option maxHeartbeats 4000000 in
theorem ty_54_c (X : qm_X) (h : qm_H) (a : Int32) (hp : mq 1 h ∧ wc h) (Q : qm_Q) (hq : ∀ r : Int32, (r.toInt = oaS (h 3) (h 4) (h 5) a.toInt (h 1 7).toInt.toNat (h 1 6).toInt.toNat (h 1 6).toInt.toNat) → Q (some (.int r)) h) : ∀ n : Nat, (∀ (l2 : Int32) (l3 : Int32), ((0 ≤ l3.toInt ∧ l3.toInt ≤ (h 1 6).toInt) ∧ l2.toInt = oaS (h 3) (h 4) (h 5) a.toInt (h 1 7).toInt.toNat (h 1 6).toInt.toNat l3.toInt.toNat) → ((4 - l3.toInt) * 100 + 50).toNat < n → qm_PA X 54 4 [(0, .ref 1), (1, .int a), (2, .int l2), (3, .int l3)] [] h Q) ∧ (∀ (l2 : Int32) (l3 : Int32) (l4 : Int32), (((0 ≤ l3.toInt ∧ l3.toInt < (h 1 6).toInt) ∧ 0 ≤ l4.toInt ∧ l4.toInt ≤ (h 1 6).toInt) ∧ l2.toInt = oaS (h 3) (h 4) (h 5) a.toInt (h 1 7).toInt.toNat (h 1 6).toInt.toNat l3.toInt.toNat + oaR (h 3) (h 4) (h 5) a.toInt (h 1 7).toInt.toNat l3.toInt.toNat l4.toInt.toNat) → ((4 - l3.toInt) * 100 + 40 - l4.toInt).toNat < n → qm_PA X 54 15 [(0, .ref 1), (1, .int a), (2, .int l2), (3, .int l3), (4, .int l4)] [] h Q) := by
  have hm1 : mq 1 h := hp.1
  have ⟨⟨_, _⟩, ⟨_, _⟩, _, _⟩ := hm1
  have hmwc : wc h := hp.2
  have hkn := wf_kn (show wfM (mC h) from hmwc)
  have hkb : ∀ j : Nat, j < (h 1 7).toInt.toNat → 0 ≤ (h 5 j).toInt ∧ (h 5 j).toInt ≤ 99 := fun j q => hkn j (by omega)
  intro n
  induction n with
  | zero => exact ⟨fun _ _ _ h0 => absurd h0 (Nat.not_lt_zero _), fun _ _ _ _ h0 => absurd h0 (Nat.not_lt_zero _)⟩
  | succ n ih =>
    refine ⟨?_, ?_⟩
    · intro l2 l3 hi hr
      have ti_l3 := ti_rng l3
      have hr1 := oaS_rng (pl := h 3) (pa := h 4) (kn := h 5) (d := a.toInt) (n := (h 1 7).toInt.toNat) (c := (h 1 6).toInt.toNat) (m := l3.toInt.toNat) (by omega) (by omega) hkb
      refine qm_seg_ok (C := qc_54) (rt := some .int) rfl rfl (cuts := [(4, [0, 1, 2, 3]), (15, [0, 1, 2, 3, 4])]) 400 _ _ _ _ ?_
      show ((h 1 6).toInt ≤ l3.toInt → (Q (some (.int l2)) h)) ∧ (l3.toInt < (h 1 6).toInt → (qm_PA X 54 15 [(0, .ref 1), (1, .int a), (2, .int l2), (3, .int l3), (4, .int 0)] [] h Q))
      refine ⟨fun c1 => ?_, fun c2 => ?_⟩
      · exact hq l2 (by show l2.toInt = oaS (h 3) (h 4) (h 5) a.toInt (h 1 7).toInt.toNat (h 1 6).toInt.toNat (h 1 6).toInt.toNat; rw [hi.2, show l3.toInt.toNat = (h 1 6).toInt.toNat by omega])
      · exact ih.2 l2 l3 (0 : Int32) (by have : (0 : Int32).toInt = 0 := rfl; exact ⟨by have : (0 : Int32).toInt = 0 := rfl; omega, by show _ = oaS (h 3) (h 4) (h 5) a.toInt (h 1 7).toInt.toNat (h 1 6).toInt.toNat l3.toInt.toNat + 0; omega⟩) (by have : (0 : Int32).toInt = 0 := rfl; omega)
    · intro l2 l3 l4 hi hr
      have ti_l4 := ti_rng l4
      have hr1 := oaS_rng (pl := h 3) (pa := h 4) (kn := h 5) (d := a.toInt) (n := (h 1 7).toInt.toNat) (c := (h 1 6).toInt.toNat) (m := l3.toInt.toNat) (by omega) (by omega) hkb
      have hr2 := oaR_rng (pl := h 3) (pa := h 4) (kn := h 5) (d := a.toInt) (n := (h 1 7).toInt.toNat) (x := l3.toInt.toNat) (c := l4.toInt.toNat) (by omega) hkb
      refine qm_seg_ok (C := qc_54) (rt := some .int) rfl rfl (cuts := [(4, [0, 1, 2, 3]), (15, [0, 1, 2, 3, 4])]) 400 _ _ _ _ ?_
      show ((h 1 6).toInt ≤ l4.toInt → (qm_PA X 54 4 [(0, .ref 1), (1, .int a), (2, .int l2), (3, .int (l3 + 1))] [] h Q)) ∧ (l4.toInt < (h 1 6).toInt → (qm_PW X 53 [.ref 1, .int ((10 * l3) + l4), .int a] h _))
      refine ⟨fun c1 => ?_, fun c2 => ?_⟩
      · exact ih.1 l2 (l3 + 1) (by have := ti_addK l3 (1 : Int32) 1 rfl; have h5 : l4.toInt.toNat = (h 1 6).toInt.toNat := (by omega); have hi2 := hi.2; rw [h5] at hi2; exact ⟨by omega, by rw [show (l3 + 1).toInt.toNat = l3.toInt.toNat + 1 by omega]; show _ = oaS (h 3) (h 4) (h 5) a.toInt (h 1 7).toInt.toNat (h 1 6).toInt.toNat l3.toInt.toNat + oaR (h 3) (h 4) (h 5) a.toInt (h 1 7).toInt.toNat l3.toInt.toNat (h 1 6).toInt.toNat; omega⟩) (by have := ti_addK l3 (1 : Int32) 1 rfl; omega)
      · refine ty_53 X h ((10 * l3) + l4) a ⟨hm1, hmwc⟩ _ (fun r3 p4 => ?_)
        have o5 : r3.toInt = owS (h 3) (h 4) (h 5) ((10 * l3) + l4).toInt a.toInt (h 1 7).toInt.toNat ∧ (0 ≤ r3.toInt ∧ r3.toInt ≤ 90) := p4
        clear p4
        show qm_PA X 54 15 [(0, .ref 1), (1, .int a), (2, .int (l2 + r3)), (3, .int l3), (4, .int (l4 + 1))] [] h Q
        exact ih.2 (l2 + r3) l3 (l4 + 1) (by have := ti_addK l4 (1 : Int32) 1 rfl; have := ti_add l2 r3; have := ti_mulL (10 : Int32) 10 rfl l3; have := ti_add (10 * l3) l4; have q1Al3l4 := ti_mulL (10 : Int32) 10 rfl l3; have q2Al3l4 := ti_add (10 * l3) l4; have q3Al3l4 : ((10 * l3) + l4).toInt = 10 * ((l3.toInt.toNat : Nat) : Int) + ((l4.toInt.toNat : Nat) : Int) := (by omega); have oy9 := o5.1; rw [q3Al3l4] at oy9; exact ⟨by omega, by rw [show (l4 + 1).toInt.toNat = l4.toInt.toNat + 1 by omega]; show _ = oaS (h 3) (h 4) (h 5) a.toInt (h 1 7).toInt.toNat (h 1 6).toInt.toNat l3.toInt.toNat + (oaR (h 3) (h 4) (h 5) a.toInt (h 1 7).toInt.toNat l3.toInt.toNat l4.toInt.toNat + owS (h 3) (h 4) (h 5) (10 * ((l3.toInt.toNat : Nat) : Int) + ((l4.toInt.toNat : Nat) : Int)) a.toInt (h 1 7).toInt.toNat); omega⟩) (by have := ti_addK l4 (1 : Int32) 1 rfl; have := ti_mulL (10 : Int32) 10 rfl l3; have := ti_add (10 * l3) l4; omega)
set_option maxRecDepth 100000 in
set_option maxHeartbeats 4000000 in
theorem ty_54 (X : qm_X) (h : qm_H) (a : Int32) (hp : mq 1 h ∧ wc h) (Q : qm_Q) (hq : ∀ r : Int32, (r.toInt = oaS (h 3) (h 4) (h 5) a.toInt (h 1 7).toInt.toNat (h 1 6).toInt.toNat (h 1 6).toInt.toNat) → Q (some (.int r)) h) : qm_PW X 54 [.ref 1, .int a] h Q := by
  have hm1 : mq 1 h := hp.1
  have ⟨⟨_, _⟩, ⟨_, _⟩, _, _⟩ := hm1
  have hmwc : wc h := hp.2
  have hkn := wf_kn (show wfM (mC h) from hmwc)
  have hkb : ∀ j : Nat, j < (h 1 7).toInt.toNat → 0 ≤ (h 5 j).toInt ∧ (h 5 j).toInt ≤ 99 := fun j q => hkn j (by omega)
  refine qm_seg_ok (C := qc_54) (rt := some .int) rfl rfl (cuts := [(4, [0, 1, 2, 3]), (15, [0, 1, 2, 3, 4])]) 400 _ _ _ _ ?_
  show qm_PA X 54 4 [(0, .ref 1), (1, .int a), (2, .int 0), (3, .int 0)] [] h Q
  exact (ty_54_c X h a hp Q hq _).1 (0 : Int32) (0 : Int32) (by have : (0 : Int32).toInt = 0 := rfl; exact ⟨by have : (0 : Int32).toInt = 0 := rfl; omega, rfl⟩) (Nat.lt_succ_self _)
-- ThreadBank$Memory.netOf(I)I
set_option maxRecDepth 100000 in
set_option maxHeartbeats 4000000 in
theorem ty_55_c (X : qm_X) (h : qm_H) (a : Int32) (hp : mq 1 h ∧ wc h ∧ (0 ≤ a.toInt ∧ a.toInt < (h 1 6).toInt)) (Q : qm_Q) (hq : ∀ r : Int32, (r.toInt = ntS (h 3) (h 4) (h 5) (h 1 7).toInt.toNat a.toInt.toNat (h 1 6).toInt.toNat ∧ (-360 ≤ r.toInt ∧ r.toInt ≤ 360)) → Q (some (.int r)) h) : ∀ n : Nat, (∀ (l2 : Int32) (l3 : Int32), ((0 ≤ l3.toInt ∧ l3.toInt ≤ (h 1 6).toInt) ∧ l2.toInt = ntS (h 3) (h 4) (h 5) (h 1 7).toInt.toNat a.toInt.toNat l3.toInt.toNat) → (4 - l3.toInt).toNat < n → qm_PA X 55 4 [(0, .ref 1), (1, .int a), (2, .int l2), (3, .int l3)] [] h Q) := by
  have hm1 : mq 1 h := hp.1
  have ⟨⟨_, _⟩, ⟨_, _⟩, _, _⟩ := hm1
  have hmwc : wc h := hp.2.1
  have hp0 : 0 ≤ a.toInt ∧ a.toInt < (h 1 6).toInt := hp.2.2
  have hkn := wf_kn (show wfM (mC h) from hmwc)
  have hkb : ∀ j : Nat, j < (h 1 7).toInt.toNat → 0 ≤ (h 5 j).toInt ∧ (h 5 j).toInt ≤ 99 := fun j q => hkn j (by omega)
  intro n
  induction n with
  | zero => exact fun _ _ _ h0 => absurd h0 (Nat.not_lt_zero _)
  | succ n ih =>
    intro l2 l3 hi hr
    have ti_l3 := ti_rng l3
    have hr3 := ntS_rng (pl := h 3) (pa := h 4) (kn := h 5) (n := (h 1 7).toInt.toNat) (c := a.toInt.toNat) (m := l3.toInt.toNat) (by omega) hkb
    refine qm_seg_ok (C := qc_55) (rt := some .int) rfl rfl (cuts := [(4, [0, 1, 2, 3])]) 400 _ _ _ _ ?_
    show ((h 1 6).toInt ≤ l3.toInt → (Q (some (.int l2)) h)) ∧ (l3.toInt < (h 1 6).toInt → (qm_PW X 53 [.ref 1, .int ((10 * l3) + a), .int 9] h _))
    refine ⟨fun c1 => ?_, fun c2 => ?_⟩
    · exact hq l2 (by show l2.toInt = ntS (h 3) (h 4) (h 5) (h 1 7).toInt.toNat a.toInt.toNat (h 1 6).toInt.toNat ∧ (-360 ≤ l2.toInt ∧ l2.toInt ≤ 360); exact ⟨by rw [hi.2, show l3.toInt.toNat = (h 1 6).toInt.toNat by omega], by omega⟩)
    · refine ty_53 X h ((10 * l3) + a) (9 : Int32) ⟨hm1, hmwc⟩ _ (fun r3 p4 => ?_)
      have o5 : r3.toInt = owS (h 3) (h 4) (h 5) ((10 * l3) + a).toInt (9 : Int32).toInt (h 1 7).toInt.toNat ∧ (0 ≤ r3.toInt ∧ r3.toInt ≤ 90) := p4
      clear p4
      show qm_PW X 53 [.ref 1, .int ((10 * a) + l3), .int 9] h _
      refine ty_53 X h ((10 * a) + l3) (9 : Int32) ⟨hm1, hmwc⟩ _ (fun r6 p7 => ?_)
      have o8 : r6.toInt = owS (h 3) (h 4) (h 5) ((10 * a) + l3).toInt (9 : Int32).toInt (h 1 7).toInt.toNat ∧ (0 ≤ r6.toInt ∧ r6.toInt ≤ 90) := p7
      clear p7
      show qm_PA X 55 4 [(0, .ref 1), (1, .int a), (2, .int ((l2 + r3) - r6)), (3, .int (l3 + 1))] [] h Q
      exact ih ((l2 + r3) - r6) (l3 + 1) (by have : (9 : Int32).toInt = 9 := rfl; have := ti_addK l3 (1 : Int32) 1 rfl; have := ti_add l2 r3; have := ti_sub (l2 + r3) r6; have := ti_mulL (10 : Int32) 10 rfl l3; have := ti_add (10 * l3) a; have := ti_mulL (10 : Int32) 10 rfl a; have := ti_add (10 * a) l3; have q1Al3a := ti_mulL (10 : Int32) 10 rfl l3; have q2Al3a := ti_add (10 * l3) a; have q3Al3a : ((10 * l3) + a).toInt = 10 * ((l3.toInt.toNat : Nat) : Int) + ((a.toInt.toNat : Nat) : Int) := (by omega); have q1Aal3 := ti_mulL (10 : Int32) 10 rfl a; have q2Aal3 := ti_add (10 * a) l3; have q3Aal3 : ((10 * a) + l3).toInt = 10 * ((a.toInt.toNat : Nat) : Int) + ((l3.toInt.toNat : Nat) : Int) := (by omega); have oy8 := o5.1; have oy9 := o8.1; rw [q3Al3a] at oy8; rw [q3Aal3] at oy9; have h99 : (9 : Int32).toInt = 9 := rfl; rw [h99] at oy8 oy9; exact ⟨by omega, by rw [show (l3 + 1).toInt.toNat = l3.toInt.toNat + 1 by omega]; show _ = ntS (h 3) (h 4) (h 5) (h 1 7).toInt.toNat a.toInt.toNat l3.toInt.toNat + (owS (h 3) (h 4) (h 5) (10 * ((l3.toInt.toNat : Nat) : Int) + ((a.toInt.toNat : Nat) : Int)) 9 (h 1 7).toInt.toNat - owS (h 3) (h 4) (h 5) (10 * ((a.toInt.toNat : Nat) : Int) + ((l3.toInt.toNat : Nat) : Int)) 9 (h 1 7).toInt.toNat); omega⟩) (by have : (9 : Int32).toInt = 9 := rfl; have := ti_addK l3 (1 : Int32) 1 rfl; have := ti_mulL (10 : Int32) 10 rfl l3; have := ti_add (10 * l3) a; have := ti_mulL (10 : Int32) 10 rfl a; have := ti_add (10 * a) l3; omega)
set_option maxRecDepth 100000 in
set_option maxHeartbeats 4000000 in
theorem ty_55 (X : qm_X) (h : qm_H) (a : Int32) (hp : mq 1 h ∧ wc h ∧ (0 ≤ a.toInt ∧ a.toInt < (h 1 6).toInt)) (Q : qm_Q) (hq : ∀ r : Int32, (r.toInt = ntS (h 3) (h 4) (h 5) (h 1 7).toInt.toNat a.toInt.toNat (h 1 6).toInt.toNat ∧ (-360 ≤ r.toInt ∧ r.toInt ≤ 360)) → Q (some (.int r)) h) : qm_PW X 55 [.ref 1, .int a] h Q := by
  have hm1 : mq 1 h := hp.1
  have ⟨⟨_, _⟩, ⟨_, _⟩, _, _⟩ := hm1
  have hmwc : wc h := hp.2.1
  have hp0 : 0 ≤ a.toInt ∧ a.toInt < (h 1 6).toInt := hp.2.2
  have hkn := wf_kn (show wfM (mC h) from hmwc)
  have hkb : ∀ j : Nat, j < (h 1 7).toInt.toNat → 0 ≤ (h 5 j).toInt ∧ (h 5 j).toInt ≤ 99 := fun j q => hkn j (by omega)
  refine qm_seg_ok (C := qc_55) (rt := some .int) rfl rfl (cuts := [(4, [0, 1, 2, 3])]) 400 _ _ _ _ ?_
  show qm_PA X 55 4 [(0, .ref 1), (1, .int a), (2, .int 0), (3, .int 0)] [] h Q
  exact (ty_55_c X h a hp Q hq _) (0 : Int32) (0 : Int32) (by have : (0 : Int32).toInt = 0 := rfl; exact ⟨by have : (0 : Int32).toInt = 0 := rfl; omega, rfl⟩) (Nat.lt_succ_self _)
-- ThreadBank.sumOfNetsAboveNothing()I
set_option maxRecDepth 100000 in
set_option maxHeartbeats 4000000 in
theorem ty_131_c (X : qm_X) (h : qm_H) (hp : mq 1 h ∧ wc h) (Q : qm_Q) (hq : ∀ r : Int32, (r.toInt = npS (h 3) (h 4) (h 5) (h 1 7).toInt.toNat (h 1 6).toInt.toNat (h 1 6).toInt.toNat) → Q (some (.int r)) h) : ∀ n : Nat, (∀ (l1 : Int32) (l2 : Int32), ((0 ≤ l2.toInt ∧ l2.toInt ≤ (h 1 6).toInt) ∧ l1.toInt = npS (h 3) (h 4) (h 5) (h 1 7).toInt.toNat (h 1 6).toInt.toNat l2.toInt.toNat) → (4 - l2.toInt).toNat < n → qm_PA X 131 4 [(0, .ref 0), (1, .int l1), (2, .int l2)] [] h Q) := by
  have hm1 : mq 1 h := hp.1
  have ⟨⟨_, _⟩, ⟨_, _⟩, _, _⟩ := hm1
  have hmwc : wc h := hp.2
  have hkn := wf_kn (show wfM (mC h) from hmwc)
  have hkb : ∀ j : Nat, j < (h 1 7).toInt.toNat → 0 ≤ (h 5 j).toInt ∧ (h 5 j).toInt ≤ 99 := fun j q => hkn j (by omega)
  intro n
  induction n with
  | zero => exact fun _ _ _ h0 => absurd h0 (Nat.not_lt_zero _)
  | succ n ih =>
    intro l1 l2 hi hr
    have ti_l2 := ti_rng l2
    have hr1 := npS_rng (pl := h 3) (pa := h 4) (kn := h 5) (n := (h 1 7).toInt.toNat) (c := (h 1 6).toInt.toNat) (m := l2.toInt.toNat) (by omega) (by omega) hkb
    refine qm_seg_ok (C := qc_131) (rt := some .int) rfl rfl (cuts := [(4, [0, 1, 2])]) 400 _ _ _ _ ?_
    show ((h 1 6).toInt ≤ l2.toInt → (Q (some (.int l1)) h)) ∧ (l2.toInt < (h 1 6).toInt → (qm_PW X 55 [.ref 1, .int l2] h _))
    refine ⟨fun c1 => ?_, fun c2 => ?_⟩
    · exact hq l1 (by show l1.toInt = npS (h 3) (h 4) (h 5) (h 1 7).toInt.toNat (h 1 6).toInt.toNat (h 1 6).toInt.toNat; rw [hi.2, show l2.toInt.toNat = (h 1 6).toInt.toNat by omega])
    · refine ty_55 X h l2 ⟨hm1, hmwc, (by show 0 ≤ l2.toInt ∧ l2.toInt < (h 1 6).toInt; omega)⟩ _ (fun r3 p4 => ?_)
      have o5 : r3.toInt = ntS (h 3) (h 4) (h 5) (h 1 7).toInt.toNat l2.toInt.toNat (h 1 6).toInt.toNat ∧ (-360 ≤ r3.toInt ∧ r3.toInt ≤ 360) := p4
      clear p4
      show qm_PW X 1 [.int 0, .int r3] h _
      refine tx_1 X h (0 : Int32) r3 trivial _ (fun r6 p7 => ?_)
      show qm_PA X 131 4 [(0, .ref 0), (1, .int (l1 + r6)), (2, .int (l2 + 1))] [] h Q
      exact ih (l1 + r6) (l2 + 1) (by have : (0 : Int32).toInt = 0 := rfl; have := ti_addK l2 (1 : Int32) 1 rfl; have := ti_add l1 r6; have oy9 := o5.1; have h00 : (0 : Int32).toInt = 0 := rfl; have hm : r6.toInt = mx0 (ntS (h 3) (h 4) (h 5) (h 1 7).toInt.toNat l2.toInt.toNat (h 1 6).toInt.toNat) := (by rw [← oy9]; unfold mx0; split <;> omega); exact ⟨by omega, by rw [show (l2 + 1).toInt.toNat = l2.toInt.toNat + 1 by omega]; show _ = npS (h 3) (h 4) (h 5) (h 1 7).toInt.toNat (h 1 6).toInt.toNat l2.toInt.toNat + mx0 (ntS (h 3) (h 4) (h 5) (h 1 7).toInt.toNat l2.toInt.toNat (h 1 6).toInt.toNat); omega⟩) (by have : (0 : Int32).toInt = 0 := rfl; have := ti_addK l2 (1 : Int32) 1 rfl; omega)
set_option maxRecDepth 100000 in
set_option maxHeartbeats 4000000 in
theorem ty_131 (X : qm_X) (h : qm_H) (hp : mq 1 h ∧ wc h) (Q : qm_Q) (hq : ∀ r : Int32, (r.toInt = npS (h 3) (h 4) (h 5) (h 1 7).toInt.toNat (h 1 6).toInt.toNat (h 1 6).toInt.toNat) → Q (some (.int r)) h) : qm_PW X 131 [.ref 0] h Q := by
  have hm1 : mq 1 h := hp.1
  have ⟨⟨_, _⟩, ⟨_, _⟩, _, _⟩ := hm1
  have hmwc : wc h := hp.2
  have hkn := wf_kn (show wfM (mC h) from hmwc)
  have hkb : ∀ j : Nat, j < (h 1 7).toInt.toNat → 0 ≤ (h 5 j).toInt ∧ (h 5 j).toInt ≤ 99 := fun j q => hkn j (by omega)
  refine qm_seg_ok (C := qc_131) (rt := some .int) rfl rfl (cuts := [(4, [0, 1, 2])]) 400 _ _ _ _ ?_
  show qm_PA X 131 4 [(0, .ref 0), (1, .int 0), (2, .int 0)] [] h Q
  exact (ty_131_c X h hp Q hq _) (0 : Int32) (0 : Int32) (by have : (0 : Int32).toInt = 0 := rfl; exact ⟨by have : (0 : Int32).toInt = 0 := rfl; omega, rfl⟩) (Nat.lt_succ_self _)
-- ThreadBank.sum(I)I
set_option maxRecDepth 100000 in
set_option maxHeartbeats 4000000 in
theorem ty_105 (X : qm_X) (h : qm_H) (a : Int32) (hp : mq 1 h ∧ wc h) (Q : qm_Q) (hq : ∀ r : Int32, (r.toInt = qSum a.toInt (mC h)) → Q (some (.int r)) h) : qm_PW X 105 [.ref 0, .int a] h Q := by
  have hm1 : mq 1 h := hp.1
  have ⟨⟨_, _⟩, ⟨_, _⟩, _, _⟩ := hm1
  have hmwc : wc h := hp.2
  refine qm_seg_ok (C := qc_105) (rt := some .int) rfl rfl (cuts := []) 400 _ _ _ _ ?_
  show ((a = 0 → (qm_PW X 54 [.ref 1, .int 9] h _)) ∧ (¬ a = 0 → ((a = 1 → (qm_PW X 54 [.ref 1, .int (h 1 8)] h _)) ∧ (¬ a = 1 → ((a = 2 → (qm_PW X 131 [.ref 0] h _)) ∧ (¬ a = 2 → (Q (some (.int (-1 : Int32))) h)))))))
  refine ⟨fun c1 => ?_, fun c2 => ?_⟩
  · have := ti_eqK 0 rfl c1
    refine ty_54 X h (9 : Int32) ⟨hm1, hmwc⟩ _ (fun r3 p4 => ?_)
    have o5 : r3.toInt = oaS (h 3) (h 4) (h 5) (9 : Int32).toInt (h 1 7).toInt.toNat (h 1 6).toInt.toNat (h 1 6).toInt.toNat := p4
    clear p4
    show Q (some (.int r3)) h
    exact hq r3 (by have : (9 : Int32).toInt = 9 := rfl; show r3.toInt = qSum a.toInt (mC h); exact (o5).trans (show qSum a.toInt (mC h) = _ from sum_01 (Or.inl ⟨by omega, rfl⟩)).symm)
  · have := ti_neK 0 rfl c2
    refine ⟨fun c6 => ?_, fun c7 => ?_⟩
    · have := ti_eqK 1 rfl c6
      refine ty_54 X h (h 1 8) ⟨hm1, hmwc⟩ _ (fun r8 p9 => ?_)
      have o10 : r8.toInt = oaS (h 3) (h 4) (h 5) (h 1 8).toInt (h 1 7).toInt.toNat (h 1 6).toInt.toNat (h 1 6).toInt.toNat := p9
      clear p9
      show Q (some (.int r8)) h
      exact hq r8 (by show r8.toInt = qSum a.toInt (mC h); exact (o10).trans (show qSum a.toInt (mC h) = _ from sum_01 (Or.inr ⟨by omega, rfl⟩)).symm)
    · have := ti_neK 1 rfl c7
      refine ⟨fun c11 => ?_, fun c12 => ?_⟩
      · have := ti_eqK 2 rfl c11
        refine ty_131 X h  ⟨hm1, hmwc⟩ _ (fun r13 p14 => ?_)
        have o15 : r13.toInt = npS (h 3) (h 4) (h 5) (h 1 7).toInt.toNat (h 1 6).toInt.toNat (h 1 6).toInt.toNat := p14
        clear p14
        show Q (some (.int r13)) h
        exact hq r13 (by show r13.toInt = qSum a.toInt (mC h); exact (o15).trans (show qSum a.toInt (mC h) = _ from sum_2 (by omega)).symm)
      · have := ti_neK 2 rfl c12
        exact hq (-1 : Int32) (by show (-1 : Int32).toInt = qSum a.toInt (mC h); rw [ti_n1]; exact (sum_d (M := mC h) ⟨by omega, by omega, by omega⟩).symm)
-- ThreadBank.clerk(II)I
set_option maxRecDepth 100000 in
set_option maxHeartbeats 4000000 in
theorem ty_95 (X : qm_X) (h : qm_H) (a : Int32) (b : Int32) (hp : mq 1 h ∧ wc h) (Q : qm_Q) (hq : ∀ r : Int32, (r.toInt = qClerk a.toInt b.toInt (mC h)) → Q (some (.int r)) h) : qm_PW X 95 [.ref 0, .int a, .int b] h Q := by
  have hm1 : mq 1 h := hp.1
  have ⟨⟨_, _⟩, ⟨_, _⟩, _, _⟩ := hm1
  have hmwc : wc h := hp.2
  refine qm_seg_ok (C := qc_95) (rt := some .int) rfl rfl (cuts := []) 400 _ _ _ _ ?_
  show qm_PW X 28 [.ref 1, .int a] h _
  refine ty_28 X h a trivial _ (fun r1 p2 => ?_)
  have o3 : (r1 = 0 ∨ r1 = 1) ∧ ((r1.toInt = 1 ∧ 0 ≤ a.toInt ∧ a.toInt < (h 1 6).toInt) ∨ (r1.toInt = 0 ∧ ¬ (0 ≤ a.toInt ∧ a.toInt < (h 1 6).toInt))) := p2
  clear p2
  show (¬ r1 = 0 → (((b = 0 → (qm_PW X 32 [.ref 1, .int a] h _)) ∧ (¬ b = 0 → ((b = 1 → (qm_PW X 36 [.ref 1, .int a] h _)) ∧ (¬ b = 1 → ((b = 2 → (qm_PW X 38 [.ref 1, .int a] h _)) ∧ (¬ b = 2 → ((b = 3 → (qm_PW X 55 [.ref 1, .int a] h _)) ∧ (¬ b = 3 → (Q (some (.int (-1 : Int32))) h))))))))))) ∧ (r1 = 0 → (Q (some (.int (-1 : Int32))) h))
  refine ⟨fun c4 => ?_, fun c5 => ?_⟩
  · have := ti_neK 0 rfl c4
    refine ⟨fun c6 => ?_, fun c7 => ?_⟩
    · have := ti_eqK 0 rfl c6
      refine ty_32 X h a hm1 _ (fun r8 p9 => ?_)
      have o10 : ((0 ≤ a.toInt ∧ a.toInt < (h 1 6).toInt) ∧ r8.toInt = (h 2 a.toInt.toNat).toInt) ∨ (¬ (0 ≤ a.toInt ∧ a.toInt < (h 1 6).toInt) ∧ r8.toInt = -4) := p9
      clear p9
      show Q (some (.int r8)) h
      exact hq r8 (by show r8.toInt = qClerk a.toInt b.toInt (mC h); exact (show _ = (h 2 a.toInt.toNat).toInt by omega).trans (show qClerk a.toInt b.toInt (mC h) = _ from clerk_0 (by omega) (by omega)).symm)
    · have := ti_neK 0 rfl c7
      refine ⟨fun c11 => ?_, fun c12 => ?_⟩
      · have := ti_eqK 1 rfl c11
        refine ty_36 X h a hm1 _ (fun r13 p14 => ?_)
        have o15 : r13.toInt = cntR (fun t => (h 3 t) / 10) (h 1 7).toInt.toNat a.toInt ∧ (0 ≤ r13.toInt ∧ r13.toInt ≤ 10) := p14
        clear p14
        show Q (some (.int r13)) h
        exact hq r13 (by show r13.toInt = qClerk a.toInt b.toInt (mC h); exact (o15.1).trans (show qClerk a.toInt b.toInt (mC h) = _ from clerk_1 (by omega) (by omega)).symm)
      · have := ti_neK 1 rfl c12
        refine ⟨fun c16 => ?_, fun c17 => ?_⟩
        · have := ti_eqK 2 rfl c16
          refine ty_38 X h a ⟨hm1, (by show 0 ≤ a.toInt ∧ a.toInt < (h 1 6).toInt; omega)⟩ _ (fun r18 p19 => ?_)
          have o20 : r18.toInt = rmH (h 2 a.toInt.toNat).toInt ∧ (0 ≤ r18.toInt ∧ r18.toInt ≤ 15) := p19
          clear p19
          show Q (some (.int r18)) h
          exact hq r18 (by show r18.toInt = qClerk a.toInt b.toInt (mC h); exact (o20.1).trans (show qClerk a.toInt b.toInt (mC h) = _ from clerk_2 (by omega) (by omega)).symm)
        · have := ti_neK 2 rfl c17
          refine ⟨fun c21 => ?_, fun c22 => ?_⟩
          · have := ti_eqK 3 rfl c21
            refine ty_55 X h a ⟨hm1, hmwc, (by show 0 ≤ a.toInt ∧ a.toInt < (h 1 6).toInt; omega)⟩ _ (fun r23 p24 => ?_)
            have o25 : r23.toInt = ntS (h 3) (h 4) (h 5) (h 1 7).toInt.toNat a.toInt.toNat (h 1 6).toInt.toNat ∧ (-360 ≤ r23.toInt ∧ r23.toInt ≤ 360) := p24
            clear p24
            show Q (some (.int (1000 + r23))) h
            exact hq (1000 + r23) (by have := ti_addL r23 (1000 : Int32) 1000 rfl; show (1000 + r23).toInt = qClerk a.toInt b.toInt (mC h); have oy9 := o25.1; have q9 := ti_addL r23 (1000 : Int32) 1000 rfl (by omega); exact (show _ = 1000 + ntS (h 3) (h 4) (h 5) (h 1 7).toInt.toNat a.toInt.toNat (h 1 6).toInt.toNat by omega).trans (show qClerk a.toInt b.toInt (mC h) = _ from clerk_3 (by omega) (by omega)).symm)
          · have := ti_neK 3 rfl c22
            exact hq (-1 : Int32) (by show (-1 : Int32).toInt = qClerk a.toInt b.toInt (mC h); rw [ti_n1]; exact (clerk_no (M := mC h) (show ¬ (0 ≤ a.toInt ∧ a.toInt < (h 1 6).toInt) ∨ (¬ b.toInt = 0 ∧ ¬ b.toInt = 1 ∧ ¬ b.toInt = 2 ∧ ¬ b.toInt = 3) by omega)).symm)
  · have := ti_eqK 0 rfl c5
    exact hq (-1 : Int32) (by show (-1 : Int32).toInt = qClerk a.toInt b.toInt (mC h); rw [ti_n1]; exact (clerk_no (M := mC h) (show ¬ (0 ≤ a.toInt ∧ a.toInt < (h 1 6).toInt) ∨ (¬ b.toInt = 0 ∧ ¬ b.toInt = 1 ∧ ¬ b.toInt = 2 ∧ ¬ b.toInt = 3) by omega)).symm)
-- ThreadBankModel.tiedOn(I)I
set_option maxRecDepth 100000 in
set_option maxHeartbeats 4000000 in
theorem ty_175_c (X : qm_X) (h : qm_H) (a : Int32) (hp : am h) (Q : qm_Q) (hq : ∀ r : Int32, (r.toInt = cntR (fun t => (h 41 (6 + 3 * t)) / 10) (h 41 4).toInt.toNat a.toInt ∧ (0 ≤ r.toInt ∧ r.toInt ≤ 10)) → Q (some (.int r)) h) : ∀ n : Nat, (∀ (l2 : Int32) (l3 : Int32), ((0 ≤ l3.toInt ∧ l3.toInt ≤ (h 41 4).toInt) ∧ l2.toInt = cntR (fun t => h 41 (6 + 3 * t) / 10) l3.toInt.toNat a.toInt) → (10 - l3.toInt).toNat < n → qm_PA X 175 4 [(0, .ref 39), (1, .int a), (2, .int l2), (3, .int l3)] [] h Q) := by
  have hmam : am h := hp
  have ⟨⟨_, _⟩, ⟨_, _⟩, _, _, _⟩ := hmam
  intro n
  induction n with
  | zero => exact fun _ _ _ h0 => absurd h0 (Nat.not_lt_zero _)
  | succ n ih =>
    intro l2 l3 hi hr
    have hcr := cntR_rng (f := (fun t => h 41 (6 + 3 * t) / 10)) (x := a.toInt) l3.toInt.toNat
    have hlt := ti_rng l3
    refine qm_seg_ok (C := qc_175) (rt := some .int) rfl rfl (cuts := [(4, [0, 1, 2, 3])]) 400 _ _ _ _ ?_
    show (0 ≤ (4 : Int) ∧ (4 : Int) < 49) ∧ (((h 41 4).toInt ≤ l3.toInt → (Q (some (.int l2)) h)) ∧ (l3.toInt < (h 41 4).toInt → (qm_PW X 172 [.ref 39, .int l3] h _)))
    refine ⟨by decide, ?_⟩
    refine ⟨fun c1 => ?_, fun c2 => ?_⟩
    · exact hq l2 (by show l2.toInt = cntR (fun t => (h 41 (6 + 3 * t)) / 10) (h 41 4).toInt.toNat a.toInt ∧ (0 ≤ l2.toInt ∧ l2.toInt ≤ 10); exact ⟨by rw [show (h 41 4).toInt.toNat = l3.toInt.toNat by omega]; exact hi.2, by omega⟩)
    · refine ty_172 X h l3 ⟨hmam, (by omega)⟩ _ (fun r3 p4 => ?_)
      have o5 : r3.toInt = ((h 41 (6 + 3 * l3.toInt.toNat)) / 10).toInt ∧ (0 ≤ r3.toInt ∧ r3.toInt ≤ 3) := p4
      clear p4
      show (¬ r3 = a → (qm_PW X 142 [.int 0] h _)) ∧ (r3 = a → (qm_PW X 142 [.int 1] h _))
      refine ⟨fun c6 => ?_, fun c7 => ?_⟩
      · refine tx_142 X h (0 : Int32) trivial _ (fun r8 p9 => ?_)
        have o10 : ((0 : Int32).toInt = 0 ∧ r8.toInt = 0) ∨ (¬ (0 : Int32).toInt = 0 ∧ r8.toInt = 1) := p9
        clear p9
        show qm_PA X 175 4 [(0, .ref 39), (1, .int a), (2, .int (l2 + r8)), (3, .int (l3 + 1))] [] h Q
        exact ih (l2 + r8) (l3 + 1) (by have : (0 : Int32).toInt = 0 := rfl; have := ti_addK l3 (1 : Int32) 1 rfl; have := ti_add l2 r8; have := ti_div (10 : Int32) 10 rfl (h 41 (6 + 3 * l3.toInt.toNat)) (by decide); have h01 : (0 : Int32).toInt = 0 := rfl; have h11 : (1 : Int32).toInt = 1 := rfl; have hx : ¬ (h 41 (6 + 3 * l3.toInt.toNat) / 10) = a := (fun w => absurd (Int32.toInt_inj.mp (show r3.toInt = a.toInt by have := congrArg Int32.toInt w; omega)) (by assumption)); exact ⟨by omega, by rw [show (l3 + 1).toInt.toNat = l3.toInt.toNat + 1 by omega, cntR_neg (f := (fun t => h 41 (6 + 3 * t) / 10)) (y := a) hx]; omega⟩) (by have : (0 : Int32).toInt = 0 := rfl; have := ti_addK l3 (1 : Int32) 1 rfl; have := ti_div (10 : Int32) 10 rfl (h 41 (6 + 3 * l3.toInt.toNat)) (by decide); omega)
      · refine tx_142 X h (1 : Int32) trivial _ (fun r11 p12 => ?_)
        have o13 : ((1 : Int32).toInt = 0 ∧ r11.toInt = 0) ∨ (¬ (1 : Int32).toInt = 0 ∧ r11.toInt = 1) := p12
        clear p12
        show qm_PA X 175 4 [(0, .ref 39), (1, .int a), (2, .int (l2 + r11)), (3, .int (l3 + 1))] [] h Q
        exact ih (l2 + r11) (l3 + 1) (by have : (1 : Int32).toInt = 1 := rfl; have := ti_addK l3 (1 : Int32) 1 rfl; have := ti_add l2 r11; have := ti_div (10 : Int32) 10 rfl (h 41 (6 + 3 * l3.toInt.toNat)) (by decide); have h01 : (0 : Int32).toInt = 0 := rfl; have h11 : (1 : Int32).toInt = 1 := rfl; have hc := congrArg Int32.toInt (show r3 = a from by assumption); have hx : (h 41 (6 + 3 * l3.toInt.toNat) / 10) = a := Int32.toInt_inj.mp (by omega); exact ⟨by omega, by rw [show (l3 + 1).toInt.toNat = l3.toInt.toNat + 1 by omega, cntR_pos (f := (fun t => h 41 (6 + 3 * t) / 10)) (y := a) hx]; omega⟩) (by have : (1 : Int32).toInt = 1 := rfl; have := ti_addK l3 (1 : Int32) 1 rfl; have := ti_div (10 : Int32) 10 rfl (h 41 (6 + 3 * l3.toInt.toNat)) (by decide); omega)
set_option maxRecDepth 100000 in
set_option maxHeartbeats 4000000 in
theorem ty_175 (X : qm_X) (h : qm_H) (a : Int32) (hp : am h) (Q : qm_Q) (hq : ∀ r : Int32, (r.toInt = cntR (fun t => (h 41 (6 + 3 * t)) / 10) (h 41 4).toInt.toNat a.toInt ∧ (0 ≤ r.toInt ∧ r.toInt ≤ 10)) → Q (some (.int r)) h) : qm_PW X 175 [.ref 39, .int a] h Q := by
  have hmam : am h := hp
  have ⟨⟨_, _⟩, ⟨_, _⟩, _, _, _⟩ := hmam
  refine qm_seg_ok (C := qc_175) (rt := some .int) rfl rfl (cuts := [(4, [0, 1, 2, 3])]) 400 _ _ _ _ ?_
  show qm_PA X 175 4 [(0, .ref 39), (1, .int a), (2, .int 0), (3, .int 0)] [] h Q
  exact (ty_175_c X h a hp Q hq _) (0 : Int32) (0 : Int32) (by have : (0 : Int32).toInt = 0 := rfl; exact ⟨by have : (0 : Int32).toInt = 0 := rfl; omega, rfl⟩) (Nat.lt_succ_self _)
-- ThreadBankModel.netOf(I)I
set_option maxRecDepth 100000 in
set_option maxHeartbeats 4000000 in
theorem ty_182_c (X : qm_X) (h : qm_H) (a : Int32) (hp : (0 ≤ a.toInt ∧ a.toInt ≤ 3) ∧ owb (h 45) 90) (Q : qm_Q) (hq : ∀ r : Int32, (r.toInt = nt45 (h 45) a.toInt.toNat 4 ∧ (-360 ≤ r.toInt ∧ r.toInt ≤ 360)) → Q (some (.int r)) h) : ∀ n : Nat, (∀ (l2 : Int32) (l3 : Int32), ((0 ≤ l3.toInt ∧ l3.toInt ≤ 4) ∧ l2.toInt = nt45 (h 45) a.toInt.toNat l3.toInt.toNat) → (4 - l3.toInt).toNat < n → qm_PA X 182 4 [(0, .ref 39), (1, .int a), (2, .int l2), (3, .int l3)] [] h Q) := by
  have hp0 : (0 ≤ a.toInt ∧ a.toInt ≤ 3) ∧ owb (h 45) 90 := hp
  intro n
  induction n with
  | zero => exact fun _ _ _ h0 => absurd h0 (Nat.not_lt_zero _)
  | succ n ih =>
    intro l2 l3 hi hr
    have ti_l3 := ti_rng l3
    have hr9 := nt45_rng (f := h 45) (c := a.toInt.toNat) (m := l3.toInt.toNat) hp0.2 (by omega) (by omega)
    refine qm_seg_ok (C := qc_182) (rt := some .int) rfl rfl (cuts := [(4, [0, 1, 2, 3])]) 400 _ _ _ _ ?_
    show (4 ≤ l3.toInt → (Q (some (.int l2)) h)) ∧ (l3.toInt < 4 → ((0 ≤ ((4 * l3) + a).toInt ∧ ((4 * l3) + a).toInt < 16) ∧ ((0 ≤ ((4 * a) + l3).toInt ∧ ((4 * a) + l3).toInt < 16) ∧ (qm_PA X 182 4 [(0, .ref 39), (1, .int a), (2, .int (l2 + ((h 45 ((4 * l3) + a).toInt.toNat) - (h 45 ((4 * a) + l3).toInt.toNat)))), (3, .int (l3 + 1))] [] h Q))))
    refine ⟨fun c1 => ?_, fun c2 => ?_⟩
    · exact hq l2 (by show l2.toInt = nt45 (h 45) a.toInt.toNat 4 ∧ (-360 ≤ l2.toInt ∧ l2.toInt ≤ 360); have hr9 := nt45_rng (f := h 45) (c := a.toInt.toNat) (m := 4) hp0.2 (by omega) (by omega); have hi2 := hi.2; rw [show l3.toInt.toNat = 4 by omega] at hi2; exact ⟨hi2, by omega⟩)
    · refine ⟨(by have := ti_mulL (4 : Int32) 4 rfl l3; have := ti_add (4 * l3) a; omega), ?_⟩
      refine ⟨(by have := ti_mulL (4 : Int32) 4 rfl a; have := ti_add (4 * a) l3; omega), ?_⟩
      exact ih (l2 + ((h 45 ((4 * l3) + a).toInt.toNat) - (h 45 ((4 * a) + l3).toInt.toNat))) (l3 + 1) (by have := ti_addK l3 (1 : Int32) 1 rfl; have := ti_sub (h 45 ((4 * l3) + a).toInt.toNat) (h 45 ((4 * a) + l3).toInt.toNat); have := ti_add l2 ((h 45 ((4 * l3) + a).toInt.toNat) - (h 45 ((4 * a) + l3).toInt.toNat)); have := ti_mulL (4 : Int32) 4 rfl l3; have := ti_add (4 * l3) a; have := ti_mulL (4 : Int32) 4 rfl a; have := ti_add (4 * a) l3; have q1 := ti_mulL (4 : Int32) 4 rfl l3; have q2 := ti_add (4 * l3) a; have q3 := ti_mulL (4 : Int32) 4 rfl a; have q4 := ti_add (4 * a) l3; have e1 : ((4 * l3) + a).toInt.toNat = 4 * l3.toInt.toNat + a.toInt.toNat := (by omega); have e2 : ((4 * a) + l3).toInt.toNat = 4 * a.toInt.toNat + l3.toInt.toNat := (by omega); rw [e1, e2]; have b1 := hp0.2 (4 * l3.toInt.toNat + a.toInt.toNat) (by omega); have b2 := hp0.2 (4 * a.toInt.toNat + l3.toInt.toNat) (by omega); have q5 := ti_sub (h 45 (4 * l3.toInt.toNat + a.toInt.toNat)) (h 45 (4 * a.toInt.toNat + l3.toInt.toNat)) (by omega); have q6 := ti_add l2 ((h 45 (4 * l3.toInt.toNat + a.toInt.toNat)) - (h 45 (4 * a.toInt.toNat + l3.toInt.toNat))) (by omega); exact ⟨by omega, by rw [show (l3 + 1).toInt.toNat = l3.toInt.toNat + 1 by omega]; show _ = nt45 (h 45) a.toInt.toNat l3.toInt.toNat + ((h 45 (4 * l3.toInt.toNat + a.toInt.toNat)).toInt - (h 45 (4 * a.toInt.toNat + l3.toInt.toNat)).toInt); omega⟩) (by have := ti_addK l3 (1 : Int32) 1 rfl; omega)
set_option maxRecDepth 100000 in
set_option maxHeartbeats 4000000 in
theorem ty_182 (X : qm_X) (h : qm_H) (a : Int32) (hp : (0 ≤ a.toInt ∧ a.toInt ≤ 3) ∧ owb (h 45) 90) (Q : qm_Q) (hq : ∀ r : Int32, (r.toInt = nt45 (h 45) a.toInt.toNat 4 ∧ (-360 ≤ r.toInt ∧ r.toInt ≤ 360)) → Q (some (.int r)) h) : qm_PW X 182 [.ref 39, .int a] h Q := by
  have hp0 : (0 ≤ a.toInt ∧ a.toInt ≤ 3) ∧ owb (h 45) 90 := hp
  refine qm_seg_ok (C := qc_182) (rt := some .int) rfl rfl (cuts := [(4, [0, 1, 2, 3])]) 400 _ _ _ _ ?_
  show qm_PA X 182 4 [(0, .ref 39), (1, .int a), (2, .int 0), (3, .int 0)] [] h Q
  exact (ty_182_c X h a hp Q hq _) (0 : Int32) (0 : Int32) (by have : (0 : Int32).toInt = 0 := rfl; exact ⟨by have : (0 : Int32).toInt = 0 := rfl; omega, rfl⟩) (Nat.lt_succ_self _)
-- ThreadBankModel.clerk(II)I
set_option maxRecDepth 100000 in
set_option maxHeartbeats 4000000 in
theorem ty_185 (X : qm_X) (h : qm_H) (a : Int32) (b : Int32) (hp : mi h ∧ sm h ∧ zs h ∧ rw_ h) (Q : qm_Q) (hq : ∀ r : Int32, ∀ h' : qm_H, (mi h' ∧ sm h' ∧ zs h' ∧ rw_ h' ∧ (∀ k, (k < 41 ∨ 45 < k ∨ k = 42 ∨ k = 43 ∨ k = 44) → h' k = h k) ∧ (wfM (mR h) → r.toInt = qClerk a.toInt b.toInt (mR h))) → Q (some (.int r)) h') : qm_PW X 185 [.ref 39, .int a, .int b] h Q := by
  have hmmi : mi h := hp.1
  have ⟨⟨_, _⟩, ⟨_, _⟩, ⟨_, _⟩, ⟨_, _⟩, _, _⟩ := hmmi
  have hmsm : sm h := hp.2.1
  have ⟨⟨⟨_, _⟩, _, _⟩, _, _, _⟩ := hmsm
  have hmzs : zs h := hp.2.2.1
  have hmrw : rw_ h := hp.2.2.2
  refine qm_seg_ok (C := qc_185) (rt := some .int) rfl rfl (cuts := []) 400 _ _ _ _ ?_
  show qm_PW X 164 [.ref 39, .int a] h _
  refine ty_164 X h a hmmi _ (fun r1 p2 => ?_)
  have o3 : (r1 = 0 ∨ r1 = 1) ∧ ((r1.toInt = 1 ∧ 0 ≤ a.toInt ∧ a.toInt < (h 39 3).toInt) ∨ (r1.toInt = 0 ∧ ¬ (0 ≤ a.toInt ∧ a.toInt < (h 39 3).toInt))) := p2
  clear p2
  show (¬ r1 = 0 → (qm_PW X 169 [.ref 39] h _)) ∧ (r1 = 0 → (Q (some (.int (-1 : Int32))) h))
  refine ⟨fun c4 => ?_, fun c5 => ?_⟩
  · have := ti_neK 0 rfl c4
    refine sf_169_39 X h  hmsm _ (fun g6 p7 => ?_)
    obtain ⟨p7_0, p7_1, p7_2⟩ := p7
    have f8 : ∀ k, (k < 41 ∨ 45 < k ∨ k = 42 ∨ k = 43 ∨ k = 44) → g6 k = h k := fun k hk => (p7_1 k (by omega)).trans (rfl)
    have k9 : mi g6 := by unfold mi; rw [p7_1 39 (by omega)]; exact hmmi
    have k10 : sm g6 := by unfold sm; rw [p7_1 40 (by omega)]; exact hmsm
    have k11 : zs g6 := by unfold zs; rw [p7_1 49 (by omega)]; exact hmzs
    have k12 : rw_ g6 := by unfold rw_; rw [p7_1 46 (by omega)]; exact hmrw
    have o13 : (∀ j : Nat, j < 49 → g6 41 j = h 40 j) := p7_2
    clear p7_2
    have w39_g6 : g6 39 = h 39 := (p7_1 39 (by omega))
    have w40_g6 : g6 40 = h 40 := (p7_1 40 (by omega))
    have sA_g6 : ∀ j : Nat, j < 49 → g6 41 j = h 40 j := o13
    have s4_g6 : (g6 41 4).toInt = (h 40 4).toInt := congrArg Int32.toInt (sA_g6 4 (by decide))
    show qm_PW X 180 [.ref 39, .int 9] g6 _
    refine ty_180 X g6 (9 : Int32) p7_0 _ (fun g14 p15 => ?_)
    obtain ⟨p15_0, p15_1⟩ := p15
    have f16 : ∀ k, (k < 41 ∨ 45 < k ∨ k = 42 ∨ k = 43 ∨ k = 44) → g14 k = h k := fun k hk => (p15_0 k (by omega)).trans (f8 k hk)
    have k17 : mi g14 := by unfold mi; rw [p15_0 39 (by omega)]; exact k9
    have k18 : sm g14 := by unfold sm; rw [p15_0 40 (by omega)]; exact k10
    have k19 : zs g14 := by unfold zs; rw [p15_0 49 (by omega)]; exact k11
    have k20 : rw_ g14 := by unfold rw_; rw [p15_0 46 (by omega)]; exact k12
    have k21 : am g14 := by unfold am; rw [p15_0 41 (by omega)]; exact p7_0
    have o22 : owI (fun t => (g6 41 (6 + 3 * t))) (fun t => (g6 41 (7 + 3 * t))) (fun t => (g6 41 (8 + 3 * t))) (9 : Int32).toInt (g6 41 4).toInt.toNat (g14 45) := p15_1
    clear p15_1
    have w39_g14 : g14 39 = h 39 := (p15_0 39 (by omega)).trans w39_g6
    have w40_g14 : g14 40 = h 40 := (p15_0 40 (by omega)).trans w40_g6
    have ow_g14 : owI (fun t => h 40 (6 + 3 * t)) (fun t => h 40 (7 + 3 * t)) (fun t => h 40 (8 + 3 * t)) (9 : Int32).toInt (h 40 4).toInt.toNat (g14 45) := owI_41 sA_g6 (by omega) (by have z := o22; rw [show (g6 41 4) = h 40 4 from sA_g6 4 (by decide)] at z; exact z)
    have owb_g14 : owb (g14 45) 90 := owI_b ow_g14 (by omega) (fun j q => by have z := hmsm.2.1.2.2.2.2.2 j (by omega); rw [Nat.zero_add] at z; exact z)
    have sB_g14 : ∀ j : Nat, j < 49 → g14 41 j = h 40 j := fun j hj => by rw [show g14 41 = g6 41 from p15_0 41 (by omega)]; exact sA_g6 j hj
    show ((b = 0 → ((0 ≤ (0 + a).toInt ∧ (0 + a).toInt < 147) ∧ (Q (some (.int (g14 40 (0 + a).toInt.toNat))) g14))) ∧ (¬ b = 0 → ((b = 1 → (qm_PW X 175 [.ref 39, .int a] g14 _)) ∧ (¬ b = 1 → ((b = 2 → (qm_PW X 176 [.ref 39, .int a] g14 _)) ∧ (¬ b = 2 → ((b = 3 → (qm_PW X 182 [.ref 39, .int a] g14 _)) ∧ (¬ b = 3 → (Q (some (.int (-1 : Int32))) g14)))))))))
    refine ⟨fun c23 => ?_, fun c24 => ?_⟩
    · have := ti_eqK 0 rfl c23
      refine ⟨(by have : (9 : Int32).toInt = 9 := rfl; have := ti_addL a (0 : Int32) 0 rfl; have ⟨⟨_, _⟩, ⟨_, _⟩, ⟨_, _⟩, ⟨_, _⟩, _, _⟩ := hmmi; omega), ?_⟩
      exact hq (g14 40 (0 + a).toInt.toNat) g14 ⟨k17, k18, k19, k20, (fun k hk => f16 k hk), (by show wfM (mR h) → (g14 40 (0 + a).toInt.toNat).toInt = qClerk a.toInt b.toInt (mR h); have q0 := ti_addL a (0 : Int32) 0 rfl; exact fun hw => (show _ = (h 40 a.toInt.toNat).toInt by rw [w40_g14, show (0 + a).toInt.toNat = a.toInt.toNat by omega]).trans (show qClerk a.toInt b.toInt (mR h) = _ from clerk_0 (by omega) (by omega)).symm)⟩
    · have := ti_neK 0 rfl c24
      refine ⟨fun c25 => ?_, fun c26 => ?_⟩
      · have := ti_eqK 1 rfl c25
        refine ty_175 X g14 a k21 _ (fun r27 p28 => ?_)
        have o29 : r27.toInt = cntR (fun t => (g14 41 (6 + 3 * t)) / 10) (g14 41 4).toInt.toNat a.toInt ∧ (0 ≤ r27.toInt ∧ r27.toInt ≤ 10) := p28
        clear p28
        show Q (some (.int r27)) g14
        exact hq r27 g14 ⟨k17, k18, k19, k20, (fun k hk => f16 k hk), (by show wfM (mR h) → r27.toInt = qClerk a.toInt b.toInt (mR h); have oy9 := o29.1; rw [show (g14 41 4) = h 40 4 from sB_g14 4 (by decide), cntR_eq (g := fun t => h 40 (6 + 3 * t) / 10) (fun j q => by rw [sB_g14 _ (by omega)])] at oy9; exact fun hw => oy9.trans (show qClerk a.toInt b.toInt (mR h) = _ from clerk_1 (by omega) (by omega)).symm)⟩
      · have := ti_neK 1 rfl c26
        refine ⟨fun c30 => ?_, fun c31 => ?_⟩
        · have := ti_eqK 2 rfl c30
          refine ty_176 X g14 a ⟨k21, (by have : (9 : Int32).toInt = 9 := rfl; have ⟨⟨_, _⟩, ⟨_, _⟩, ⟨_, _⟩, ⟨_, _⟩, _, _⟩ := hmmi; omega)⟩ _ (fun r32 p33 => ?_)
          have o34 : r32.toInt = sumI (fun f => rmF (g14 41 a.toInt.toNat).toInt (f : Int)) 5 ∧ (0 ≤ r32.toInt ∧ r32.toInt ≤ 15) := p33
          clear p33
          show Q (some (.int r32)) g14
          exact hq r32 g14 ⟨k17, k18, k19, k20, (fun k hk => f16 k hk), (by show wfM (mR h) → r32.toInt = qClerk a.toInt b.toInt (mR h); have oy9 := o34.1; rw [sB_g14 _ (by omega)] at oy9; exact fun hw => (oy9.trans (sumI_eq (fun f q => rmF_C ((wf_raw hw).2.1 a.toInt.toNat (by omega)) ⟨by omega, by omega⟩))).trans (show qClerk a.toInt b.toInt (mR h) = _ from clerk_2 (by omega) (by omega)).symm)⟩
        · have := ti_neK 2 rfl c31
          refine ⟨fun c35 => ?_, fun c36 => ?_⟩
          · have := ti_eqK 3 rfl c35
            refine ty_182 X g14 a ⟨(by have : (9 : Int32).toInt = 9 := rfl; have ⟨⟨_, _⟩, ⟨_, _⟩, ⟨_, _⟩, ⟨_, _⟩, _, _⟩ := hmmi; omega), owb_g14⟩ _ (fun r37 p38 => ?_)
            have o39 : r37.toInt = nt45 (g14 45) a.toInt.toNat 4 ∧ (-360 ≤ r37.toInt ∧ r37.toInt ≤ 360) := p38
            clear p38
            show Q (some (.int (1000 + r37))) g14
            exact hq (1000 + r37) g14 ⟨k17, k18, k19, k20, (fun k hk => f16 k hk), (by show wfM (mR h) → (1000 + r37).toInt = qClerk a.toInt b.toInt (mR h); have oy9 := o39.1; have q9 := ti_addL r37 (1000 : Int32) 1000 rfl (by omega); exact fun hw => by have ez := owI_nt ow_g14 (c := a.toInt.toNat) (by omega) (cl := (h 39 3).toInt.toNat) (by omega) (wf_pa hw); rw [ez] at oy9; exact (show _ = 1000 + ntS (fun t => h 40 (6 + 3 * t)) (fun t => h 40 (7 + 3 * t)) (fun t => h 40 (8 + 3 * t)) (h 40 4).toInt.toNat a.toInt.toNat (h 39 3).toInt.toNat by omega).trans (show qClerk a.toInt b.toInt (mR h) = _ from clerk_3 (by omega) (by omega)).symm)⟩
          · have := ti_neK 3 rfl c36
            exact hq (-1 : Int32) g14 ⟨k17, k18, k19, k20, (fun k hk => f16 k hk), (by show wfM (mR h) → (-1 : Int32).toInt = qClerk a.toInt b.toInt (mR h); rw [ti_n1]; exact fun hw => (clerk_no (M := mR h) (show ¬ (0 ≤ a.toInt ∧ a.toInt < (h 39 3).toInt) ∨ (¬ b.toInt = 0 ∧ ¬ b.toInt = 1 ∧ ¬ b.toInt = 2 ∧ ¬ b.toInt = 3) by omega)).symm)⟩
  · have := ti_eqK 0 rfl c5
    exact hq (-1 : Int32) h ⟨hmmi, hmsm, hmzs, hmrw, (fun k hk => rfl), (by show wfM (mR h) → (-1 : Int32).toInt = qClerk a.toInt b.toInt (mR h); rw [ti_n1]; exact fun hw => (clerk_no (M := mR h) (show ¬ (0 ≤ a.toInt ∧ a.toInt < (h 39 3).toInt) ∨ (¬ b.toInt = 0 ∧ ¬ b.toInt = 1 ∧ ¬ b.toInt = 2 ∧ ¬ b.toInt = 3) by omega)).symm)⟩
/-! ===== constructors: what is made ===== -/
noncomputable abbrev qt_tys (ca : Nat → ClassId) : List (ClassId × FieldType) := [(ca 0, .int), (ca 1, .byte), (ca 2, .boolean)]
theorem qt_good {w : Cond} (hw : w ∈ qm_tbl) : GoodIn qm_tbl (w :: qm_tbl) := by
  intro v hv
  rcases List.mem_cons.mp hv with rfl | hv
  · exact qm_tbl_in _ hw
  · exact qm_tbl_in _ hv
theorem qt_RA {s : State} {c1 c2 : ClassId} {ty : FieldType} (hty : ty = .int ∨ ty = .byte ∨ ty = .boolean) (h1 : va_RA s c1 ty) (h2 : va_RA s c2 ty) : c1 = c2 := by
  rcases hty with rfl | rfl | rfl
  · exact Option.some.inj ((va_nm_int h1).symm.trans (va_nm_int h2))
  · exact Option.some.inj ((va_nm_byte h1).symm.trans (va_nm_byte h2))
  · exact Option.some.inj ((va_nm_boolean h1).symm.trans (va_nm_boolean h2))
/-- a new array of ints, bytes or booleans, its class the one that is known -/
theorem qt_newa {p : Program} {l : Launch} {e : Env} {R : Room} {s : State} {m : MethodId} {args : Array Value} {below : List Frame} {meth : Method} {c : Code} {H : Heap} {locs : List Loc} {cells slots : Nat} {Q : State → Prop} {cc : ByteArray} {pc : Nat} {ls : Array Slot} {rest : List Value} {D : va_G} {cl : List vw_C} {A : Nat → Prop} {tys : List (ClassId × FieldType)} {ws : va_W} {H0 : Heap}
    (hexec : p.tables.exec = Jvm.exec) (hb : c.code = cc) {atype : ArrayType} (harr : (Cond.arrayClass (newarray.typeOf atype)).before args s = true) {ty : FieldType} (hty : newarray.typeOf atype = ty) (hprim : ty = .int ∨ ty = .byte ∨ ty = .boolean) (hK : va_K D cl tys s) (hP : va_P D cl ws H) (hD : va_D A ws) (hS : va_S A H0 H locs) (hA : ∀ q, H0.size ≤ q → A q)
    (t0 : Nat) {cA0 : ClassId} (ht : tys[t0]? = some (cA0, ty)) {n : Int32} {N' : Nat} (hn : ¬ n < 0) (hN : n.toNatClampNeg = N') (hbytes : N' * componentBytes ty ≤ 536870912) (hcells : cells + 1 ≤ R.cells) (hslots : slots + N' ≤ R.slots) (hdg : decode cc pc = .ok (.newarray atype, 2))
    (kk : ∀ (q : Nat) (H1 : Heap), va_P D cl (ws ++ [(q, .inl (cA0, N', .inl (fun _ => 0)))]) H1 → va_D A (ws ++ [(q, .inl (cA0, N', .inl (fun _ => 0)))]) → va_S A H0 H1 locs →
      W p l e R s m args below meth c H1 locs (cells + 1) (slots + N') Q (F0 m (pc + 2) ls (.ref q :: rest))) : W p l e R s m args below meth c H locs cells slots Q (F0 m pc ls (.int n :: rest)) := by
  have hz : ∀ cA : ClassId, vp_cell cA (N', .inl (fun _ => 0)) = arrV cA N' (fun _ => defaultValue ty) := by
    intro cA
    rcases hprim with rfl | rfl | rfl <;> rfl
  refine va_newa hexec hb harr hty hK hP hD hS hA hz hn hN hbytes hcells hslots hdg (fun q cA H1 hK1 hP1 hD1 hS1 => ?_)
  have e1 := (hK1.2 tys.length (cA, ty) (by simp)).2
  have e2 := (hK.2 t0 _ ht).2
  have e3 := qt_RA hprim e1 e2
  subst e3
  exact kk q H1 hP1 hD1 hS1
