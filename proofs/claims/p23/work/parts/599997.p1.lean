-- ThreadBank.roomiestPlaceOn(I)I
set_option maxRecDepth 100000 in
set_option maxHeartbeats 4000000 in
theorem ty_133_c (X : qm_X) (h : qm_H) (a : Int32) (hp : mq 1 h ∧ (0 ≤ a.toInt ∧ a.toInt < (h 1 6).toInt)) (Q : qm_Q) (hq : ∀ r : Int32, (r.toInt = 10 * a.toInt + ((pfB (laN (h 2) (h 3) (h 1 7).toInt.toNat a.toInt.toNat) 4 : Nat) : Int)) → Q (some (.int r)) h) : ∀ n : Nat, (∀ (l2 : Int32) (l3 : Int32), ((0 ≤ a.toInt ∧ a.toInt < (h 1 6).toInt) ∧ (10 * a.toInt + 1 ≤ l3.toInt ∧ l3.toInt ≤ 10 * a.toInt + 5) ∧ l2.toInt = 10 * a.toInt + ((pfB (laN (h 2) (h 3) (h 1 7).toInt.toNat a.toInt.toNat) (l3.toInt.toNat - 10 * a.toInt.toNat - 1) : Nat) : Int)) → (10 * a.toInt + 5 - l3.toInt).toNat < n → qm_PA X 133 9 [(0, .ref 0), (1, .int a), (2, .int l2), (3, .int l3)] [] h Q) := by
  have hm1 : mq 1 h := hp.1
  have ⟨⟨_, _⟩, ⟨_, _⟩, _, _⟩ := hm1
  have hp0 : 0 ≤ a.toInt ∧ a.toInt < (h 1 6).toInt := hp.2
  intro n
  induction n with
  | zero => exact fun _ _ _ h0 => absurd h0 (Nat.not_lt_zero _)
  | succ n ih =>
    intro l2 l3 hi hr
    have ti_l3 := ti_rng l3
    have q1 := ti_mulL (10 : Int32) 10 rfl a
    have q2 := ti_addK (10 * a) (5 : Int32) 5 rfl
    have hle := pfB_le (la := laN (h 2) (h 3) (h 1 7).toInt.toNat a.toInt.toNat) (l3.toInt.toNat - 10 * a.toInt.toNat - 1)
    refine qm_seg_ok (C := qc_133) (rt := some .int) rfl rfl (cuts := [(9, [0, 1, 2, 3])]) 400 _ _ _ _ ?_
    show (((10 * a) + 5).toInt ≤ l3.toInt → (Q (some (.int l2)) h)) ∧ (l3.toInt < ((10 * a) + 5).toInt → (qm_PW X 40 [.ref 1, .int l3] h _))
    refine ⟨fun c1 => ?_, fun c2 => ?_⟩
    · exact hq l2 (by have := ti_mulL (10 : Int32) 10 rfl a; have := ti_addK (10 * a) (5 : Int32) 5 rfl; show l2.toInt = 10 * a.toInt + ((pfB (laN (h 2) (h 3) (h 1 7).toInt.toNat a.toInt.toNat) 4 : Nat) : Int); have hz := hi.2.2; rw [show l3.toInt.toNat - 10 * a.toInt.toNat - 1 = 4 by omega] at hz; exact hz)
    · refine ty_40 X h l3 hm1 _ (fun r3 p4 => ?_)
      have o5 : ((0 ≤ l3.toInt ∧ l3.toInt / 10 < (h 1 6).toInt ∧ l3.toInt % 10 < 5) ∧ r3.toInt = rmC (h 2 (l3.toInt / 10).toNat).toInt (l3.toInt % 10) - cntR (h 3) (h 1 7).toInt.toNat l3.toInt) ∨ (¬ (0 ≤ l3.toInt ∧ l3.toInt / 10 < (h 1 6).toInt ∧ l3.toInt % 10 < 5) ∧ r3.toInt = - cntR (h 3) (h 1 7).toInt.toNat l3.toInt) := p4
      clear p4
      show qm_PW X 40 [.ref 1, .int l2] h _
      refine ty_40 X h l2 hm1 _ (fun r6 p7 => ?_)
      have o8 : ((0 ≤ l2.toInt ∧ l2.toInt / 10 < (h 1 6).toInt ∧ l2.toInt % 10 < 5) ∧ r6.toInt = rmC (h 2 (l2.toInt / 10).toNat).toInt (l2.toInt % 10) - cntR (h 3) (h 1 7).toInt.toNat l2.toInt) ∨ (¬ (0 ≤ l2.toInt ∧ l2.toInt / 10 < (h 1 6).toInt ∧ l2.toInt % 10 < 5) ∧ r6.toInt = - cntR (h 3) (h 1 7).toInt.toNat l2.toInt) := p7
      clear p7
      show (r3.toInt ≤ r6.toInt → (qm_PA X 133 9 [(0, .ref 0), (1, .int a), (2, .int l2), (3, .int (l3 + 1))] [] h Q)) ∧ (r6.toInt < r3.toInt → (qm_PA X 133 9 [(0, .ref 0), (1, .int a), (2, .int l3), (3, .int (l3 + 1))] [] h Q))
      refine ⟨fun c9 => ?_, fun c10 => ?_⟩
      · exact ih l2 (l3 + 1) (by have := ti_addK l3 (1 : Int32) 1 rfl; have := ti_mulL (10 : Int32) 10 rfl a; have := ti_addK (10 * a) (5 : Int32) 5 rfl; have q1 := ti_mulL (10 : Int32) 10 rfl a (by omega); have xa := la_of (kd := h 2) (pl := h 3) (n := (h 1 7).toInt.toNat) (c := a.toInt.toNat) (f := l3.toInt.toNat - 10 * a.toInt.toNat) (x := l3.toInt) (r := r3.toInt) (by omega) (by omega) (by omega); have xb := la_of (kd := h 2) (pl := h 3) (n := (h 1 7).toInt.toNat) (c := a.toInt.toNat) (f := pfB (laN (h 2) (h 3) (h 1 7).toInt.toNat a.toInt.toNat) (l3.toInt.toNat - 10 * a.toInt.toNat - 1)) (x := l2.toInt) (r := r6.toInt) (by omega) (by omega) (by omega); have e9 : (l3 + 1).toInt.toNat - 10 * a.toInt.toNat - 1 = (l3.toInt.toNat - 10 * a.toInt.toNat - 1) + 1 := (by omega); have e8 : (l3.toInt.toNat - 10 * a.toInt.toNat - 1) + 1 = l3.toInt.toNat - 10 * a.toInt.toNat := (by omega); have hlt : ¬ (laN (h 2) (h 3) (h 1 7).toInt.toNat a.toInt.toNat) (pfB (laN (h 2) (h 3) (h 1 7).toInt.toNat a.toInt.toNat) (l3.toInt.toNat - 10 * a.toInt.toNat - 1)) < (laN (h 2) (h 3) (h 1 7).toInt.toNat a.toInt.toNat) ((l3.toInt.toNat - 10 * a.toInt.toNat - 1) + 1) := (by rw [e8, ← xa, ← xb]; omega); exact ⟨by omega, by omega, by rw [e9, pfB_f hlt]; omega⟩) (by have := ti_addK l3 (1 : Int32) 1 rfl; have := ti_mulL (10 : Int32) 10 rfl a; have := ti_addK (10 * a) (5 : Int32) 5 rfl; omega)
      · exact ih l3 (l3 + 1) (by have := ti_addK l3 (1 : Int32) 1 rfl; have := ti_mulL (10 : Int32) 10 rfl a; have := ti_addK (10 * a) (5 : Int32) 5 rfl; have q1 := ti_mulL (10 : Int32) 10 rfl a (by omega); have xa := la_of (kd := h 2) (pl := h 3) (n := (h 1 7).toInt.toNat) (c := a.toInt.toNat) (f := l3.toInt.toNat - 10 * a.toInt.toNat) (x := l3.toInt) (r := r3.toInt) (by omega) (by omega) (by omega); have xb := la_of (kd := h 2) (pl := h 3) (n := (h 1 7).toInt.toNat) (c := a.toInt.toNat) (f := pfB (laN (h 2) (h 3) (h 1 7).toInt.toNat a.toInt.toNat) (l3.toInt.toNat - 10 * a.toInt.toNat - 1)) (x := l2.toInt) (r := r6.toInt) (by omega) (by omega) (by omega); have e9 : (l3 + 1).toInt.toNat - 10 * a.toInt.toNat - 1 = (l3.toInt.toNat - 10 * a.toInt.toNat - 1) + 1 := (by omega); have e8 : (l3.toInt.toNat - 10 * a.toInt.toNat - 1) + 1 = l3.toInt.toNat - 10 * a.toInt.toNat := (by omega); have hlt : (laN (h 2) (h 3) (h 1 7).toInt.toNat a.toInt.toNat) (pfB (laN (h 2) (h 3) (h 1 7).toInt.toNat a.toInt.toNat) (l3.toInt.toNat - 10 * a.toInt.toNat - 1)) < (laN (h 2) (h 3) (h 1 7).toInt.toNat a.toInt.toNat) ((l3.toInt.toNat - 10 * a.toInt.toNat - 1) + 1) := (by rw [e8, ← xa, ← xb]; omega); exact ⟨by omega, by omega, by rw [e9, pfB_t hlt]; omega⟩) (by have := ti_addK l3 (1 : Int32) 1 rfl; have := ti_mulL (10 : Int32) 10 rfl a; have := ti_addK (10 * a) (5 : Int32) 5 rfl; omega)
set_option maxRecDepth 100000 in
set_option maxHeartbeats 4000000 in
theorem ty_133 (X : qm_X) (h : qm_H) (a : Int32) (hp : mq 1 h ∧ (0 ≤ a.toInt ∧ a.toInt < (h 1 6).toInt)) (Q : qm_Q) (hq : ∀ r : Int32, (r.toInt = 10 * a.toInt + ((pfB (laN (h 2) (h 3) (h 1 7).toInt.toNat a.toInt.toNat) 4 : Nat) : Int)) → Q (some (.int r)) h) : qm_PW X 133 [.ref 0, .int a] h Q := by
  have hm1 : mq 1 h := hp.1
  have ⟨⟨_, _⟩, ⟨_, _⟩, _, _⟩ := hm1
  have hp0 : 0 ≤ a.toInt ∧ a.toInt < (h 1 6).toInt := hp.2
  refine qm_seg_ok (C := qc_133) (rt := some .int) rfl rfl (cuts := [(9, [0, 1, 2, 3])]) 400 _ _ _ _ ?_
  show qm_PA X 133 9 [(0, .ref 0), (1, .int a), (2, .int (10 * a)), (3, .int ((10 * a) + 1))] [] h Q
  exact (ty_133_c X h a hp Q hq _) (10 * a) ((10 * a) + 1) (by have := ti_mulL (10 : Int32) 10 rfl a; have := ti_addK (10 * a) (1 : Int32) 1 rfl; have q1 := ti_mulL (10 : Int32) 10 rfl a (by omega); have q2 := ti_addK (10 * a) (1 : Int32) 1 rfl (by omega); exact ⟨by omega, by omega, by rw [show ((10 * a) + 1).toInt.toNat - 10 * a.toInt.toNat - 1 = 0 by omega]; show (10 * a).toInt = 10 * a.toInt + ((0 : Nat) : Int); omega⟩) (Nat.lt_succ_self _)
-- ThreadBank.place()I
set_option maxRecDepth 100000 in
set_option maxHeartbeats 4000000 in
theorem ty_111_c (X : qm_X) (h : qm_H) (hp : mq 1 h) (Q : qm_Q) (hq : ∀ r : Int32, (r.toInt = qPlace (mC h)) → Q (some (.int r)) h) : ∀ n : Nat, (∀ (l1 : Int32) (l2 : Int32), ((0 ≤ l2.toInt ∧ l2.toInt ≤ (h 1 6).toInt) ∧ l1.toInt = phH (onN (h 3) (h 1 7).toInt.toNat) (lfN (h 2) (h 3) (h 1 7).toInt.toNat) l2.toInt.toNat) → (4 - l2.toInt).toNat < n → qm_PA X 111 5 [(0, .ref 0), (1, .int l1), (2, .int l2)] [] h Q) := by
  have hm1 : mq 1 h := hp
  have ⟨⟨_, _⟩, ⟨_, _⟩, _, _⟩ := hm1
  intro n
  induction n with
  | zero => exact fun _ _ _ h0 => absurd h0 (Nat.not_lt_zero _)
  | succ n ih =>
    intro l1 l2 hi hr
    have ti_l2 := ti_rng l2
    have hph := phH_rng (on := onN (h 3) (h 1 7).toInt.toNat) (lf := lfN (h 2) (h 3) (h 1 7).toInt.toNat) l2.toInt.toNat
    refine qm_seg_ok (C := qc_111) (rt := some .int) rfl rfl (cuts := [(5, [0, 1, 2])]) 400 _ _ _ _ ?_
    show ((h 1 6).toInt ≤ l2.toInt → ((¬ l1 = (-4 : Int32) → (qm_PW X 133 [.ref 0, .int l1] h _)) ∧ (l1 = (-4 : Int32) → (Q (some (.int (-4 : Int32))) h)))) ∧ (l2.toInt < (h 1 6).toInt → ((l1 = (-4 : Int32) → (qm_PW X 41 [.ref 1, .int l2] h _)) ∧ (¬ l1 = (-4 : Int32) → (qm_PW X 36 [.ref 1, .int l2] h _))))
    refine ⟨fun c1 => ?_, fun c2 => ?_⟩
    · refine ⟨fun c3 => ?_, fun c4 => ?_⟩
      · have := ti_neK (-4) ti_n4 c3
        refine ty_133 X h l1 ⟨hm1, (by show 0 ≤ l1.toInt ∧ l1.toInt < (h 1 6).toInt; omega)⟩ _ (fun r5 p6 => ?_)
        have o7 : r5.toInt = 10 * l1.toInt + ((pfB (laN (h 2) (h 3) (h 1 7).toInt.toNat l1.toInt.toNat) 4 : Nat) : Int) := p6
        clear p6
        show Q (some (.int r5)) h
        exact hq r5 (by show r5.toInt = qPlace (mC h); have hz := hi.2; rw [show l2.toInt.toNat = (h 1 6).toInt.toNat by omega] at hz; exact (plQ_ok hz (by omega) o7).trans (show qPlace (mC h) = _ from place_mk).symm)
      · have := ti_eqK (-4) ti_n4 c4
        exact hq (-4 : Int32) (by show (-4 : Int32).toInt = qPlace (mC h); rw [ti_n4]; have hz := hi.2; rw [show l2.toInt.toNat = (h 1 6).toInt.toNat by omega] at hz; exact (plQ_no hz (by omega)).symm.trans (show qPlace (mC h) = _ from place_mk).symm)
    · refine ⟨fun c8 => ?_, fun c9 => ?_⟩
      · have := ti_eqK (-4) ti_n4 c8
        refine ty_41 X h l2 ⟨hm1, (by show 0 ≤ l2.toInt ∧ l2.toInt < (h 1 6).toInt; omega)⟩ _ (fun r10 p11 => ?_)
        have o12 : r10.toInt = lfN (h 2) (h 3) (h 1 7).toInt.toNat l2.toInt.toNat ∧ (-10 ≤ r10.toInt ∧ r10.toInt ≤ 15) := p11
        clear p11
        show (r10.toInt ≤ 0 → (qm_PA X 111 5 [(0, .ref 0), (1, .int l1), (2, .int (l2 + 1))] [] h Q)) ∧ (0 < r10.toInt → (((1 : Int32) = 0 → (qm_PA X 111 5 [(0, .ref 0), (1, .int l1), (2, .int (l2 + 1))] [] h Q)) ∧ (¬ (1 : Int32) = 0 → (qm_PA X 111 5 [(0, .ref 0), (1, .int l2), (2, .int (l2 + 1))] [] h Q))))
        refine ⟨fun c13 => ?_, fun c14 => ?_⟩
        · exact ih l1 (l2 + 1) (by have := ti_addK l2 (1 : Int32) 1 rfl; have e9 : (l2 + 1).toInt.toNat = l2.toInt.toNat + 1 := (by omega); have a2 := on_x (pl := h 3) (n := (h 1 7).toInt.toNat) (x := l2.toInt) (by omega); exact ⟨by omega, by rw [e9, phH_f (fun w => by obtain ⟨w1, w2⟩ := w; first | omega | exact w2.elim (fun w3 => by omega) (fun w3 => by rw [← hi.2] at w3; omega))]; exact hi.2⟩) (by have := ti_addK l2 (1 : Int32) 1 rfl; omega)
        · refine ⟨fun c15 => ?_, fun c16 => ?_⟩
          · exact absurd c15 (by decide)
          · exact ih l2 (l2 + 1) (by have := ti_addK l2 (1 : Int32) 1 rfl; have e9 : (l2 + 1).toInt.toNat = l2.toInt.toNat + 1 := (by omega); have a2 := on_x (pl := h 3) (n := (h 1 7).toInt.toNat) (x := l2.toInt) (by omega); have hY : 0 < (lfN (h 2) (h 3) (h 1 7).toInt.toNat) l2.toInt.toNat ∧ (phH (onN (h 3) (h 1 7).toInt.toNat) (lfN (h 2) (h 3) (h 1 7).toInt.toNat) l2.toInt.toNat = -4 ∨ (onN (h 3) (h 1 7).toInt.toNat) l2.toInt.toNat < (onN (h 3) (h 1 7).toInt.toNat) (phH (onN (h 3) (h 1 7).toInt.toNat) (lfN (h 2) (h 3) (h 1 7).toInt.toNat) l2.toInt.toNat).toNat) := ⟨by omega, Or.inl (by omega)⟩; exact ⟨by omega, by rw [e9, phH_t hY]; omega⟩) (by have := ti_addK l2 (1 : Int32) 1 rfl; omega)
      · have := ti_neK (-4) ti_n4 c9
        refine ty_36 X h l2 hm1 _ (fun r17 p18 => ?_)
        have o19 : r17.toInt = cntR (fun t => (h 3 t) / 10) (h 1 7).toInt.toNat l2.toInt ∧ (0 ≤ r17.toInt ∧ r17.toInt ≤ 10) := p18
        clear p18
        show qm_PW X 36 [.ref 1, .int l1] h _
        refine ty_36 X h l1 hm1 _ (fun r20 p21 => ?_)
        have o22 : r20.toInt = cntR (fun t => (h 3 t) / 10) (h 1 7).toInt.toNat l1.toInt ∧ (0 ≤ r20.toInt ∧ r20.toInt ≤ 10) := p21
        clear p21
        show (r20.toInt ≤ r17.toInt → (qm_PW X 41 [.ref 1, .int l2] h _)) ∧ (r17.toInt < r20.toInt → (qm_PW X 41 [.ref 1, .int l2] h _))
        refine ⟨fun c23 => ?_, fun c24 => ?_⟩
        · refine ty_41 X h l2 ⟨hm1, (by show 0 ≤ l2.toInt ∧ l2.toInt < (h 1 6).toInt; omega)⟩ _ (fun r25 p26 => ?_)
          have o27 : r25.toInt = lfN (h 2) (h 3) (h 1 7).toInt.toNat l2.toInt.toNat ∧ (-10 ≤ r25.toInt ∧ r25.toInt ≤ 15) := p26
          clear p26
          show (r25.toInt ≤ 0 → (qm_PA X 111 5 [(0, .ref 0), (1, .int l1), (2, .int (l2 + 1))] [] h Q)) ∧ (0 < r25.toInt → (((0 : Int32) = 0 → (qm_PA X 111 5 [(0, .ref 0), (1, .int l1), (2, .int (l2 + 1))] [] h Q)) ∧ (¬ (0 : Int32) = 0 → (qm_PA X 111 5 [(0, .ref 0), (1, .int l2), (2, .int (l2 + 1))] [] h Q))))
          refine ⟨fun c28 => ?_, fun c29 => ?_⟩
          · exact ih l1 (l2 + 1) (by have := ti_addK l2 (1 : Int32) 1 rfl; have e9 : (l2 + 1).toInt.toNat = l2.toInt.toNat + 1 := (by omega); have a2 := on_x (pl := h 3) (n := (h 1 7).toInt.toNat) (x := l2.toInt) (by omega); have a1 := on_x (pl := h 3) (n := (h 1 7).toInt.toNat) (x := l1.toInt) (by omega); exact ⟨by omega, by rw [e9, phH_f (fun w => by obtain ⟨w1, w2⟩ := w; first | omega | exact w2.elim (fun w3 => by omega) (fun w3 => by rw [← hi.2] at w3; omega))]; exact hi.2⟩) (by have := ti_addK l2 (1 : Int32) 1 rfl; omega)
          · refine ⟨fun c30 => ?_, fun c31 => ?_⟩
            · exact ih l1 (l2 + 1) (by have := ti_addK l2 (1 : Int32) 1 rfl; have e9 : (l2 + 1).toInt.toNat = l2.toInt.toNat + 1 := (by omega); have a2 := on_x (pl := h 3) (n := (h 1 7).toInt.toNat) (x := l2.toInt) (by omega); have a1 := on_x (pl := h 3) (n := (h 1 7).toInt.toNat) (x := l1.toInt) (by omega); exact ⟨by omega, by rw [e9, phH_f (fun w => by obtain ⟨w1, w2⟩ := w; first | omega | exact w2.elim (fun w3 => by omega) (fun w3 => by rw [← hi.2] at w3; omega))]; exact hi.2⟩) (by have := ti_addK l2 (1 : Int32) 1 rfl; omega)
            · exact absurd c31 (by decide)
        · refine ty_41 X h l2 ⟨hm1, (by show 0 ≤ l2.toInt ∧ l2.toInt < (h 1 6).toInt; omega)⟩ _ (fun r32 p33 => ?_)
          have o34 : r32.toInt = lfN (h 2) (h 3) (h 1 7).toInt.toNat l2.toInt.toNat ∧ (-10 ≤ r32.toInt ∧ r32.toInt ≤ 15) := p33
          clear p33
          show (r32.toInt ≤ 0 → (qm_PA X 111 5 [(0, .ref 0), (1, .int l1), (2, .int (l2 + 1))] [] h Q)) ∧ (0 < r32.toInt → (((1 : Int32) = 0 → (qm_PA X 111 5 [(0, .ref 0), (1, .int l1), (2, .int (l2 + 1))] [] h Q)) ∧ (¬ (1 : Int32) = 0 → (qm_PA X 111 5 [(0, .ref 0), (1, .int l2), (2, .int (l2 + 1))] [] h Q))))
          refine ⟨fun c35 => ?_, fun c36 => ?_⟩
          · exact ih l1 (l2 + 1) (by have := ti_addK l2 (1 : Int32) 1 rfl; have e9 : (l2 + 1).toInt.toNat = l2.toInt.toNat + 1 := (by omega); have a2 := on_x (pl := h 3) (n := (h 1 7).toInt.toNat) (x := l2.toInt) (by omega); have a1 := on_x (pl := h 3) (n := (h 1 7).toInt.toNat) (x := l1.toInt) (by omega); exact ⟨by omega, by rw [e9, phH_f (fun w => by obtain ⟨w1, w2⟩ := w; first | omega | exact w2.elim (fun w3 => by omega) (fun w3 => by rw [← hi.2] at w3; omega))]; exact hi.2⟩) (by have := ti_addK l2 (1 : Int32) 1 rfl; omega)
          · refine ⟨fun c37 => ?_, fun c38 => ?_⟩
            · exact absurd c37 (by decide)
            · exact ih l2 (l2 + 1) (by have := ti_addK l2 (1 : Int32) 1 rfl; have e9 : (l2 + 1).toInt.toNat = l2.toInt.toNat + 1 := (by omega); have a2 := on_x (pl := h 3) (n := (h 1 7).toInt.toNat) (x := l2.toInt) (by omega); have a1 := on_x (pl := h 3) (n := (h 1 7).toInt.toNat) (x := l1.toInt) (by omega); have hY : 0 < (lfN (h 2) (h 3) (h 1 7).toInt.toNat) l2.toInt.toNat ∧ (phH (onN (h 3) (h 1 7).toInt.toNat) (lfN (h 2) (h 3) (h 1 7).toInt.toNat) l2.toInt.toNat = -4 ∨ (onN (h 3) (h 1 7).toInt.toNat) l2.toInt.toNat < (onN (h 3) (h 1 7).toInt.toNat) (phH (onN (h 3) (h 1 7).toInt.toNat) (lfN (h 2) (h 3) (h 1 7).toInt.toNat) l2.toInt.toNat).toNat) := ⟨by omega, Or.inr (by rw [← hi.2]; omega)⟩; exact ⟨by omega, by rw [e9, phH_t hY]; omega⟩) (by have := ti_addK l2 (1 : Int32) 1 rfl; omega)
set_option maxRecDepth 100000 in
set_option maxHeartbeats 4000000 in
theorem ty_111 (X : qm_X) (h : qm_H) (hp : mq 1 h) (Q : qm_Q) (hq : ∀ r : Int32, (r.toInt = qPlace (mC h)) → Q (some (.int r)) h) : qm_PW X 111 [.ref 0] h Q := by
  have hm1 : mq 1 h := hp
  have ⟨⟨_, _⟩, ⟨_, _⟩, _, _⟩ := hm1
  refine qm_seg_ok (C := qc_111) (rt := some .int) rfl rfl (cuts := [(5, [0, 1, 2])]) 400 _ _ _ _ ?_
  show qm_PA X 111 5 [(0, .ref 0), (1, .int (-4 : Int32)), (2, .int 0)] [] h Q
  exact (ty_111_c X h hp Q hq _) (-4 : Int32) (0 : Int32) (by have : (0 : Int32).toInt = 0 := rfl; exact ⟨by have : (0 : Int32).toInt = 0 := rfl; omega, ti_n4⟩) (Nat.lt_succ_self _)
