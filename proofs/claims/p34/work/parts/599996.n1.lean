-- ThreadBank.hasBit(II)Z
set_option maxRecDepth 100000 in
set_option maxHeartbeats 4000000 in
theorem ty_138 (X : qm_X) (h : qm_H) (a : Int32) (b : Int32) (hp : True) (Q : qm_Q) (hq : ∀ r : Int32, ((r = 0 ∨ r = 1) ∧ ((r.toInt = 1 ∧ hbQ a b) ∨ (r.toInt = 0 ∧ ¬ hbQ a b))) → Q (some (.int r)) h) : qm_PW X 138 [.int a, .int b] h Q := by
  refine qm_seg_ok (C := qc_138) (rt := some .boolean) rfl rfl (cuts := []) 400 _ _ _ _ ?_
  show (((a >>> (b &&& 31)) &&& 1) = 0 → (((0 : Int32) = 0 ∨ (0 : Int32) = 1) ∧ Q (some (.int 0)) h)) ∧ (¬ ((a >>> (b &&& 31)) &&& 1) = 0 → (((1 : Int32) = 0 ∨ (1 : Int32) = 1) ∧ Q (some (.int 1)) h))
  refine ⟨fun c1 => ?_, fun c2 => ?_⟩
  · exact ⟨Or.inl rfl, hq 0 (by have : (0 : Int32).toInt = 0 := rfl; show ((0 : Int32) = 0 ∨ (0 : Int32) = 1) ∧ (((0 : Int32).toInt = 1 ∧ hbQ a b) ∨ ((0 : Int32).toInt = 0 ∧ ¬ hbQ a b)); first | exact ⟨Or.inr rfl, Or.inl ⟨rfl, (show ¬ ((a >>> (b &&& 31)) &&& 1) = 0 from by assumption)⟩⟩ | exact ⟨Or.inl rfl, Or.inr ⟨rfl, fun w => w (by assumption)⟩⟩)⟩
  · exact ⟨Or.inr rfl, hq 1 (by have : (1 : Int32).toInt = 1 := rfl; show ((1 : Int32) = 0 ∨ (1 : Int32) = 1) ∧ (((1 : Int32).toInt = 1 ∧ hbQ a b) ∨ ((1 : Int32).toInt = 0 ∧ ¬ hbQ a b)); first | exact ⟨Or.inr rfl, Or.inl ⟨rfl, (show ¬ ((a >>> (b &&& 31)) &&& 1) = 0 from by assumption)⟩⟩ | exact ⟨Or.inl rfl, Or.inr ⟨rfl, fun w => w (by assumption)⟩⟩)⟩
-- ThreadBank$Memory.threadBits()I
set_option maxRecDepth 100000 in
set_option maxHeartbeats 4000000 in
theorem ty_34 (X : qm_X) (h : qm_H) (hp : mq 1 h) (Q : qm_Q) (hq : ∀ r : Int32, (r = drB0 (h 1 7) ∧ (0 ≤ r.toInt ∧ r.toInt ≤ 1023)) → Q (some (.int r)) h) : qm_PW X 34 [.ref 1] h Q := by
  have hm1 : mq 1 h := hp
  have ⟨⟨_, _⟩, ⟨_, _⟩, _, _⟩ := hm1
  refine qm_seg_ok (C := qc_34) (rt := some .int) rfl rfl (cuts := []) 400 _ _ _ _ ?_
  show Q (some (.int ((1 <<< ((h 1 7) &&& 31)) - 1))) h
  exact hq ((1 <<< ((h 1 7) &&& 31)) - 1) (by show ((1 <<< ((h 1 7) &&& 31)) - 1) = drB0 (h 1 7) ∧ (0 ≤ ((1 <<< ((h 1 7) &&& 31)) - 1).toInt ∧ ((1 <<< ((h 1 7) &&& 31)) - 1).toInt ≤ 1023); exact ⟨rfl, bits_le (h 1 7) (by omega) (by omega)⟩)
-- ThreadBank.drift(III)I
set_option maxRecDepth 100000 in
set_option maxHeartbeats 4000000 in
theorem ty_122_c (X : qm_X) (h : qm_H) (a : Int32) (b : Int32) (c : Int32) (hp : mq 1 h ∧ wc h) (Q : qm_Q) (hq : ∀ r : Int32, (r.toInt = qDrift a b.toInt c.toInt (mC h)) → Q (some (.int r)) h) : ∀ n : Nat, (∀ (l4 : Int32) (l5 : Int32) (l6 : Int32), (((0 ≤ l6.toInt ∧ l6.toInt ≤ b.toInt) ∧ (1 ≤ b.toInt ∧ b.toInt ≤ 20) ∧ 0 ≤ c.toInt ∧ c.toInt ≤ 10) ∧ (l5, l4) = drN (slO (h 2) (h 3) c.toInt) (h 1 7).toInt.toNat (a, drB0 (h 1 7)) l6.toInt.toNat) → ((20 - l6.toInt) * 100 + 50).toNat < n → qm_PA X 122 35 [(0, .ref 0), (1, .int a), (2, .int b), (3, .int c), (4, .int l4), (5, .int l5), (6, .int l6)] [] h Q) ∧ (∀ (l4 : Int32) (l5 : Int32) (l6 : Int32) (l7 : Int32), (((0 ≤ l6.toInt ∧ l6.toInt < b.toInt) ∧ (0 ≤ l7.toInt ∧ l7.toInt ≤ (h 1 7).toInt) ∧ (1 ≤ b.toInt ∧ b.toInt ≤ 20) ∧ 0 ≤ c.toInt ∧ c.toInt ≤ 10) ∧ (l5, l4) = drI (slO (h 2) (h 3) c.toInt) (drN (slO (h 2) (h 3) c.toInt) (h 1 7).toInt.toNat (a, drB0 (h 1 7)) l6.toInt.toNat) l7.toInt.toNat) → ((20 - l6.toInt) * 100 + 40 - l7.toInt).toNat < n → qm_PA X 122 44 [(0, .ref 0), (1, .int a), (2, .int b), (3, .int c), (4, .int l4), (5, .int l5), (6, .int l6), (7, .int l7)] [] h Q) := by
  have hm1 : mq 1 h := hp.1
  have ⟨⟨_, _⟩, ⟨_, _⟩, _, _⟩ := hm1
  have hmwc : wc h := hp.2
  intro n
  induction n with
  | zero => exact ⟨fun _ _ _ _ h0 => absurd h0 (Nat.not_lt_zero _), fun _ _ _ _ _ h0 => absurd h0 (Nat.not_lt_zero _)⟩
  | succ n ih =>
    refine ⟨?_, ?_⟩
    · intro l4 l5 l6 hi hr
      have ti_l6 := ti_rng l6
      refine qm_seg_ok (C := qc_122) (rt := some .int) rfl rfl (cuts := [(35, [0, 1, 2, 3, 4, 5, 6]), (44, [0, 1, 2, 3, 4, 5, 6, 7])]) 400 _ _ _ _ ?_
      show (b.toInt ≤ l6.toInt → (Q (some (.int l4)) h)) ∧ (l6.toInt < b.toInt → (qm_PA X 122 44 [(0, .ref 0), (1, .int a), (2, .int b), (3, .int c), (4, .int l4), (5, .int l5), (6, .int l6), (7, .int 0)] [] h Q))
      refine ⟨fun c1 => ?_, fun c2 => ?_⟩
      · exact hq l4 (by show l4.toInt = qDrift a b.toInt c.toInt (mC h); exact drift_ok hmwc ⟨by omega, by omega⟩ (show l6.toInt.toNat = b.toInt.toNat by omega) hi.2)
      · exact ih.2 l4 l5 l6 (0 : Int32) (by have : (0 : Int32).toInt = 0 := rfl; exact ⟨by have : (0 : Int32).toInt = 0 := rfl; omega, hi.2⟩) (by have : (0 : Int32).toInt = 0 := rfl; omega)
    · intro l4 l5 l6 l7 hi hr
      have ti_l7 := ti_rng l7
      refine qm_seg_ok (C := qc_122) (rt := some .int) rfl rfl (cuts := [(35, [0, 1, 2, 3, 4, 5, 6]), (44, [0, 1, 2, 3, 4, 5, 6, 7])]) 400 _ _ _ _ ?_
      show ((h 1 7).toInt ≤ l7.toInt → (qm_PA X 122 35 [(0, .ref 0), (1, .int a), (2, .int b), (3, .int c), (4, .int l4), (5, .int l5), (6, .int (l6 + 1))] [] h Q)) ∧ (l7.toInt < (h 1 7).toInt → (qm_PW X 138 [.int l4, .int l7] h _))
      refine ⟨fun c1 => ?_, fun c2 => ?_⟩
      · exact ih.1 l4 l5 (l6 + 1) (by have := ti_addK l6 (1 : Int32) 1 rfl; have h7 : l7.toInt.toNat = (h 1 7).toInt.toNat := (by omega); have hz := hi.2; rw [h7] at hz; exact ⟨by omega, by rw [show (l6 + 1).toInt.toNat = l6.toInt.toNat + 1 by omega]; exact hz⟩) (by have := ti_addK l6 (1 : Int32) 1 rfl; omega)
      · refine ty_138 X h l4 l7 trivial _ (fun r3 p4 => ?_)
        have o5 : (r3 = 0 ∨ r3 = 1) ∧ ((r3.toInt = 1 ∧ hbQ l4 l7) ∨ (r3.toInt = 0 ∧ ¬ hbQ l4 l7)) := p4
        clear p4
        show (r3 = 0 → (qm_PA X 122 44 [(0, .ref 0), (1, .int a), (2, .int b), (3, .int c), (4, .int l4), (5, .int l5), (6, .int l6), (7, .int (l7 + 1))] [] h Q)) ∧ (¬ r3 = 0 → (¬ (20 : Int32) = 0 ∧ (qm_PW X 64 [.ref 1, .int l7, .int c] h _)))
        refine ⟨fun c6 => ?_, fun c7 => ?_⟩
        · have := ti_eqK 0 rfl c6
          exact ih.2 l4 l5 l6 (l7 + 1) (by have := ti_addK l7 (1 : Int32) 1 rfl; have el7 : l7 = nI l7.toInt.toNat := nI_is (by omega) (by omega); have e9 : (l7 + 1).toInt.toNat = l7.toInt.toNat + 1 := (by omega); have hP := (o5.2.resolve_left (fun w => absurd w.1 (by omega))).2; exact ⟨by omega, by rw [e9]; exact drI_z hi.2 (hb_yes el7 hP)⟩) (by have := ti_addK l7 (1 : Int32) 1 rfl; omega)
        · have := ti_neK 0 rfl c7
          refine ⟨by decide, ?_⟩
          refine ty_64 X h l7 c ⟨hm1, hmwc, (by show (0 ≤ l7.toInt ∧ l7.toInt < (h 1 7).toInt) ∧ 0 ≤ c.toInt ∧ c.toInt ≤ 10; omega)⟩ _ (fun r8 p9 => ?_)
          have o10 : r8.toInt = slO (h 2) (h 3) c.toInt l7.toInt.toNat := p9
          clear p9
          show (r8.toInt ≤ (((((Int32.toUInt32 ((l5 * 1103515245) + 12345)) >>> ((Int32.toUInt32 16) &&& Int32.toUInt32 31)).toInt32) &&& 32767) - ((((Int32.toUInt32 ((l5 * 1103515245) + 12345)) >>> ((Int32.toUInt32 16) &&& Int32.toUInt32 31)).toInt32) &&& 32767) / 20 * 20).toInt → (((0 : Int32) = 0 → (qm_PA X 122 44 [(0, .ref 0), (1, .int a), (2, .int b), (3, .int c), (4, .int l4), (5, .int ((l5 * 1103515245) + 12345)), (6, .int l6), (7, .int (l7 + 1))] [] h Q)) ∧ (¬ (0 : Int32) = 0 → (qm_PA X 122 44 [(0, .ref 0), (1, .int a), (2, .int b), (3, .int c), (4, .int (l4 &&& ((1 <<< (l7 &&& 31)) ^^^ (-1 : Int32)))), (5, .int ((l5 * 1103515245) + 12345)), (6, .int l6), (7, .int (l7 + 1))] [] h Q)))) ∧ ((((((Int32.toUInt32 ((l5 * 1103515245) + 12345)) >>> ((Int32.toUInt32 16) &&& Int32.toUInt32 31)).toInt32) &&& 32767) - ((((Int32.toUInt32 ((l5 * 1103515245) + 12345)) >>> ((Int32.toUInt32 16) &&& Int32.toUInt32 31)).toInt32) &&& 32767) / 20 * 20).toInt < r8.toInt → (((1 : Int32) = 0 → (qm_PA X 122 44 [(0, .ref 0), (1, .int a), (2, .int b), (3, .int c), (4, .int l4), (5, .int ((l5 * 1103515245) + 12345)), (6, .int l6), (7, .int (l7 + 1))] [] h Q)) ∧ (¬ (1 : Int32) = 0 → (qm_PA X 122 44 [(0, .ref 0), (1, .int a), (2, .int b), (3, .int c), (4, .int (l4 &&& ((1 <<< (l7 &&& 31)) ^^^ (-1 : Int32)))), (5, .int ((l5 * 1103515245) + 12345)), (6, .int l6), (7, .int (l7 + 1))] [] h Q))))
          refine ⟨fun c11 => ?_, fun c12 => ?_⟩
          · refine ⟨fun c13 => ?_, fun c14 => ?_⟩
            · exact ih.2 l4 ((l5 * 1103515245) + 12345) l6 (l7 + 1) (by have := ti_addK l7 (1 : Int32) 1 rfl; have := ti_mulR (1103515245 : Int32) 1103515245 rfl l5; have := ti_rem (20 : Int32) 20 rfl ((((Int32.toUInt32 ((l5 * 1103515245) + 12345)) >>> ((Int32.toUInt32 16) &&& Int32.toUInt32 31)).toInt32) &&& 32767) (by decide); have el7 : l7 = nI l7.toInt.toNat := nI_is (by omega) (by omega); have e9 : (l7 + 1).toInt.toNat = l7.toInt.toNat + 1 := (by omega); have hP := (o5.2.resolve_right (fun w => absurd w.1 (by omega))).2; have hq9 : r8.toInt ≤ (((((Int32.toUInt32 ((l5 * 1103515245) + 12345)) >>> ((Int32.toUInt32 16) &&& Int32.toUInt32 31)).toInt32) &&& 32767) - ((((Int32.toUInt32 ((l5 * 1103515245) + 12345)) >>> ((Int32.toUInt32 16) &&& Int32.toUInt32 31)).toInt32) &&& 32767) / 20 * 20).toInt := (by assumption); rw [drX_C, o10] at hq9; exact ⟨by omega, by rw [e9]; exact drI_n hi.2 (hb_no el7 hP) (fun w => absurd w (Int.not_lt.mpr hq9)) rfl rfl⟩) (by have := ti_addK l7 (1 : Int32) 1 rfl; have := ti_rem (20 : Int32) 20 rfl ((((Int32.toUInt32 ((l5 * 1103515245) + 12345)) >>> ((Int32.toUInt32 16) &&& Int32.toUInt32 31)).toInt32) &&& 32767) (by decide); have := ti_mulR (1103515245 : Int32) 1103515245 rfl l5; omega)
            · exact absurd c14 (by decide)
          · refine ⟨fun c15 => ?_, fun c16 => ?_⟩
            · exact absurd c15 (by decide)
            · exact ih.2 (l4 &&& ((1 <<< (l7 &&& 31)) ^^^ (-1 : Int32))) ((l5 * 1103515245) + 12345) l6 (l7 + 1) (by have := ti_addK l7 (1 : Int32) 1 rfl; have := ti_mulR (1103515245 : Int32) 1103515245 rfl l5; have := ti_rem (20 : Int32) 20 rfl ((((Int32.toUInt32 ((l5 * 1103515245) + 12345)) >>> ((Int32.toUInt32 16) &&& Int32.toUInt32 31)).toInt32) &&& 32767) (by decide); have el7 : l7 = nI l7.toInt.toNat := nI_is (by omega) (by omega); have e9 : (l7 + 1).toInt.toNat = l7.toInt.toNat + 1 := (by omega); have hP := (o5.2.resolve_right (fun w => absurd w.1 (by omega))).2; have hq9 : (((((Int32.toUInt32 ((l5 * 1103515245) + 12345)) >>> ((Int32.toUInt32 16) &&& Int32.toUInt32 31)).toInt32) &&& 32767) - ((((Int32.toUInt32 ((l5 * 1103515245) + 12345)) >>> ((Int32.toUInt32 16) &&& Int32.toUInt32 31)).toInt32) &&& 32767) / 20 * 20).toInt < r8.toInt := (by assumption); rw [drX_C, o10] at hq9; exact ⟨by omega, by rw [e9]; exact drI_y hi.2 (hb_no el7 hP) hq9 rfl (drC_l el7)⟩) (by have := ti_addK l7 (1 : Int32) 1 rfl; have := ti_rem (20 : Int32) 20 rfl ((((Int32.toUInt32 ((l5 * 1103515245) + 12345)) >>> ((Int32.toUInt32 16) &&& Int32.toUInt32 31)).toInt32) &&& 32767) (by decide); have := ti_mulR (1103515245 : Int32) 1103515245 rfl l5; omega)
set_option maxRecDepth 100000 in
set_option maxHeartbeats 4000000 in
theorem ty_122 (X : qm_X) (h : qm_H) (a : Int32) (b : Int32) (c : Int32) (hp : mq 1 h ∧ wc h) (Q : qm_Q) (hq : ∀ r : Int32, (r.toInt = qDrift a b.toInt c.toInt (mC h)) → Q (some (.int r)) h) : qm_PW X 122 [.ref 0, .int a, .int b, .int c] h Q := by
  have hm1 : mq 1 h := hp.1
  have ⟨⟨_, _⟩, ⟨_, _⟩, _, _⟩ := hm1
  have hmwc : wc h := hp.2
  refine qm_seg_ok (C := qc_122) (rt := some .int) rfl rfl (cuts := [(35, [0, 1, 2, 3, 4, 5, 6]), (44, [0, 1, 2, 3, 4, 5, 6, 7])]) 400 _ _ _ _ ?_
  show (b.toInt < 1 → (Q (some (.int (-1 : Int32))) h)) ∧ (1 ≤ b.toInt → ((20 < b.toInt → (Q (some (.int (-1 : Int32))) h)) ∧ (b.toInt ≤ 20 → (qm_PW X 136 [.int c] h _))))
  refine ⟨fun c1 => ?_, fun c2 => ?_⟩
  · exact hq (-1 : Int32) (by show (-1 : Int32).toInt = qDrift a b.toInt c.toInt (mC h); rw [ti_n1]; exact (drift_no (by omega)).symm)
  · refine ⟨fun c3 => ?_, fun c4 => ?_⟩
    · exact hq (-1 : Int32) (by show (-1 : Int32).toInt = qDrift a b.toInt c.toInt (mC h); rw [ti_n1]; exact (drift_no (by omega)).symm)
    · refine ty_136 X h c trivial _ (fun r5 p6 => ?_)
      have o7 : (r5 = 0 ∨ r5 = 1) ∧ ((r5.toInt = 1 ∧ 0 ≤ c.toInt ∧ c.toInt ≤ 10) ∨ (r5.toInt = 0 ∧ ¬ (0 ≤ c.toInt ∧ c.toInt ≤ 10))) := p6
      clear p6
      show (¬ r5 = 0 → (qm_PW X 34 [.ref 1] h _)) ∧ (r5 = 0 → (Q (some (.int (-1 : Int32))) h))
      refine ⟨fun c8 => ?_, fun c9 => ?_⟩
      · have := ti_neK 0 rfl c8
        refine ty_34 X h  hm1 _ (fun r10 p11 => ?_)
        have o12 : r10 = drB0 (h 1 7) ∧ (0 ≤ r10.toInt ∧ r10.toInt ≤ 1023) := p11
        clear p11
        show qm_PA X 122 35 [(0, .ref 0), (1, .int a), (2, .int b), (3, .int c), (4, .int r10), (5, .int a), (6, .int 0)] [] h Q
        exact (ty_122_c X h a b c hp Q hq _).1 r10 a (0 : Int32) (by have : (0 : Int32).toInt = 0 := rfl; exact ⟨by have : (0 : Int32).toInt = 0 := rfl; omega, by rw [o12.1]; rfl⟩) (Nat.lt_succ_self _)
      · have := ti_eqK 0 rfl c9
        exact hq (-1 : Int32) (by show (-1 : Int32).toInt = qDrift a b.toInt c.toInt (mC h); rw [ti_n1]; exact (drift_no (by omega)).symm)
