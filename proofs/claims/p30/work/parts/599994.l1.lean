-- ThreadBank.isOdds(I)Z
set_option maxRecDepth 100000 in
set_option maxHeartbeats 4000000 in
theorem ty_136 (X : qm_X) (h : qm_H) (a : Int32) (hp : True) (Q : qm_Q) (hq : ∀ r : Int32, ((r = 0 ∨ r = 1) ∧ ((r.toInt = 1 ∧ 0 ≤ a.toInt ∧ a.toInt ≤ 10) ∨ (r.toInt = 0 ∧ ¬ (0 ≤ a.toInt ∧ a.toInt ≤ 10)))) → Q (some (.int r)) h) : qm_PW X 136 [.int a] h Q := by
  refine qm_seg_ok (C := qc_136) (rt := some .boolean) rfl rfl (cuts := []) 400 _ _ _ _ ?_
  show (a.toInt < 0 → (((0 : Int32) = 0 ∨ (0 : Int32) = 1) ∧ Q (some (.int 0)) h)) ∧ (0 ≤ a.toInt → ((10 < a.toInt → (((0 : Int32) = 0 ∨ (0 : Int32) = 1) ∧ Q (some (.int 0)) h)) ∧ (a.toInt ≤ 10 → (((1 : Int32) = 0 ∨ (1 : Int32) = 1) ∧ Q (some (.int 1)) h))))
  refine ⟨fun c1 => ?_, fun c2 => ?_⟩
  · exact ⟨Or.inl rfl, hq 0 (by have : (0 : Int32).toInt = 0 := rfl; show ((0 : Int32) = 0 ∨ (0 : Int32) = 1) ∧ (((0 : Int32).toInt = 1 ∧ 0 ≤ a.toInt ∧ a.toInt ≤ 10) ∨ ((0 : Int32).toInt = 0 ∧ ¬ (0 ≤ a.toInt ∧ a.toInt ≤ 10))); first | exact ⟨Or.inr rfl, by omega⟩ | exact ⟨Or.inl rfl, by omega⟩)⟩
  · refine ⟨fun c3 => ?_, fun c4 => ?_⟩
    · exact ⟨Or.inl rfl, hq 0 (by have : (0 : Int32).toInt = 0 := rfl; show ((0 : Int32) = 0 ∨ (0 : Int32) = 1) ∧ (((0 : Int32).toInt = 1 ∧ 0 ≤ a.toInt ∧ a.toInt ≤ 10) ∨ ((0 : Int32).toInt = 0 ∧ ¬ (0 ≤ a.toInt ∧ a.toInt ≤ 10))); first | exact ⟨Or.inr rfl, by omega⟩ | exact ⟨Or.inl rfl, by omega⟩)⟩
    · exact ⟨Or.inr rfl, hq 1 (by have : (1 : Int32).toInt = 1 := rfl; show ((1 : Int32) = 0 ∨ (1 : Int32) = 1) ∧ (((1 : Int32).toInt = 1 ∧ 0 ≤ a.toInt ∧ a.toInt ≤ 10) ∨ ((1 : Int32).toInt = 0 ∧ ¬ (0 ≤ a.toInt ∧ a.toInt ≤ 10))); first | exact ⟨Or.inr rfl, by omega⟩ | exact ⟨Or.inl rfl, by omega⟩)⟩
-- ThreadBank.isPart(I)Z
set_option maxRecDepth 100000 in
set_option maxHeartbeats 4000000 in
theorem ty_137 (X : qm_X) (h : qm_H) (a : Int32) (hp : True) (Q : qm_Q) (hq : ∀ r : Int32, ((r = 0 ∨ r = 1) ∧ ((r.toInt = 1 ∧ 0 ≤ a.toInt ∧ a.toInt ≤ 1) ∨ (r.toInt = 0 ∧ ¬ (0 ≤ a.toInt ∧ a.toInt ≤ 1)))) → Q (some (.int r)) h) : qm_PW X 137 [.int a] h Q := by
  refine qm_seg_ok (C := qc_137) (rt := some .boolean) rfl rfl (cuts := []) 400 _ _ _ _ ?_
  show (a = 0 → (((1 : Int32) = 0 ∨ (1 : Int32) = 1) ∧ Q (some (.int 1)) h)) ∧ (¬ a = 0 → ((¬ a = 1 → (((0 : Int32) = 0 ∨ (0 : Int32) = 1) ∧ Q (some (.int 0)) h)) ∧ (a = 1 → (((1 : Int32) = 0 ∨ (1 : Int32) = 1) ∧ Q (some (.int 1)) h))))
  refine ⟨fun c1 => ?_, fun c2 => ?_⟩
  · have := ti_eqK 0 rfl c1
    exact ⟨Or.inr rfl, hq 1 (by have : (1 : Int32).toInt = 1 := rfl; show ((1 : Int32) = 0 ∨ (1 : Int32) = 1) ∧ (((1 : Int32).toInt = 1 ∧ 0 ≤ a.toInt ∧ a.toInt ≤ 1) ∨ ((1 : Int32).toInt = 0 ∧ ¬ (0 ≤ a.toInt ∧ a.toInt ≤ 1))); have := ti_rng a; have h11 : (1 : Int32).toInt = 1 := rfl; first | exact ⟨Or.inr rfl, by omega⟩ | (have hx := congrArg Int32.toInt (show a = 1 from by assumption); exact ⟨Or.inr rfl, by omega⟩) | (have hx : ¬ a.toInt = 1 := fun w => absurd (Int32.toInt_inj.mp w) (by assumption); exact ⟨Or.inl rfl, by omega⟩))⟩
  · have := ti_neK 0 rfl c2
    refine ⟨fun c3 => ?_, fun c4 => ?_⟩
    · have := ti_neK 1 rfl c3
      exact ⟨Or.inl rfl, hq 0 (by have : (0 : Int32).toInt = 0 := rfl; show ((0 : Int32) = 0 ∨ (0 : Int32) = 1) ∧ (((0 : Int32).toInt = 1 ∧ 0 ≤ a.toInt ∧ a.toInt ≤ 1) ∨ ((0 : Int32).toInt = 0 ∧ ¬ (0 ≤ a.toInt ∧ a.toInt ≤ 1))); have := ti_rng a; have h11 : (1 : Int32).toInt = 1 := rfl; first | exact ⟨Or.inr rfl, by omega⟩ | (have hx := congrArg Int32.toInt (show a = 1 from by assumption); exact ⟨Or.inr rfl, by omega⟩) | (have hx : ¬ a.toInt = 1 := fun w => absurd (Int32.toInt_inj.mp w) (by assumption); exact ⟨Or.inl rfl, by omega⟩))⟩
    · have := ti_eqK 1 rfl c4
      exact ⟨Or.inr rfl, hq 1 (by have : (1 : Int32).toInt = 1 := rfl; show ((1 : Int32) = 0 ∨ (1 : Int32) = 1) ∧ (((1 : Int32).toInt = 1 ∧ 0 ≤ a.toInt ∧ a.toInt ≤ 1) ∨ ((1 : Int32).toInt = 0 ∧ ¬ (0 ≤ a.toInt ∧ a.toInt ≤ 1))); have := ti_rng a; have h11 : (1 : Int32).toInt = 1 := rfl; first | exact ⟨Or.inr rfl, by omega⟩ | (have hx := congrArg Int32.toInt (show a = 1 from by assumption); exact ⟨Or.inr rfl, by omega⟩) | (have hx : ¬ a.toInt = 1 := fun w => absurd (Int32.toInt_inj.mp w) (by assumption); exact ⟨Or.inl rfl, by omega⟩))⟩
-- ThreadBank$Memory.slipOdds(II)I
set_option maxRecDepth 100000 in
set_option maxHeartbeats 4000000 in
theorem ty_64 (X : qm_X) (h : qm_H) (a : Int32) (b : Int32) (hp : mq 1 h ∧ wc h ∧ ((0 ≤ a.toInt ∧ a.toInt < (h 1 7).toInt) ∧ 0 ≤ b.toInt ∧ b.toInt ≤ 10)) (Q : qm_Q) (hq : ∀ r : Int32, (r.toInt = slO (h 2) (h 3) b.toInt a.toInt.toNat) → Q (some (.int r)) h) : qm_PW X 64 [.ref 1, .int a, .int b] h Q := by
  have hm1 : mq 1 h := hp.1
  have ⟨⟨_, _⟩, ⟨_, _⟩, _, _⟩ := hm1
  have hmwc : wc h := hp.2.1
  have hp0 : (0 ≤ a.toInt ∧ a.toInt < (h 1 7).toInt) ∧ 0 ≤ b.toInt ∧ b.toInt ≤ 10 := hp.2.2
  refine qm_seg_ok (C := qc_64) (rt := some .int) rfl rfl (cuts := []) 400 _ _ _ _ ?_
  show qm_PW X 33 [.ref 1, .int a] h _
  refine ty_33 X h a hm1 _ (fun r1 p2 => ?_)
  have o3 : ((0 ≤ a.toInt ∧ a.toInt < (h 1 7).toInt) ∧ r1.toInt = ((h 3 a.toInt.toNat) / 10).toInt) ∨ (¬ (0 ≤ a.toInt ∧ a.toInt < (h 1 7).toInt) ∧ r1.toInt = -4) := p2
  clear p2
  show qm_PW X 32 [.ref 1, .int r1] h _
  refine ty_32 X h r1 hm1 _ (fun r4 p5 => ?_)
  have o6 : ((0 ≤ r1.toInt ∧ r1.toInt < (h 1 6).toInt) ∧ r4.toInt = (h 2 r1.toInt.toNat).toInt) ∨ (¬ (0 ≤ r1.toInt ∧ r1.toInt < (h 1 6).toInt) ∧ r4.toInt = -4) := p5
  clear p5
  show ((r4 = 2 → (Q (some (.int b)) h)) ∧ (¬ r4 = 2 → ((r4 = 3 → (Q (some (.int 0)) h)) ∧ (¬ r4 = 3 → (Q (some (.int (2 * b))) h)))))
  refine ⟨fun c7 => ?_, fun c8 => ?_⟩
  · have := ti_eqK 2 rfl c7
    exact hq b (by have := ti_div (10 : Int32) 10 rfl (h 3 a.toInt.toNat) (by decide); show b.toInt = slO (h 2) (h 3) b.toInt a.toInt.toNat; have hw := wf_hd (show wfM (mC h) from hmwc) (j := a.toInt.toNat) (by omega); rw [show r1.toInt = ((h 3 a.toInt.toNat) / 10).toInt by omega] at o6; have hE : r4.toInt = (h 2 ((h 3 a.toInt.toNat) / 10).toInt.toNat).toInt := (by omega); exact (slO_2 hE (by omega)).symm)
  · have := ti_neK 2 rfl c8
    refine ⟨fun c9 => ?_, fun c10 => ?_⟩
    · have := ti_eqK 3 rfl c9
      exact hq 0 (by have : (0 : Int32).toInt = 0 := rfl; have := ti_div (10 : Int32) 10 rfl (h 3 a.toInt.toNat) (by decide); show (0 : Int32).toInt = slO (h 2) (h 3) b.toInt a.toInt.toNat; have hw := wf_hd (show wfM (mC h) from hmwc) (j := a.toInt.toNat) (by omega); rw [show r1.toInt = ((h 3 a.toInt.toNat) / 10).toInt by omega] at o6; have hE : r4.toInt = (h 2 ((h 3 a.toInt.toNat) / 10).toInt.toNat).toInt := (by omega); exact (show (0 : Int32).toInt = 0 from rfl).trans (slO_3 hE (by omega)).symm)
    · have := ti_neK 3 rfl c10
      exact hq (2 * b) (by have := ti_mulL (2 : Int32) 2 rfl b; have := ti_div (10 : Int32) 10 rfl (h 3 a.toInt.toNat) (by decide); show (2 * b).toInt = slO (h 2) (h 3) b.toInt a.toInt.toNat; have hw := wf_hd (show wfM (mC h) from hmwc) (j := a.toInt.toNat) (by omega); rw [show r1.toInt = ((h 3 a.toInt.toNat) / 10).toInt by omega] at o6; have hE : r4.toInt = (h 2 ((h 3 a.toInt.toNat) / 10).toInt.toNat).toInt := (by omega); have q5 := ti_mulL (2 : Int32) 2 rfl b (by omega); exact q5.trans (slO_d hE (by omega) (by omega)).symm)
-- ThreadBank.slips(II)J
set_option maxRecDepth 100000 in
set_option maxHeartbeats 4000000 in
theorem ty_117_c (X : qm_X) (h : qm_H) (a : Int32) (b : Int32) (hp : mq 1 h ∧ wc h) (Q : qm_Q) (hq : ∀ r : Int64, (r.toInt = qSlips a.toInt b.toInt (mC h)) → Q (some (.long r)) h) : ∀ n : Nat, (∀ (l3 : Int64) (l5 : Int32), (((0 ≤ l5.toInt ∧ l5.toInt ≤ (h 1 7).toInt) ∧ (0 ≤ a.toInt ∧ a.toInt ≤ 10) ∧ 0 ≤ b.toInt ∧ b.toInt ≤ 1) ∧ lgE l3 (sumI (slO (h 2) (h 3) a.toInt) l5.toInt.toNat)) → (10 - l5.toInt).toNat < n → qm_PA X 117 23 [(0, .ref 0), (1, .int a), (2, .int b), (3, .long l3), (5, .int l5)] [] h Q) := by
  have hm1 : mq 1 h := hp.1
  have ⟨⟨_, _⟩, ⟨_, _⟩, _, _⟩ := hm1
  have hmwc : wc h := hp.2
  intro n
  induction n with
  | zero => exact fun _ _ _ h0 => absurd h0 (Nat.not_lt_zero _)
  | succ n ih =>
    intro l3 l5 hi hr
    have ti_l5 := ti_rng l5
    refine qm_seg_ok (C := qc_117) (rt := some .long) rfl rfl (cuts := [(23, [0, 1, 2, 3, 5])]) 400 _ _ _ _ ?_
    show ((h 1 7).toInt ≤ l5.toInt → (qm_PW X 139 [.long l3, .long 20, .int b] h _)) ∧ (l5.toInt < (h 1 7).toInt → (qm_PW X 64 [.ref 1, .int l5, .int a] h _))
    refine ⟨fun c1 => ?_, fun c2 => ?_⟩
    · refine ty_139 X h (l3 : Int64) (20 : Int64) b ⟨sl_end hi.2 (by omega) (by omega), lgP_20⟩ _ (fun r3 p4 => ?_)
      have o5 : tgL (l3 : Int64) (20 : Int64) b r3 := p4
      clear p4
      show Q (some (.long r3)) h
      exact hq r3 (by show r3.toInt = qSlips a.toInt b.toInt (mC h); have hz := hi.2; rw [show l5.toInt.toNat = (h 1 7).toInt.toNat by omega] at hz; exact (tg_of o5 hz lgE_20).trans (show qSlips a.toInt b.toInt (mC h) = _ from slips_ok hmwc ⟨by omega, by omega⟩).symm)
    · refine ty_64 X h l5 a ⟨hm1, hmwc, (by show (0 ≤ l5.toInt ∧ l5.toInt < (h 1 7).toInt) ∧ 0 ≤ a.toInt ∧ a.toInt ≤ 10; omega)⟩ _ (fun r6 p7 => ?_)
      have o8 : r6.toInt = slO (h 2) (h 3) a.toInt l5.toInt.toNat := p7
      clear p7
      show qm_PA X 117 23 [(0, .ref 0), (1, .int a), (2, .int b), (3, .long (l3 + (Int32.toInt64 r6))), (5, .int (l5 + 1))] [] h Q
      exact ih (l3 + (Int32.toInt64 r6)) (l5 + 1) (by have := ti_addK l5 (1 : Int32) 1 rfl; have := i64 r6; exact ⟨by omega, by rw [show (l5 + 1).toInt.toNat = l5.toInt.toNat + 1 by omega]; exact sl_y hi.2 (by omega) (by omega) o8⟩) (by have := ti_addK l5 (1 : Int32) 1 rfl; omega)
set_option maxRecDepth 100000 in
set_option maxHeartbeats 4000000 in
theorem ty_117 (X : qm_X) (h : qm_H) (a : Int32) (b : Int32) (hp : mq 1 h ∧ wc h) (Q : qm_Q) (hq : ∀ r : Int64, (r.toInt = qSlips a.toInt b.toInt (mC h)) → Q (some (.long r)) h) : qm_PW X 117 [.ref 0, .int a, .int b] h Q := by
  have hm1 : mq 1 h := hp.1
  have ⟨⟨_, _⟩, ⟨_, _⟩, _, _⟩ := hm1
  have hmwc : wc h := hp.2
  refine qm_seg_ok (C := qc_117) (rt := some .long) rfl rfl (cuts := [(23, [0, 1, 2, 3, 5])]) 400 _ _ _ _ ?_
  show qm_PW X 136 [.int a] h _
  refine ty_136 X h a trivial _ (fun r1 p2 => ?_)
  have o3 : (r1 = 0 ∨ r1 = 1) ∧ ((r1.toInt = 1 ∧ 0 ≤ a.toInt ∧ a.toInt ≤ 10) ∨ (r1.toInt = 0 ∧ ¬ (0 ≤ a.toInt ∧ a.toInt ≤ 10))) := p2
  clear p2
  show (r1 = 0 → (Q (some (.long (-1 : Int64))) h)) ∧ (¬ r1 = 0 → (qm_PW X 137 [.int b] h _))
  refine ⟨fun c4 => ?_, fun c5 => ?_⟩
  · have := ti_eqK 0 rfl c4
    exact hq (-1 : Int64) (by show (-1 : Int64).toInt = qSlips a.toInt b.toInt (mC h); exact lgE_n1.trans (slips_no (by unfold odW; omega)).symm)
  · have := ti_neK 0 rfl c5
    refine ty_137 X h b trivial _ (fun r6 p7 => ?_)
    have o8 : (r6 = 0 ∨ r6 = 1) ∧ ((r6.toInt = 1 ∧ 0 ≤ b.toInt ∧ b.toInt ≤ 1) ∨ (r6.toInt = 0 ∧ ¬ (0 ≤ b.toInt ∧ b.toInt ≤ 1))) := p7
    clear p7
    show (¬ r6 = 0 → (qm_PA X 117 23 [(0, .ref 0), (1, .int a), (2, .int b), (3, .long 0), (5, .int 0)] [] h Q)) ∧ (r6 = 0 → (Q (some (.long (-1 : Int64))) h))
    refine ⟨fun c9 => ?_, fun c10 => ?_⟩
    · have := ti_neK 0 rfl c9
      exact (ty_117_c X h a b hp Q hq _) (0 : Int64) (0 : Int32) (by have : (0 : Int32).toInt = 0 := rfl; exact ⟨by have : (0 : Int32).toInt = 0 := rfl; omega, rfl⟩) (Nat.lt_succ_self _)
    · have := ti_eqK 0 rfl c10
      exact hq (-1 : Int64) (by show (-1 : Int64).toInt = qSlips a.toInt b.toInt (mC h); exact lgE_n1.trans (slips_no (by unfold odW; omega)).symm)
-- ThreadBank.none(II)J
set_option maxRecDepth 100000 in
set_option maxHeartbeats 4000000 in
theorem ty_118_c (X : qm_X) (h : qm_H) (a : Int32) (b : Int32) (hp : mq 1 h ∧ wc h) (Q : qm_Q) (hq : ∀ r : Int64, (r.toInt = qNone a.toInt b.toInt (mC h)) → Q (some (.long r)) h) : ∀ n : Nat, (∀ (l3 : Int64) (l5 : Int64) (l7 : Int32), (((0 ≤ l7.toInt ∧ l7.toInt ≤ (h 1 7).toInt) ∧ (0 ≤ a.toInt ∧ a.toInt ≤ 10) ∧ 0 ≤ b.toInt ∧ b.toInt ≤ 1) ∧ lgE l3 (pdI (stO (h 2) (h 3) a.toInt) l7.toInt.toNat) ∧ lgE l5 (pdI c20 l7.toInt.toNat)) → (10 - l7.toInt).toNat < n → qm_PA X 118 26 [(0, .ref 0), (1, .int a), (2, .int b), (3, .long l3), (5, .long l5), (7, .int l7)] [] h Q) := by
  have hm1 : mq 1 h := hp.1
  have ⟨⟨_, _⟩, ⟨_, _⟩, _, _⟩ := hm1
  have hmwc : wc h := hp.2
  intro n
  induction n with
  | zero => exact fun _ _ _ _ h0 => absurd h0 (Nat.not_lt_zero _)
  | succ n ih =>
    intro l3 l5 l7 hi hr
    have ti_l7 := ti_rng l7
    refine qm_seg_ok (C := qc_118) (rt := some .long) rfl rfl (cuts := [(26, [0, 1, 2, 3, 5, 7])]) 400 _ _ _ _ ?_
    show ((h 1 7).toInt ≤ l7.toInt → (qm_PW X 139 [.long l3, .long l5, .int b] h _)) ∧ (l7.toInt < (h 1 7).toInt → (qm_PW X 64 [.ref 1, .int l7, .int a] h _))
    refine ⟨fun c1 => ?_, fun c2 => ?_⟩
    · refine ty_139 X h (l3 : Int64) (l5 : Int64) b (no_end hi.2.1 hi.2.2 (by omega) (by omega)) _ (fun r3 p4 => ?_)
      have o5 : tgL (l3 : Int64) (l5 : Int64) b r3 := p4
      clear p4
      show Q (some (.long r3)) h
      exact hq r3 (by show r3.toInt = qNone a.toInt b.toInt (mC h); have hz := hi.2; rw [show l7.toInt.toNat = (h 1 7).toInt.toNat by omega] at hz; exact (tg_of o5 hz.1 hz.2).trans (show qNone a.toInt b.toInt (mC h) = _ from none_ok hmwc ⟨by omega, by omega⟩).symm)
    · refine ty_64 X h l7 a ⟨hm1, hmwc, (by show (0 ≤ l7.toInt ∧ l7.toInt < (h 1 7).toInt) ∧ 0 ≤ a.toInt ∧ a.toInt ≤ 10; omega)⟩ _ (fun r6 p7 => ?_)
      have o8 : r6.toInt = slO (h 2) (h 3) a.toInt l7.toInt.toNat := p7
      clear p7
      show qm_PA X 118 26 [(0, .ref 0), (1, .int a), (2, .int b), (3, .long (l3 * (Int32.toInt64 (20 - r6)))), (5, .long (l5 * 20)), (7, .int (l7 + 1))] [] h Q
      exact ih (l3 * (Int32.toInt64 (20 - r6))) (l5 * 20) (l7 + 1) (by have := ti_addK l7 (1 : Int32) 1 rfl; have := ti_subL r6 (20 : Int32) 20 rfl; have := i64 (20 - r6); have hr9 := slO_rng (kd := h 2) (pl := h 3) (v := a.toInt) (t := l7.toInt.toNat) (by omega); have q7 := ti_subL r6 (20 : Int32) 20 rfl (by omega); exact ⟨by omega, by rw [show (l7 + 1).toInt.toNat = l7.toInt.toNat + 1 by omega]; exact ⟨no_y hi.2.1 (by omega) (by omega) (by omega), no_y20 hi.2.2 (by omega)⟩⟩) (by have := ti_addK l7 (1 : Int32) 1 rfl; omega)
set_option maxRecDepth 100000 in
set_option maxHeartbeats 4000000 in
theorem ty_118 (X : qm_X) (h : qm_H) (a : Int32) (b : Int32) (hp : mq 1 h ∧ wc h) (Q : qm_Q) (hq : ∀ r : Int64, (r.toInt = qNone a.toInt b.toInt (mC h)) → Q (some (.long r)) h) : qm_PW X 118 [.ref 0, .int a, .int b] h Q := by
  have hm1 : mq 1 h := hp.1
  have ⟨⟨_, _⟩, ⟨_, _⟩, _, _⟩ := hm1
  have hmwc : wc h := hp.2
  refine qm_seg_ok (C := qc_118) (rt := some .long) rfl rfl (cuts := [(26, [0, 1, 2, 3, 5, 7])]) 400 _ _ _ _ ?_
  show qm_PW X 136 [.int a] h _
  refine ty_136 X h a trivial _ (fun r1 p2 => ?_)
  have o3 : (r1 = 0 ∨ r1 = 1) ∧ ((r1.toInt = 1 ∧ 0 ≤ a.toInt ∧ a.toInt ≤ 10) ∨ (r1.toInt = 0 ∧ ¬ (0 ≤ a.toInt ∧ a.toInt ≤ 10))) := p2
  clear p2
  show (r1 = 0 → (Q (some (.long (-1 : Int64))) h)) ∧ (¬ r1 = 0 → (qm_PW X 137 [.int b] h _))
  refine ⟨fun c4 => ?_, fun c5 => ?_⟩
  · have := ti_eqK 0 rfl c4
    exact hq (-1 : Int64) (by show (-1 : Int64).toInt = qNone a.toInt b.toInt (mC h); exact lgE_n1.trans (none_no (by unfold odW; omega)).symm)
  · have := ti_neK 0 rfl c5
    refine ty_137 X h b trivial _ (fun r6 p7 => ?_)
    have o8 : (r6 = 0 ∨ r6 = 1) ∧ ((r6.toInt = 1 ∧ 0 ≤ b.toInt ∧ b.toInt ≤ 1) ∨ (r6.toInt = 0 ∧ ¬ (0 ≤ b.toInt ∧ b.toInt ≤ 1))) := p7
    clear p7
    show (¬ r6 = 0 → (qm_PA X 118 26 [(0, .ref 0), (1, .int a), (2, .int b), (3, .long 1), (5, .long 1), (7, .int 0)] [] h Q)) ∧ (r6 = 0 → (Q (some (.long (-1 : Int64))) h))
    refine ⟨fun c9 => ?_, fun c10 => ?_⟩
    · have := ti_neK 0 rfl c9
      exact (ty_118_c X h a b hp Q hq _) (1 : Int64) (1 : Int64) (0 : Int32) (by have : (0 : Int32).toInt = 0 := rfl; exact ⟨by have : (0 : Int32).toInt = 0 := rfl; omega, rfl, rfl⟩) (Nat.lt_succ_self _)
    · have := ti_eqK 0 rfl c10
      exact hq (-1 : Int64) (by show (-1 : Int64).toInt = qNone a.toInt b.toInt (mC h); exact lgE_n1.trans (none_no (by unfold odW; omega)).symm)
-- ThreadBank.kept(III)J
set_option maxRecDepth 100000 in
set_option maxHeartbeats 4000000 in
theorem ty_116_c (X : qm_X) (h : qm_H) (a : Int32) (b : Int32) (c : Int32) (hp : mq 1 h ∧ wc h) (Q : qm_Q) (hq : ∀ r : Int64, (r.toInt = qKept a.toInt b.toInt c.toInt (mC h)) → Q (some (.long r)) h) : ∀ n : Nat, (∀ (l4 : Int64) (l6 : Int64) (l8 : Int32), (((0 ≤ l8.toInt ∧ l8.toInt ≤ (h 1 7).toInt) ∧ (0 ≤ a.toInt ∧ a.toInt ≤ 10) ∧ (0 ≤ b.toInt ∧ b.toInt < (h 1 7).toInt) ∧ 0 ≤ c.toInt ∧ c.toInt ≤ 1) ∧ lgE l4 (pdI (kpF (h 4) (h 5) b.toInt.toNat (slO (h 2) (h 3) a.toInt)) l8.toInt.toNat) ∧ lgE l6 (pdI (kpF (h 4) (h 5) b.toInt.toNat c20) l8.toInt.toNat)) → (10 - l8.toInt).toNat < n → qm_PA X 116 38 [(0, .ref 0), (1, .int a), (2, .int b), (3, .int c), (4, .long l4), (6, .long l6), (8, .int l8)] [] h Q) := by
  have hm1 : mq 1 h := hp.1
  have ⟨⟨_, _⟩, ⟨_, _⟩, _, _⟩ := hm1
  have hmwc : wc h := hp.2
  intro n
  induction n with
  | zero => exact fun _ _ _ _ h0 => absurd h0 (Nat.not_lt_zero _)
  | succ n ih =>
    intro l4 l6 l8 hi hr
    have ti_l8 := ti_rng l8
    refine qm_seg_ok (C := qc_116) (rt := some .long) rfl rfl (cuts := [(38, [0, 1, 2, 3, 4, 6, 8])]) 400 _ _ _ _ ?_
    show ((h 1 7).toInt ≤ l8.toInt → (qm_PW X 139 [.long (l6 - l4), .long l6, .int c] h _)) ∧ (l8.toInt < (h 1 7).toInt → (qm_PW X 49 [.ref 1, .int b, .int l8] h _))
    refine ⟨fun c1 => ?_, fun c2 => ?_⟩
    · refine ty_139 X h ((l6 - l4) : Int64) (l6 : Int64) c (kp_end hi.2.2 hi.2.1 (by omega) (fun j => slO_rng (by omega))).2 _ (fun r3 p4 => ?_)
      have o5 : tgL (l6 - l4) (l6 : Int64) c r3 := p4
      clear p4
      show Q (some (.long r3)) h
      exact hq r3 (by show r3.toInt = qKept a.toInt b.toInt c.toInt (mC h); have hz := hi.2; rw [show l8.toInt.toNat = (h 1 7).toInt.toNat by omega] at hz; have hk9 := kp_end hz.2 hz.1 (by omega) (fun j => slO_rng (by omega)); exact (tg_of o5 hk9.1 hz.2).trans (show qKept a.toInt b.toInt c.toInt (mC h) = _ from kept_ok hmwc ⟨⟨by omega, by omega⟩, by omega⟩).symm)
    · refine ty_49 X h b l8 hm1 _ (fun r6 p7 => ?_)
      have o8 : (r6 = 0 ∨ r6 = 1) ∧ ((r6.toInt = 1 ∧ (0 ≤ b.toInt ∧ b.toInt < (h 1 7).toInt) ∧ (0 ≤ l8.toInt ∧ l8.toInt < (h 1 7).toInt) ∧ (h 4 b.toInt.toNat).toInt = (h 4 l8.toInt.toNat).toInt ∧ (h 5 b.toInt.toNat).toInt = (h 5 l8.toInt.toNat).toInt) ∨ (r6.toInt = 0 ∧ ¬ ((0 ≤ b.toInt ∧ b.toInt < (h 1 7).toInt) ∧ (0 ≤ l8.toInt ∧ l8.toInt < (h 1 7).toInt) ∧ (h 4 b.toInt.toNat).toInt = (h 4 l8.toInt.toNat).toInt ∧ (h 5 b.toInt.toNat).toInt = (h 5 l8.toInt.toNat).toInt))) := p7
      clear p7
      show (r6 = 0 → (qm_PA X 116 38 [(0, .ref 0), (1, .int a), (2, .int b), (3, .int c), (4, .long l4), (6, .long l6), (8, .int (l8 + 1))] [] h Q)) ∧ (¬ r6 = 0 → (qm_PW X 64 [.ref 1, .int l8, .int a] h _))
      refine ⟨fun c9 => ?_, fun c10 => ?_⟩
      · have := ti_eqK 0 rfl c9
        exact ih l4 l6 (l8 + 1) (by have := ti_addK l8 (1 : Int32) 1 rfl; have hs9 : ¬ sdK (h 4) (h 5) b.toInt.toNat l8.toInt.toNat := (fun w => by unfold sdK at w; omega); exact ⟨by omega, by rw [show (l8 + 1).toInt.toNat = l8.toInt.toNat + 1 by omega]; exact ⟨kp_n hi.2.1 hs9, kp_n hi.2.2 hs9⟩⟩) (by have := ti_addK l8 (1 : Int32) 1 rfl; omega)
      · have := ti_neK 0 rfl c10
        refine ty_64 X h l8 a ⟨hm1, hmwc, (by show (0 ≤ l8.toInt ∧ l8.toInt < (h 1 7).toInt) ∧ 0 ≤ a.toInt ∧ a.toInt ≤ 10; omega)⟩ _ (fun r11 p12 => ?_)
        have o13 : r11.toInt = slO (h 2) (h 3) a.toInt l8.toInt.toNat := p12
        clear p12
        show qm_PA X 116 38 [(0, .ref 0), (1, .int a), (2, .int b), (3, .int c), (4, .long (l4 * (Int32.toInt64 r11))), (6, .long (l6 * 20)), (8, .int (l8 + 1))] [] h Q
        exact ih (l4 * (Int32.toInt64 r11)) (l6 * 20) (l8 + 1) (by have := ti_addK l8 (1 : Int32) 1 rfl; have := i64 r11; have hs9 : sdK (h 4) (h 5) b.toInt.toNat l8.toInt.toNat := (by unfold sdK; omega); exact ⟨by omega, by rw [show (l8 + 1).toInt.toNat = l8.toInt.toNat + 1 by omega]; exact ⟨kp_y hi.2.1 (by omega) (fun j => slO_rng (by omega)) hs9 o13, kp_y20 hi.2.2 (by omega) hs9⟩⟩) (by have := ti_addK l8 (1 : Int32) 1 rfl; omega)
set_option maxRecDepth 100000 in
set_option maxHeartbeats 4000000 in
theorem ty_116 (X : qm_X) (h : qm_H) (a : Int32) (b : Int32) (c : Int32) (hp : mq 1 h ∧ wc h) (Q : qm_Q) (hq : ∀ r : Int64, (r.toInt = qKept a.toInt b.toInt c.toInt (mC h)) → Q (some (.long r)) h) : qm_PW X 116 [.ref 0, .int a, .int b, .int c] h Q := by
  have hm1 : mq 1 h := hp.1
  have ⟨⟨_, _⟩, ⟨_, _⟩, _, _⟩ := hm1
  have hmwc : wc h := hp.2
  refine qm_seg_ok (C := qc_116) (rt := some .long) rfl rfl (cuts := [(38, [0, 1, 2, 3, 4, 6, 8])]) 400 _ _ _ _ ?_
  show qm_PW X 136 [.int a] h _
  refine ty_136 X h a trivial _ (fun r1 p2 => ?_)
  have o3 : (r1 = 0 ∨ r1 = 1) ∧ ((r1.toInt = 1 ∧ 0 ≤ a.toInt ∧ a.toInt ≤ 10) ∨ (r1.toInt = 0 ∧ ¬ (0 ≤ a.toInt ∧ a.toInt ≤ 10))) := p2
  clear p2
  show (r1 = 0 → (Q (some (.long (-1 : Int64))) h)) ∧ (¬ r1 = 0 → (qm_PW X 29 [.ref 1, .int b] h _))
  refine ⟨fun c4 => ?_, fun c5 => ?_⟩
  · have := ti_eqK 0 rfl c4
    exact hq (-1 : Int64) (by show (-1 : Int64).toInt = qKept a.toInt b.toInt c.toInt (mC h); exact lgE_n1.trans (kept_no (M := mC h) (show ¬ (odW a.toInt c.toInt ∧ 0 ≤ b.toInt ∧ b.toInt < (h 1 7).toInt) by unfold odW; omega)).symm)
  · have := ti_neK 0 rfl c5
    refine ty_29 X h b trivial _ (fun r6 p7 => ?_)
    have o8 : (r6 = 0 ∨ r6 = 1) ∧ ((r6.toInt = 1 ∧ 0 ≤ b.toInt ∧ b.toInt < (h 1 7).toInt) ∨ (r6.toInt = 0 ∧ ¬ (0 ≤ b.toInt ∧ b.toInt < (h 1 7).toInt))) := p7
    clear p7
    show (r6 = 0 → (Q (some (.long (-1 : Int64))) h)) ∧ (¬ r6 = 0 → (qm_PW X 137 [.int c] h _))
    refine ⟨fun c9 => ?_, fun c10 => ?_⟩
    · have := ti_eqK 0 rfl c9
      exact hq (-1 : Int64) (by show (-1 : Int64).toInt = qKept a.toInt b.toInt c.toInt (mC h); exact lgE_n1.trans (kept_no (M := mC h) (show ¬ (odW a.toInt c.toInt ∧ 0 ≤ b.toInt ∧ b.toInt < (h 1 7).toInt) by unfold odW; omega)).symm)
    · have := ti_neK 0 rfl c10
      refine ty_137 X h c trivial _ (fun r11 p12 => ?_)
      have o13 : (r11 = 0 ∨ r11 = 1) ∧ ((r11.toInt = 1 ∧ 0 ≤ c.toInt ∧ c.toInt ≤ 1) ∨ (r11.toInt = 0 ∧ ¬ (0 ≤ c.toInt ∧ c.toInt ≤ 1))) := p12
      clear p12
      show (¬ r11 = 0 → (qm_PA X 116 38 [(0, .ref 0), (1, .int a), (2, .int b), (3, .int c), (4, .long 1), (6, .long 1), (8, .int 0)] [] h Q)) ∧ (r11 = 0 → (Q (some (.long (-1 : Int64))) h))
      refine ⟨fun c14 => ?_, fun c15 => ?_⟩
      · have := ti_neK 0 rfl c14
        exact (ty_116_c X h a b c hp Q hq _) (1 : Int64) (1 : Int64) (0 : Int32) (by have : (0 : Int32).toInt = 0 := rfl; exact ⟨by have : (0 : Int32).toInt = 0 := rfl; omega, rfl, rfl⟩) (Nat.lt_succ_self _)
      · have := ti_eqK 0 rfl c15
        exact hq (-1 : Int64) (by show (-1 : Int64).toInt = qKept a.toInt b.toInt c.toInt (mC h); exact lgE_n1.trans (kept_no (M := mC h) (show ¬ (odW a.toInt c.toInt ∧ 0 ≤ b.toInt ∧ b.toInt < (h 1 7).toInt) by unfold odW; omega)).symm)
