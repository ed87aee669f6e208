-- ThreadBankModel.bitsOf(I)I
set_option maxRecDepth 100000 in
set_option maxHeartbeats 4000000 in
theorem ty_207_c (X : qm_X) (h : qm_H) (a : Int32) (hp : True) (Q : qm_Q) (hq : ∀ r : Int32, (r.toInt = popI a ∧ (0 ≤ r.toInt ∧ r.toInt ≤ 10)) → Q (some (.int r)) h) : ∀ n : Nat, (∀ (l1 : Int32) (l2 : Int32), ((0 ≤ l2.toInt ∧ l2.toInt ≤ 10) ∧ l1.toInt = sumI (pbF a) l2.toInt.toNat) → (10 - l2.toInt).toNat < n → qm_PA X 207 4 [(0, .int a), (1, .int l1), (2, .int l2)] [] h Q) := by
  intro n
  induction n with
  | zero => exact fun _ _ _ h0 => absurd h0 (Nat.not_lt_zero _)
  | succ n ih =>
    intro l1 l2 hi hr
    have ti_l2 := ti_rng l2
    have hr8 := popI_rng (a := a) (n := l2.toInt.toNat)
    refine qm_seg_ok (C := qc_207) (rt := some .int) rfl rfl (cuts := [(4, [0, 1, 2])]) 400 _ _ _ _ ?_
    show (10 ≤ l2.toInt → (Q (some (.int l1)) h)) ∧ (l2.toInt < 10 → (qm_PA X 207 4 [(0, .int a), (1, .int (l1 + ((a >>> (l2 &&& 31)) &&& 1))), (2, .int (l2 + 1))] [] h Q))
    refine ⟨fun c1 => ?_, fun c2 => ?_⟩
    · exact hq l1 (by show l1.toInt = popI a ∧ (0 ≤ l1.toInt ∧ l1.toInt ≤ 10); have hi2 := hi.2; rw [show l2.toInt.toNat = 10 by omega] at hi2; have hr9 := popI_rng (a := a) (n := 10); exact ⟨hi2, by omega⟩)
    · exact ih (l1 + ((a >>> (l2 &&& 31)) &&& 1)) (l2 + 1) (by have := ti_addK l2 (1 : Int32) 1 rfl; have := ti_add l1 ((a >>> (l2 &&& 31)) &&& 1); have el2 : l2 = nI l2.toInt.toNat := nI_is (by omega) (by omega); have hb : ((a >>> (l2 &&& 31)) &&& 1).toInt = pbF a l2.toInt.toNat := (by unfold pbF; rw [← el2]); have hr := pbF_rng (a := a) (i := l2.toInt.toNat); exact ⟨by omega, by rw [show (l2 + 1).toInt.toNat = l2.toInt.toNat + 1 by omega, sumI_s]; omega⟩) (by have := ti_addK l2 (1 : Int32) 1 rfl; omega)
set_option maxRecDepth 100000 in
set_option maxHeartbeats 4000000 in
theorem ty_207 (X : qm_X) (h : qm_H) (a : Int32) (hp : True) (Q : qm_Q) (hq : ∀ r : Int32, (r.toInt = popI a ∧ (0 ≤ r.toInt ∧ r.toInt ≤ 10)) → Q (some (.int r)) h) : qm_PW X 207 [.int a] h Q := by
  refine qm_seg_ok (C := qc_207) (rt := some .int) rfl rfl (cuts := [(4, [0, 1, 2])]) 400 _ _ _ _ ?_
  show qm_PA X 207 4 [(0, .int a), (1, .int 0), (2, .int 0)] [] h Q
  exact (ty_207_c X h a hp Q hq _) (0 : Int32) (0 : Int32) (by have : (0 : Int32).toInt = 0 := rfl; exact ⟨by have : (0 : Int32).toInt = 0 := rfl; omega, rfl⟩) (Nat.lt_succ_self _)
-- ThreadBank$Memory.netOf(I)I
set_option maxRecDepth 100000 in
set_option maxHeartbeats 4000000 in
theorem ty_55_c (X : qm_X) (h : qm_H) (a : Int32) (hp : mq 1 h ∧ wc h ∧ (0 ≤ a.toInt ∧ a.toInt < (h 1 6).toInt)) (Q : qm_Q) (hq : ∀ r : Int32, (r.toInt = ntS (h 3) (h 4) (h 5) (h 1 7).toInt.toNat a.toInt.toNat (h 1 6).toInt.toNat ∧ (-360 ≤ r.toInt ∧ r.toInt ≤ 360)) → Q (some (.int r)) h) : ∀ n : Nat, (∀ (l2 : Int32) (l3 : Int32), ((0 ≤ l3.toInt ∧ l3.toInt ≤ (h 1 6).toInt) ∧ l2.toInt = ntS (h 3) (h 4) (h 5) (h 1 7).toInt.toNat a.toInt.toNat l3.toInt.toNat) → (4 - l3.toInt).toNat < n → qm_PA X 55 4 [(0, .ref 1), (1, .int a), (2, .int l2), (3, .int l3)] [] h Q) := by
  have hm1 : mq 1 h := hp.1
  have ⟨⟨_, _⟩, ⟨_, _⟩, _, _⟩ := hm1
  have hmwc : wc h := hp.2.1
  have hp0 : 0 ≤ a.toInt ∧ a.toInt < (h 1 6).toInt := hp.2.2
  have hkn := wf_kn (show wfM (mC h) from hmwc)
  have hkb : ∀ j : Nat, j < (h 1 7).toInt.toNat → 0 ≤ (h 5 j).toInt ∧ (h 5 j).toInt ≤ 99 := fun j q => hkn j (by omega)
  intro n
  induction n with
  | zero => exact fun _ _ _ h0 => absurd h0 (Nat.not_lt_zero _)
  | succ n ih =>
    intro l2 l3 hi hr
    have ti_l3 := ti_rng l3
    have hr3 := ntS_rng (pl := h 3) (pa := h 4) (kn := h 5) (n := (h 1 7).toInt.toNat) (c := a.toInt.toNat) (m := l3.toInt.toNat) (by omega) hkb
    refine qm_seg_ok (C := qc_55) (rt := some .int) rfl rfl (cuts := [(4, [0, 1, 2, 3])]) 400 _ _ _ _ ?_
    show ((h 1 6).toInt ≤ l3.toInt → (Q (some (.int l2)) h)) ∧ (l3.toInt < (h 1 6).toInt → (qm_PW X 53 [.ref 1, .int ((10 * l3) + a), .int 9] h _))
    refine ⟨fun c1 => ?_, fun c2 => ?_⟩
    · exact hq l2 (by show l2.toInt = ntS (h 3) (h 4) (h 5) (h 1 7).toInt.toNat a.toInt.toNat (h 1 6).toInt.toNat ∧ (-360 ≤ l2.toInt ∧ l2.toInt ≤ 360); exact ⟨by rw [hi.2, show l3.toInt.toNat = (h 1 6).toInt.toNat by omega], by omega⟩)
    · refine ty_53 X h ((10 * l3) + a) (9 : Int32) ⟨hm1, hmwc⟩ _ (fun r3 p4 => ?_)
      have o5 : r3.toInt = owS (h 3) (h 4) (h 5) ((10 * l3) + a).toInt (9 : Int32).toInt (h 1 7).toInt.toNat ∧ (0 ≤ r3.toInt ∧ r3.toInt ≤ 90) := p4
      clear p4
      show qm_PW X 53 [.ref 1, .int ((10 * a) + l3), .int 9] h _
      refine ty_53 X h ((10 * a) + l3) (9 : Int32) ⟨hm1, hmwc⟩ _ (fun r6 p7 => ?_)
      have o8 : r6.toInt = owS (h 3) (h 4) (h 5) ((10 * a) + l3).toInt (9 : Int32).toInt (h 1 7).toInt.toNat ∧ (0 ≤ r6.toInt ∧ r6.toInt ≤ 90) := p7
      clear p7
      show qm_PA X 55 4 [(0, .ref 1), (1, .int a), (2, .int ((l2 + r3) - r6)), (3, .int (l3 + 1))] [] h Q
      exact ih ((l2 + r3) - r6) (l3 + 1) (by have : (9 : Int32).toInt = 9 := rfl; have := ti_addK l3 (1 : Int32) 1 rfl; have := ti_add l2 r3; have := ti_sub (l2 + r3) r6; have := ti_mulL (10 : Int32) 10 rfl l3; have := ti_add (10 * l3) a; have := ti_mulL (10 : Int32) 10 rfl a; have := ti_add (10 * a) l3; have q1Al3a := ti_mulL (10 : Int32) 10 rfl l3; have q2Al3a := ti_add (10 * l3) a; have q3Al3a : ((10 * l3) + a).toInt = 10 * ((l3.toInt.toNat : Nat) : Int) + ((a.toInt.toNat : Nat) : Int) := (by omega); have q1Aal3 := ti_mulL (10 : Int32) 10 rfl a; have q2Aal3 := ti_add (10 * a) l3; have q3Aal3 : ((10 * a) + l3).toInt = 10 * ((a.toInt.toNat : Nat) : Int) + ((l3.toInt.toNat : Nat) : Int) := (by omega); have oy8 := o5.1; have oy9 := o8.1; rw [q3Al3a] at oy8; rw [q3Aal3] at oy9; have h99 : (9 : Int32).toInt = 9 := rfl; rw [h99] at oy8 oy9; exact ⟨by omega, by rw [show (l3 + 1).toInt.toNat = l3.toInt.toNat + 1 by omega]; show _ = ntS (h 3) (h 4) (h 5) (h 1 7).toInt.toNat a.toInt.toNat l3.toInt.toNat + (owS (h 3) (h 4) (h 5) (10 * ((l3.toInt.toNat : Nat) : Int) + ((a.toInt.toNat : Nat) : Int)) 9 (h 1 7).toInt.toNat - owS (h 3) (h 4) (h 5) (10 * ((a.toInt.toNat : Nat) : Int) + ((l3.toInt.toNat : Nat) : Int)) 9 (h 1 7).toInt.toNat); omega⟩) (by have : (9 : Int32).toInt = 9 := rfl; have := ti_addK l3 (1 : Int32) 1 rfl; have := ti_mulL (10 : Int32) 10 rfl l3; have := ti_add (10 * l3) a; have := ti_mulL (10 : Int32) 10 rfl a; have := ti_add (10 * a) l3; omega)
set_option maxRecDepth 100000 in
set_option maxHeartbeats 4000000 in
theorem ty_55 (X : qm_X) (h : qm_H) (a : Int32) (hp : mq 1 h ∧ wc h ∧ (0 ≤ a.toInt ∧ a.toInt < (h 1 6).toInt)) (Q : qm_Q) (hq : ∀ r : Int32, (r.toInt = ntS (h 3) (h 4) (h 5) (h 1 7).toInt.toNat a.toInt.toNat (h 1 6).toInt.toNat ∧ (-360 ≤ r.toInt ∧ r.toInt ≤ 360)) → Q (some (.int r)) h) : qm_PW X 55 [.ref 1, .int a] h Q := by
  have hm1 : mq 1 h := hp.1
  have ⟨⟨_, _⟩, ⟨_, _⟩, _, _⟩ := hm1
  have hmwc : wc h := hp.2.1
  have hp0 : 0 ≤ a.toInt ∧ a.toInt < (h 1 6).toInt := hp.2.2
  have hkn := wf_kn (show wfM (mC h) from hmwc)
  have hkb : ∀ j : Nat, j < (h 1 7).toInt.toNat → 0 ≤ (h 5 j).toInt ∧ (h 5 j).toInt ≤ 99 := fun j q => hkn j (by omega)
  refine qm_seg_ok (C := qc_55) (rt := some .int) rfl rfl (cuts := [(4, [0, 1, 2, 3])]) 400 _ _ _ _ ?_
  show qm_PA X 55 4 [(0, .ref 1), (1, .int a), (2, .int 0), (3, .int 0)] [] h Q
  exact (ty_55_c X h a hp Q hq _) (0 : Int32) (0 : Int32) (by have : (0 : Int32).toInt = 0 := rfl; exact ⟨by have : (0 : Int32).toInt = 0 := rfl; omega, rfl⟩) (Nat.lt_succ_self _)
-- ThreadBankModel.netOf(I)I
set_option maxRecDepth 100000 in
set_option maxHeartbeats 4000000 in
theorem ty_182_c (X : qm_X) (h : qm_H) (a : Int32) (hp : (0 ≤ a.toInt ∧ a.toInt ≤ 3) ∧ owb (h 45) 90) (Q : qm_Q) (hq : ∀ r : Int32, (r.toInt = nt45 (h 45) a.toInt.toNat 4 ∧ (-360 ≤ r.toInt ∧ r.toInt ≤ 360)) → Q (some (.int r)) h) : ∀ n : Nat, (∀ (l2 : Int32) (l3 : Int32), ((0 ≤ l3.toInt ∧ l3.toInt ≤ 4) ∧ l2.toInt = nt45 (h 45) a.toInt.toNat l3.toInt.toNat) → (4 - l3.toInt).toNat < n → qm_PA X 182 4 [(0, .ref 39), (1, .int a), (2, .int l2), (3, .int l3)] [] h Q) := by
  have hp0 : (0 ≤ a.toInt ∧ a.toInt ≤ 3) ∧ owb (h 45) 90 := hp
  intro n
  induction n with
  | zero => exact fun _ _ _ h0 => absurd h0 (Nat.not_lt_zero _)
  | succ n ih =>
    intro l2 l3 hi hr
    have ti_l3 := ti_rng l3
    have hr9 := nt45_rng (f := h 45) (c := a.toInt.toNat) (m := l3.toInt.toNat) hp0.2 (by omega) (by omega)
    refine qm_seg_ok (C := qc_182) (rt := some .int) rfl rfl (cuts := [(4, [0, 1, 2, 3])]) 400 _ _ _ _ ?_
    show (4 ≤ l3.toInt → (Q (some (.int l2)) h)) ∧ (l3.toInt < 4 → ((0 ≤ ((4 * l3) + a).toInt ∧ ((4 * l3) + a).toInt < 16) ∧ ((0 ≤ ((4 * a) + l3).toInt ∧ ((4 * a) + l3).toInt < 16) ∧ (qm_PA X 182 4 [(0, .ref 39), (1, .int a), (2, .int (l2 + ((h 45 ((4 * l3) + a).toInt.toNat) - (h 45 ((4 * a) + l3).toInt.toNat)))), (3, .int (l3 + 1))] [] h Q))))
    refine ⟨fun c1 => ?_, fun c2 => ?_⟩
    · exact hq l2 (by show l2.toInt = nt45 (h 45) a.toInt.toNat 4 ∧ (-360 ≤ l2.toInt ∧ l2.toInt ≤ 360); have hr9 := nt45_rng (f := h 45) (c := a.toInt.toNat) (m := 4) hp0.2 (by omega) (by omega); have hi2 := hi.2; rw [show l3.toInt.toNat = 4 by omega] at hi2; exact ⟨hi2, by omega⟩)
    · refine ⟨(by have := ti_mulL (4 : Int32) 4 rfl l3; have := ti_add (4 * l3) a; omega), ?_⟩
      refine ⟨(by have := ti_mulL (4 : Int32) 4 rfl a; have := ti_add (4 * a) l3; omega), ?_⟩
      exact ih (l2 + ((h 45 ((4 * l3) + a).toInt.toNat) - (h 45 ((4 * a) + l3).toInt.toNat))) (l3 + 1) (by have := ti_addK l3 (1 : Int32) 1 rfl; have := ti_sub (h 45 ((4 * l3) + a).toInt.toNat) (h 45 ((4 * a) + l3).toInt.toNat); have := ti_add l2 ((h 45 ((4 * l3) + a).toInt.toNat) - (h 45 ((4 * a) + l3).toInt.toNat)); have := ti_mulL (4 : Int32) 4 rfl l3; have := ti_add (4 * l3) a; have := ti_mulL (4 : Int32) 4 rfl a; have := ti_add (4 * a) l3; have q1 := ti_mulL (4 : Int32) 4 rfl l3; have q2 := ti_add (4 * l3) a; have q3 := ti_mulL (4 : Int32) 4 rfl a; have q4 := ti_add (4 * a) l3; have e1 : ((4 * l3) + a).toInt.toNat = 4 * l3.toInt.toNat + a.toInt.toNat := (by omega); have e2 : ((4 * a) + l3).toInt.toNat = 4 * a.toInt.toNat + l3.toInt.toNat := (by omega); rw [e1, e2]; have b1 := hp0.2 (4 * l3.toInt.toNat + a.toInt.toNat) (by omega); have b2 := hp0.2 (4 * a.toInt.toNat + l3.toInt.toNat) (by omega); have q5 := ti_sub (h 45 (4 * l3.toInt.toNat + a.toInt.toNat)) (h 45 (4 * a.toInt.toNat + l3.toInt.toNat)) (by omega); have q6 := ti_add l2 ((h 45 (4 * l3.toInt.toNat + a.toInt.toNat)) - (h 45 (4 * a.toInt.toNat + l3.toInt.toNat))) (by omega); exact ⟨by omega, by rw [show (l3 + 1).toInt.toNat = l3.toInt.toNat + 1 by omega]; show _ = nt45 (h 45) a.toInt.toNat l3.toInt.toNat + ((h 45 (4 * l3.toInt.toNat + a.toInt.toNat)).toInt - (h 45 (4 * a.toInt.toNat + l3.toInt.toNat)).toInt); omega⟩) (by have := ti_addK l3 (1 : Int32) 1 rfl; omega)
set_option maxRecDepth 100000 in
set_option maxHeartbeats 4000000 in
theorem ty_182 (X : qm_X) (h : qm_H) (a : Int32) (hp : (0 ≤ a.toInt ∧ a.toInt ≤ 3) ∧ owb (h 45) 90) (Q : qm_Q) (hq : ∀ r : Int32, (r.toInt = nt45 (h 45) a.toInt.toNat 4 ∧ (-360 ≤ r.toInt ∧ r.toInt ≤ 360)) → Q (some (.int r)) h) : qm_PW X 182 [.ref 39, .int a] h Q := by
  have hp0 : (0 ≤ a.toInt ∧ a.toInt ≤ 3) ∧ owb (h 45) 90 := hp
  refine qm_seg_ok (C := qc_182) (rt := some .int) rfl rfl (cuts := [(4, [0, 1, 2, 3])]) 400 _ _ _ _ ?_
  show qm_PA X 182 4 [(0, .ref 39), (1, .int a), (2, .int 0), (3, .int 0)] [] h Q
  exact (ty_182_c X h a hp Q hq _) (0 : Int32) (0 : Int32) (by have : (0 : Int32).toInt = 0 := rfl; exact ⟨by have : (0 : Int32).toInt = 0 := rfl; omega, rfl⟩) (Nat.lt_succ_self _)
-- ThreadBankModel.startsOwed()V
set_option maxRecDepth 100000 in
set_option maxHeartbeats 4000000 in
theorem ty_202 (X : qm_X) (h : qm_H) (hp : mi h ∧ sm h ∧ zs h ∧ rw_ h) (Q : qm_Q) (hq : ∀ h' : qm_H, (mi h' ∧ sm h' ∧ zs h' ∧ rw_ h' ∧ (∀ k, (k < 41 ∨ 45 < k ∨ k = 42 ∨ k = 43 ∨ k = 44) → h' k = h k) ∧ ((∀ j : Nat, j < 49 → (h' 41) j = (h 40) j) ∧ owI (fun t => (h 40 (6 + 3 * t))) (fun t => (h 40 (7 + 3 * t))) (fun t => (h 40 (8 + 3 * t))) 9 (h 40 4).toInt.toNat (h' 45))) → Q none h') : qm_PW X 202 [.ref 39] h Q := by
  have hmmi : mi h := hp.1
  have ⟨⟨_, _⟩, ⟨_, _⟩, ⟨_, _⟩, ⟨_, _⟩, _, _⟩ := hmmi
  have hmsm : sm h := hp.2.1
  have ⟨⟨⟨_, _⟩, _, _⟩, _, _, _⟩ := hmsm
  have hmzs : zs h := hp.2.2.1
  have hmrw : rw_ h := hp.2.2.2
  refine qm_seg_ok (C := qc_202) (rt := none) rfl rfl (cuts := []) 400 _ _ _ _ ?_
  show qm_PW X 169 [.ref 39] h _
  refine sf_169_39 X h  hmsm _ (fun g1 p2 => ?_)
  obtain ⟨p2_0, p2_1, p2_2⟩ := p2
  have f3 : ∀ k, (k < 41 ∨ 45 < k ∨ k = 42 ∨ k = 43 ∨ k = 44) → g1 k = h k := fun k hk => (p2_1 k (by omega)).trans (rfl)
  have k4 : mi g1 := by unfold mi; rw [p2_1 39 (by omega)]; exact hmmi
  have k5 : sm g1 := by unfold sm; rw [p2_1 40 (by omega)]; exact hmsm
  have k6 : zs g1 := by unfold zs; rw [p2_1 49 (by omega)]; exact hmzs
  have k7 : rw_ g1 := by unfold rw_; rw [p2_1 46 (by omega)]; exact hmrw
  have o8 : (∀ j : Nat, j < 49 → g1 41 j = h 40 j) := p2_2
  clear p2_2
  have w39_g1 : g1 39 = h 39 := (p2_1 39 (by omega))
  have w40_g1 : g1 40 = h 40 := (p2_1 40 (by omega))
  have sA_g1 : ∀ j : Nat, j < 49 → g1 41 j = h 40 j := o8
  have s4_g1 : (g1 41 4).toInt = (h 40 4).toInt := congrArg Int32.toInt (sA_g1 4 (by decide))
  show qm_PW X 180 [.ref 39, .int 9] g1 _
  refine ty_180 X g1 (9 : Int32) p2_0 _ (fun g9 p10 => ?_)
  obtain ⟨p10_0, p10_1⟩ := p10
  have f11 : ∀ k, (k < 41 ∨ 45 < k ∨ k = 42 ∨ k = 43 ∨ k = 44) → g9 k = h k := fun k hk => (p10_0 k (by omega)).trans (f3 k hk)
  have k12 : mi g9 := by unfold mi; rw [p10_0 39 (by omega)]; exact k4
  have k13 : sm g9 := by unfold sm; rw [p10_0 40 (by omega)]; exact k5
  have k14 : zs g9 := by unfold zs; rw [p10_0 49 (by omega)]; exact k6
  have k15 : rw_ g9 := by unfold rw_; rw [p10_0 46 (by omega)]; exact k7
  have k16 : am g9 := by unfold am; rw [p10_0 41 (by omega)]; exact p2_0
  have o17 : owI (fun t => (g1 41 (6 + 3 * t))) (fun t => (g1 41 (7 + 3 * t))) (fun t => (g1 41 (8 + 3 * t))) (9 : Int32).toInt (g1 41 4).toInt.toNat (g9 45) := p10_1
  clear p10_1
  have w39_g9 : g9 39 = h 39 := (p10_0 39 (by omega)).trans w39_g1
  have w40_g9 : g9 40 = h 40 := (p10_0 40 (by omega)).trans w40_g1
  have ow_g9 : owI (fun t => h 40 (6 + 3 * t)) (fun t => h 40 (7 + 3 * t)) (fun t => h 40 (8 + 3 * t)) (9 : Int32).toInt (h 40 4).toInt.toNat (g9 45) := owI_41 sA_g1 (by omega) (by have z := o17; rw [show (g1 41 4) = h 40 4 from sA_g1 4 (by decide)] at z; exact z)
  have owb_g9 : owb (g9 45) 90 := owI_b ow_g9 (by omega) (fun j q => by have z := hmsm.2.1.2.2.2.2.2 j (by omega); rw [Nat.zero_add] at z; exact z)
  have sB_g9 : ∀ j : Nat, j < 49 → g9 41 j = h 40 j := fun j hj => by rw [show g9 41 = g1 41 from p10_0 41 (by omega)]; exact sA_g1 j hj
  show Q none g9
  exact hq g9 ⟨k12, k13, k14, k15, (fun k hk => f11 k hk), (by have : (9 : Int32).toInt = 9 := rfl; show (∀ j : Nat, j < 49 → (g9 41) j = (h 40) j) ∧ owI (fun t => (h 40 (6 + 3 * t))) (fun t => (h 40 (7 + 3 * t))) (fun t => (h 40 (8 + 3 * t))) 9 (h 40 4).toInt.toNat (g9 45); exact ⟨sB_g9, ow_g9⟩)⟩
-- ThreadBank.firstHasMate()Z
set_option maxRecDepth 100000 in
set_option maxHeartbeats 4000000 in
theorem ty_132_c (X : qm_X) (h : qm_H) (hp : mq 1 h ∧ wc h) (Q : qm_Q) (hq : ∀ r : Int32, ((r = 0 ∨ r = 1) ∧ ((r.toInt = 1 ∧ mtA (ntC (h 3) (h 4) (h 5) (h 1 7).toInt.toNat (h 1 6).toInt.toNat) (h 1 6).toInt.toNat) ∨ (r.toInt = 0 ∧ ¬ mtA (ntC (h 3) (h 4) (h 5) (h 1 7).toInt.toNat (h 1 6).toInt.toNat) (h 1 6).toInt.toNat))) → Q (some (.int r)) h) : ∀ n : Nat, (∀ (l1 : Int32), ((1 ≤ l1.toInt ∧ (l1.toInt ≤ (h 1 6).toInt ∨ l1.toInt = 1)) ∧ ∀ c : Nat, 1 ≤ c → (c : Int) < l1.toInt → ¬ (ntC (h 3) (h 4) (h 5) (h 1 7).toInt.toNat (h 1 6).toInt.toNat) 0 + (ntC (h 3) (h 4) (h 5) (h 1 7).toInt.toNat (h 1 6).toInt.toNat) c = 0) → (5 - l1.toInt).toNat < n → qm_PA X 132 2 [(0, .ref 0), (1, .int l1)] [] h Q) := by
  have hm1 : mq 1 h := hp.1
  have ⟨⟨_, _⟩, ⟨_, _⟩, _, _⟩ := hm1
  have hmwc : wc h := hp.2
  have hkn := wf_kn (show wfM (mC h) from hmwc)
  have hkb : ∀ j : Nat, j < (h 1 7).toInt.toNat → 0 ≤ (h 5 j).toInt ∧ (h 5 j).toInt ≤ 99 := fun j q => hkn j (by omega)
  intro n
  induction n with
  | zero => exact fun _ _ h0 => absurd h0 (Nat.not_lt_zero _)
  | succ n ih =>
    intro l1 hi hr
    have ti_l1 := ti_rng l1
    refine qm_seg_ok (C := qc_132) (rt := some .boolean) rfl rfl (cuts := [(2, [0, 1])]) 400 _ _ _ _ ?_
    show ((h 1 6).toInt ≤ l1.toInt → (((0 : Int32) = 0 ∨ (0 : Int32) = 1) ∧ Q (some (.int 0)) h)) ∧ (l1.toInt < (h 1 6).toInt → (qm_PW X 55 [.ref 1, .int 0] h _))
    refine ⟨fun c1 => ?_, fun c2 => ?_⟩
    · exact ⟨Or.inl rfl, hq 0 (by have : (0 : Int32).toInt = 0 := rfl; show ((0 : Int32) = 0 ∨ (0 : Int32) = 1) ∧ (((0 : Int32).toInt = 1 ∧ mtA (ntC (h 3) (h 4) (h 5) (h 1 7).toInt.toNat (h 1 6).toInt.toNat) (h 1 6).toInt.toNat) ∨ ((0 : Int32).toInt = 0 ∧ ¬ mtA (ntC (h 3) (h 4) (h 5) (h 1 7).toInt.toNat (h 1 6).toInt.toNat) (h 1 6).toInt.toNat)); exact ⟨Or.inl rfl, Or.inr ⟨rfl, fun w => Exists.elim w (fun c z => hi.2 c z.1 (by have := z.2.1; omega) z.2.2)⟩⟩)⟩
    · refine ty_55 X h (0 : Int32) ⟨hm1, hmwc, (by have : (0 : Int32).toInt = 0 := rfl; show 0 ≤ (0 : Int32).toInt ∧ (0 : Int32).toInt < (h 1 6).toInt; omega)⟩ _ (fun r3 p4 => ?_)
      have o5 : r3.toInt = ntS (h 3) (h 4) (h 5) (h 1 7).toInt.toNat (0 : Int32).toInt.toNat (h 1 6).toInt.toNat ∧ (-360 ≤ r3.toInt ∧ r3.toInt ≤ 360) := p4
      clear p4
      show qm_PW X 55 [.ref 1, .int l1] h _
      refine ty_55 X h l1 ⟨hm1, hmwc, (by have : (0 : Int32).toInt = 0 := rfl; show 0 ≤ l1.toInt ∧ l1.toInt < (h 1 6).toInt; omega)⟩ _ (fun r6 p7 => ?_)
      have o8 : r6.toInt = ntS (h 3) (h 4) (h 5) (h 1 7).toInt.toNat l1.toInt.toNat (h 1 6).toInt.toNat ∧ (-360 ≤ r6.toInt ∧ r6.toInt ≤ 360) := p7
      clear p7
      show (¬ (r3 + r6) = 0 → (qm_PA X 132 2 [(0, .ref 0), (1, .int (l1 + 1))] [] h Q)) ∧ ((r3 + r6) = 0 → (((1 : Int32) = 0 ∨ (1 : Int32) = 1) ∧ Q (some (.int 1)) h))
      refine ⟨fun c9 => ?_, fun c10 => ?_⟩
      · have := ti_neK 0 rfl c9
        exact ih (l1 + 1) (by have : (0 : Int32).toInt = 0 := rfl; have := ti_addK l1 (1 : Int32) 1 rfl; have oy8 := o5.1; have oy9 := o8.1; have q8 := ti_add r3 r6 (by omega); exact ⟨by omega, fun c a b => if w : (c : Int) < l1.toInt then hi.2 c a w else (by rw [show c = l1.toInt.toNat by omega]; intro z; have z : ntS (h 3) (h 4) (h 5) (h 1 7).toInt.toNat 0 (h 1 6).toInt.toNat + ntS (h 3) (h 4) (h 5) (h 1 7).toInt.toNat l1.toInt.toNat (h 1 6).toInt.toNat = 0 := z; rw [show (0 : Int32).toInt.toNat = 0 from rfl] at oy8; omega)⟩) (by have : (0 : Int32).toInt = 0 := rfl; have := ti_addK l1 (1 : Int32) 1 rfl; omega)
      · have := ti_eqK 0 rfl c10
        exact ⟨Or.inr rfl, hq 1 (by have : (1 : Int32).toInt = 1 := rfl; have : (0 : Int32).toInt = 0 := rfl; show ((1 : Int32) = 0 ∨ (1 : Int32) = 1) ∧ (((1 : Int32).toInt = 1 ∧ mtA (ntC (h 3) (h 4) (h 5) (h 1 7).toInt.toNat (h 1 6).toInt.toNat) (h 1 6).toInt.toNat) ∨ ((1 : Int32).toInt = 0 ∧ ¬ mtA (ntC (h 3) (h 4) (h 5) (h 1 7).toInt.toNat (h 1 6).toInt.toNat) (h 1 6).toInt.toNat)); have oy8 := o5.1; have oy9 := o8.1; have q8 := ti_add r3 r6 (by omega); exact ⟨Or.inr rfl, Or.inl ⟨rfl, ⟨l1.toInt.toNat, by omega, by omega, (show ntS (h 3) (h 4) (h 5) (h 1 7).toInt.toNat 0 (h 1 6).toInt.toNat + ntS (h 3) (h 4) (h 5) (h 1 7).toInt.toNat l1.toInt.toNat (h 1 6).toInt.toNat = 0 by rw [show (0 : Int32).toInt.toNat = 0 from rfl] at oy8; omega)⟩⟩⟩)⟩
set_option maxRecDepth 100000 in
set_option maxHeartbeats 4000000 in
theorem ty_132 (X : qm_X) (h : qm_H) (hp : mq 1 h ∧ wc h) (Q : qm_Q) (hq : ∀ r : Int32, ((r = 0 ∨ r = 1) ∧ ((r.toInt = 1 ∧ mtA (ntC (h 3) (h 4) (h 5) (h 1 7).toInt.toNat (h 1 6).toInt.toNat) (h 1 6).toInt.toNat) ∨ (r.toInt = 0 ∧ ¬ mtA (ntC (h 3) (h 4) (h 5) (h 1 7).toInt.toNat (h 1 6).toInt.toNat) (h 1 6).toInt.toNat))) → Q (some (.int r)) h) : qm_PW X 132 [.ref 0] h Q := by
  have hm1 : mq 1 h := hp.1
  have ⟨⟨_, _⟩, ⟨_, _⟩, _, _⟩ := hm1
  have hmwc : wc h := hp.2
  have hkn := wf_kn (show wfM (mC h) from hmwc)
  have hkb : ∀ j : Nat, j < (h 1 7).toInt.toNat → 0 ≤ (h 5 j).toInt ∧ (h 5 j).toInt ≤ 99 := fun j q => hkn j (by omega)
  refine qm_seg_ok (C := qc_132) (rt := some .boolean) rfl rfl (cuts := [(2, [0, 1])]) 400 _ _ _ _ ?_
  show qm_PA X 132 2 [(0, .ref 0), (1, .int 1)] [] h Q
  exact (ty_132_c X h hp Q hq _) (1 : Int32) (by have : (1 : Int32).toInt = 1 := rfl; have h11 : (1 : Int32).toInt = 1 := rfl; exact ⟨by omega, fun c a b => absurd b (by omega)⟩) (Nat.lt_succ_self _)
-- ThreadBank.pays()I
set_option maxRecDepth 100000 in
set_option maxHeartbeats 4000000 in
theorem ty_109_c (X : qm_X) (h : qm_H) (hp : mq 1 h ∧ wc h) (Q : qm_Q) (hq : ∀ r : Int32, (r.toInt = qPays (mC h)) → Q (some (.int r)) h) : ∀ n : Nat, (∀ (l1 : Int32) (l2 : Int32), ((0 ≤ l2.toInt ∧ l2.toInt ≤ (h 1 6).toInt) ∧ l1.toInt = cntP (nzF (ntC (h 3) (h 4) (h 5) (h 1 7).toInt.toNat (h 1 6).toInt.toNat)) l2.toInt.toNat) → (4 - l2.toInt).toNat < n → qm_PA X 109 4 [(0, .ref 0), (1, .int l1), (2, .int l2)] [] h Q) := by
  have hm1 : mq 1 h := hp.1
  have ⟨⟨_, _⟩, ⟨_, _⟩, _, _⟩ := hm1
  have hmwc : wc h := hp.2
  have hkn := wf_kn (show wfM (mC h) from hmwc)
  have hkb : ∀ j : Nat, j < (h 1 7).toInt.toNat → 0 ≤ (h 5 j).toInt ∧ (h 5 j).toInt ≤ 99 := fun j q => hkn j (by omega)
  intro n
  induction n with
  | zero => exact fun _ _ _ h0 => absurd h0 (Nat.not_lt_zero _)
  | succ n ih =>
    intro l1 l2 hi hr
    have ti_l2 := ti_rng l2
    have hr1 := cntP_rng (P := nzF (ntC (h 3) (h 4) (h 5) (h 1 7).toInt.toNat (h 1 6).toInt.toNat)) (n := l2.toInt.toNat)
    refine qm_seg_ok (C := qc_109) (rt := some .int) rfl rfl (cuts := [(4, [0, 1, 2])]) 400 _ _ _ _ ?_
    show ((h 1 6).toInt ≤ l2.toInt → ((¬ l1 = 0 → ((¬ l1 = 4 → (Q (some (.int (l1 - 1))) h)) ∧ (l1 = 4 → (qm_PW X 132 [.ref 0] h _)))) ∧ (l1 = 0 → (Q (some (.int 0)) h)))) ∧ (l2.toInt < (h 1 6).toInt → (qm_PW X 55 [.ref 1, .int l2] h _))
    refine ⟨fun c1 => ?_, fun c2 => ?_⟩
    · refine ⟨fun c3 => ?_, fun c4 => ?_⟩
      · have := ti_neK 0 rfl c3
        refine ⟨fun c5 => ?_, fun c6 => ?_⟩
        · have := ti_neK 4 rfl c5
          exact hq (l1 - 1) (by have := ti_subK l1 (1 : Int32) 1 rfl; show (l1 - 1).toInt = qPays (mC h); have hz := hi.2; rw [show l2.toInt.toNat = (h 1 6).toInt.toNat by omega] at hz; have q7 := ti_subK l1 (1 : Int32) 1 rfl (by omega); exact q7.trans ((py_1 hz (by omega) (fun w => by omega)).trans (show qPays (mC h) = _ from pays_mk).symm))
        · have := ti_eqK 4 rfl c6
          refine ty_132 X h  ⟨hm1, hmwc⟩ _ (fun r7 p8 => ?_)
          have o9 : (r7 = 0 ∨ r7 = 1) ∧ ((r7.toInt = 1 ∧ mtA (ntC (h 3) (h 4) (h 5) (h 1 7).toInt.toNat (h 1 6).toInt.toNat) (h 1 6).toInt.toNat) ∨ (r7.toInt = 0 ∧ ¬ mtA (ntC (h 3) (h 4) (h 5) (h 1 7).toInt.toNat (h 1 6).toInt.toNat) (h 1 6).toInt.toNat)) := p8
          clear p8
          show (r7 = 0 → (Q (some (.int (l1 - 1))) h)) ∧ (¬ r7 = 0 → (Q (some (.int (l1 - 2))) h))
          refine ⟨fun c10 => ?_, fun c11 => ?_⟩
          · have := ti_eqK 0 rfl c10
            exact hq (l1 - 1) (by have := ti_subK l1 (1 : Int32) 1 rfl; show (l1 - 1).toInt = qPays (mC h); have hz := hi.2; rw [show l2.toInt.toNat = (h 1 6).toInt.toNat by omega] at hz; have q7 := ti_subK l1 (1 : Int32) 1 rfl (by omega); exact q7.trans ((py_1 hz (by omega) (fun w => ((o9.2.resolve_left (fun v => absurd v.1 (by omega))).2) w.2)).trans (show qPays (mC h) = _ from pays_mk).symm))
          · have := ti_neK 0 rfl c11
            exact hq (l1 - 2) (by have := ti_subK l1 (2 : Int32) 2 rfl; show (l1 - 2).toInt = qPays (mC h); have hz := hi.2; rw [show l2.toInt.toNat = (h 1 6).toInt.toNat by omega] at hz; have q7 := ti_subK l1 (2 : Int32) 2 rfl (by omega); exact q7.trans ((py_2 hz (by omega) ((o9.2.resolve_right (fun w => absurd w.1 (by omega))).2)).trans (show qPays (mC h) = _ from pays_mk).symm))
      · have := ti_eqK 0 rfl c4
        exact hq 0 (by have : (0 : Int32).toInt = 0 := rfl; show (0 : Int32).toInt = qPays (mC h); have hz := hi.2; rw [show l2.toInt.toNat = (h 1 6).toInt.toNat by omega] at hz; exact (show (0 : Int32).toInt = 0 from rfl).trans ((py_0 hz (by omega)).trans (show qPays (mC h) = _ from pays_mk).symm))
    · refine ty_55 X h l2 ⟨hm1, hmwc, (by show 0 ≤ l2.toInt ∧ l2.toInt < (h 1 6).toInt; omega)⟩ _ (fun r12 p13 => ?_)
      have o14 : r12.toInt = ntS (h 3) (h 4) (h 5) (h 1 7).toInt.toNat l2.toInt.toNat (h 1 6).toInt.toNat ∧ (-360 ≤ r12.toInt ∧ r12.toInt ≤ 360) := p13
      clear p13
      show (r12 = 0 → (qm_PA X 109 4 [(0, .ref 0), (1, .int l1), (2, .int (l2 + 1))] [] h Q)) ∧ (¬ r12 = 0 → (qm_PA X 109 4 [(0, .ref 0), (1, .int (l1 + 1)), (2, .int (l2 + 1))] [] h Q))
      refine ⟨fun c15 => ?_, fun c16 => ?_⟩
      · have := ti_eqK 0 rfl c15
        exact ih l1 (l2 + 1) (by have := ti_addK l2 (1 : Int32) 1 rfl; have e7 : (ntC (h 3) (h 4) (h 5) (h 1 7).toInt.toNat (h 1 6).toInt.toNat) l2.toInt.toNat = ntS (h 3) (h 4) (h 5) (h 1 7).toInt.toNat l2.toInt.toNat (h 1 6).toInt.toNat := rfl; have oy9 := o14.1; exact ⟨by omega, by rw [show (l2 + 1).toInt.toNat = l2.toInt.toNat + 1 by omega, cntP_f (P := nzF (ntC (h 3) (h 4) (h 5) (h 1 7).toInt.toNat (h 1 6).toInt.toNat)) (fun w => w (show (ntC (h 3) (h 4) (h 5) (h 1 7).toInt.toNat (h 1 6).toInt.toNat) l2.toInt.toNat = 0 by omega))]; omega⟩) (by have := ti_addK l2 (1 : Int32) 1 rfl; omega)
      · have := ti_neK 0 rfl c16
        exact ih (l1 + 1) (l2 + 1) (by have := ti_addK l2 (1 : Int32) 1 rfl; have := ti_addK l1 (1 : Int32) 1 rfl; have e7 : (ntC (h 3) (h 4) (h 5) (h 1 7).toInt.toNat (h 1 6).toInt.toNat) l2.toInt.toNat = ntS (h 3) (h 4) (h 5) (h 1 7).toInt.toNat l2.toInt.toNat (h 1 6).toInt.toNat := rfl; have oy9 := o14.1; exact ⟨by omega, by rw [show (l2 + 1).toInt.toNat = l2.toInt.toNat + 1 by omega, cntP_t (P := nzF (ntC (h 3) (h 4) (h 5) (h 1 7).toInt.toNat (h 1 6).toInt.toNat)) (show ¬ (ntC (h 3) (h 4) (h 5) (h 1 7).toInt.toNat (h 1 6).toInt.toNat) l2.toInt.toNat = 0 by omega)]; omega⟩) (by have := ti_addK l2 (1 : Int32) 1 rfl; omega)
set_option maxRecDepth 100000 in
set_option maxHeartbeats 4000000 in
theorem ty_109 (X : qm_X) (h : qm_H) (hp : mq 1 h ∧ wc h) (Q : qm_Q) (hq : ∀ r : Int32, (r.toInt = qPays (mC h)) → Q (some (.int r)) h) : qm_PW X 109 [.ref 0] h Q := by
  have hm1 : mq 1 h := hp.1
  have ⟨⟨_, _⟩, ⟨_, _⟩, _, _⟩ := hm1
  have hmwc : wc h := hp.2
  have hkn := wf_kn (show wfM (mC h) from hmwc)
  have hkb : ∀ j : Nat, j < (h 1 7).toInt.toNat → 0 ≤ (h 5 j).toInt ∧ (h 5 j).toInt ≤ 99 := fun j q => hkn j (by omega)
  refine qm_seg_ok (C := qc_109) (rt := some .int) rfl rfl (cuts := [(4, [0, 1, 2])]) 400 _ _ _ _ ?_
  show qm_PA X 109 4 [(0, .ref 0), (1, .int 0), (2, .int 0)] [] h Q
  exact (ty_109_c X h hp Q hq _) (0 : Int32) (0 : Int32) (by have : (0 : Int32).toInt = 0 := rfl; exact ⟨by have : (0 : Int32).toInt = 0 := rfl; omega, rfl⟩) (Nat.lt_succ_self _)
