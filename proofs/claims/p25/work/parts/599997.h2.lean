-- ThreadBank.copies()I
set_option maxRecDepth 100000 in
set_option maxHeartbeats 4000000 in
theorem ty_113_c (X : qm_X) (h : qm_H) (hp : mq 1 h ∧ wc h) (Q : qm_Q) (hq : ∀ r : Int32, (r.toInt = qCopies (mC h)) → Q (some (.int r)) h) : ∀ n : Nat, (∀ (l1 : Int32) (l2 : Int32) (l3 : Int32), ((0 ≤ l3.toInt ∧ l3.toInt ≤ (h 1 6).toInt) ∧ l1.toInt = sumI (rkN (h 3) (h 4) (h 5) (h 1 7).toInt.toNat) l3.toInt.toNat ∧ l2.toInt = sumI (lfN (h 2) (h 3) (h 1 7).toInt.toNat) l3.toInt.toNat) → (14 - l3.toInt).toNat < n → qm_PA X 113 6 [(0, .ref 0), (1, .int l1), (2, .int l2), (3, .int l3)] [] h Q) ∧ (∀ (l1 : Int32) (l2 : Int32) (l3 : Int32), ((0 ≤ l3.toInt ∧ l3.toInt ≤ (h 1 6).toInt) ∧ l1.toInt = sumI (rkN (h 3) (h 4) (h 5) (h 1 7).toInt.toNat) (h 1 6).toInt.toNat ∧ l2.toInt = sumI (lfN (h 2) (h 3) (h 1 7).toInt.toNat) (h 1 6).toInt.toNat ∧ cpA l1.toInt l2.toInt (h 1 7).toInt ∧ ∀ c : Nat, (c : Int) < l3.toInt → cpP (rkN (h 3) (h 4) (h 5) (h 1 7).toInt.toNat) (lfN (h 2) (h 3) (h 1 7).toInt.toNat) l2.toInt c) → (4 - l3.toInt).toNat < n → qm_PA X 113 71 [(0, .ref 0), (1, .int l1), (2, .int l2), (3, .int l3)] [] h Q) := by
  have hm1 : mq 1 h := hp.1
  have ⟨⟨_, _⟩, ⟨_, _⟩, _, _⟩ := hm1
  have hmwc : wc h := hp.2
  intro n
  induction n with
  | zero => exact ⟨fun _ _ _ _ h0 => absurd h0 (Nat.not_lt_zero _), fun _ _ _ _ h0 => absurd h0 (Nat.not_lt_zero _)⟩
  | succ n ih =>
    refine ⟨?_, ?_⟩
    · intro l1 l2 l3 hi hr
      have ti_l3 := ti_rng l3
      have hr1 := sumI_rng (f := rkN (h 3) (h 4) (h 5) (h 1 7).toInt.toNat) (m := 10) (fun j => rkN_rng (by omega)) l3.toInt.toNat
      have hr2 := sumI_rn2 (f := lfN (h 2) (h 3) (h 1 7).toInt.toNat) (lo := -10) (hi := 15) (fun j => lfN_rng (by omega)) l3.toInt.toNat
      refine qm_seg_ok (C := qc_113) (rt := some .int) rfl rfl (cuts := [(6, [0, 1, 2, 3]), (71, [0, 1, 2, 3])]) 400 _ _ _ _ ?_
      show ((h 1 6).toInt ≤ l3.toInt → ((l2.toInt < l1.toInt → (Q (some (.int (-4 : Int32))) h)) ∧ (l1.toInt ≤ l2.toInt → ((l1.toInt ≤ (10 - (h 1 7)).toInt → (qm_PA X 113 71 [(0, .ref 0), (1, .int l1), (2, .int l2), (3, .int 0)] [] h Q)) ∧ ((10 - (h 1 7)).toInt < l1.toInt → (Q (some (.int (-4 : Int32))) h)))))) ∧ (l3.toInt < (h 1 6).toInt → (qm_PW X 62 [.ref 1, .int (1 <<< (l3 &&& 31))] h _))
      refine ⟨fun c1 => ?_, fun c2 => ?_⟩
      · refine ⟨fun c3 => ?_, fun c4 => ?_⟩
        · exact hq (-4 : Int32) (by show (-4 : Int32).toInt = qCopies (mC h); rw [ti_n4]; have h1 := hi.2.1; have h2 := hi.2.2; rw [show l3.toInt.toNat = (h 1 6).toInt.toNat by omega] at h1 h2; exact (cp_n (th := (h 1 7).toInt) h1 h2 (fun w => by have w1 : l1.toInt ≤ l2.toInt ∧ l1.toInt ≤ 10 - (h 1 7).toInt := w.1; omega)).trans (show qCopies (mC h) = _ from copies_mk).symm)
        · refine ⟨fun c5 => ?_, fun c6 => ?_⟩
          · exact ih.2 l1 l2 (0 : Int32) (by have : (0 : Int32).toInt = 0 := rfl; have := ti_subL (h 1 7) (10 : Int32) 10 rfl; have h1 := hi.2.1; have h2 := hi.2.2; rw [show l3.toInt.toNat = (h 1 6).toInt.toNat by omega] at h1 h2; exact ⟨by have : (0 : Int32).toInt = 0 := rfl; omega, h1, h2, ⟨by omega, by omega⟩, fun c q => absurd q (by have : (0 : Int32).toInt = 0 := rfl; omega)⟩) (by have : (0 : Int32).toInt = 0 := rfl; have := ti_subL (h 1 7) (10 : Int32) 10 rfl; omega)
          · exact hq (-4 : Int32) (by have := ti_subL (h 1 7) (10 : Int32) 10 rfl; show (-4 : Int32).toInt = qCopies (mC h); rw [ti_n4]; have h1 := hi.2.1; have h2 := hi.2.2; rw [show l3.toInt.toNat = (h 1 6).toInt.toNat by omega] at h1 h2; exact (cp_n (th := (h 1 7).toInt) h1 h2 (fun w => by have w1 : l1.toInt ≤ l2.toInt ∧ l1.toInt ≤ 10 - (h 1 7).toInt := w.1; omega)).trans (show qCopies (mC h) = _ from copies_mk).symm)
      · refine ty_62 X h (1 <<< (l3 &&& 31)) ⟨hm1, hmwc⟩ _ (fun r7 p8 => ?_)
        have o9 : r7.toInt = cntP (rkA (h 3) (h 4) (h 5) (h 1 7).toInt.toNat (1 <<< (l3 &&& 31))) (h 1 7).toInt.toNat ∧ (0 ≤ r7.toInt ∧ r7.toInt ≤ 10) := p8
        clear p8
        show qm_PW X 41 [.ref 1, .int l3] h _
        refine ty_41 X h l3 ⟨hm1, (by show 0 ≤ l3.toInt ∧ l3.toInt < (h 1 6).toInt; omega)⟩ _ (fun r10 p11 => ?_)
        have o12 : r10.toInt = lfN (h 2) (h 3) (h 1 7).toInt.toNat l3.toInt.toNat ∧ (-10 ≤ r10.toInt ∧ r10.toInt ≤ 15) := p11
        clear p11
        show qm_PA X 113 6 [(0, .ref 0), (1, .int (l1 + r7)), (2, .int (l2 + r10)), (3, .int (l3 + 1))] [] h Q
        exact ih.1 (l1 + r7) (l2 + r10) (l3 + 1) (by have := ti_addK l3 (1 : Int32) 1 rfl; have := ti_add l1 r7; have := ti_add l2 r10; have hk9 := rk_sh (c := l3) (k := l3.toInt.toNat) (by omega) o9.1; have hl9 := o12.1; exact ⟨by omega, by rw [show (l3 + 1).toInt.toNat = l3.toInt.toNat + 1 by omega, sumI_s, sumI_s]; exact ⟨by omega, by omega⟩⟩) (by have := ti_addK l3 (1 : Int32) 1 rfl; omega)
    · intro l1 l2 l3 hi hr
      have ti_l3 := ti_rng l3
      have hr1 := sumI_rng (f := rkN (h 3) (h 4) (h 5) (h 1 7).toInt.toNat) (m := 10) (fun j => rkN_rng (by omega)) (h 1 6).toInt.toNat
      have hr2 := sumI_rn2 (f := lfN (h 2) (h 3) (h 1 7).toInt.toNat) (lo := -10) (hi := 15) (fun j => lfN_rng (by omega)) (h 1 6).toInt.toNat
      refine qm_seg_ok (C := qc_113) (rt := some .int) rfl rfl (cuts := [(6, [0, 1, 2, 3]), (71, [0, 1, 2, 3])]) 400 _ _ _ _ ?_
      show ((h 1 6).toInt ≤ l3.toInt → (Q (some (.int l1)) h)) ∧ (l3.toInt < (h 1 6).toInt → (qm_PW X 62 [.ref 1, .int (1 <<< (l3 &&& 31))] h _))
      refine ⟨fun c1 => ?_, fun c2 => ?_⟩
      · exact hq l1 (by show l1.toInt = qCopies (mC h); exact (cp_y hi.2.1 hi.2.2.1 hi.2.2.2.1 (fun c q => hi.2.2.2.2 c (by omega))).trans (show qCopies (mC h) = _ from copies_mk).symm)
      · refine ty_62 X h (1 <<< (l3 &&& 31)) ⟨hm1, hmwc⟩ _ (fun r3 p4 => ?_)
        have o5 : r3.toInt = cntP (rkA (h 3) (h 4) (h 5) (h 1 7).toInt.toNat (1 <<< (l3 &&& 31))) (h 1 7).toInt.toNat ∧ (0 ≤ r3.toInt ∧ r3.toInt ≤ 10) := p4
        clear p4
        show qm_PW X 41 [.ref 1, .int l3] h _
        refine ty_41 X h l3 ⟨hm1, (by show 0 ≤ l3.toInt ∧ l3.toInt < (h 1 6).toInt; omega)⟩ _ (fun r6 p7 => ?_)
        have o8 : r6.toInt = lfN (h 2) (h 3) (h 1 7).toInt.toNat l3.toInt.toNat ∧ (-10 ≤ r6.toInt ∧ r6.toInt ≤ 15) := p7
        clear p7
        show (r3.toInt ≤ (l2 - r6).toInt → (qm_PA X 113 71 [(0, .ref 0), (1, .int l1), (2, .int l2), (3, .int (l3 + 1))] [] h Q)) ∧ ((l2 - r6).toInt < r3.toInt → (Q (some (.int (-4 : Int32))) h))
        refine ⟨fun c9 => ?_, fun c10 => ?_⟩
        · exact ih.2 l1 l2 (l3 + 1) (by have := ti_addK l3 (1 : Int32) 1 rfl; have := ti_sub l2 r6; have hk9 := rk_sh (c := l3) (k := l3.toInt.toNat) (by omega) o5.1; have hl9 := o8.1; exact ⟨by omega, hi.2.1, hi.2.2.1, hi.2.2.2.1, fun c q => if w : (c : Int) < l3.toInt then hi.2.2.2.2 c w else (by rw [show c = l3.toInt.toNat by omega]; unfold cpP; omega)⟩) (by have := ti_addK l3 (1 : Int32) 1 rfl; have := ti_sub l2 r6; omega)
        · exact hq (-4 : Int32) (by have := ti_sub l2 r6; show (-4 : Int32).toInt = qCopies (mC h); rw [ti_n4]; have hk9 := rk_sh (c := l3) (k := l3.toInt.toNat) (by omega) o5.1; have hl9 := o8.1; exact (cp_n (th := (h 1 7).toInt) hi.2.1 hi.2.2.1 (fun w => by have w2 := w.2 l3.toInt.toNat (by omega); unfold cpP at w2; omega)).trans (show qCopies (mC h) = _ from copies_mk).symm)
set_option maxRecDepth 100000 in
set_option maxHeartbeats 4000000 in
theorem ty_113 (X : qm_X) (h : qm_H) (hp : mq 1 h ∧ wc h) (Q : qm_Q) (hq : ∀ r : Int32, (r.toInt = qCopies (mC h)) → Q (some (.int r)) h) : qm_PW X 113 [.ref 0] h Q := by
  have hm1 : mq 1 h := hp.1
  have ⟨⟨_, _⟩, ⟨_, _⟩, _, _⟩ := hm1
  have hmwc : wc h := hp.2
  refine qm_seg_ok (C := qc_113) (rt := some .int) rfl rfl (cuts := [(6, [0, 1, 2, 3]), (71, [0, 1, 2, 3])]) 400 _ _ _ _ ?_
  show qm_PA X 113 6 [(0, .ref 0), (1, .int 0), (2, .int 0), (3, .int 0)] [] h Q
  exact (ty_113_c X h hp Q hq _).1 (0 : Int32) (0 : Int32) (0 : Int32) (by have : (0 : Int32).toInt = 0 := rfl; exact ⟨by have : (0 : Int32).toInt = 0 := rfl; omega, rfl, rfl⟩) (Nat.lt_succ_self _)
