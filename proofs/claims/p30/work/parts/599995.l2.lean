-- ThreadBankModel.slipOf(II)I
set_option maxRecDepth 100000 in
set_option maxHeartbeats 4000000 in
theorem ty_221 (X : qm_X) (h : qm_H) (a : Int32) (b : Int32) (hp : am h ∧ ((0 ≤ a.toInt ∧ a.toInt ≤ 9) ∧ 0 ≤ b.toInt ∧ b.toInt ≤ 10)) (Q : qm_Q) (hq : ∀ r : Int32, (r.toInt = slO (h 41) (fun t => (h 41 (6 + 3 * t))) b.toInt a.toInt.toNat) → Q (some (.int r)) h) : qm_PW X 221 [.ref 39, .int a, .int b] h Q := by
  have hmam : am h := hp.1
  have ⟨⟨_, _⟩, ⟨_, _⟩, _, _, _⟩ := hmam
  have hp0 : (0 ≤ a.toInt ∧ a.toInt ≤ 9) ∧ 0 ≤ b.toInt ∧ b.toInt ≤ 10 := hp.2
  refine qm_seg_ok (C := qc_221) (rt := some .int) rfl rfl (cuts := []) 400 _ _ _ _ ?_
  show qm_PW X 172 [.ref 39, .int a] h _
  refine ty_172 X h a ⟨hmam, (by omega)⟩ _ (fun r1 p2 => ?_)
  have o3 : r1.toInt = ((h 41 (6 + 3 * a.toInt.toNat)) / 10).toInt ∧ (0 ≤ r1.toInt ∧ r1.toInt ≤ 3) := p2
  clear p2
  show (0 ≤ (0 + r1).toInt ∧ (0 + r1).toInt < 49) ∧ ((¬ (h 41 (0 + r1).toInt.toNat) = 3 → ((¬ (h 41 (0 + r1).toInt.toNat) = 2 → (Q (some (.int (2 * b))) h)) ∧ ((h 41 (0 + r1).toInt.toNat) = 2 → (Q (some (.int b)) h)))) ∧ ((h 41 (0 + r1).toInt.toNat) = 3 → (Q (some (.int 0)) h)))
  refine ⟨(by have := ti_addL r1 (0 : Int32) 0 rfl; have := ti_div (10 : Int32) 10 rfl (h 41 (6 + 3 * a.toInt.toNat)) (by decide); omega), ?_⟩
  refine ⟨fun c4 => ?_, fun c5 => ?_⟩
  · have := ti_neK 3 rfl c4
    refine ⟨fun c6 => ?_, fun c7 => ?_⟩
    · have := ti_neK 2 rfl c6
      exact hq (2 * b) (by have := ti_mulL (2 : Int32) 2 rfl b; have := ti_div (10 : Int32) 10 rfl (h 41 (6 + 3 * a.toInt.toNat)) (by decide); have := ti_addL r1 (0 : Int32) 0 rfl; show (2 * b).toInt = slO (h 41) (fun t => (h 41 (6 + 3 * t))) b.toInt a.toInt.toNat; have q0 := ti_addL r1 (0 : Int32) 0 rfl; have hE : (h 41 (0 + r1).toInt.toNat).toInt = (h 41 ((h 41 (6 + 3 * a.toInt.toNat)) / 10).toInt.toNat).toInt := (by rw [show (0 + r1).toInt.toNat = ((h 41 (6 + 3 * a.toInt.toNat)) / 10).toInt.toNat by omega]); have q5 := ti_mulL (2 : Int32) 2 rfl b (by omega); exact q5.trans (slO_d (kd := h 41) (pl := fun t => h 41 (6 + 3 * t)) hE (by omega) (by omega)).symm)
    · have := ti_eqK 2 rfl c7
      exact hq b (by have := ti_div (10 : Int32) 10 rfl (h 41 (6 + 3 * a.toInt.toNat)) (by decide); have := ti_addL r1 (0 : Int32) 0 rfl; show b.toInt = slO (h 41) (fun t => (h 41 (6 + 3 * t))) b.toInt a.toInt.toNat; have q0 := ti_addL r1 (0 : Int32) 0 rfl; have hE : (h 41 (0 + r1).toInt.toNat).toInt = (h 41 ((h 41 (6 + 3 * a.toInt.toNat)) / 10).toInt.toNat).toInt := (by rw [show (0 + r1).toInt.toNat = ((h 41 (6 + 3 * a.toInt.toNat)) / 10).toInt.toNat by omega]); exact (slO_2 (kd := h 41) (pl := fun t => h 41 (6 + 3 * t)) hE (by omega)).symm)
  · have := ti_eqK 3 rfl c5
    exact hq 0 (by have : (0 : Int32).toInt = 0 := rfl; have := ti_div (10 : Int32) 10 rfl (h 41 (6 + 3 * a.toInt.toNat)) (by decide); have := ti_addL r1 (0 : Int32) 0 rfl; show (0 : Int32).toInt = slO (h 41) (fun t => (h 41 (6 + 3 * t))) b.toInt a.toInt.toNat; have q0 := ti_addL r1 (0 : Int32) 0 rfl; have hE : (h 41 (0 + r1).toInt.toNat).toInt = (h 41 ((h 41 (6 + 3 * a.toInt.toNat)) / 10).toInt.toNat).toInt := (by rw [show (0 + r1).toInt.toNat = ((h 41 (6 + 3 * a.toInt.toNat)) / 10).toInt.toNat by omega]); exact (show (0 : Int32).toInt = 0 from rfl).trans (slO_3 (kd := h 41) (pl := fun t => h 41 (6 + 3 * t)) hE (by omega)).symm)
-- ThreadBankModel.slips(II)J
set_option maxRecDepth 100000 in
set_option maxHeartbeats 4000000 in
theorem ty_223_c (X : qm_X) (h : qm_H) (a : Int32) (b : Int32) (hp : mi h ∧ sm h ∧ zs h ∧ rw_ h ∧ wr h) (Q : qm_Q) (hq : ∀ r : Int64, ∀ h' : qm_H, (mi h' ∧ sm h' ∧ zs h' ∧ rw_ h' ∧ (∀ k, (k < 41 ∨ 41 < k) → h' k = h k) ∧ (r.toInt = qSlips a.toInt b.toInt (mR h))) → Q (some (.long r)) h') : ∀ n : Nat, (∀ (l3 : Int64) (l5 : Int32) (g : qm_H), ((((0 ≤ l5.toInt ∧ l5.toInt ≤ (h 40 4).toInt) ∧ (0 ≤ a.toInt ∧ a.toInt ≤ 10) ∧ 0 ≤ b.toInt ∧ b.toInt ≤ 1) ∧ lgE l3 (sumI (slO (h 40) (fun t => h 40 (6 + 3 * t)) a.toInt) l5.toInt.toNat) ∧ (∀ j : Nat, j < 49 → g 41 j = h 40 j)) ∧ mi g ∧ sm g ∧ zs g ∧ rw_ g ∧ am g ∧ ∀ k, (k < 41 ∨ 41 < k) → g k = h k) → (10 - l5.toInt).toNat < n → qm_PA X 223 32 [(0, .ref 39), (1, .int a), (2, .int b), (3, .long l3), (5, .int l5)] [] g Q) := by
  have hmmi : mi h := hp.1
  have ⟨⟨_, _⟩, ⟨_, _⟩, ⟨_, _⟩, ⟨_, _⟩, _, _⟩ := hmmi
  have hmsm : sm h := hp.2.1
  have ⟨⟨⟨_, _⟩, _, _⟩, _, _, _⟩ := hmsm
  have hmzs : zs h := hp.2.2.1
  have hmrw : rw_ h := hp.2.2.2.1
  have hmwr : wr h := hp.2.2.2.2
  intro n
  induction n with
  | zero => exact fun _ _ _ _ h0 => absurd h0 (Nat.not_lt_zero _)
  | succ n ih =>
    intro l3 l5 g hi hr
    obtain ⟨hi0, hgmi, hgsm, hgzs, hgrw, hgam, hgf⟩ := hi
    have ⟨⟨_, _⟩, ⟨_, _⟩, ⟨_, _⟩, ⟨_, _⟩, _, _⟩ := hgmi
    have ⟨⟨⟨_, _⟩, _, _⟩, _, _, _⟩ := hgsm
    have ⟨⟨_, _⟩, ⟨_, _⟩, _, _, _⟩ := hgam
    have ti_l5 := ti_rng l5
    have e4_g : (g 41 4).toInt = (h 40 4).toInt := congrArg Int32.toInt (hi0.2.2 4 (by decide))
    refine qm_seg_ok (C := qc_223) (rt := some .long) rfl rfl (cuts := [(32, [0, 1, 2, 3, 5])]) 400 _ _ _ _ ?_
    show (0 ≤ (4 : Int) ∧ (4 : Int) < 49) ∧ (((g 41 4).toInt ≤ l5.toInt → (qm_PW X 220 [.long l3, .long 20, .int b] g _)) ∧ (l5.toInt < (g 41 4).toInt → (qm_PW X 221 [.ref 39, .int l5, .int a] g _)))
    refine ⟨by decide, ?_⟩
    refine ⟨fun c1 => ?_, fun c2 => ?_⟩
    · refine ty_220 X g (l3 : Int64) (20 : Int64) b ⟨sl_end hi0.2.1 (by omega) (by omega), lgP_20⟩ _ (fun r3 p4 => ?_)
      have o5 : tgL (l3 : Int64) (20 : Int64) b r3 := p4
      clear p4
      show Q (some (.long r3)) g
      exact hq r3 g ⟨hgmi, hgsm, hgzs, hgrw, (fun k hk => hgf k hk), (by show r3.toInt = qSlips a.toInt b.toInt (mR h); have hz := hi0.2.1; rw [show l5.toInt.toNat = (h 40 4).toInt.toNat by omega] at hz; exact (tg_of o5 hz lgE_20).trans (show qSlips a.toInt b.toInt (mR h) = _ from slips_ok hmwr ⟨by omega, by omega⟩).symm)⟩
    · refine ty_221 X g l5 a ⟨hgam, (by omega)⟩ _ (fun r6 p7 => ?_)
      have o8 : r6.toInt = slO (g 41) (fun t => (g 41 (6 + 3 * t))) a.toInt l5.toInt.toNat := p7
      clear p7
      show qm_PA X 223 32 [(0, .ref 39), (1, .int a), (2, .int b), (3, .long (l3 + (Int32.toInt64 r6))), (5, .int (l5 + 1))] [] g Q
      exact ih (l3 + (Int32.toInt64 r6)) (l5 + 1) g ⟨(by have := ti_addK l5 (1 : Int32) 1 rfl; have := i64 r6; show ((0 ≤ (l5 + 1).toInt ∧ (l5 + 1).toInt ≤ (h 40 4).toInt) ∧ (0 ≤ a.toInt ∧ a.toInt ≤ 10) ∧ 0 ≤ b.toInt ∧ b.toInt ≤ 1) ∧ lgE (l3 + (Int32.toInt64 r6)) (sumI (slO (h 40) (fun t => h 40 (6 + 3 * t)) a.toInt) (l5 + 1).toInt.toNat) ∧ (∀ j : Nat, j < 49 → g 41 j = h 40 j); have hh9 := wf_hd (show wfM (mR h) from hmwr) (j := l5.toInt.toNat) (by show ((l5.toInt.toNat : Nat) : Int) < (h 40 4).toInt; omega); have hs8 := (o8).trans (slO_41 (t := l5.toInt.toNat) hi0.2.2 (by omega) ⟨hh9.1, by omega⟩); exact ⟨by omega, by rw [show (l5 + 1).toInt.toNat = l5.toInt.toNat + 1 by omega]; exact sl_y hi0.2.1 (by omega) (by omega) hs8, hi0.2.2⟩), hgmi, hgsm, hgzs, hgrw, hgam, (fun k hk => hgf k hk)⟩ (by have := ti_addK l5 (1 : Int32) 1 rfl; show (10 - (l5 + 1).toInt).toNat < n; omega)
set_option maxRecDepth 100000 in
set_option maxHeartbeats 4000000 in
theorem ty_223 (X : qm_X) (h : qm_H) (a : Int32) (b : Int32) (hp : mi h ∧ sm h ∧ zs h ∧ rw_ h ∧ wr h) (Q : qm_Q) (hq : ∀ r : Int64, ∀ h' : qm_H, (mi h' ∧ sm h' ∧ zs h' ∧ rw_ h' ∧ (∀ k, (k < 41 ∨ 41 < k) → h' k = h k) ∧ (r.toInt = qSlips a.toInt b.toInt (mR h))) → Q (some (.long r)) h') : qm_PW X 223 [.ref 39, .int a, .int b] h Q := by
  have hmmi : mi h := hp.1
  have ⟨⟨_, _⟩, ⟨_, _⟩, ⟨_, _⟩, ⟨_, _⟩, _, _⟩ := hmmi
  have hmsm : sm h := hp.2.1
  have ⟨⟨⟨_, _⟩, _, _⟩, _, _, _⟩ := hmsm
  have hmzs : zs h := hp.2.2.1
  have hmrw : rw_ h := hp.2.2.2.1
  have hmwr : wr h := hp.2.2.2.2
  refine qm_seg_ok (C := qc_223) (rt := some .long) rfl rfl (cuts := [(32, [0, 1, 2, 3, 5])]) 400 _ _ _ _ ?_
  show qm_PW X 141 [.long (Int32.toInt64 a), .long 0, .long 10] h _
  refine sf_141 X h ((Int32.toInt64 a) : Int64) (0 : Int64) (10 : Int64) trivial _ (fun r1 p2 => ?_)
  have o3 : ¬ r1.toInt = 0 → (0 : Int64).toInt ≤ (Int32.toInt64 a).toInt ∧ (Int32.toInt64 a).toInt ≤ (10 : Int64).toInt := fun hc => p2.2.1 (fun e => hc (ti_eqK 0 rfl e))
  have o4 : r1.toInt = 0 → (Int32.toInt64 a).toInt < (0 : Int64).toInt ∨ (10 : Int64).toInt < (Int32.toInt64 a).toInt := fun hc => p2.2.2 (Int32.toInt_inj.mp hc)
  show (r1 = 0 → (Q (some (.long (-1 : Int64))) h)) ∧ (¬ r1 = 0 → (qm_PW X 168 [.int b] h _))
  refine ⟨fun c5 => ?_, fun c6 => ?_⟩
  · have := p2.2.2 c5
    have := ti_eqK 0 rfl c5
    exact hq (-1 : Int64) h ⟨hmmi, hmsm, hmzs, hmrw, (fun k hk => rfl), (by have : (0 : Int64).toInt = 0 := rfl; have : (10 : Int64).toInt = 10 := rfl; have := i64 a; show (-1 : Int64).toInt = qSlips a.toInt b.toInt (mR h); have := i64 a; have : (0 : Int64).toInt = 0 := rfl; have : (10 : Int64).toInt = 10 := rfl; exact lgE_n1.trans (slips_no (by unfold odW; omega)).symm)⟩
  · have := p2.2.1 c6
    have := ti_neK 0 rfl c6
    refine ty_168 X h b trivial _ (fun r7 p8 => ?_)
    have o9 : (r7 = 0 ∨ r7 = 1) ∧ ((r7.toInt = 1 ∧ 0 ≤ b.toInt ∧ b.toInt ≤ 1) ∨ (r7.toInt = 0 ∧ ¬ (0 ≤ b.toInt ∧ b.toInt ≤ 1))) := p8
    clear p8
    show (¬ r7 = 0 → (qm_PW X 169 [.ref 39] h _)) ∧ (r7 = 0 → (Q (some (.long (-1 : Int64))) h))
    refine ⟨fun c10 => ?_, fun c11 => ?_⟩
    · have := ti_neK 0 rfl c10
      refine sf_169_39 X h  hmsm _ (fun g12 p13 => ?_)
      obtain ⟨p13_0, p13_1, p13_2⟩ := p13
      have f14 : ∀ k, (k < 41 ∨ 41 < k) → g12 k = h k := fun k hk => (p13_1 k (by omega)).trans (rfl)
      have k15 : mi g12 := by unfold mi; rw [p13_1 39 (by omega)]; exact hmmi
      have k16 : sm g12 := by unfold sm; rw [p13_1 40 (by omega)]; exact hmsm
      have k17 : zs g12 := by unfold zs; rw [p13_1 49 (by omega)]; exact hmzs
      have k18 : rw_ g12 := by unfold rw_; rw [p13_1 46 (by omega)]; exact hmrw
      have k19 : wr g12 := wf_tr2 hmwr (mR_of (congrFun (p13_1 39 (by omega)) 3) (p13_1 40 (by omega)))
      have o20 : (∀ j : Nat, j < 49 → g12 41 j = h 40 j) := p13_2
      clear p13_2
      have w39_g12 : g12 39 = h 39 := (p13_1 39 (by omega))
      have w40_g12 : g12 40 = h 40 := (p13_1 40 (by omega))
      have sA_g12 : ∀ j : Nat, j < 49 → g12 41 j = h 40 j := o20
      have s4_g12 : (g12 41 4).toInt = (h 40 4).toInt := congrArg Int32.toInt (sA_g12 4 (by decide))
      show qm_PA X 223 32 [(0, .ref 39), (1, .int a), (2, .int b), (3, .long 0), (5, .int 0)] [] g12 Q
      exact (ty_223_c X h a b hp Q hq _) (0 : Int64) (0 : Int32) g12 ⟨(by have : (0 : Int32).toInt = 0 := rfl; have : (0 : Int64).toInt = 0 := rfl; have : (10 : Int64).toInt = 10 := rfl; have := i64 a; show ((0 ≤ (0 : Int32).toInt ∧ (0 : Int32).toInt ≤ (h 40 4).toInt) ∧ (0 ≤ a.toInt ∧ a.toInt ≤ 10) ∧ 0 ≤ b.toInt ∧ b.toInt ≤ 1) ∧ lgE (0 : Int64) (sumI (slO (h 40) (fun t => h 40 (6 + 3 * t)) a.toInt) (0 : Int32).toInt.toNat) ∧ (∀ j : Nat, j < 49 → g12 41 j = h 40 j); have := i64 a; have : (0 : Int64).toInt = 0 := rfl; have : (10 : Int64).toInt = 10 := rfl; exact ⟨by have : (0 : Int32).toInt = 0 := rfl; omega, rfl, sA_g12⟩), k15, k16, k17, k18, p13_0, (fun k hk => f14 k hk)⟩ (Nat.lt_succ_self _)
    · have := ti_eqK 0 rfl c11
      exact hq (-1 : Int64) h ⟨hmmi, hmsm, hmzs, hmrw, (fun k hk => rfl), (by have : (0 : Int64).toInt = 0 := rfl; have : (10 : Int64).toInt = 10 := rfl; have := i64 a; show (-1 : Int64).toInt = qSlips a.toInt b.toInt (mR h); have := i64 a; have : (0 : Int64).toInt = 0 := rfl; have : (10 : Int64).toInt = 10 := rfl; exact lgE_n1.trans (slips_no (by unfold odW; omega)).symm)⟩
-- ThreadBankModel.none(II)J
set_option maxRecDepth 100000 in
set_option maxHeartbeats 4000000 in
theorem ty_224_c (X : qm_X) (h : qm_H) (a : Int32) (b : Int32) (hp : mi h ∧ sm h ∧ zs h ∧ rw_ h ∧ wr h) (Q : qm_Q) (hq : ∀ r : Int64, ∀ h' : qm_H, (mi h' ∧ sm h' ∧ zs h' ∧ rw_ h' ∧ (∀ k, (k < 41 ∨ 41 < k) → h' k = h k) ∧ (r.toInt = qNone a.toInt b.toInt (mR h))) → Q (some (.long r)) h') : ∀ n : Nat, (∀ (l3 : Int64) (l5 : Int64) (l7 : Int32) (g : qm_H), ((((0 ≤ l7.toInt ∧ l7.toInt ≤ (h 40 4).toInt) ∧ (0 ≤ a.toInt ∧ a.toInt ≤ 10) ∧ 0 ≤ b.toInt ∧ b.toInt ≤ 1) ∧ lgE l3 (pdI (stO (h 40) (fun t => h 40 (6 + 3 * t)) a.toInt) l7.toInt.toNat) ∧ lgE l5 (pdI c20 l7.toInt.toNat) ∧ (∀ j : Nat, j < 49 → g 41 j = h 40 j)) ∧ mi g ∧ sm g ∧ zs g ∧ rw_ g ∧ am g ∧ ∀ k, (k < 41 ∨ 41 < k) → g k = h k) → (10 - l7.toInt).toNat < n → qm_PA X 224 35 [(0, .ref 39), (1, .int a), (2, .int b), (3, .long l3), (5, .long l5), (7, .int l7)] [] g Q) := by
  have hmmi : mi h := hp.1
  have ⟨⟨_, _⟩, ⟨_, _⟩, ⟨_, _⟩, ⟨_, _⟩, _, _⟩ := hmmi
  have hmsm : sm h := hp.2.1
  have ⟨⟨⟨_, _⟩, _, _⟩, _, _, _⟩ := hmsm
  have hmzs : zs h := hp.2.2.1
  have hmrw : rw_ h := hp.2.2.2.1
  have hmwr : wr h := hp.2.2.2.2
  intro n
  induction n with
  | zero => exact fun _ _ _ _ _ h0 => absurd h0 (Nat.not_lt_zero _)
  | succ n ih =>
    intro l3 l5 l7 g hi hr
    obtain ⟨hi0, hgmi, hgsm, hgzs, hgrw, hgam, hgf⟩ := hi
    have ⟨⟨_, _⟩, ⟨_, _⟩, ⟨_, _⟩, ⟨_, _⟩, _, _⟩ := hgmi
    have ⟨⟨⟨_, _⟩, _, _⟩, _, _, _⟩ := hgsm
    have ⟨⟨_, _⟩, ⟨_, _⟩, _, _, _⟩ := hgam
    have ti_l7 := ti_rng l7
    have e4_g : (g 41 4).toInt = (h 40 4).toInt := congrArg Int32.toInt (hi0.2.2.2 4 (by decide))
    refine qm_seg_ok (C := qc_224) (rt := some .long) rfl rfl (cuts := [(35, [0, 1, 2, 3, 5, 7])]) 400 _ _ _ _ ?_
    show (0 ≤ (4 : Int) ∧ (4 : Int) < 49) ∧ (((g 41 4).toInt ≤ l7.toInt → (qm_PW X 220 [.long l3, .long l5, .int b] g _)) ∧ (l7.toInt < (g 41 4).toInt → (qm_PW X 221 [.ref 39, .int l7, .int a] g _)))
    refine ⟨by decide, ?_⟩
    refine ⟨fun c1 => ?_, fun c2 => ?_⟩
    · refine ty_220 X g (l3 : Int64) (l5 : Int64) b (no_end hi0.2.1 hi0.2.2.1 (by omega) (by omega)) _ (fun r3 p4 => ?_)
      have o5 : tgL (l3 : Int64) (l5 : Int64) b r3 := p4
      clear p4
      show Q (some (.long r3)) g
      exact hq r3 g ⟨hgmi, hgsm, hgzs, hgrw, (fun k hk => hgf k hk), (by show r3.toInt = qNone a.toInt b.toInt (mR h); have hz := hi0.2; rw [show l7.toInt.toNat = (h 40 4).toInt.toNat by omega] at hz; exact (tg_of o5 hz.1 hz.2.1).trans (show qNone a.toInt b.toInt (mR h) = _ from none_ok hmwr ⟨by omega, by omega⟩).symm)⟩
    · refine ty_221 X g l7 a ⟨hgam, (by omega)⟩ _ (fun r6 p7 => ?_)
      have o8 : r6.toInt = slO (g 41) (fun t => (g 41 (6 + 3 * t))) a.toInt l7.toInt.toNat := p7
      clear p7
      show qm_PA X 224 35 [(0, .ref 39), (1, .int a), (2, .int b), (3, .long (l3 * (Int32.toInt64 (20 - r6)))), (5, .long (l5 * 20)), (7, .int (l7 + 1))] [] g Q
      exact ih (l3 * (Int32.toInt64 (20 - r6))) (l5 * 20) (l7 + 1) g ⟨(by have := ti_addK l7 (1 : Int32) 1 rfl; have := ti_subL r6 (20 : Int32) 20 rfl; have := i64 (20 - r6); show ((0 ≤ (l7 + 1).toInt ∧ (l7 + 1).toInt ≤ (h 40 4).toInt) ∧ (0 ≤ a.toInt ∧ a.toInt ≤ 10) ∧ 0 ≤ b.toInt ∧ b.toInt ≤ 1) ∧ lgE (l3 * (Int32.toInt64 (20 - r6))) (pdI (stO (h 40) (fun t => h 40 (6 + 3 * t)) a.toInt) (l7 + 1).toInt.toNat) ∧ lgE (l5 * 20) (pdI c20 (l7 + 1).toInt.toNat) ∧ (∀ j : Nat, j < 49 → g 41 j = h 40 j); have hh9 := wf_hd (show wfM (mR h) from hmwr) (j := l7.toInt.toNat) (by show ((l7.toInt.toNat : Nat) : Int) < (h 40 4).toInt; omega); have hs8 := (o8).trans (slO_41 (t := l7.toInt.toNat) hi0.2.2.2 (by omega) ⟨hh9.1, by omega⟩); have hr9 := slO_rng (kd := h 40) (pl := fun t => h 40 (6 + 3 * t)) (v := a.toInt) (t := l7.toInt.toNat) (by omega); have q7 := ti_subL r6 (20 : Int32) 20 rfl (by omega); have hs7 : (20 - r6).toInt = 20 - slO (h 40) (fun t => h 40 (6 + 3 * t)) a.toInt l7.toInt.toNat := (by omega); rw [show (l7 + 1).toInt.toNat = l7.toInt.toNat + 1 by omega]; exact ⟨by omega, no_y hi0.2.1 (by omega) (by omega) hs7, no_y20 hi0.2.2.1 (by omega), hi0.2.2.2⟩), hgmi, hgsm, hgzs, hgrw, hgam, (fun k hk => hgf k hk)⟩ (by have := ti_addK l7 (1 : Int32) 1 rfl; show (10 - (l7 + 1).toInt).toNat < n; omega)
set_option maxRecDepth 100000 in
set_option maxHeartbeats 4000000 in
theorem ty_224 (X : qm_X) (h : qm_H) (a : Int32) (b : Int32) (hp : mi h ∧ sm h ∧ zs h ∧ rw_ h ∧ wr h) (Q : qm_Q) (hq : ∀ r : Int64, ∀ h' : qm_H, (mi h' ∧ sm h' ∧ zs h' ∧ rw_ h' ∧ (∀ k, (k < 41 ∨ 41 < k) → h' k = h k) ∧ (r.toInt = qNone a.toInt b.toInt (mR h))) → Q (some (.long r)) h') : qm_PW X 224 [.ref 39, .int a, .int b] h Q := by
  have hmmi : mi h := hp.1
  have ⟨⟨_, _⟩, ⟨_, _⟩, ⟨_, _⟩, ⟨_, _⟩, _, _⟩ := hmmi
  have hmsm : sm h := hp.2.1
  have ⟨⟨⟨_, _⟩, _, _⟩, _, _, _⟩ := hmsm
  have hmzs : zs h := hp.2.2.1
  have hmrw : rw_ h := hp.2.2.2.1
  have hmwr : wr h := hp.2.2.2.2
  refine qm_seg_ok (C := qc_224) (rt := some .long) rfl rfl (cuts := [(35, [0, 1, 2, 3, 5, 7])]) 400 _ _ _ _ ?_
  show qm_PW X 141 [.long (Int32.toInt64 a), .long 0, .long 10] h _
  refine sf_141 X h ((Int32.toInt64 a) : Int64) (0 : Int64) (10 : Int64) trivial _ (fun r1 p2 => ?_)
  have o3 : ¬ r1.toInt = 0 → (0 : Int64).toInt ≤ (Int32.toInt64 a).toInt ∧ (Int32.toInt64 a).toInt ≤ (10 : Int64).toInt := fun hc => p2.2.1 (fun e => hc (ti_eqK 0 rfl e))
  have o4 : r1.toInt = 0 → (Int32.toInt64 a).toInt < (0 : Int64).toInt ∨ (10 : Int64).toInt < (Int32.toInt64 a).toInt := fun hc => p2.2.2 (Int32.toInt_inj.mp hc)
  show (r1 = 0 → (Q (some (.long (-1 : Int64))) h)) ∧ (¬ r1 = 0 → (qm_PW X 168 [.int b] h _))
  refine ⟨fun c5 => ?_, fun c6 => ?_⟩
  · have := p2.2.2 c5
    have := ti_eqK 0 rfl c5
    exact hq (-1 : Int64) h ⟨hmmi, hmsm, hmzs, hmrw, (fun k hk => rfl), (by have : (0 : Int64).toInt = 0 := rfl; have : (10 : Int64).toInt = 10 := rfl; have := i64 a; show (-1 : Int64).toInt = qNone a.toInt b.toInt (mR h); have := i64 a; have : (0 : Int64).toInt = 0 := rfl; have : (10 : Int64).toInt = 10 := rfl; exact lgE_n1.trans (none_no (by unfold odW; omega)).symm)⟩
  · have := p2.2.1 c6
    have := ti_neK 0 rfl c6
    refine ty_168 X h b trivial _ (fun r7 p8 => ?_)
    have o9 : (r7 = 0 ∨ r7 = 1) ∧ ((r7.toInt = 1 ∧ 0 ≤ b.toInt ∧ b.toInt ≤ 1) ∨ (r7.toInt = 0 ∧ ¬ (0 ≤ b.toInt ∧ b.toInt ≤ 1))) := p8
    clear p8
    show (¬ r7 = 0 → (qm_PW X 169 [.ref 39] h _)) ∧ (r7 = 0 → (Q (some (.long (-1 : Int64))) h))
    refine ⟨fun c10 => ?_, fun c11 => ?_⟩
    · have := ti_neK 0 rfl c10
      refine sf_169_39 X h  hmsm _ (fun g12 p13 => ?_)
      obtain ⟨p13_0, p13_1, p13_2⟩ := p13
      have f14 : ∀ k, (k < 41 ∨ 41 < k) → g12 k = h k := fun k hk => (p13_1 k (by omega)).trans (rfl)
      have k15 : mi g12 := by unfold mi; rw [p13_1 39 (by omega)]; exact hmmi
      have k16 : sm g12 := by unfold sm; rw [p13_1 40 (by omega)]; exact hmsm
      have k17 : zs g12 := by unfold zs; rw [p13_1 49 (by omega)]; exact hmzs
      have k18 : rw_ g12 := by unfold rw_; rw [p13_1 46 (by omega)]; exact hmrw
      have k19 : wr g12 := wf_tr2 hmwr (mR_of (congrFun (p13_1 39 (by omega)) 3) (p13_1 40 (by omega)))
      have o20 : (∀ j : Nat, j < 49 → g12 41 j = h 40 j) := p13_2
      clear p13_2
      have w39_g12 : g12 39 = h 39 := (p13_1 39 (by omega))
      have w40_g12 : g12 40 = h 40 := (p13_1 40 (by omega))
      have sA_g12 : ∀ j : Nat, j < 49 → g12 41 j = h 40 j := o20
      have s4_g12 : (g12 41 4).toInt = (h 40 4).toInt := congrArg Int32.toInt (sA_g12 4 (by decide))
      show qm_PA X 224 35 [(0, .ref 39), (1, .int a), (2, .int b), (3, .long 1), (5, .long 1), (7, .int 0)] [] g12 Q
      exact (ty_224_c X h a b hp Q hq _) (1 : Int64) (1 : Int64) (0 : Int32) g12 ⟨(by have : (0 : Int32).toInt = 0 := rfl; have : (0 : Int64).toInt = 0 := rfl; have : (10 : Int64).toInt = 10 := rfl; have := i64 a; show ((0 ≤ (0 : Int32).toInt ∧ (0 : Int32).toInt ≤ (h 40 4).toInt) ∧ (0 ≤ a.toInt ∧ a.toInt ≤ 10) ∧ 0 ≤ b.toInt ∧ b.toInt ≤ 1) ∧ lgE (1 : Int64) (pdI (stO (h 40) (fun t => h 40 (6 + 3 * t)) a.toInt) (0 : Int32).toInt.toNat) ∧ lgE (1 : Int64) (pdI c20 (0 : Int32).toInt.toNat) ∧ (∀ j : Nat, j < 49 → g12 41 j = h 40 j); have := i64 a; have : (0 : Int64).toInt = 0 := rfl; have : (10 : Int64).toInt = 10 := rfl; exact ⟨by have : (0 : Int32).toInt = 0 := rfl; omega, rfl, rfl, sA_g12⟩), k15, k16, k17, k18, p13_0, (fun k hk => f14 k hk)⟩ (Nat.lt_succ_self _)
    · have := ti_eqK 0 rfl c11
      exact hq (-1 : Int64) h ⟨hmmi, hmsm, hmzs, hmrw, (fun k hk => rfl), (by have : (0 : Int64).toInt = 0 := rfl; have : (10 : Int64).toInt = 10 := rfl; have := i64 a; show (-1 : Int64).toInt = qNone a.toInt b.toInt (mR h); have := i64 a; have : (0 : Int64).toInt = 0 := rfl; have : (10 : Int64).toInt = 10 := rfl; exact lgE_n1.trans (none_no (by unfold odW; omega)).symm)⟩
-- ThreadBankModel.kept(III)J
set_option maxRecDepth 100000 in
set_option maxHeartbeats 4000000 in
theorem ty_222_c (X : qm_X) (h : qm_H) (a : Int32) (b : Int32) (c : Int32) (hp : mi h ∧ sm h ∧ zs h ∧ rw_ h ∧ wr h) (Q : qm_Q) (hq : ∀ r : Int64, ∀ h' : qm_H, (mi h' ∧ sm h' ∧ zs h' ∧ rw_ h' ∧ (∀ k, (k < 41 ∨ 41 < k) → h' k = h k) ∧ (r.toInt = qKept a.toInt b.toInt c.toInt (mR h))) → Q (some (.long r)) h') : ∀ n : Nat, (∀ (l4 : Int64) (l6 : Int64) (l8 : Int32) (g : qm_H), ((((0 ≤ l8.toInt ∧ l8.toInt ≤ (h 40 4).toInt) ∧ (0 ≤ a.toInt ∧ a.toInt ≤ 10) ∧ (0 ≤ b.toInt ∧ b.toInt < (h 40 4).toInt) ∧ 0 ≤ c.toInt ∧ c.toInt ≤ 1) ∧ lgE l4 (pdI (kpF (fun t => h 40 (7 + 3 * t)) (fun t => h 40 (8 + 3 * t)) b.toInt.toNat (slO (h 40) (fun t => h 40 (6 + 3 * t)) a.toInt)) l8.toInt.toNat) ∧ lgE l6 (pdI (kpF (fun t => h 40 (7 + 3 * t)) (fun t => h 40 (8 + 3 * t)) b.toInt.toNat c20) l8.toInt.toNat) ∧ (∀ j : Nat, j < 49 → g 41 j = h 40 j)) ∧ mi g ∧ sm g ∧ zs g ∧ rw_ g ∧ am g ∧ ∀ k, (k < 41 ∨ 41 < k) → g k = h k) → (10 - l8.toInt).toNat < n → qm_PA X 222 44 [(0, .ref 39), (1, .int a), (2, .int b), (3, .int c), (4, .long l4), (6, .long l6), (8, .int l8)] [] g Q) := by
  have hmmi : mi h := hp.1
  have ⟨⟨_, _⟩, ⟨_, _⟩, ⟨_, _⟩, ⟨_, _⟩, _, _⟩ := hmmi
  have hmsm : sm h := hp.2.1
  have ⟨⟨⟨_, _⟩, _, _⟩, _, _, _⟩ := hmsm
  have hmzs : zs h := hp.2.2.1
  have hmrw : rw_ h := hp.2.2.2.1
  have hmwr : wr h := hp.2.2.2.2
  intro n
  induction n with
  | zero => exact fun _ _ _ _ _ h0 => absurd h0 (Nat.not_lt_zero _)
  | succ n ih =>
    intro l4 l6 l8 g hi hr
    obtain ⟨hi0, hgmi, hgsm, hgzs, hgrw, hgam, hgf⟩ := hi
    have ⟨⟨_, _⟩, ⟨_, _⟩, ⟨_, _⟩, ⟨_, _⟩, _, _⟩ := hgmi
    have ⟨⟨⟨_, _⟩, _, _⟩, _, _, _⟩ := hgsm
    have ⟨⟨_, _⟩, ⟨_, _⟩, _, _, _⟩ := hgam
    have ti_l8 := ti_rng l8
    have e4_g : (g 41 4).toInt = (h 40 4).toInt := congrArg Int32.toInt (hi0.2.2.2 4 (by decide))
    refine qm_seg_ok (C := qc_222) (rt := some .long) rfl rfl (cuts := [(44, [0, 1, 2, 3, 4, 6, 8])]) 400 _ _ _ _ ?_
    show (0 ≤ (4 : Int) ∧ (4 : Int) < 49) ∧ (((g 41 4).toInt ≤ l8.toInt → (qm_PW X 220 [.long (l6 - l4), .long l6, .int c] g _)) ∧ (l8.toInt < (g 41 4).toInt → (qm_PW X 178 [.ref 39, .int b, .int l8] g _)))
    refine ⟨by decide, ?_⟩
    refine ⟨fun c1 => ?_, fun c2 => ?_⟩
    · refine ty_220 X g ((l6 - l4) : Int64) (l6 : Int64) c (kp_end hi0.2.2.1 hi0.2.1 (by omega) (fun j => slO_rng (by omega))).2 _ (fun r3 p4 => ?_)
      have o5 : tgL (l6 - l4) (l6 : Int64) c r3 := p4
      clear p4
      show Q (some (.long r3)) g
      exact hq r3 g ⟨hgmi, hgsm, hgzs, hgrw, (fun k hk => hgf k hk), (by show r3.toInt = qKept a.toInt b.toInt c.toInt (mR h); have hz := hi0.2; rw [show l8.toInt.toNat = (h 40 4).toInt.toNat by omega] at hz; have hk9 := kp_end hz.2.1 hz.1 (by omega) (fun j => slO_rng (by omega)); exact (tg_of o5 hk9.1 hz.2.1).trans (show qKept a.toInt b.toInt c.toInt (mR h) = _ from kept_ok hmwr ⟨⟨by omega, by omega⟩, by omega⟩).symm)⟩
    · refine ty_178 X g b l8 ⟨hgam, (by omega)⟩ _ (fun r6 p7 => ?_)
      have o8 : (r6 = 0 ∨ r6 = 1) ∧ ((r6.toInt = 1 ∧ (g 41 (7 + 3 * b.toInt.toNat)).toInt = (g 41 (7 + 3 * l8.toInt.toNat)).toInt ∧ (g 41 (8 + 3 * b.toInt.toNat)).toInt = (g 41 (8 + 3 * l8.toInt.toNat)).toInt) ∨ (r6.toInt = 0 ∧ ¬ ((g 41 (7 + 3 * b.toInt.toNat)).toInt = (g 41 (7 + 3 * l8.toInt.toNat)).toInt ∧ (g 41 (8 + 3 * b.toInt.toNat)).toInt = (g 41 (8 + 3 * l8.toInt.toNat)).toInt))) := p7
      clear p7
      show (r6 = 0 → (qm_PW X 178 [.ref 39, .int b, .int l8] g _)) ∧ (¬ r6 = 0 → (qm_PW X 221 [.ref 39, .int l8, .int a] g _))
      refine ⟨fun c9 => ?_, fun c10 => ?_⟩
      · have := ti_eqK 0 rfl c9
        refine ty_178 X g b l8 ⟨hgam, (by omega)⟩ _ (fun r11 p12 => ?_)
        have o13 : (r11 = 0 ∨ r11 = 1) ∧ ((r11.toInt = 1 ∧ (g 41 (7 + 3 * b.toInt.toNat)).toInt = (g 41 (7 + 3 * l8.toInt.toNat)).toInt ∧ (g 41 (8 + 3 * b.toInt.toNat)).toInt = (g 41 (8 + 3 * l8.toInt.toNat)).toInt) ∨ (r11.toInt = 0 ∧ ¬ ((g 41 (7 + 3 * b.toInt.toNat)).toInt = (g 41 (7 + 3 * l8.toInt.toNat)).toInt ∧ (g 41 (8 + 3 * b.toInt.toNat)).toInt = (g 41 (8 + 3 * l8.toInt.toNat)).toInt))) := p12
        clear p12
        show (r11 = 0 → (qm_PA X 222 44 [(0, .ref 39), (1, .int a), (2, .int b), (3, .int c), (4, .long (l4 * 1)), (6, .long (l6 * 1)), (8, .int (l8 + 1))] [] g Q)) ∧ (¬ r11 = 0 → (qm_PA X 222 44 [(0, .ref 39), (1, .int a), (2, .int b), (3, .int c), (4, .long (l4 * 1)), (6, .long (l6 * 20)), (8, .int (l8 + 1))] [] g Q))
        refine ⟨fun c14 => ?_, fun c15 => ?_⟩
        · have := ti_eqK 0 rfl c14
          exact ih (l4 * 1) (l6 * 1) (l8 + 1) g ⟨(by have := ti_addK l8 (1 : Int32) 1 rfl; show ((0 ≤ (l8 + 1).toInt ∧ (l8 + 1).toInt ≤ (h 40 4).toInt) ∧ (0 ≤ a.toInt ∧ a.toInt ≤ 10) ∧ (0 ≤ b.toInt ∧ b.toInt < (h 40 4).toInt) ∧ 0 ≤ c.toInt ∧ c.toInt ≤ 1) ∧ lgE (l4 * 1) (pdI (kpF (fun t => h 40 (7 + 3 * t)) (fun t => h 40 (8 + 3 * t)) b.toInt.toNat (slO (h 40) (fun t => h 40 (6 + 3 * t)) a.toInt)) (l8 + 1).toInt.toNat) ∧ lgE (l6 * 1) (pdI (kpF (fun t => h 40 (7 + 3 * t)) (fun t => h 40 (8 + 3 * t)) b.toInt.toNat c20) (l8 + 1).toInt.toNat) ∧ (∀ j : Nat, j < 49 → g 41 j = h 40 j); have x0 := hi0.2.2.2 (7 + 3 * b.toInt.toNat) (by omega); have x1 := hi0.2.2.2 (7 + 3 * l8.toInt.toNat) (by omega); have x2 := hi0.2.2.2 (8 + 3 * b.toInt.toNat) (by omega); have x3 := hi0.2.2.2 (8 + 3 * l8.toInt.toNat) (by omega); rw [x0, x1, x2, x3] at o8; rw [x0, x1, x2, x3] at o13; rw [show (l8 + 1).toInt.toNat = l8.toInt.toNat + 1 by omega]; have hs9 : ¬ sdK (fun t => h 40 (7 + 3 * t)) (fun t => h 40 (8 + 3 * t)) b.toInt.toNat l8.toInt.toNat := (fun w => by have w : (h 40 (7 + 3 * b.toInt.toNat)).toInt = (h 40 (7 + 3 * l8.toInt.toNat)).toInt ∧ (h 40 (8 + 3 * b.toInt.toNat)).toInt = (h 40 (8 + 3 * l8.toInt.toNat)).toInt := w; omega); exact ⟨by omega, lgE_m1 (kp_n hi0.2.1 hs9), lgE_m1 (kp_n hi0.2.2.1 hs9), hi0.2.2.2⟩), hgmi, hgsm, hgzs, hgrw, hgam, (fun k hk => hgf k hk)⟩ (by have := ti_addK l8 (1 : Int32) 1 rfl; show (10 - (l8 + 1).toInt).toNat < n; omega)
        · have := ti_neK 0 rfl c15
          exact ih (l4 * 1) (l6 * 20) (l8 + 1) g ⟨(by have := ti_addK l8 (1 : Int32) 1 rfl; show ((0 ≤ (l8 + 1).toInt ∧ (l8 + 1).toInt ≤ (h 40 4).toInt) ∧ (0 ≤ a.toInt ∧ a.toInt ≤ 10) ∧ (0 ≤ b.toInt ∧ b.toInt < (h 40 4).toInt) ∧ 0 ≤ c.toInt ∧ c.toInt ≤ 1) ∧ lgE (l4 * 1) (pdI (kpF (fun t => h 40 (7 + 3 * t)) (fun t => h 40 (8 + 3 * t)) b.toInt.toNat (slO (h 40) (fun t => h 40 (6 + 3 * t)) a.toInt)) (l8 + 1).toInt.toNat) ∧ lgE (l6 * 20) (pdI (kpF (fun t => h 40 (7 + 3 * t)) (fun t => h 40 (8 + 3 * t)) b.toInt.toNat c20) (l8 + 1).toInt.toNat) ∧ (∀ j : Nat, j < 49 → g 41 j = h 40 j); have x0 := hi0.2.2.2 (7 + 3 * b.toInt.toNat) (by omega); have x1 := hi0.2.2.2 (7 + 3 * l8.toInt.toNat) (by omega); have x2 := hi0.2.2.2 (8 + 3 * b.toInt.toNat) (by omega); have x3 := hi0.2.2.2 (8 + 3 * l8.toInt.toNat) (by omega); rw [x0, x1, x2, x3] at o8; rw [x0, x1, x2, x3] at o13; exfalso; omega), hgmi, hgsm, hgzs, hgrw, hgam, (fun k hk => hgf k hk)⟩ (by have := ti_addK l8 (1 : Int32) 1 rfl; show (10 - (l8 + 1).toInt).toNat < n; omega)
      · have := ti_neK 0 rfl c10
        refine ty_221 X g l8 a ⟨hgam, (by omega)⟩ _ (fun r16 p17 => ?_)
        have o18 : r16.toInt = slO (g 41) (fun t => (g 41 (6 + 3 * t))) a.toInt l8.toInt.toNat := p17
        clear p17
        show qm_PW X 178 [.ref 39, .int b, .int l8] g _
        refine ty_178 X g b l8 ⟨hgam, (by omega)⟩ _ (fun r19 p20 => ?_)
        have o21 : (r19 = 0 ∨ r19 = 1) ∧ ((r19.toInt = 1 ∧ (g 41 (7 + 3 * b.toInt.toNat)).toInt = (g 41 (7 + 3 * l8.toInt.toNat)).toInt ∧ (g 41 (8 + 3 * b.toInt.toNat)).toInt = (g 41 (8 + 3 * l8.toInt.toNat)).toInt) ∨ (r19.toInt = 0 ∧ ¬ ((g 41 (7 + 3 * b.toInt.toNat)).toInt = (g 41 (7 + 3 * l8.toInt.toNat)).toInt ∧ (g 41 (8 + 3 * b.toInt.toNat)).toInt = (g 41 (8 + 3 * l8.toInt.toNat)).toInt))) := p20
        clear p20
        show (r19 = 0 → (qm_PA X 222 44 [(0, .ref 39), (1, .int a), (2, .int b), (3, .int c), (4, .long (l4 * (Int32.toInt64 r16))), (6, .long (l6 * 1)), (8, .int (l8 + 1))] [] g Q)) ∧ (¬ r19 = 0 → (qm_PA X 222 44 [(0, .ref 39), (1, .int a), (2, .int b), (3, .int c), (4, .long (l4 * (Int32.toInt64 r16))), (6, .long (l6 * 20)), (8, .int (l8 + 1))] [] g Q))
        refine ⟨fun c22 => ?_, fun c23 => ?_⟩
        · have := ti_eqK 0 rfl c22
          exact ih (l4 * (Int32.toInt64 r16)) (l6 * 1) (l8 + 1) g ⟨(by have := ti_addK l8 (1 : Int32) 1 rfl; have := i64 r16; show ((0 ≤ (l8 + 1).toInt ∧ (l8 + 1).toInt ≤ (h 40 4).toInt) ∧ (0 ≤ a.toInt ∧ a.toInt ≤ 10) ∧ (0 ≤ b.toInt ∧ b.toInt < (h 40 4).toInt) ∧ 0 ≤ c.toInt ∧ c.toInt ≤ 1) ∧ lgE (l4 * (Int32.toInt64 r16)) (pdI (kpF (fun t => h 40 (7 + 3 * t)) (fun t => h 40 (8 + 3 * t)) b.toInt.toNat (slO (h 40) (fun t => h 40 (6 + 3 * t)) a.toInt)) (l8 + 1).toInt.toNat) ∧ lgE (l6 * 1) (pdI (kpF (fun t => h 40 (7 + 3 * t)) (fun t => h 40 (8 + 3 * t)) b.toInt.toNat c20) (l8 + 1).toInt.toNat) ∧ (∀ j : Nat, j < 49 → g 41 j = h 40 j); have x0 := hi0.2.2.2 (7 + 3 * b.toInt.toNat) (by omega); have x1 := hi0.2.2.2 (7 + 3 * l8.toInt.toNat) (by omega); have x2 := hi0.2.2.2 (8 + 3 * b.toInt.toNat) (by omega); have x3 := hi0.2.2.2 (8 + 3 * l8.toInt.toNat) (by omega); rw [x0, x1, x2, x3] at o8; rw [x0, x1, x2, x3] at o21; exfalso; omega), hgmi, hgsm, hgzs, hgrw, hgam, (fun k hk => hgf k hk)⟩ (by have := ti_addK l8 (1 : Int32) 1 rfl; show (10 - (l8 + 1).toInt).toNat < n; omega)
        · have := ti_neK 0 rfl c23
          exact ih (l4 * (Int32.toInt64 r16)) (l6 * 20) (l8 + 1) g ⟨(by have := ti_addK l8 (1 : Int32) 1 rfl; have := i64 r16; show ((0 ≤ (l8 + 1).toInt ∧ (l8 + 1).toInt ≤ (h 40 4).toInt) ∧ (0 ≤ a.toInt ∧ a.toInt ≤ 10) ∧ (0 ≤ b.toInt ∧ b.toInt < (h 40 4).toInt) ∧ 0 ≤ c.toInt ∧ c.toInt ≤ 1) ∧ lgE (l4 * (Int32.toInt64 r16)) (pdI (kpF (fun t => h 40 (7 + 3 * t)) (fun t => h 40 (8 + 3 * t)) b.toInt.toNat (slO (h 40) (fun t => h 40 (6 + 3 * t)) a.toInt)) (l8 + 1).toInt.toNat) ∧ lgE (l6 * 20) (pdI (kpF (fun t => h 40 (7 + 3 * t)) (fun t => h 40 (8 + 3 * t)) b.toInt.toNat c20) (l8 + 1).toInt.toNat) ∧ (∀ j : Nat, j < 49 → g 41 j = h 40 j); have hh9 := wf_hd (show wfM (mR h) from hmwr) (j := l8.toInt.toNat) (by show ((l8.toInt.toNat : Nat) : Int) < (h 40 4).toInt; omega); have hs8 := (o18).trans (slO_41 (t := l8.toInt.toNat) hi0.2.2.2 (by omega) ⟨hh9.1, by omega⟩); have x0 := hi0.2.2.2 (7 + 3 * b.toInt.toNat) (by omega); have x1 := hi0.2.2.2 (7 + 3 * l8.toInt.toNat) (by omega); have x2 := hi0.2.2.2 (8 + 3 * b.toInt.toNat) (by omega); have x3 := hi0.2.2.2 (8 + 3 * l8.toInt.toNat) (by omega); rw [x0, x1, x2, x3] at o8; rw [x0, x1, x2, x3] at o21; rw [show (l8 + 1).toInt.toNat = l8.toInt.toNat + 1 by omega]; have hs9 : sdK (fun t => h 40 (7 + 3 * t)) (fun t => h 40 (8 + 3 * t)) b.toInt.toNat l8.toInt.toNat := (show (h 40 (7 + 3 * b.toInt.toNat)).toInt = (h 40 (7 + 3 * l8.toInt.toNat)).toInt ∧ (h 40 (8 + 3 * b.toInt.toNat)).toInt = (h 40 (8 + 3 * l8.toInt.toNat)).toInt by omega); exact ⟨by omega, kp_y hi0.2.1 (by omega) (fun j => slO_rng (by omega)) hs9 hs8, kp_y20 hi0.2.2.1 (by omega) hs9, hi0.2.2.2⟩), hgmi, hgsm, hgzs, hgrw, hgam, (fun k hk => hgf k hk)⟩ (by have := ti_addK l8 (1 : Int32) 1 rfl; show (10 - (l8 + 1).toInt).toNat < n; omega)
set_option maxRecDepth 100000 in
set_option maxHeartbeats 4000000 in
theorem ty_222 (X : qm_X) (h : qm_H) (a : Int32) (b : Int32) (c : Int32) (hp : mi h ∧ sm h ∧ zs h ∧ rw_ h ∧ wr h) (Q : qm_Q) (hq : ∀ r : Int64, ∀ h' : qm_H, (mi h' ∧ sm h' ∧ zs h' ∧ rw_ h' ∧ (∀ k, (k < 41 ∨ 41 < k) → h' k = h k) ∧ (r.toInt = qKept a.toInt b.toInt c.toInt (mR h))) → Q (some (.long r)) h') : qm_PW X 222 [.ref 39, .int a, .int b, .int c] h Q := by
  have hmmi : mi h := hp.1
  have ⟨⟨_, _⟩, ⟨_, _⟩, ⟨_, _⟩, ⟨_, _⟩, _, _⟩ := hmmi
  have hmsm : sm h := hp.2.1
  have ⟨⟨⟨_, _⟩, _, _⟩, _, _, _⟩ := hmsm
  have hmzs : zs h := hp.2.2.1
  have hmrw : rw_ h := hp.2.2.2.1
  have hmwr : wr h := hp.2.2.2.2
  refine qm_seg_ok (C := qc_222) (rt := some .long) rfl rfl (cuts := [(44, [0, 1, 2, 3, 4, 6, 8])]) 400 _ _ _ _ ?_
  show qm_PW X 141 [.long (Int32.toInt64 a), .long 0, .long 10] h _
  refine sf_141 X h ((Int32.toInt64 a) : Int64) (0 : Int64) (10 : Int64) trivial _ (fun r1 p2 => ?_)
  have o3 : ¬ r1.toInt = 0 → (0 : Int64).toInt ≤ (Int32.toInt64 a).toInt ∧ (Int32.toInt64 a).toInt ≤ (10 : Int64).toInt := fun hc => p2.2.1 (fun e => hc (ti_eqK 0 rfl e))
  have o4 : r1.toInt = 0 → (Int32.toInt64 a).toInt < (0 : Int64).toInt ∨ (10 : Int64).toInt < (Int32.toInt64 a).toInt := fun hc => p2.2.2 (Int32.toInt_inj.mp hc)
  show (r1 = 0 → (Q (some (.long (-1 : Int64))) h)) ∧ (¬ r1 = 0 → (qm_PW X 167 [.ref 39, .int b] h _))
  refine ⟨fun c5 => ?_, fun c6 => ?_⟩
  · have := p2.2.2 c5
    have := ti_eqK 0 rfl c5
    exact hq (-1 : Int64) h ⟨hmmi, hmsm, hmzs, hmrw, (fun k hk => rfl), (by have : (0 : Int64).toInt = 0 := rfl; have : (10 : Int64).toInt = 10 := rfl; have := i64 a; show (-1 : Int64).toInt = qKept a.toInt b.toInt c.toInt (mR h); have := i64 a; have : (0 : Int64).toInt = 0 := rfl; have : (10 : Int64).toInt = 10 := rfl; exact lgE_n1.trans (kept_no (M := mR h) (show ¬ (odW a.toInt c.toInt ∧ 0 ≤ b.toInt ∧ b.toInt < (h 40 4).toInt) by unfold odW; omega)).symm)⟩
  · have := p2.2.1 c6
    have := ti_neK 0 rfl c6
    refine ty_167 X h b hmsm _ (fun r7 p8 => ?_)
    have o9 : (r7 = 0 ∨ r7 = 1) ∧ ((r7.toInt = 1 ∧ 0 ≤ b.toInt ∧ b.toInt < (h 40 4).toInt) ∨ (r7.toInt = 0 ∧ ¬ (0 ≤ b.toInt ∧ b.toInt < (h 40 4).toInt))) := p8
    clear p8
    show (r7 = 0 → (Q (some (.long (-1 : Int64))) h)) ∧ (¬ r7 = 0 → (qm_PW X 168 [.int c] h _))
    refine ⟨fun c10 => ?_, fun c11 => ?_⟩
    · have := ti_eqK 0 rfl c10
      exact hq (-1 : Int64) h ⟨hmmi, hmsm, hmzs, hmrw, (fun k hk => rfl), (by have : (0 : Int64).toInt = 0 := rfl; have : (10 : Int64).toInt = 10 := rfl; have := i64 a; show (-1 : Int64).toInt = qKept a.toInt b.toInt c.toInt (mR h); have := i64 a; have : (0 : Int64).toInt = 0 := rfl; have : (10 : Int64).toInt = 10 := rfl; exact lgE_n1.trans (kept_no (M := mR h) (show ¬ (odW a.toInt c.toInt ∧ 0 ≤ b.toInt ∧ b.toInt < (h 40 4).toInt) by unfold odW; omega)).symm)⟩
    · have := ti_neK 0 rfl c11
      refine ty_168 X h c trivial _ (fun r12 p13 => ?_)
      have o14 : (r12 = 0 ∨ r12 = 1) ∧ ((r12.toInt = 1 ∧ 0 ≤ c.toInt ∧ c.toInt ≤ 1) ∨ (r12.toInt = 0 ∧ ¬ (0 ≤ c.toInt ∧ c.toInt ≤ 1))) := p13
      clear p13
      show (¬ r12 = 0 → (qm_PW X 169 [.ref 39] h _)) ∧ (r12 = 0 → (Q (some (.long (-1 : Int64))) h))
      refine ⟨fun c15 => ?_, fun c16 => ?_⟩
      · have := ti_neK 0 rfl c15
        refine sf_169_39 X h  hmsm _ (fun g17 p18 => ?_)
        obtain ⟨p18_0, p18_1, p18_2⟩ := p18
        have f19 : ∀ k, (k < 41 ∨ 41 < k) → g17 k = h k := fun k hk => (p18_1 k (by omega)).trans (rfl)
        have k20 : mi g17 := by unfold mi; rw [p18_1 39 (by omega)]; exact hmmi
        have k21 : sm g17 := by unfold sm; rw [p18_1 40 (by omega)]; exact hmsm
        have k22 : zs g17 := by unfold zs; rw [p18_1 49 (by omega)]; exact hmzs
        have k23 : rw_ g17 := by unfold rw_; rw [p18_1 46 (by omega)]; exact hmrw
        have k24 : wr g17 := wf_tr2 hmwr (mR_of (congrFun (p18_1 39 (by omega)) 3) (p18_1 40 (by omega)))
        have o25 : (∀ j : Nat, j < 49 → g17 41 j = h 40 j) := p18_2
        clear p18_2
        have w39_g17 : g17 39 = h 39 := (p18_1 39 (by omega))
        have w40_g17 : g17 40 = h 40 := (p18_1 40 (by omega))
        have sA_g17 : ∀ j : Nat, j < 49 → g17 41 j = h 40 j := o25
        have s4_g17 : (g17 41 4).toInt = (h 40 4).toInt := congrArg Int32.toInt (sA_g17 4 (by decide))
        show qm_PA X 222 44 [(0, .ref 39), (1, .int a), (2, .int b), (3, .int c), (4, .long 1), (6, .long 1), (8, .int 0)] [] g17 Q
        exact (ty_222_c X h a b c hp Q hq _) (1 : Int64) (1 : Int64) (0 : Int32) g17 ⟨(by have : (0 : Int32).toInt = 0 := rfl; have : (0 : Int64).toInt = 0 := rfl; have : (10 : Int64).toInt = 10 := rfl; have := i64 a; show ((0 ≤ (0 : Int32).toInt ∧ (0 : Int32).toInt ≤ (h 40 4).toInt) ∧ (0 ≤ a.toInt ∧ a.toInt ≤ 10) ∧ (0 ≤ b.toInt ∧ b.toInt < (h 40 4).toInt) ∧ 0 ≤ c.toInt ∧ c.toInt ≤ 1) ∧ lgE (1 : Int64) (pdI (kpF (fun t => h 40 (7 + 3 * t)) (fun t => h 40 (8 + 3 * t)) b.toInt.toNat (slO (h 40) (fun t => h 40 (6 + 3 * t)) a.toInt)) (0 : Int32).toInt.toNat) ∧ lgE (1 : Int64) (pdI (kpF (fun t => h 40 (7 + 3 * t)) (fun t => h 40 (8 + 3 * t)) b.toInt.toNat c20) (0 : Int32).toInt.toNat) ∧ (∀ j : Nat, j < 49 → g17 41 j = h 40 j); have := i64 a; have : (0 : Int64).toInt = 0 := rfl; have : (10 : Int64).toInt = 10 := rfl; exact ⟨by have : (0 : Int32).toInt = 0 := rfl; omega, rfl, rfl, sA_g17⟩), k20, k21, k22, k23, p18_0, (fun k hk => f19 k hk)⟩ (Nat.lt_succ_self _)
      · have := ti_eqK 0 rfl c16
        exact hq (-1 : Int64) h ⟨hmmi, hmsm, hmzs, hmrw, (fun k hk => rfl), (by have : (0 : Int64).toInt = 0 := rfl; have : (10 : Int64).toInt = 10 := rfl; have := i64 a; show (-1 : Int64).toInt = qKept a.toInt b.toInt c.toInt (mR h); have := i64 a; have : (0 : Int64).toInt = 0 := rfl; have : (10 : Int64).toInt = 10 := rfl; exact lgE_n1.trans (kept_no (M := mR h) (show ¬ (odW a.toInt c.toInt ∧ 0 ≤ b.toInt ∧ b.toInt < (h 40 4).toInt) by unfold odW; omega)).symm)⟩
