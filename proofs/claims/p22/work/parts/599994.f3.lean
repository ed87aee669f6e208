-- ThreadBankModel.fewest()I
set_option maxRecDepth 100000 in
set_option maxHeartbeats 4000000 in
theorem ty_210_c (X : qm_X) (h : qm_H) (hp : mi h ∧ sm h ∧ zs h ∧ rw_ h ∧ wr h) (Q : qm_Q) (hq : ∀ r : Int32, ∀ h' : qm_H, (mi h' ∧ sm h' ∧ zs h' ∧ rw_ h' ∧ (∀ k, (k < 41 ∨ 41 < k) → h' k = h k) ∧ (r.toInt = qFewest (mR h))) → Q (some (.int r)) h') : ∀ n : Nat, (∀ (l1 : Int32) (l2 : Int32) (l3 : Int32) (g : qm_H), (((0 ≤ l3.toInt ∧ l3.toInt ≤ 3) ∧ (l1.toInt, l2.toInt) = fewS (h 40) (h 39 3).toInt.toNat (h 40 4).toInt (3 - l3.toInt).toNat ∧ (∀ j : Nat, j < 49 → g 41 j = h 40 j)) ∧ mi g ∧ sm g ∧ zs g ∧ rw_ g ∧ am g ∧ ∀ k, (k < 41 ∨ 41 < k) → g k = h k) → (l3.toInt * 10000 + 5000).toNat < n → qm_PA X 210 15 [(0, .ref 39), (1, .int l1), (2, .int l2), (3, .int l3)] [] g Q) ∧ (∀ (l1 : Int32) (l2 : Int32) (l3 : Int32) (l4 : Int32) (g : qm_H), ((((1 ≤ l3.toInt ∧ l3.toInt ≤ 3) ∧ 0 ≤ l4.toInt ∧ l4.toInt ≤ (h 39 3).toInt) ∧ fwR (h 40) (h 39 3).toInt.toNat (h 40 4).toInt l3.toInt (fgA (h 40) l3.toInt l4.toInt.toNat) l1.toInt l2.toInt ∧ (∀ j : Nat, j < 49 → g 41 j = h 40 j)) ∧ mi g ∧ sm g ∧ zs g ∧ rw_ g ∧ am g ∧ ∀ k, (k < 41 ∨ 41 < k) → g k = h k) → (l3.toInt * 10000 + (4 - l4.toInt) * 100 + 50).toNat < n → qm_PA X 210 22 [(0, .ref 39), (1, .int l1), (2, .int l2), (3, .int l3), (4, .int l4)] [] g Q) ∧ (∀ (l1 : Int32) (l2 : Int32) (l3 : Int32) (l4 : Int32) (l5 : Int32) (g : qm_H), ((((1 ≤ l3.toInt ∧ l3.toInt ≤ 3) ∧ (0 ≤ l4.toInt ∧ l4.toInt < (h 39 3).toInt) ∧ 0 ≤ l5.toInt ∧ l5.toInt ≤ 5) ∧ fwR (h 40) (h 39 3).toInt.toNat (h 40 4).toInt l3.toInt (fgA (h 40) l3.toInt l4.toInt.toNat + fgH (h 40 l4.toInt.toNat).toInt l3.toInt l5.toInt.toNat) l1.toInt l2.toInt ∧ (∀ j : Nat, j < 49 → g 41 j = h 40 j)) ∧ mi g ∧ sm g ∧ zs g ∧ rw_ g ∧ am g ∧ ∀ k, (k < 41 ∨ 41 < k) → g k = h k) → (l3.toInt * 10000 + (4 - l4.toInt) * 100 + 40 - l5.toInt).toNat < n → qm_PA X 210 34 [(0, .ref 39), (1, .int l1), (2, .int l2), (3, .int l3), (4, .int l4), (5, .int l5)] [] g Q) := by
  have hmmi : mi h := hp.1
  have ⟨⟨_, _⟩, ⟨_, _⟩, ⟨_, _⟩, ⟨_, _⟩, _, _⟩ := hmmi
  have hmsm : sm h := hp.2.1
  have ⟨⟨⟨_, _⟩, _, _⟩, _, _, _⟩ := hmsm
  have hmzs : zs h := hp.2.2.1
  have hmrw : rw_ h := hp.2.2.2.1
  have hmwr : wr h := hp.2.2.2.2
  have hkd := (wf_raw (show wfM (mR h) from hmwr)).2.1
  intro n
  induction n with
  | zero => exact ⟨fun _ _ _ _ _ h0 => absurd h0 (Nat.not_lt_zero _), fun _ _ _ _ _ _ h0 => absurd h0 (Nat.not_lt_zero _), fun _ _ _ _ _ _ _ h0 => absurd h0 (Nat.not_lt_zero _)⟩
  | succ n ih =>
    refine ⟨?_, ?_, ?_⟩
    · intro l1 l2 l3 g hi hr
      obtain ⟨hi0, hgmi, hgsm, hgzs, hgrw, hgam, hgf⟩ := hi
      have ⟨⟨_, _⟩, ⟨_, _⟩, ⟨_, _⟩, ⟨_, _⟩, _, _⟩ := hgmi
      have ⟨⟨⟨_, _⟩, _, _⟩, _, _, _⟩ := hgsm
      have ⟨⟨_, _⟩, ⟨_, _⟩, _, _, _⟩ := hgam
      have w39_g : g 39 = h 39 := hgf 39 (by omega)
      have e3_g : (g 39 3).toInt = (h 39 3).toInt := by rw [w39_g]
      refine qm_seg_ok (C := qc_210) (rt := some .int) rfl rfl (cuts := [(15, [0, 1, 2, 3]), (22, [0, 1, 2, 3, 4]), (34, [0, 1, 2, 3, 4, 5])]) 400 _ _ _ _ ?_
      show (l3.toInt ≤ 0 → (Q (some (.int l2)) g)) ∧ (0 < l3.toInt → (qm_PA X 210 22 [(0, .ref 39), (1, .int l1), (2, .int l2), (3, .int l3), (4, .int 0)] [] g Q))
      refine ⟨fun c1 => ?_, fun c2 => ?_⟩
      · exact hq l2 g ⟨hgmi, hgsm, hgzs, hgrw, (fun k hk => hgf k hk), (by show l2.toInt = qFewest (mR h); have hz := congrArg (fun s : Int × Int => s.2) hi0.2.1; rw [show (3 - l3.toInt).toNat = 3 by omega] at hz; exact (show l2.toInt = _ from hz).trans (show qFewest (mR h) = _ from fewest_mk).symm)⟩
      · exact ih.2.1 l1 l2 l3 (0 : Int32) g ⟨(by have : (0 : Int32).toInt = 0 := rfl; show ((1 ≤ l3.toInt ∧ l3.toInt ≤ 3) ∧ 0 ≤ (0 : Int32).toInt ∧ (0 : Int32).toInt ≤ (h 39 3).toInt) ∧ fwR (h 40) (h 39 3).toInt.toNat (h 40 4).toInt l3.toInt (fgA (h 40) l3.toInt (0 : Int32).toInt.toNat) l1.toInt l2.toInt ∧ (∀ j : Nat, j < 49 → g 41 j = h 40 j); exact ⟨by have : (0 : Int32).toInt = 0 := rfl; omega, fwR_0 hi0.2.1, hi0.2.2⟩), hgmi, hgsm, hgzs, hgrw, hgam, (fun k hk => hgf k hk)⟩ (by have : (0 : Int32).toInt = 0 := rfl; show (l3.toInt * 10000 + (4 - (0 : Int32).toInt) * 100 + 50).toNat < n; omega)
    · intro l1 l2 l3 l4 g hi hr
      obtain ⟨hi0, hgmi, hgsm, hgzs, hgrw, hgam, hgf⟩ := hi
      have ⟨⟨_, _⟩, ⟨_, _⟩, ⟨_, _⟩, ⟨_, _⟩, _, _⟩ := hgmi
      have ⟨⟨⟨_, _⟩, _, _⟩, _, _, _⟩ := hgsm
      have ⟨⟨_, _⟩, ⟨_, _⟩, _, _, _⟩ := hgam
      have w39_g : g 39 = h 39 := hgf 39 (by omega)
      have e3_g : (g 39 3).toInt = (h 39 3).toInt := by rw [w39_g]
      have hfr := fwR_rng hi0.2.1 (by omega) (by omega) (by omega) (by have f1 := fgA_le (kd := h 40) (r := l3.toInt) (n := l4.toInt.toNat); omega)
      refine qm_seg_ok (C := qc_210) (rt := some .int) rfl rfl (cuts := [(15, [0, 1, 2, 3]), (22, [0, 1, 2, 3, 4]), (34, [0, 1, 2, 3, 4, 5])]) 400 _ _ _ _ ?_
      show ((g 39 3).toInt ≤ l4.toInt → (qm_PA X 210 15 [(0, .ref 39), (1, .int l1), (2, .int l2), (3, .int (l3 + (-1 : Int32)))] [] g Q)) ∧ (l4.toInt < (g 39 3).toInt → (qm_PA X 210 34 [(0, .ref 39), (1, .int l1), (2, .int l2), (3, .int l3), (4, .int l4), (5, .int 0)] [] g Q))
      refine ⟨fun c1 => ?_, fun c2 => ?_⟩
      · have hz3 := ti_addK l3 (-1 : Int32) (-1) ti_n1 (by have := ti_rng l3; omega)
        revert hz3
        generalize l3 + (-1 : Int32) = z3
        intro hz3
        exact ih.1 l1 l2 z3 g ⟨(by show (0 ≤ z3.toInt ∧ z3.toInt ≤ 3) ∧ (l1.toInt, l2.toInt) = fewS (h 40) (h 39 3).toInt.toNat (h 40 4).toInt (3 - z3.toInt).toNat ∧ (∀ j : Nat, j < 49 → g 41 j = h 40 j); exact ⟨by omega, fwR_e hi0.2.1 (by rw [show l4.toInt.toNat = (h 39 3).toInt.toNat by omega]) (by omega) (by omega), hi0.2.2⟩), hgmi, hgsm, hgzs, hgrw, hgam, (fun k hk => hgf k hk)⟩ (by show (z3.toInt * 10000 + 5000).toNat < n; omega)
      · exact ih.2.2 l1 l2 l3 l4 (0 : Int32) g ⟨(by have : (0 : Int32).toInt = 0 := rfl; show ((1 ≤ l3.toInt ∧ l3.toInt ≤ 3) ∧ (0 ≤ l4.toInt ∧ l4.toInt < (h 39 3).toInt) ∧ 0 ≤ (0 : Int32).toInt ∧ (0 : Int32).toInt ≤ 5) ∧ fwR (h 40) (h 39 3).toInt.toNat (h 40 4).toInt l3.toInt (fgA (h 40) l3.toInt l4.toInt.toNat + fgH (h 40 l4.toInt.toNat).toInt l3.toInt (0 : Int32).toInt.toNat) l1.toInt l2.toInt ∧ (∀ j : Nat, j < 49 → g 41 j = h 40 j); exact ⟨by have : (0 : Int32).toInt = 0 := rfl; omega, fwR_k hi0.2.1 rfl rfl rfl, hi0.2.2⟩), hgmi, hgsm, hgzs, hgrw, hgam, (fun k hk => hgf k hk)⟩ (by have : (0 : Int32).toInt = 0 := rfl; show (l3.toInt * 10000 + (4 - l4.toInt) * 100 + 40 - (0 : Int32).toInt).toNat < n; omega)
    · intro l1 l2 l3 l4 l5 g hi hr
      obtain ⟨hi0, hgmi, hgsm, hgzs, hgrw, hgam, hgf⟩ := hi
      have ⟨⟨_, _⟩, ⟨_, _⟩, ⟨_, _⟩, ⟨_, _⟩, _, _⟩ := hgmi
      have ⟨⟨⟨_, _⟩, _, _⟩, _, _, _⟩ := hgsm
      have ⟨⟨_, _⟩, ⟨_, _⟩, _, _, _⟩ := hgam
      have w39_g : g 39 = h 39 := hgf 39 (by omega)
      have e3_g : (g 39 3).toInt = (h 39 3).toInt := by rw [w39_g]
      have hfr := fwR_rng hi0.2.1 (by omega) (by omega) (by omega) (by have f1 := fgA_le (kd := h 40) (r := l3.toInt) (n := l4.toInt.toNat); have f2 := fgH_le (k := (h 40 l4.toInt.toNat).toInt) (r := l3.toInt) (n := l5.toInt.toNat); omega)
      refine qm_seg_ok (C := qc_210) (rt := some .int) rfl rfl (cuts := [(15, [0, 1, 2, 3]), (22, [0, 1, 2, 3, 4]), (34, [0, 1, 2, 3, 4, 5])]) 400 _ _ _ _ ?_
      show (5 ≤ l5.toInt → (qm_PA X 210 22 [(0, .ref 39), (1, .int l1), (2, .int l2), (3, .int l3), (4, .int (l4 + 1))] [] g Q)) ∧ (l5.toInt < 5 → (qm_PW X 173 [.ref 39, .int ((10 * l4) + l5)] g _))
      refine ⟨fun c1 => ?_, fun c2 => ?_⟩
      · exact ih.2.1 l1 l2 l3 (l4 + 1) g ⟨(by have := ti_addK l4 (1 : Int32) 1 rfl; show ((1 ≤ l3.toInt ∧ l3.toInt ≤ 3) ∧ 0 ≤ (l4 + 1).toInt ∧ (l4 + 1).toInt ≤ (h 39 3).toInt) ∧ fwR (h 40) (h 39 3).toInt.toNat (h 40 4).toInt l3.toInt (fgA (h 40) l3.toInt (l4 + 1).toInt.toNat) l1.toInt l2.toInt ∧ (∀ j : Nat, j < 49 → g 41 j = h 40 j); have h5 : l5.toInt.toNat = 5 := (by omega); have hz := hi0.2.1; rw [h5] at hz; exact ⟨by omega, fwR_k hz (by rw [show (l4 + 1).toInt.toNat = l4.toInt.toNat + 1 by omega]; rfl) rfl rfl, hi0.2.2⟩), hgmi, hgsm, hgzs, hgrw, hgam, (fun k hk => hgf k hk)⟩ (by have := ti_addK l4 (1 : Int32) 1 rfl; show (l3.toInt * 10000 + (4 - (l4 + 1).toInt) * 100 + 50).toNat < n; omega)
      · refine ty_173 X g ((10 * l4) + l5) ⟨hgam, (by have := ti_mulL (10 : Int32) 10 rfl l4; have := ti_add (10 * l4) l5; omega)⟩ _ (fun r3 p4 => ?_)
        have o5 : r3.toInt = rmF (g 41 (((10 * l4) + l5).toInt / 10).toNat).toInt (((10 * l4) + l5).toInt % 10) := p4
        clear p4
        show (¬ r3 = l3 → (qm_PW X 142 [.int 0] g _)) ∧ (r3 = l3 → ((l1.toInt ≤ 0 → (qm_PW X 142 [.int 0] g _)) ∧ (0 < l1.toInt → (qm_PW X 142 [.int 1] g _))))
        refine ⟨fun c6 => ?_, fun c7 => ?_⟩
        · refine tx_142 X g (0 : Int32) trivial _ (fun r8 p9 => ?_)
          have o10 : ((0 : Int32).toInt = 0 ∧ r8.toInt = 0) ∨ (¬ (0 : Int32).toInt = 0 ∧ r8.toInt = 1) := p9
          clear p9
          show ((0 : Int32) = 0 → (qm_PA X 210 34 [(0, .ref 39), (1, .int (l1 - 0)), (2, .int (l2 + r8)), (3, .int l3), (4, .int l4), (5, .int (l5 + 1))] [] g Q)) ∧ (¬ (0 : Int32) = 0 → (qm_PA X 210 34 [(0, .ref 39), (1, .int (l1 - l3)), (2, .int (l2 + r8)), (3, .int l3), (4, .int l4), (5, .int (l5 + 1))] [] g Q))
          refine ⟨fun c11 => ?_, fun c12 => ?_⟩
          · exact ih.2.2 (l1 - 0) (l2 + r8) l3 l4 (l5 + 1) g ⟨(by have : (0 : Int32).toInt = 0 := rfl; have := ti_addK l5 (1 : Int32) 1 rfl; have := ti_subK l1 (0 : Int32) 0 rfl; have := ti_add l2 r8; have := ti_mulL (10 : Int32) 10 rfl l4; have := ti_add (10 * l4) l5; show ((1 ≤ l3.toInt ∧ l3.toInt ≤ 3) ∧ (0 ≤ l4.toInt ∧ l4.toInt < (h 39 3).toInt) ∧ 0 ≤ (l5 + 1).toInt ∧ (l5 + 1).toInt ≤ 5) ∧ fwR (h 40) (h 39 3).toInt.toNat (h 40 4).toInt l3.toInt (fgA (h 40) l3.toInt l4.toInt.toNat + fgH (h 40 l4.toInt.toNat).toInt l3.toInt (l5 + 1).toInt.toNat) (l1 - 0).toInt (l2 + r8).toInt ∧ (∀ j : Nat, j < 49 → g 41 j = h 40 j); have h01 : (0 : Int32).toInt = 0 := rfl; have h11 : (1 : Int32).toInt = 1 := rfl; have q1 := ti_mulL (10 : Int32) 10 rfl l4; have q2 := ti_add (10 * l4) l5; have q3 : ((10 * l4) + l5).toInt = 10 * l4.toInt + l5.toInt := (by omega); rw [q3, show (10 * l4.toInt + l5.toInt) / 10 = l4.toInt by omega, show (10 * l4.toInt + l5.toInt) % 10 = ((l5.toInt.toNat : Nat) : Int) by omega, hi0.2.2 _ (by omega), rmF_C (hkd l4.toInt.toNat (by omega)) (by omega)] at o5; have e9 : (l5 + 1).toInt.toNat = l5.toInt.toNat + 1 := (by omega); have q7 := ti_subK l1 (0 : Int32) 0 rfl; have hH := fgH_f (k := (h 40 l4.toInt.toNat).toInt) (r := l3.toInt) (n := l5.toInt.toNat) (fun w => absurd (Int32.toInt_inj.mp (show r3.toInt = l3.toInt by omega)) (by assumption)); exact ⟨by omega, by rw [e9, hH]; exact fwR_k hi0.2.1 rfl (by omega) (by omega), hi0.2.2⟩), hgmi, hgsm, hgzs, hgrw, hgam, (fun k hk => hgf k hk)⟩ (by have : (0 : Int32).toInt = 0 := rfl; have := ti_addK l5 (1 : Int32) 1 rfl; have := ti_mulL (10 : Int32) 10 rfl l4; have := ti_add (10 * l4) l5; show (l3.toInt * 10000 + (4 - l4.toInt) * 100 + 40 - (l5 + 1).toInt).toNat < n; omega)
          · exact absurd c12 (by decide)
        · refine ⟨fun c13 => ?_, fun c14 => ?_⟩
          · refine tx_142 X g (0 : Int32) trivial _ (fun r15 p16 => ?_)
            have o17 : ((0 : Int32).toInt = 0 ∧ r15.toInt = 0) ∨ (¬ (0 : Int32).toInt = 0 ∧ r15.toInt = 1) := p16
            clear p16
            show ((0 : Int32) = 0 → (qm_PA X 210 34 [(0, .ref 39), (1, .int (l1 - 0)), (2, .int (l2 + r15)), (3, .int l3), (4, .int l4), (5, .int (l5 + 1))] [] g Q)) ∧ (¬ (0 : Int32) = 0 → (qm_PA X 210 34 [(0, .ref 39), (1, .int (l1 - l3)), (2, .int (l2 + r15)), (3, .int l3), (4, .int l4), (5, .int (l5 + 1))] [] g Q))
            refine ⟨fun c18 => ?_, fun c19 => ?_⟩
            · exact ih.2.2 (l1 - 0) (l2 + r15) l3 l4 (l5 + 1) g ⟨(by have : (0 : Int32).toInt = 0 := rfl; have := ti_addK l5 (1 : Int32) 1 rfl; have := ti_subK l1 (0 : Int32) 0 rfl; have := ti_add l2 r15; have := ti_mulL (10 : Int32) 10 rfl l4; have := ti_add (10 * l4) l5; show ((1 ≤ l3.toInt ∧ l3.toInt ≤ 3) ∧ (0 ≤ l4.toInt ∧ l4.toInt < (h 39 3).toInt) ∧ 0 ≤ (l5 + 1).toInt ∧ (l5 + 1).toInt ≤ 5) ∧ fwR (h 40) (h 39 3).toInt.toNat (h 40 4).toInt l3.toInt (fgA (h 40) l3.toInt l4.toInt.toNat + fgH (h 40 l4.toInt.toNat).toInt l3.toInt (l5 + 1).toInt.toNat) (l1 - 0).toInt (l2 + r15).toInt ∧ (∀ j : Nat, j < 49 → g 41 j = h 40 j); have h01 : (0 : Int32).toInt = 0 := rfl; have h11 : (1 : Int32).toInt = 1 := rfl; have q1 := ti_mulL (10 : Int32) 10 rfl l4; have q2 := ti_add (10 * l4) l5; have q3 : ((10 * l4) + l5).toInt = 10 * l4.toInt + l5.toInt := (by omega); rw [q3, show (10 * l4.toInt + l5.toInt) / 10 = l4.toInt by omega, show (10 * l4.toInt + l5.toInt) % 10 = ((l5.toInt.toNat : Nat) : Int) by omega, hi0.2.2 _ (by omega), rmF_C (hkd l4.toInt.toNat (by omega)) (by omega)] at o5; have e9 : (l5 + 1).toInt.toNat = l5.toInt.toNat + 1 := (by omega); have hc := congrArg Int32.toInt (show r3 = l3 from by assumption); have hH := fgH_t (k := (h 40 l4.toInt.toNat).toInt) (r := l3.toInt) (n := l5.toInt.toNat) (by omega); have q7 := ti_subK l1 (0 : Int32) 0 rfl; exact ⟨by omega, by rw [e9, hH, ← Nat.add_assoc]; exact fwR_n hi0.2.1 (by omega) (by omega) (by omega), hi0.2.2⟩), hgmi, hgsm, hgzs, hgrw, hgam, (fun k hk => hgf k hk)⟩ (by have : (0 : Int32).toInt = 0 := rfl; have := ti_addK l5 (1 : Int32) 1 rfl; have := ti_mulL (10 : Int32) 10 rfl l4; have := ti_add (10 * l4) l5; show (l3.toInt * 10000 + (4 - l4.toInt) * 100 + 40 - (l5 + 1).toInt).toNat < n; omega)
            · exact absurd c19 (by decide)
          · refine tx_142 X g (1 : Int32) trivial _ (fun r20 p21 => ?_)
            have o22 : ((1 : Int32).toInt = 0 ∧ r20.toInt = 0) ∨ (¬ (1 : Int32).toInt = 0 ∧ r20.toInt = 1) := p21
            clear p21
            show ((1 : Int32) = 0 → (qm_PA X 210 34 [(0, .ref 39), (1, .int (l1 - 0)), (2, .int (l2 + r20)), (3, .int l3), (4, .int l4), (5, .int (l5 + 1))] [] g Q)) ∧ (¬ (1 : Int32) = 0 → (qm_PA X 210 34 [(0, .ref 39), (1, .int (l1 - l3)), (2, .int (l2 + r20)), (3, .int l3), (4, .int l4), (5, .int (l5 + 1))] [] g Q))
            refine ⟨fun c23 => ?_, fun c24 => ?_⟩
            · exact absurd c23 (by decide)
            · exact ih.2.2 (l1 - l3) (l2 + r20) l3 l4 (l5 + 1) g ⟨(by have : (1 : Int32).toInt = 1 := rfl; have := ti_addK l5 (1 : Int32) 1 rfl; have := ti_sub l1 l3; have := ti_add l2 r20; have := ti_mulL (10 : Int32) 10 rfl l4; have := ti_add (10 * l4) l5; show ((1 ≤ l3.toInt ∧ l3.toInt ≤ 3) ∧ (0 ≤ l4.toInt ∧ l4.toInt < (h 39 3).toInt) ∧ 0 ≤ (l5 + 1).toInt ∧ (l5 + 1).toInt ≤ 5) ∧ fwR (h 40) (h 39 3).toInt.toNat (h 40 4).toInt l3.toInt (fgA (h 40) l3.toInt l4.toInt.toNat + fgH (h 40 l4.toInt.toNat).toInt l3.toInt (l5 + 1).toInt.toNat) (l1 - l3).toInt (l2 + r20).toInt ∧ (∀ j : Nat, j < 49 → g 41 j = h 40 j); have h01 : (0 : Int32).toInt = 0 := rfl; have h11 : (1 : Int32).toInt = 1 := rfl; have q1 := ti_mulL (10 : Int32) 10 rfl l4; have q2 := ti_add (10 * l4) l5; have q3 : ((10 * l4) + l5).toInt = 10 * l4.toInt + l5.toInt := (by omega); rw [q3, show (10 * l4.toInt + l5.toInt) / 10 = l4.toInt by omega, show (10 * l4.toInt + l5.toInt) % 10 = ((l5.toInt.toNat : Nat) : Int) by omega, hi0.2.2 _ (by omega), rmF_C (hkd l4.toInt.toNat (by omega)) (by omega)] at o5; have e9 : (l5 + 1).toInt.toNat = l5.toInt.toNat + 1 := (by omega); have hc := congrArg Int32.toInt (show r3 = l3 from by assumption); have hH := fgH_t (k := (h 40 l4.toInt.toNat).toInt) (r := l3.toInt) (n := l5.toInt.toNat) (by omega); have q7 := ti_sub l1 l3; exact ⟨by omega, by rw [e9, hH, ← Nat.add_assoc]; exact fwR_y hi0.2.1 (by omega) (by omega) (by omega), hi0.2.2⟩), hgmi, hgsm, hgzs, hgrw, hgam, (fun k hk => hgf k hk)⟩ (by have : (1 : Int32).toInt = 1 := rfl; have := ti_addK l5 (1 : Int32) 1 rfl; have := ti_mulL (10 : Int32) 10 rfl l4; have := ti_add (10 * l4) l5; show (l3.toInt * 10000 + (4 - l4.toInt) * 100 + 40 - (l5 + 1).toInt).toNat < n; omega)
set_option maxRecDepth 100000 in
set_option maxHeartbeats 4000000 in
theorem ty_210 (X : qm_X) (h : qm_H) (hp : mi h ∧ sm h ∧ zs h ∧ rw_ h ∧ wr h) (Q : qm_Q) (hq : ∀ r : Int32, ∀ h' : qm_H, (mi h' ∧ sm h' ∧ zs h' ∧ rw_ h' ∧ (∀ k, (k < 41 ∨ 41 < k) → h' k = h k) ∧ (r.toInt = qFewest (mR h))) → Q (some (.int r)) h') : qm_PW X 210 [.ref 39] h Q := by
  have hmmi : mi h := hp.1
  have ⟨⟨_, _⟩, ⟨_, _⟩, ⟨_, _⟩, ⟨_, _⟩, _, _⟩ := hmmi
  have hmsm : sm h := hp.2.1
  have ⟨⟨⟨_, _⟩, _, _⟩, _, _, _⟩ := hmsm
  have hmzs : zs h := hp.2.2.1
  have hmrw : rw_ h := hp.2.2.2.1
  have hmwr : wr h := hp.2.2.2.2
  have hkd := (wf_raw (show wfM (mR h) from hmwr)).2.1
  refine qm_seg_ok (C := qc_210) (rt := some .int) rfl rfl (cuts := [(15, [0, 1, 2, 3]), (22, [0, 1, 2, 3, 4]), (34, [0, 1, 2, 3, 4, 5])]) 400 _ _ _ _ ?_
  show qm_PW X 169 [.ref 39] h _
  refine sf_169_39 X h  hmsm _ (fun g1 p2 => ?_)
  obtain ⟨p2_0, p2_1, p2_2⟩ := p2
  have f3 : ∀ k, (k < 41 ∨ 41 < k) → g1 k = h k := fun k hk => (p2_1 k (by omega)).trans (rfl)
  have k4 : mi g1 := by unfold mi; rw [p2_1 39 (by omega)]; exact hmmi
  have k5 : sm g1 := by unfold sm; rw [p2_1 40 (by omega)]; exact hmsm
  have k6 : zs g1 := by unfold zs; rw [p2_1 49 (by omega)]; exact hmzs
  have k7 : rw_ g1 := by unfold rw_; rw [p2_1 46 (by omega)]; exact hmrw
  have k8 : wr g1 := wf_tr2 hmwr (mR_of (congrFun (p2_1 39 (by omega)) 3) (p2_1 40 (by omega)))
  have o9 : (∀ j : Nat, j < 49 → g1 41 j = h 40 j) := p2_2
  clear p2_2
  have w39_g1 : g1 39 = h 39 := (p2_1 39 (by omega))
  have w40_g1 : g1 40 = h 40 := (p2_1 40 (by omega))
  have sA_g1 : ∀ j : Nat, j < 49 → g1 41 j = h 40 j := o9
  have s4_g1 : (g1 41 4).toInt = (h 40 4).toInt := congrArg Int32.toInt (sA_g1 4 (by decide))
  show (0 ≤ (4 : Int) ∧ (4 : Int) < 49) ∧ (qm_PA X 210 15 [(0, .ref 39), (1, .int (g1 41 4)), (2, .int 0), (3, .int 3)] [] g1 Q)
  refine ⟨by decide, ?_⟩
  exact (ty_210_c X h hp Q hq _).1 (g1 41 4) (0 : Int32) (3 : Int32) g1 ⟨(by have : (3 : Int32).toInt = 3 := rfl; have : (0 : Int32).toInt = 0 := rfl; show (0 ≤ (3 : Int32).toInt ∧ (3 : Int32).toInt ≤ 3) ∧ ((g1 41 4).toInt, (0 : Int32).toInt) = fewS (h 40) (h 39 3).toInt.toNat (h 40 4).toInt (3 - (3 : Int32).toInt).toNat ∧ (∀ j : Nat, j < 49 → g1 41 j = h 40 j); have h33 : (3 : Int32).toInt = 3 := rfl; exact ⟨by omega, by rw [s4_g1]; rfl, sA_g1⟩), k4, k5, k6, k7, p2_0, (fun k hk => f3 k hk)⟩ (Nat.lt_succ_self _)
