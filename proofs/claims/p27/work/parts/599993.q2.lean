-- ThreadBankModel.quarrel(I)I
set_option maxRecDepth 100000 in
set_option maxHeartbeats 4000000 in
theorem ty_218_c (X : qm_X) (h : qm_H) (a : Int32) (hp : mi h ∧ sm h ∧ zs h ∧ rw_ h) (Q : qm_Q) (hq : ∀ r : Int32, ∀ h' : qm_H, (mi h' ∧ sm h' ∧ zs h' ∧ rw_ h' ∧ (∀ k, (k < 41 ∨ 41 < k) → h' k = h k) ∧ (r.toInt = qQuarrel a.toInt (mR h))) → Q (some (.int r)) h') : ∀ n : Nat, (∀ (l2 : Int32) (l3 : Int32) (l4 : Int32) (g : qm_H), ((((0 ≤ l4.toInt ∧ l4.toInt ≤ (h 40 4).toInt) ∧ 0 ≤ a.toInt ∧ a.toInt ≤ 1) ∧ (l2.toInt, l3.toInt) = qfO (qrF (fun t => h 40 (6 + 3 * t)) (fun t => h 40 (7 + 3 * t)) (fun t => h 40 (8 + 3 * t))) (h 40 4).toInt.toNat l4.toInt.toNat ∧ (∀ j : Nat, j < 49 → g 41 j = h 40 j)) ∧ mi g ∧ sm g ∧ zs g ∧ rw_ g ∧ am g ∧ ∀ k, (k < 41 ∨ 41 < k) → g k = h k) → ((10 - l4.toInt) * 100 + 50).toNat < n → qm_PA X 218 21 [(0, .ref 39), (1, .int a), (2, .int l2), (3, .int l3), (4, .int l4)] [] g Q) ∧ (∀ (l2 : Int32) (l3 : Int32) (l4 : Int32) (l5 : Int32) (g : qm_H), ((((0 ≤ l4.toInt ∧ l4.toInt < (h 40 4).toInt) ∧ (l4.toInt < l5.toInt ∧ l5.toInt ≤ (h 40 4).toInt) ∧ 0 ≤ a.toInt ∧ a.toInt ≤ 1) ∧ (l2.toInt, l3.toInt) = qfI (qrF (fun t => h 40 (6 + 3 * t)) (fun t => h 40 (7 + 3 * t)) (fun t => h 40 (8 + 3 * t))) l4.toInt.toNat l5.toInt.toNat (qfO (qrF (fun t => h 40 (6 + 3 * t)) (fun t => h 40 (7 + 3 * t)) (fun t => h 40 (8 + 3 * t))) (h 40 4).toInt.toNat l4.toInt.toNat) ∧ (∀ j : Nat, j < 49 → g 41 j = h 40 j)) ∧ mi g ∧ sm g ∧ zs g ∧ rw_ g ∧ am g ∧ ∀ k, (k < 41 ∨ 41 < k) → g k = h k) → ((10 - l4.toInt) * 100 + 40 - l5.toInt).toNat < n → qm_PA X 218 38 [(0, .ref 39), (1, .int a), (2, .int l2), (3, .int l3), (4, .int l4), (5, .int l5)] [] g Q) := by
  have hmmi : mi h := hp.1
  have ⟨⟨_, _⟩, ⟨_, _⟩, ⟨_, _⟩, ⟨_, _⟩, _, _⟩ := hmmi
  have hmsm : sm h := hp.2.1
  have ⟨⟨⟨_, _⟩, _, _⟩, _, _, _⟩ := hmsm
  have hmzs : zs h := hp.2.2.1
  have hmrw : rw_ h := hp.2.2.2
  intro n
  induction n with
  | zero => exact ⟨fun _ _ _ _ _ h0 => absurd h0 (Nat.not_lt_zero _), fun _ _ _ _ _ _ h0 => absurd h0 (Nat.not_lt_zero _)⟩
  | succ n ih =>
    refine ⟨?_, ?_⟩
    · intro l2 l3 l4 g hi hr
      obtain ⟨hi0, hgmi, hgsm, hgzs, hgrw, hgam, hgf⟩ := hi
      have ⟨⟨_, _⟩, ⟨_, _⟩, ⟨_, _⟩, ⟨_, _⟩, _, _⟩ := hgmi
      have ⟨⟨⟨_, _⟩, _, _⟩, _, _, _⟩ := hgsm
      have ⟨⟨_, _⟩, ⟨_, _⟩, _, _, _⟩ := hgam
      have ti_l4 := ti_rng l4
      have e4_g : (g 41 4).toInt = (h 40 4).toInt := congrArg Int32.toInt (hi0.2.2 4 (by decide))
      refine qm_seg_ok (C := qc_218) (rt := some .int) rfl rfl (cuts := [(21, [0, 1, 2, 3, 4]), (38, [0, 1, 2, 3, 4, 5])]) 400 _ _ _ _ ?_
      show (0 ≤ (4 : Int) ∧ (4 : Int) < 49) ∧ (((g 41 4).toInt ≤ l4.toInt → ((¬ a = 0 → (Q (some (.int l3)) g)) ∧ (a = 0 → (Q (some (.int l2)) g)))) ∧ (l4.toInt < (g 41 4).toInt → (qm_PA X 218 38 [(0, .ref 39), (1, .int a), (2, .int l2), (3, .int l3), (4, .int l4), (5, .int (l4 + 1))] [] g Q)))
      refine ⟨by decide, ?_⟩
      refine ⟨fun c1 => ?_, fun c2 => ?_⟩
      · refine ⟨fun c3 => ?_, fun c4 => ?_⟩
        · have := ti_neK 0 rfl c3
          exact hq l3 g ⟨hgmi, hgsm, hgzs, hgrw, (fun k hk => hgf k hk), (by have := hmsm.1; show l3.toInt = qQuarrel a.toInt (mR h); have hz := hi0.2.1; rw [show l4.toInt.toNat = (h 40 4).toInt.toNat by omega] at hz; exact (show _ = qQuarrel a.toInt (mR h) from quarrel_ok (by omega) hz (by omega)))⟩
        · have := ti_eqK 0 rfl c4
          exact hq l2 g ⟨hgmi, hgsm, hgzs, hgrw, (fun k hk => hgf k hk), (by have := hmsm.1; show l2.toInt = qQuarrel a.toInt (mR h); have hz := hi0.2.1; rw [show l4.toInt.toNat = (h 40 4).toInt.toNat by omega] at hz; exact (show _ = qQuarrel a.toInt (mR h) from quarrel_ok (by omega) hz (by omega)))⟩
      · exact ih.2 l2 l3 l4 (l4 + 1) g ⟨(by show ((0 ≤ l4.toInt ∧ l4.toInt < (h 40 4).toInt) ∧ (l4.toInt < (l4 + 1).toInt ∧ (l4 + 1).toInt ≤ (h 40 4).toInt) ∧ 0 ≤ a.toInt ∧ a.toInt ≤ 1) ∧ (l2.toInt, l3.toInt) = qfI (qrF (fun t => h 40 (6 + 3 * t)) (fun t => h 40 (7 + 3 * t)) (fun t => h 40 (8 + 3 * t))) l4.toInt.toNat (l4 + 1).toInt.toNat (qfO (qrF (fun t => h 40 (6 + 3 * t)) (fun t => h 40 (7 + 3 * t)) (fun t => h 40 (8 + 3 * t))) (h 40 4).toInt.toNat l4.toInt.toNat) ∧ (∀ j : Nat, j < 49 → g 41 j = h 40 j); have qa4 := ti_addK l4 (1 : Int32) 1 rfl (by omega); exact ⟨by omega, hi0.2.1.trans (qfI_lo (by omega)).symm, hi0.2.2⟩), hgmi, hgsm, hgzs, hgrw, hgam, (fun k hk => hgf k hk)⟩ (by have := ti_addK l4 (1 : Int32) 1 rfl; have := hmsm.1; show ((10 - l4.toInt) * 100 + 40 - (l4 + 1).toInt).toNat < n; omega)
    · intro l2 l3 l4 l5 g hi hr
      obtain ⟨hi0, hgmi, hgsm, hgzs, hgrw, hgam, hgf⟩ := hi
      have ⟨⟨_, _⟩, ⟨_, _⟩, ⟨_, _⟩, ⟨_, _⟩, _, _⟩ := hgmi
      have ⟨⟨⟨_, _⟩, _, _⟩, _, _, _⟩ := hgsm
      have ⟨⟨_, _⟩, ⟨_, _⟩, _, _, _⟩ := hgam
      have ti_l5 := ti_rng l5
      have e4_g : (g 41 4).toInt = (h 40 4).toInt := congrArg Int32.toInt (hi0.2.2 4 (by decide))
      have hr1 := qfI_rng (Q := qrF (fun t => h 40 (6 + 3 * t)) (fun t => h 40 (7 + 3 * t)) (fun t => h 40 (8 + 3 * t))) (t := l4.toInt.toNat) (qfO_rng (Q := qrF (fun t => h 40 (6 + 3 * t)) (fun t => h 40 (7 + 3 * t)) (fun t => h 40 (8 + 3 * t))) (n := (h 40 4).toInt.toNat) (by omega) l4.toInt.toNat) l5.toInt.toNat
      rw [← hi0.2.1] at hr1
      have hr2 : 0 ≤ l2.toInt ∧ l2.toInt ≤ 10 * ((l4.toInt.toNat : Nat) : Int) + ((l5.toInt.toNat : Nat) : Int) := hr1
      clear hr1
      refine qm_seg_ok (C := qc_218) (rt := some .int) rfl rfl (cuts := [(21, [0, 1, 2, 3, 4]), (38, [0, 1, 2, 3, 4, 5])]) 400 _ _ _ _ ?_
      show (0 ≤ (4 : Int) ∧ (4 : Int) < 49) ∧ (((g 41 4).toInt ≤ l5.toInt → (qm_PA X 218 21 [(0, .ref 39), (1, .int a), (2, .int l2), (3, .int l3), (4, .int (l4 + 1))] [] g Q)) ∧ (l5.toInt < (g 41 4).toInt → (qm_PW X 172 [.ref 39, .int l4] g _)))
      refine ⟨by decide, ?_⟩
      refine ⟨fun c1 => ?_, fun c2 => ?_⟩
      · exact ih.1 l2 l3 (l4 + 1) g ⟨(by have := ti_addK l4 (1 : Int32) 1 rfl; have := hmsm.1; show ((0 ≤ (l4 + 1).toInt ∧ (l4 + 1).toInt ≤ (h 40 4).toInt) ∧ 0 ≤ a.toInt ∧ a.toInt ≤ 1) ∧ (l2.toInt, l3.toInt) = qfO (qrF (fun t => h 40 (6 + 3 * t)) (fun t => h 40 (7 + 3 * t)) (fun t => h 40 (8 + 3 * t))) (h 40 4).toInt.toNat (l4 + 1).toInt.toNat ∧ (∀ j : Nat, j < 49 → g 41 j = h 40 j); have h5 : l5.toInt.toNat = (h 40 4).toInt.toNat := (by omega); have hz := hi0.2.1; rw [h5] at hz; exact ⟨by omega, by rw [show (l4 + 1).toInt.toNat = l4.toInt.toNat + 1 by omega]; exact hz, hi0.2.2⟩), hgmi, hgsm, hgzs, hgrw, hgam, (fun k hk => hgf k hk)⟩ (by have := ti_addK l4 (1 : Int32) 1 rfl; have := hmsm.1; show ((10 - (l4 + 1).toInt) * 100 + 50).toNat < n; omega)
      · refine ty_172 X g l4 ⟨hgam, (by have := hmsm.1; omega)⟩ _ (fun r3 p4 => ?_)
        have o5 : r3.toInt = ((g 41 (6 + 3 * l4.toInt.toNat)) / 10).toInt ∧ (0 ≤ r3.toInt ∧ r3.toInt ≤ 3) := p4
        clear p4
        show qm_PW X 172 [.ref 39, .int l5] g _
        refine ty_172 X g l5 ⟨hgam, (by have := ti_div (10 : Int32) 10 rfl (g 41 (6 + 3 * l4.toInt.toNat)) (by decide); have := hmsm.1; omega)⟩ _ (fun r6 p7 => ?_)
        have o8 : r6.toInt = ((g 41 (6 + 3 * l5.toInt.toNat)) / 10).toInt ∧ (0 ≤ r6.toInt ∧ r6.toInt ≤ 3) := p7
        clear p7
        show (r3 = r6 → (((0 : Int32) = 0 → (qm_PW X 142 [.int 0] g _)) ∧ (¬ (0 : Int32) = 0 → ((¬ l2 = 0 → (qm_PW X 142 [.int 0] g _)) ∧ (l2 = 0 → (qm_PW X 142 [.int 0] g _)))))) ∧ (¬ r3 = r6 → (qm_PW X 171 [.ref 39, .int l4, .int 1] g _))
        refine ⟨fun c9 => ?_, fun c10 => ?_⟩
        · refine ⟨fun c11 => ?_, fun c12 => ?_⟩
          · refine tx_142 X g (0 : Int32) trivial _ (fun r13 p14 => ?_)
            have o15 : ((0 : Int32).toInt = 0 ∧ r13.toInt = 0) ∨ (¬ (0 : Int32).toInt = 0 ∧ r13.toInt = 1) := p14
            clear p14
            show qm_PA X 218 38 [(0, .ref 39), (1, .int a), (2, .int (l2 + r13)), (3, .int l3), (4, .int l4), (5, .int (l5 + 1))] [] g Q
            exact ih.2 (l2 + r13) l3 l4 (l5 + 1) g ⟨(by show ((0 ≤ l4.toInt ∧ l4.toInt < (h 40 4).toInt) ∧ (l4.toInt < (l5 + 1).toInt ∧ (l5 + 1).toInt ≤ (h 40 4).toInt) ∧ 0 ≤ a.toInt ∧ a.toInt ≤ 1) ∧ ((l2 + r13).toInt, l3.toInt) = qfI (qrF (fun t => h 40 (6 + 3 * t)) (fun t => h 40 (7 + 3 * t)) (fun t => h 40 (8 + 3 * t))) l4.toInt.toNat (l5 + 1).toInt.toNat (qfO (qrF (fun t => h 40 (6 + 3 * t)) (fun t => h 40 (7 + 3 * t)) (fun t => h 40 (8 + 3 * t))) (h 40 4).toInt.toNat l4.toInt.toNat) ∧ (∀ j : Nat, j < 49 → g 41 j = h 40 j); have qa5 := ti_addK l5 (1 : Int32) 1 rfl (by omega); have e9 : (l5 + 1).toInt.toNat = l5.toInt.toNat + 1 := (by omega); have h01 : (0 : Int32).toInt = 0 := rfl; have h11 : (1 : Int32).toInt = 1 := rfl; have x0 := Int32.toInt_inj.mp o5.1; rw [hi0.2.2 _ (by omega)] at x0; have x1 := Int32.toInt_inj.mp o8.1; rw [hi0.2.2 _ (by omega)] at x1; have q8 := ti_add l2 r13 (by omega); exact ⟨by omega, by rw [e9]; exact qfI_n hi0.2.1 (fun w => w.2.1 (by rw [← x0, ← x1]; exact congrArg Int32.toInt (show r3 = r6 from by assumption))) (by omega) rfl, hi0.2.2⟩), hgmi, hgsm, hgzs, hgrw, hgam, (fun k hk => hgf k hk)⟩ (by have : (0 : Int32).toInt = 0 := rfl; have := ti_addK l5 (1 : Int32) 1 rfl; have := ti_div (10 : Int32) 10 rfl (g 41 (6 + 3 * l4.toInt.toNat)) (by decide); have := ti_div (10 : Int32) 10 rfl (g 41 (6 + 3 * l5.toInt.toNat)) (by decide); have := hmsm.1; show ((10 - l4.toInt) * 100 + 40 - (l5 + 1).toInt).toNat < n; omega)
          · exact absurd c12 (by decide)
        · refine ty_171 X g l4 (1 : Int32) ⟨hgam, (by have : (1 : Int32).toInt = 1 := rfl; have := ti_div (10 : Int32) 10 rfl (g 41 (6 + 3 * l4.toInt.toNat)) (by decide); have := ti_div (10 : Int32) 10 rfl (g 41 (6 + 3 * l5.toInt.toNat)) (by decide); have := hmsm.1; omega)⟩ _ (fun r24 p25 => ?_)
          have o26 : (r24.toInt = (g 41 (7 + 3 * l4.toInt.toNat)).toInt ∧ 0 ≤ r24.toInt ∧ r24.toInt / 10 ≤ 3 ∧ r24.toInt % 10 ≤ 3) := p25.2.1 rfl
          clear p25
          show qm_PW X 171 [.ref 39, .int l5, .int 1] g _
          refine ty_171 X g l5 (1 : Int32) ⟨hgam, (by have : (1 : Int32).toInt = 1 := rfl; have := ti_div (10 : Int32) 10 rfl (g 41 (6 + 3 * l4.toInt.toNat)) (by decide); have := ti_div (10 : Int32) 10 rfl (g 41 (6 + 3 * l5.toInt.toNat)) (by decide); have := hmsm.1; omega)⟩ _ (fun r27 p28 => ?_)
          have o29 : (r27.toInt = (g 41 (7 + 3 * l5.toInt.toNat)).toInt ∧ 0 ≤ r27.toInt ∧ r27.toInt / 10 ≤ 3 ∧ r27.toInt % 10 ≤ 3) := p28.2.1 rfl
          clear p28
          show (¬ r24 = r27 → (((0 : Int32) = 0 → (qm_PW X 142 [.int 0] g _)) ∧ (¬ (0 : Int32) = 0 → ((¬ l2 = 0 → (qm_PW X 142 [.int 0] g _)) ∧ (l2 = 0 → (qm_PW X 142 [.int 0] g _)))))) ∧ (r24 = r27 → (qm_PW X 171 [.ref 39, .int l4, .int 2] g _))
          refine ⟨fun c30 => ?_, fun c31 => ?_⟩
          · refine ⟨fun c32 => ?_, fun c33 => ?_⟩
            · refine tx_142 X g (0 : Int32) trivial _ (fun r34 p35 => ?_)
              have o36 : ((0 : Int32).toInt = 0 ∧ r34.toInt = 0) ∨ (¬ (0 : Int32).toInt = 0 ∧ r34.toInt = 1) := p35
              clear p35
              show qm_PA X 218 38 [(0, .ref 39), (1, .int a), (2, .int (l2 + r34)), (3, .int l3), (4, .int l4), (5, .int (l5 + 1))] [] g Q
              exact ih.2 (l2 + r34) l3 l4 (l5 + 1) g ⟨(by show ((0 ≤ l4.toInt ∧ l4.toInt < (h 40 4).toInt) ∧ (l4.toInt < (l5 + 1).toInt ∧ (l5 + 1).toInt ≤ (h 40 4).toInt) ∧ 0 ≤ a.toInt ∧ a.toInt ≤ 1) ∧ ((l2 + r34).toInt, l3.toInt) = qfI (qrF (fun t => h 40 (6 + 3 * t)) (fun t => h 40 (7 + 3 * t)) (fun t => h 40 (8 + 3 * t))) l4.toInt.toNat (l5 + 1).toInt.toNat (qfO (qrF (fun t => h 40 (6 + 3 * t)) (fun t => h 40 (7 + 3 * t)) (fun t => h 40 (8 + 3 * t))) (h 40 4).toInt.toNat l4.toInt.toNat) ∧ (∀ j : Nat, j < 49 → g 41 j = h 40 j); have qa5 := ti_addK l5 (1 : Int32) 1 rfl (by omega); have e9 : (l5 + 1).toInt.toNat = l5.toInt.toNat + 1 := (by omega); have h01 : (0 : Int32).toInt = 0 := rfl; have h11 : (1 : Int32).toInt = 1 := rfl; have x0 := Int32.toInt_inj.mp o5.1; rw [hi0.2.2 _ (by omega)] at x0; have x1 := Int32.toInt_inj.mp o8.1; rw [hi0.2.2 _ (by omega)] at x1; have x2 := Int32.toInt_inj.mp o26.1; rw [hi0.2.2 _ (by omega)] at x2; have x3 := Int32.toInt_inj.mp o29.1; rw [hi0.2.2 _ (by omega)] at x3; have q8 := ti_add l2 r34 (by omega); exact ⟨by omega, by rw [e9]; exact qfI_n hi0.2.1 (fun w => absurd (Int32.toInt_inj.mp (by rw [x2, x3]; exact w.2.2.1)) (show ¬ r24 = r27 from by assumption)) (by omega) rfl, hi0.2.2⟩), hgmi, hgsm, hgzs, hgrw, hgam, (fun k hk => hgf k hk)⟩ (by have : (0 : Int32).toInt = 0 := rfl; have := ti_addK l5 (1 : Int32) 1 rfl; have := ti_div (10 : Int32) 10 rfl (g 41 (6 + 3 * l4.toInt.toNat)) (by decide); have := ti_div (10 : Int32) 10 rfl (g 41 (6 + 3 * l5.toInt.toNat)) (by decide); have := hmsm.1; show ((10 - l4.toInt) * 100 + 40 - (l5 + 1).toInt).toNat < n; omega)
            · exact absurd c33 (by decide)
          · refine ty_171 X g l4 (2 : Int32) ⟨hgam, (by have : (2 : Int32).toInt = 2 := rfl; have := ti_div (10 : Int32) 10 rfl (g 41 (6 + 3 * l4.toInt.toNat)) (by decide); have := ti_div (10 : Int32) 10 rfl (g 41 (6 + 3 * l5.toInt.toNat)) (by decide); have := hmsm.1; omega)⟩ _ (fun r45 p46 => ?_)
            have o47 : (r45.toInt = (g 41 (8 + 3 * l4.toInt.toNat)).toInt ∧ 0 ≤ r45.toInt ∧ r45.toInt ≤ 99) := p46.2.2 rfl
            clear p46
            show ¬ (10 : Int32) = 0 ∧ (qm_PW X 171 [.ref 39, .int l5, .int 2] g _)
            refine ⟨by decide, ?_⟩
            refine ty_171 X g l5 (2 : Int32) ⟨hgam, (by have : (2 : Int32).toInt = 2 := rfl; have := ti_div (10 : Int32) 10 rfl (g 41 (6 + 3 * l4.toInt.toNat)) (by decide); have := ti_div (10 : Int32) 10 rfl (g 41 (6 + 3 * l5.toInt.toNat)) (by decide); have := hmsm.1; omega)⟩ _ (fun r48 p49 => ?_)
            have o50 : (r48.toInt = (g 41 (8 + 3 * l5.toInt.toNat)).toInt ∧ 0 ≤ r48.toInt ∧ r48.toInt ≤ 99) := p49.2.2 rfl
            clear p49
            show ¬ (10 : Int32) = 0 ∧ ((¬ (r45 - r45 / 10 * 10) = (r48 - r48 / 10 * 10) → (((0 : Int32) = 0 → (qm_PW X 142 [.int 0] g _)) ∧ (¬ (0 : Int32) = 0 → ((¬ l2 = 0 → (qm_PW X 142 [.int 0] g _)) ∧ (l2 = 0 → (qm_PW X 142 [.int 0] g _)))))) ∧ ((r45 - r45 / 10 * 10) = (r48 - r48 / 10 * 10) → (qm_PW X 171 [.ref 39, .int l4, .int 2] g _)))
            refine ⟨by decide, ?_⟩
            refine ⟨fun c51 => ?_, fun c52 => ?_⟩
            · refine ⟨fun c53 => ?_, fun c54 => ?_⟩
              · refine tx_142 X g (0 : Int32) trivial _ (fun r55 p56 => ?_)
                have o57 : ((0 : Int32).toInt = 0 ∧ r55.toInt = 0) ∨ (¬ (0 : Int32).toInt = 0 ∧ r55.toInt = 1) := p56
                clear p56
                show qm_PA X 218 38 [(0, .ref 39), (1, .int a), (2, .int (l2 + r55)), (3, .int l3), (4, .int l4), (5, .int (l5 + 1))] [] g Q
                exact ih.2 (l2 + r55) l3 l4 (l5 + 1) g ⟨(by show ((0 ≤ l4.toInt ∧ l4.toInt < (h 40 4).toInt) ∧ (l4.toInt < (l5 + 1).toInt ∧ (l5 + 1).toInt ≤ (h 40 4).toInt) ∧ 0 ≤ a.toInt ∧ a.toInt ≤ 1) ∧ ((l2 + r55).toInt, l3.toInt) = qfI (qrF (fun t => h 40 (6 + 3 * t)) (fun t => h 40 (7 + 3 * t)) (fun t => h 40 (8 + 3 * t))) l4.toInt.toNat (l5 + 1).toInt.toNat (qfO (qrF (fun t => h 40 (6 + 3 * t)) (fun t => h 40 (7 + 3 * t)) (fun t => h 40 (8 + 3 * t))) (h 40 4).toInt.toNat l4.toInt.toNat) ∧ (∀ j : Nat, j < 49 → g 41 j = h 40 j); have qa5 := ti_addK l5 (1 : Int32) 1 rfl (by omega); have e9 : (l5 + 1).toInt.toNat = l5.toInt.toNat + 1 := (by omega); have h01 : (0 : Int32).toInt = 0 := rfl; have h11 : (1 : Int32).toInt = 1 := rfl; have x0 := Int32.toInt_inj.mp o5.1; rw [hi0.2.2 _ (by omega)] at x0; have x1 := Int32.toInt_inj.mp o8.1; rw [hi0.2.2 _ (by omega)] at x1; have x2 := Int32.toInt_inj.mp o26.1; rw [hi0.2.2 _ (by omega)] at x2; have x3 := Int32.toInt_inj.mp o29.1; rw [hi0.2.2 _ (by omega)] at x3; have x4 := Int32.toInt_inj.mp o47.1; rw [hi0.2.2 _ (by omega)] at x4; have x5 := Int32.toInt_inj.mp o50.1; rw [hi0.2.2 _ (by omega)] at x5; have q8 := ti_add l2 r55 (by omega); exact ⟨by omega, by rw [e9]; exact qfI_n hi0.2.1 (fun w => absurd (Int32.toInt_inj.mp (by rw [x4, x5]; exact w.2.2.2.1)) (show ¬ (r45 - r45 / 10 * 10) = (r48 - r48 / 10 * 10) from by assumption)) (by omega) rfl, hi0.2.2⟩), hgmi, hgsm, hgzs, hgrw, hgam, (fun k hk => hgf k hk)⟩ (by have : (0 : Int32).toInt = 0 := rfl; have := ti_addK l5 (1 : Int32) 1 rfl; have := ti_div (10 : Int32) 10 rfl (g 41 (6 + 3 * l4.toInt.toNat)) (by decide); have := ti_div (10 : Int32) 10 rfl (g 41 (6 + 3 * l5.toInt.toNat)) (by decide); have := hmsm.1; show ((10 - l4.toInt) * 100 + 40 - (l5 + 1).toInt).toNat < n; omega)
              · exact absurd c54 (by decide)
            · refine ty_171 X g l4 (2 : Int32) ⟨hgam, (by have : (2 : Int32).toInt = 2 := rfl; have := ti_div (10 : Int32) 10 rfl (g 41 (6 + 3 * l4.toInt.toNat)) (by decide); have := ti_div (10 : Int32) 10 rfl (g 41 (6 + 3 * l5.toInt.toNat)) (by decide); have := hmsm.1; omega)⟩ _ (fun r66 p67 => ?_)
              have o68 : (r66.toInt = (g 41 (8 + 3 * l4.toInt.toNat)).toInt ∧ 0 ≤ r66.toInt ∧ r66.toInt ≤ 99) := p67.2.2 rfl
              clear p67
              show qm_PW X 171 [.ref 39, .int l5, .int 2] g _
              refine ty_171 X g l5 (2 : Int32) ⟨hgam, (by have : (2 : Int32).toInt = 2 := rfl; have := ti_div (10 : Int32) 10 rfl (g 41 (6 + 3 * l4.toInt.toNat)) (by decide); have := ti_div (10 : Int32) 10 rfl (g 41 (6 + 3 * l5.toInt.toNat)) (by decide); have := hmsm.1; omega)⟩ _ (fun r69 p70 => ?_)
              have o71 : (r69.toInt = (g 41 (8 + 3 * l5.toInt.toNat)).toInt ∧ 0 ≤ r69.toInt ∧ r69.toInt ≤ 99) := p70.2.2 rfl
              clear p70
              show (r66 = r69 → (((0 : Int32) = 0 → (qm_PW X 142 [.int 0] g _)) ∧ (¬ (0 : Int32) = 0 → ((¬ l2 = 0 → (qm_PW X 142 [.int 0] g _)) ∧ (l2 = 0 → (qm_PW X 142 [.int 0] g _)))))) ∧ (¬ r66 = r69 → (((1 : Int32) = 0 → (qm_PW X 142 [.int 1] g _)) ∧ (¬ (1 : Int32) = 0 → ((¬ l2 = 0 → (qm_PW X 142 [.int 1] g _)) ∧ (l2 = 0 → (qm_PW X 142 [.int 1] g _))))))
              refine ⟨fun c72 => ?_, fun c73 => ?_⟩
              · refine ⟨fun c74 => ?_, fun c75 => ?_⟩
                · refine tx_142 X g (0 : Int32) trivial _ (fun r76 p77 => ?_)
                  have o78 : ((0 : Int32).toInt = 0 ∧ r76.toInt = 0) ∨ (¬ (0 : Int32).toInt = 0 ∧ r76.toInt = 1) := p77
                  clear p77
                  show qm_PA X 218 38 [(0, .ref 39), (1, .int a), (2, .int (l2 + r76)), (3, .int l3), (4, .int l4), (5, .int (l5 + 1))] [] g Q
                  exact ih.2 (l2 + r76) l3 l4 (l5 + 1) g ⟨(by show ((0 ≤ l4.toInt ∧ l4.toInt < (h 40 4).toInt) ∧ (l4.toInt < (l5 + 1).toInt ∧ (l5 + 1).toInt ≤ (h 40 4).toInt) ∧ 0 ≤ a.toInt ∧ a.toInt ≤ 1) ∧ ((l2 + r76).toInt, l3.toInt) = qfI (qrF (fun t => h 40 (6 + 3 * t)) (fun t => h 40 (7 + 3 * t)) (fun t => h 40 (8 + 3 * t))) l4.toInt.toNat (l5 + 1).toInt.toNat (qfO (qrF (fun t => h 40 (6 + 3 * t)) (fun t => h 40 (7 + 3 * t)) (fun t => h 40 (8 + 3 * t))) (h 40 4).toInt.toNat l4.toInt.toNat) ∧ (∀ j : Nat, j < 49 → g 41 j = h 40 j); have qa5 := ti_addK l5 (1 : Int32) 1 rfl (by omega); have e9 : (l5 + 1).toInt.toNat = l5.toInt.toNat + 1 := (by omega); have h01 : (0 : Int32).toInt = 0 := rfl; have h11 : (1 : Int32).toInt = 1 := rfl; have x0 := Int32.toInt_inj.mp o5.1; rw [hi0.2.2 _ (by omega)] at x0; have x1 := Int32.toInt_inj.mp o8.1; rw [hi0.2.2 _ (by omega)] at x1; have x2 := Int32.toInt_inj.mp o26.1; rw [hi0.2.2 _ (by omega)] at x2; have x3 := Int32.toInt_inj.mp o29.1; rw [hi0.2.2 _ (by omega)] at x3; have x4 := Int32.toInt_inj.mp o47.1; rw [hi0.2.2 _ (by omega)] at x4; have x5 := Int32.toInt_inj.mp o50.1; rw [hi0.2.2 _ (by omega)] at x5; have x6 := Int32.toInt_inj.mp o68.1; rw [hi0.2.2 _ (by omega)] at x6; have x7 := Int32.toInt_inj.mp o71.1; rw [hi0.2.2 _ (by omega)] at x7; have q8 := ti_add l2 r76 (by omega); exact ⟨by omega, by rw [e9]; exact qfI_n hi0.2.1 (fun w => w.2.2.2.2 (congrArg (fun z : Int32 => (z / 10).toInt) (show (h 40 (8 + 3 * l4.toInt.toNat)) = (h 40 (8 + 3 * l5.toInt.toNat)) by rw [← x6, ← x7]; assumption))) (by omega) rfl, hi0.2.2⟩), hgmi, hgsm, hgzs, hgrw, hgam, (fun k hk => hgf k hk)⟩ (by have : (0 : Int32).toInt = 0 := rfl; have := ti_addK l5 (1 : Int32) 1 rfl; have := ti_div (10 : Int32) 10 rfl (g 41 (6 + 3 * l4.toInt.toNat)) (by decide); have := ti_div (10 : Int32) 10 rfl (g 41 (6 + 3 * l5.toInt.toNat)) (by decide); have := hmsm.1; show ((10 - l4.toInt) * 100 + 40 - (l5 + 1).toInt).toNat < n; omega)
                · exact absurd c75 (by decide)
              · refine ⟨fun c87 => ?_, fun c88 => ?_⟩
                · exact absurd c87 (by decide)
                · refine ⟨fun c92 => ?_, fun c93 => ?_⟩
                  · have := ti_neK 0 rfl c92
                    refine tx_142 X g (1 : Int32) trivial _ (fun r94 p95 => ?_)
                    have o96 : ((1 : Int32).toInt = 0 ∧ r94.toInt = 0) ∨ (¬ (1 : Int32).toInt = 0 ∧ r94.toInt = 1) := p95
                    clear p95
                    show qm_PA X 218 38 [(0, .ref 39), (1, .int a), (2, .int (l2 + r94)), (3, .int l3), (4, .int l4), (5, .int (l5 + 1))] [] g Q
                    exact ih.2 (l2 + r94) l3 l4 (l5 + 1) g ⟨(by show ((0 ≤ l4.toInt ∧ l4.toInt < (h 40 4).toInt) ∧ (l4.toInt < (l5 + 1).toInt ∧ (l5 + 1).toInt ≤ (h 40 4).toInt) ∧ 0 ≤ a.toInt ∧ a.toInt ≤ 1) ∧ ((l2 + r94).toInt, l3.toInt) = qfI (qrF (fun t => h 40 (6 + 3 * t)) (fun t => h 40 (7 + 3 * t)) (fun t => h 40 (8 + 3 * t))) l4.toInt.toNat (l5 + 1).toInt.toNat (qfO (qrF (fun t => h 40 (6 + 3 * t)) (fun t => h 40 (7 + 3 * t)) (fun t => h 40 (8 + 3 * t))) (h 40 4).toInt.toNat l4.toInt.toNat) ∧ (∀ j : Nat, j < 49 → g 41 j = h 40 j); have qa5 := ti_addK l5 (1 : Int32) 1 rfl (by omega); have e9 : (l5 + 1).toInt.toNat = l5.toInt.toNat + 1 := (by omega); have h01 : (0 : Int32).toInt = 0 := rfl; have h11 : (1 : Int32).toInt = 1 := rfl; have x0 := Int32.toInt_inj.mp o5.1; rw [hi0.2.2 _ (by omega)] at x0; have x1 := Int32.toInt_inj.mp o8.1; rw [hi0.2.2 _ (by omega)] at x1; have x2 := Int32.toInt_inj.mp o26.1; rw [hi0.2.2 _ (by omega)] at x2; have x3 := Int32.toInt_inj.mp o29.1; rw [hi0.2.2 _ (by omega)] at x3; have x4 := Int32.toInt_inj.mp o47.1; rw [hi0.2.2 _ (by omega)] at x4; have x5 := Int32.toInt_inj.mp o50.1; rw [hi0.2.2 _ (by omega)] at x5; have x6 := Int32.toInt_inj.mp o68.1; rw [hi0.2.2 _ (by omega)] at x6; have x7 := Int32.toInt_inj.mp o71.1; rw [hi0.2.2 _ (by omega)] at x7; have q1 := ti_mulL (10 : Int32) 10 rfl l4 (by omega); have q2 := ti_add (10 * l4) l5 (by omega); have q8 := ti_add l2 r94 (by omega); have hQ : qrF (fun t => h 40 (6 + 3 * t)) (fun t => h 40 (7 + 3 * t)) (fun t => h 40 (8 + 3 * t)) l4.toInt.toNat l5.toInt.toNat := ⟨fun w => absurd (Int32.toInt_inj.mp (show r3.toInt = r6.toInt by rw [x0, x1]; exact w)) (by assumption), congrArg Int32.toInt (show (h 40 (7 + 3 * l4.toInt.toNat)) = (h 40 (7 + 3 * l5.toInt.toNat)) by rw [← x2, ← x3]; assumption), congrArg Int32.toInt (show ((h 40 (8 + 3 * l4.toInt.toNat)) - (h 40 (8 + 3 * l4.toInt.toNat)) / 10 * 10) = ((h 40 (8 + 3 * l5.toInt.toNat)) - (h 40 (8 + 3 * l5.toInt.toNat)) / 10 * 10) by rw [← x4, ← x5]; assumption), fun w => absurd (qr_kn (x := (h 40 (8 + 3 * l4.toInt.toNat))) (y := (h 40 (8 + 3 * l5.toInt.toNat))) w (congrArg Int32.toInt (show ((h 40 (8 + 3 * l4.toInt.toNat)) - (h 40 (8 + 3 * l4.toInt.toNat)) / 10 * 10) = ((h 40 (8 + 3 * l5.toInt.toNat)) - (h 40 (8 + 3 * l5.toInt.toNat)) / 10 * 10) by rw [← x4, ← x5]; assumption)) (by rw [← x4]; omega) (by rw [← x5]; omega)) (show ¬ (h 40 (8 + 3 * l4.toInt.toNat)) = (h 40 (8 + 3 * l5.toInt.toNat)) by rw [← x6, ← x7]; assumption)⟩; exact ⟨by omega, by rw [e9]; exact qfI_y hi0.2.1 ⟨by omega, hQ⟩ (by omega) (by omega), hi0.2.2⟩), hgmi, hgsm, hgzs, hgrw, hgam, (fun k hk => hgf k hk)⟩ (by have : (1 : Int32).toInt = 1 := rfl; have := ti_addK l5 (1 : Int32) 1 rfl; have := ti_div (10 : Int32) 10 rfl (g 41 (6 + 3 * l4.toInt.toNat)) (by decide); have := ti_div (10 : Int32) 10 rfl (g 41 (6 + 3 * l5.toInt.toNat)) (by decide); have := hmsm.1; show ((10 - l4.toInt) * 100 + 40 - (l5 + 1).toInt).toNat < n; omega)
                  · have := ti_eqK 0 rfl c93
                    refine tx_142 X g (1 : Int32) trivial _ (fun r97 p98 => ?_)
                    have o99 : ((1 : Int32).toInt = 0 ∧ r97.toInt = 0) ∨ (¬ (1 : Int32).toInt = 0 ∧ r97.toInt = 1) := p98
                    clear p98
                    show qm_PA X 218 38 [(0, .ref 39), (1, .int a), (2, .int (l2 + r97)), (3, .int ((10 * l4) + l5)), (4, .int l4), (5, .int (l5 + 1))] [] g Q
                    exact ih.2 (l2 + r97) ((10 * l4) + l5) l4 (l5 + 1) g ⟨(by show ((0 ≤ l4.toInt ∧ l4.toInt < (h 40 4).toInt) ∧ (l4.toInt < (l5 + 1).toInt ∧ (l5 + 1).toInt ≤ (h 40 4).toInt) ∧ 0 ≤ a.toInt ∧ a.toInt ≤ 1) ∧ ((l2 + r97).toInt, ((10 * l4) + l5).toInt) = qfI (qrF (fun t => h 40 (6 + 3 * t)) (fun t => h 40 (7 + 3 * t)) (fun t => h 40 (8 + 3 * t))) l4.toInt.toNat (l5 + 1).toInt.toNat (qfO (qrF (fun t => h 40 (6 + 3 * t)) (fun t => h 40 (7 + 3 * t)) (fun t => h 40 (8 + 3 * t))) (h 40 4).toInt.toNat l4.toInt.toNat) ∧ (∀ j : Nat, j < 49 → g 41 j = h 40 j); have qa5 := ti_addK l5 (1 : Int32) 1 rfl (by omega); have e9 : (l5 + 1).toInt.toNat = l5.toInt.toNat + 1 := (by omega); have h01 : (0 : Int32).toInt = 0 := rfl; have h11 : (1 : Int32).toInt = 1 := rfl; have x0 := Int32.toInt_inj.mp o5.1; rw [hi0.2.2 _ (by omega)] at x0; have x1 := Int32.toInt_inj.mp o8.1; rw [hi0.2.2 _ (by omega)] at x1; have x2 := Int32.toInt_inj.mp o26.1; rw [hi0.2.2 _ (by omega)] at x2; have x3 := Int32.toInt_inj.mp o29.1; rw [hi0.2.2 _ (by omega)] at x3; have x4 := Int32.toInt_inj.mp o47.1; rw [hi0.2.2 _ (by omega)] at x4; have x5 := Int32.toInt_inj.mp o50.1; rw [hi0.2.2 _ (by omega)] at x5; have x6 := Int32.toInt_inj.mp o68.1; rw [hi0.2.2 _ (by omega)] at x6; have x7 := Int32.toInt_inj.mp o71.1; rw [hi0.2.2 _ (by omega)] at x7; have q1 := ti_mulL (10 : Int32) 10 rfl l4 (by omega); have q2 := ti_add (10 * l4) l5 (by omega); have q8 := ti_add l2 r97 (by omega); have hQ : qrF (fun t => h 40 (6 + 3 * t)) (fun t => h 40 (7 + 3 * t)) (fun t => h 40 (8 + 3 * t)) l4.toInt.toNat l5.toInt.toNat := ⟨fun w => absurd (Int32.toInt_inj.mp (show r3.toInt = r6.toInt by rw [x0, x1]; exact w)) (by assumption), congrArg Int32.toInt (show (h 40 (7 + 3 * l4.toInt.toNat)) = (h 40 (7 + 3 * l5.toInt.toNat)) by rw [← x2, ← x3]; assumption), congrArg Int32.toInt (show ((h 40 (8 + 3 * l4.toInt.toNat)) - (h 40 (8 + 3 * l4.toInt.toNat)) / 10 * 10) = ((h 40 (8 + 3 * l5.toInt.toNat)) - (h 40 (8 + 3 * l5.toInt.toNat)) / 10 * 10) by rw [← x4, ← x5]; assumption), fun w => absurd (qr_kn (x := (h 40 (8 + 3 * l4.toInt.toNat))) (y := (h 40 (8 + 3 * l5.toInt.toNat))) w (congrArg Int32.toInt (show ((h 40 (8 + 3 * l4.toInt.toNat)) - (h 40 (8 + 3 * l4.toInt.toNat)) / 10 * 10) = ((h 40 (8 + 3 * l5.toInt.toNat)) - (h 40 (8 + 3 * l5.toInt.toNat)) / 10 * 10) by rw [← x4, ← x5]; assumption)) (by rw [← x4]; omega) (by rw [← x5]; omega)) (show ¬ (h 40 (8 + 3 * l4.toInt.toNat)) = (h 40 (8 + 3 * l5.toInt.toNat)) by rw [← x6, ← x7]; assumption)⟩; exact ⟨by omega, by rw [e9]; exact qfI_y hi0.2.1 ⟨by omega, hQ⟩ (by omega) (by omega), hi0.2.2⟩), hgmi, hgsm, hgzs, hgrw, hgam, (fun k hk => hgf k hk)⟩ (by have : (1 : Int32).toInt = 1 := rfl; have := ti_addK l5 (1 : Int32) 1 rfl; have := ti_div (10 : Int32) 10 rfl (g 41 (6 + 3 * l4.toInt.toNat)) (by decide); have := ti_div (10 : Int32) 10 rfl (g 41 (6 + 3 * l5.toInt.toNat)) (by decide); have := hmsm.1; show ((10 - l4.toInt) * 100 + 40 - (l5 + 1).toInt).toNat < n; omega)
set_option maxRecDepth 100000 in
set_option maxHeartbeats 4000000 in
theorem ty_218 (X : qm_X) (h : qm_H) (a : Int32) (hp : mi h ∧ sm h ∧ zs h ∧ rw_ h) (Q : qm_Q) (hq : ∀ r : Int32, ∀ h' : qm_H, (mi h' ∧ sm h' ∧ zs h' ∧ rw_ h' ∧ (∀ k, (k < 41 ∨ 41 < k) → h' k = h k) ∧ (r.toInt = qQuarrel a.toInt (mR h))) → Q (some (.int r)) h') : qm_PW X 218 [.ref 39, .int a] h Q := by
  have hmmi : mi h := hp.1
  have ⟨⟨_, _⟩, ⟨_, _⟩, ⟨_, _⟩, ⟨_, _⟩, _, _⟩ := hmmi
  have hmsm : sm h := hp.2.1
  have ⟨⟨⟨_, _⟩, _, _⟩, _, _, _⟩ := hmsm
  have hmzs : zs h := hp.2.2.1
  have hmrw : rw_ h := hp.2.2.2
  refine qm_seg_ok (C := qc_218) (rt := some .int) rfl rfl (cuts := [(21, [0, 1, 2, 3, 4]), (38, [0, 1, 2, 3, 4, 5])]) 400 _ _ _ _ ?_
  show qm_PW X 168 [.int a] h _
  refine ty_168 X h a trivial _ (fun r1 p2 => ?_)
  have o3 : (r1 = 0 ∨ r1 = 1) ∧ ((r1.toInt = 1 ∧ 0 ≤ a.toInt ∧ a.toInt ≤ 1) ∨ (r1.toInt = 0 ∧ ¬ (0 ≤ a.toInt ∧ a.toInt ≤ 1))) := p2
  clear p2
  show (¬ r1 = 0 → (qm_PW X 169 [.ref 39] h _)) ∧ (r1 = 0 → (Q (some (.int (-1 : Int32))) h))
  refine ⟨fun c4 => ?_, fun c5 => ?_⟩
  · have := ti_neK 0 rfl c4
    refine sf_169_39 X h  hmsm _ (fun g6 p7 => ?_)
    obtain ⟨p7_0, p7_1, p7_2⟩ := p7
    have f8 : ∀ k, (k < 41 ∨ 41 < k) → g6 k = h k := fun k hk => (p7_1 k (by omega)).trans (rfl)
    have k9 : mi g6 := by unfold mi; rw [p7_1 39 (by omega)]; exact hmmi
    have k10 : sm g6 := by unfold sm; rw [p7_1 40 (by omega)]; exact hmsm
    have k11 : zs g6 := by unfold zs; rw [p7_1 49 (by omega)]; exact hmzs
    have k12 : rw_ g6 := by unfold rw_; rw [p7_1 46 (by omega)]; exact hmrw
    have o13 : (∀ j : Nat, j < 49 → g6 41 j = h 40 j) := p7_2
    clear p7_2
    have w39_g6 : g6 39 = h 39 := (p7_1 39 (by omega))
    have w40_g6 : g6 40 = h 40 := (p7_1 40 (by omega))
    have sA_g6 : ∀ j : Nat, j < 49 → g6 41 j = h 40 j := o13
    have s4_g6 : (g6 41 4).toInt = (h 40 4).toInt := congrArg Int32.toInt (sA_g6 4 (by decide))
    show qm_PA X 218 21 [(0, .ref 39), (1, .int a), (2, .int 0), (3, .int (-4 : Int32)), (4, .int 0)] [] g6 Q
    exact (ty_218_c X h a hp Q hq _).1 (0 : Int32) (-4 : Int32) (0 : Int32) g6 ⟨(by have : (0 : Int32).toInt = 0 := rfl; have := hmsm.1; show ((0 ≤ (0 : Int32).toInt ∧ (0 : Int32).toInt ≤ (h 40 4).toInt) ∧ 0 ≤ a.toInt ∧ a.toInt ≤ 1) ∧ ((0 : Int32).toInt, (-4 : Int32).toInt) = qfO (qrF (fun t => h 40 (6 + 3 * t)) (fun t => h 40 (7 + 3 * t)) (fun t => h 40 (8 + 3 * t))) (h 40 4).toInt.toNat (0 : Int32).toInt.toNat ∧ (∀ j : Nat, j < 49 → g6 41 j = h 40 j); exact ⟨by have : (0 : Int32).toInt = 0 := rfl; omega, rfl, sA_g6⟩), k9, k10, k11, k12, p7_0, (fun k hk => f8 k hk)⟩ (Nat.lt_succ_self _)
  · have := ti_eqK 0 rfl c5
    exact hq (-1 : Int32) h ⟨hmmi, hmsm, hmzs, hmrw, (fun k hk => rfl), (by show (-1 : Int32).toInt = qQuarrel a.toInt (mR h); rw [ti_n1]; exact (quarrel_no (M := mR h) (by omega)).symm)⟩
