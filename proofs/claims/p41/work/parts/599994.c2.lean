-- ThreadBankModel.isFirst(I)Z
set_option maxRecDepth 100000 in
set_option maxHeartbeats 4000000 in
theorem ty_213_c (X : qm_X) (h : qm_H) (a : Int32) (hp : am h ∧ (0 ≤ a.toInt ∧ a.toInt ≤ 9)) (Q : qm_Q) (hq : ∀ r : Int32, ((r = 0 ∨ r = 1) ∧ ((¬ r = 0 ∧ fsA (fun t => (h 41 (7 + 3 * t))) (fun t => (h 41 (8 + 3 * t))) a.toInt.toNat) ∨ (r = 0 ∧ ¬ fsA (fun t => (h 41 (7 + 3 * t))) (fun t => (h 41 (8 + 3 * t))) a.toInt.toNat))) → Q (some (.int r)) h) : ∀ n : Nat, (∀ (l2 : Int32) (l3 : Int32), (((0 ≤ l3.toInt ∧ l3.toInt ≤ a.toInt) ∧ anI l2 (sdF (fun t => h 41 (7 + 3 * t)) (fun t => h 41 (8 + 3 * t)) a.toInt.toNat) l3.toInt.toNat) ∧ (l2 = 0 ∨ l2 = 1)) → (9 - l3.toInt).toNat < n → qm_PA X 213 4 [(0, .ref 39), (1, .int a), (2, .int l2), (3, .int l3)] [] h Q) := by
  have hmam : am h := hp.1
  have ⟨⟨_, _⟩, ⟨_, _⟩, _, _, _⟩ := hmam
  have hp0 : 0 ≤ a.toInt ∧ a.toInt ≤ 9 := hp.2
  intro n
  induction n with
  | zero => exact fun _ _ _ h0 => absurd h0 (Nat.not_lt_zero _)
  | succ n ih =>
    intro l2 l3 hi hr
    obtain ⟨hi0, hb2⟩ := hi
    have ti_l3 := ti_rng l3
    refine qm_seg_ok (C := qc_213) (rt := some .boolean) rfl rfl (cuts := [(4, [0, 1, 2, 3])]) 400 _ _ _ _ ?_
    show (a.toInt ≤ l3.toInt → ((l2 = 0 ∨ l2 = 1) ∧ Q (some (.int l2)) h)) ∧ (l3.toInt < a.toInt → ((l2 = 0 → (qm_PA X 213 4 [(0, .ref 39), (1, .int a), (2, .int 0), (3, .int (l3 + 1))] [] h Q)) ∧ (¬ l2 = 0 → (qm_PW X 178 [.ref 39, .int a, .int l3] h _))))
    refine ⟨fun c1 => ?_, fun c2 => ?_⟩
    · exact ⟨hb2, hq l2 (by show (l2 = 0 ∨ l2 = 1) ∧ ((¬ l2 = 0 ∧ fsA (fun t => (h 41 (7 + 3 * t))) (fun t => (h 41 (8 + 3 * t))) a.toInt.toNat) ∨ (l2 = 0 ∧ ¬ fsA (fun t => (h 41 (7 + 3 * t))) (fun t => (h 41 (8 + 3 * t))) a.toInt.toNat)); exact ⟨hb2, anI_two hi0.2 (by omega)⟩)⟩
    · refine ⟨fun c3 => ?_, fun c4 => ?_⟩
      · have := ti_eqK 0 rfl c3
        exact ih (0 : Int32) (l3 + 1) ⟨(by have := ti_addK l3 (1 : Int32) 1 rfl; show (0 ≤ (l3 + 1).toInt ∧ (l3 + 1).toInt ≤ a.toInt) ∧ anI (0 : Int32) (sdF (fun t => h 41 (7 + 3 * t)) (fun t => h 41 (8 + 3 * t)) a.toInt.toNat) (l3 + 1).toInt.toNat; have e9 : (l3 + 1).toInt.toNat = l3.toInt.toNat + 1 := (by omega); exact ⟨by omega, by rw [e9]; exact anI_k hi0.2 (by assumption)⟩), (Or.inl rfl)⟩ (by have := ti_addK l3 (1 : Int32) 1 rfl; omega)
      · have := ti_neK 0 rfl c4
        refine ty_178 X h a l3 ⟨hmam, (by omega)⟩ _ (fun r5 p6 => ?_)
        have o7 : (r5 = 0 ∨ r5 = 1) ∧ ((r5.toInt = 1 ∧ (h 41 (7 + 3 * a.toInt.toNat)).toInt = (h 41 (7 + 3 * l3.toInt.toNat)).toInt ∧ (h 41 (8 + 3 * a.toInt.toNat)).toInt = (h 41 (8 + 3 * l3.toInt.toNat)).toInt) ∨ (r5.toInt = 0 ∧ ¬ ((h 41 (7 + 3 * a.toInt.toNat)).toInt = (h 41 (7 + 3 * l3.toInt.toNat)).toInt ∧ (h 41 (8 + 3 * a.toInt.toNat)).toInt = (h 41 (8 + 3 * l3.toInt.toNat)).toInt))) := p6
        clear p6
        show (¬ r5 = 0 → (qm_PA X 213 4 [(0, .ref 39), (1, .int a), (2, .int 0), (3, .int (l3 + 1))] [] h Q)) ∧ (r5 = 0 → (qm_PA X 213 4 [(0, .ref 39), (1, .int a), (2, .int 1), (3, .int (l3 + 1))] [] h Q))
        refine ⟨fun c8 => ?_, fun c9 => ?_⟩
        · have := ti_neK 0 rfl c8
          exact ih (0 : Int32) (l3 + 1) ⟨(by have := ti_addK l3 (1 : Int32) 1 rfl; show (0 ≤ (l3 + 1).toInt ∧ (l3 + 1).toInt ≤ a.toInt) ∧ anI (0 : Int32) (sdF (fun t => h 41 (7 + 3 * t)) (fun t => h 41 (8 + 3 * t)) a.toInt.toNat) (l3 + 1).toInt.toNat; have e9 : (l3 + 1).toInt.toNat = l3.toInt.toNat + 1 := (by omega); exact ⟨by omega, by rw [e9]; exact anI_n (P := sdF (fun t => h 41 (7 + 3 * t)) (fun t => h 41 (8 + 3 * t)) a.toInt.toNat) (show (h 41 (7 + 3 * a.toInt.toNat)).toInt = (h 41 (7 + 3 * l3.toInt.toNat)).toInt ∧ (h 41 (8 + 3 * a.toInt.toNat)).toInt = (h 41 (8 + 3 * l3.toInt.toNat)).toInt by omega)⟩), (Or.inl rfl)⟩ (by have := ti_addK l3 (1 : Int32) 1 rfl; omega)
        · have := ti_eqK 0 rfl c9
          exact ih (1 : Int32) (l3 + 1) ⟨(by have := ti_addK l3 (1 : Int32) 1 rfl; show (0 ≤ (l3 + 1).toInt ∧ (l3 + 1).toInt ≤ a.toInt) ∧ anI (1 : Int32) (sdF (fun t => h 41 (7 + 3 * t)) (fun t => h 41 (8 + 3 * t)) a.toInt.toNat) (l3 + 1).toInt.toNat; have e9 : (l3 + 1).toInt.toNat = l3.toInt.toNat + 1 := (by omega); exact ⟨by omega, by rw [e9]; exact anI_y hi0.2 (by assumption) (fun w => by have w : (h 41 (7 + 3 * a.toInt.toNat)).toInt = (h 41 (7 + 3 * l3.toInt.toNat)).toInt ∧ (h 41 (8 + 3 * a.toInt.toNat)).toInt = (h 41 (8 + 3 * l3.toInt.toNat)).toInt := w; omega)⟩), (Or.inr rfl)⟩ (by have := ti_addK l3 (1 : Int32) 1 rfl; omega)
set_option maxRecDepth 100000 in
set_option maxHeartbeats 4000000 in
theorem ty_213 (X : qm_X) (h : qm_H) (a : Int32) (hp : am h ∧ (0 ≤ a.toInt ∧ a.toInt ≤ 9)) (Q : qm_Q) (hq : ∀ r : Int32, ((r = 0 ∨ r = 1) ∧ ((¬ r = 0 ∧ fsA (fun t => (h 41 (7 + 3 * t))) (fun t => (h 41 (8 + 3 * t))) a.toInt.toNat) ∨ (r = 0 ∧ ¬ fsA (fun t => (h 41 (7 + 3 * t))) (fun t => (h 41 (8 + 3 * t))) a.toInt.toNat))) → Q (some (.int r)) h) : qm_PW X 213 [.ref 39, .int a] h Q := by
  have hmam : am h := hp.1
  have ⟨⟨_, _⟩, ⟨_, _⟩, _, _, _⟩ := hmam
  have hp0 : 0 ≤ a.toInt ∧ a.toInt ≤ 9 := hp.2
  refine qm_seg_ok (C := qc_213) (rt := some .boolean) rfl rfl (cuts := [(4, [0, 1, 2, 3])]) 400 _ _ _ _ ?_
  show qm_PA X 213 4 [(0, .ref 39), (1, .int a), (2, .int 1), (3, .int 0)] [] h Q
  exact (ty_213_c X h a hp Q hq _) (1 : Int32) (0 : Int32) ⟨(by have : (0 : Int32).toInt = 0 := rfl; show (0 ≤ (0 : Int32).toInt ∧ (0 : Int32).toInt ≤ a.toInt) ∧ anI (1 : Int32) (sdF (fun t => h 41 (7 + 3 * t)) (fun t => h 41 (8 + 3 * t)) a.toInt.toNat) (0 : Int32).toInt.toNat; exact ⟨by have : (0 : Int32).toInt = 0 := rfl; omega, anI_0 rfl⟩), (Or.inr rfl)⟩ (Nat.lt_succ_self _)
-- ThreadBankModel.count(I)I
set_option maxRecDepth 100000 in
set_option maxHeartbeats 4000000 in
theorem ty_238_c (X : qm_X) (h : qm_H) (a : Int32) (hp : mi h ∧ sm h ∧ zs h ∧ rw_ h) (Q : qm_Q) (hq : ∀ r : Int32, ∀ h' : qm_H, (mi h' ∧ sm h' ∧ zs h' ∧ rw_ h' ∧ (∀ k, (k < 41 ∨ 41 < k) → h' k = h k) ∧ (r.toInt = qCount a.toInt (mR h) (h 42) (h 39 9).toInt (svR h 0))) → Q (some (.int r)) h') : ∀ n : Nat, (∀ (l2 : Int32) (l3 : Int32) (l4 : Int32) (g : qm_H), (((0 ≤ l4.toInt ∧ l4.toInt ≤ (h 40 4).toInt) ∧ l2.toInt = cntP (fsA (fun t => h 40 (7 + 3 * t)) (fun t => h 40 (8 + 3 * t))) l4.toInt.toNat ∧ l3.toInt = cntP (icA (fun t => h 40 (6 + 3 * t)) (fun t => h 40 (7 + 3 * t)) (fun t => h 40 (8 + 3 * t))) l4.toInt.toNat ∧ (∀ j : Nat, j < 49 → g 41 j = h 40 j)) ∧ mi g ∧ sm g ∧ zs g ∧ rw_ g ∧ am g ∧ ∀ k, (k < 41 ∨ 41 < k) → g k = h k) → (10 - l4.toInt).toNat < n → qm_PA X 238 11 [(0, .ref 39), (1, .int a), (2, .int l2), (3, .int l3), (4, .int l4)] [] g Q) := by
  have hmmi : mi h := hp.1
  have ⟨⟨_, _⟩, ⟨_, _⟩, ⟨_, _⟩, ⟨_, _⟩, _, _⟩ := hmmi
  have hmsm : sm h := hp.2.1
  have ⟨⟨⟨_, _⟩, _, _⟩, _, _, _⟩ := hmsm
  have hmzs : zs h := hp.2.2.1
  have hmrw : rw_ h := hp.2.2.2
  intro n
  induction n with
  | zero => exact fun _ _ _ _ _ h0 => absurd h0 (Nat.not_lt_zero _)
  | succ n ih =>
    intro l2 l3 l4 g hi hr
    obtain ⟨hi0, hgmi, hgsm, hgzs, hgrw, hgam, hgf⟩ := hi
    have ⟨⟨_, _⟩, ⟨_, _⟩, ⟨_, _⟩, ⟨_, _⟩, _, _⟩ := hgmi
    have ⟨⟨⟨_, _⟩, _, _⟩, _, _, _⟩ := hgsm
    have ⟨⟨_, _⟩, ⟨_, _⟩, _, _, _⟩ := hgam
    have ti_l4 := ti_rng l4
    have hr1 := cntP_rng (P := fsA (fun t => h 40 (7 + 3 * t)) (fun t => h 40 (8 + 3 * t))) (n := l4.toInt.toNat)
    have hr2 := cntP_rng (P := icA (fun t => h 40 (6 + 3 * t)) (fun t => h 40 (7 + 3 * t)) (fun t => h 40 (8 + 3 * t))) (n := l4.toInt.toNat)
    have e4_g : (g 41 4).toInt = (h 40 4).toInt := congrArg Int32.toInt (hi0.2.2.2 4 (by decide))
    have w39_g : g 39 = h 39 := hgf 39 (by omega)
    have w40_g : g 40 = h 40 := hgf 40 (by omega)
    have w42_g : g 42 = h 42 := hgf 42 (by omega)
    have w48_g : g 48 = h 48 := hgf 48 (by omega)
    have w49_g : g 49 = h 49 := hgf 49 (by omega)
    refine qm_seg_ok (C := qc_238) (rt := some .int) rfl rfl (cuts := [(11, [0, 1, 2, 3, 4])]) 400 _ _ _ _ ?_
    show (0 ≤ (4 : Int) ∧ (4 : Int) < 49) ∧ (((g 41 4).toInt ≤ l4.toInt → (((a = 0 → (Q (some (.int l2)) g)) ∧ (¬ a = 0 → ((a = 1 → (Q (some (.int l3)) g)) ∧ (¬ a = 1 → ((a = 2 → ((0 ≤ (36 : Int) ∧ (36 : Int) < 147) ∧ (Q (some (.int (g 40 36))) g))) ∧ (¬ a = 2 → ((a = 3 → ((0 ≤ (0 : Int) ∧ (0 : Int) < 2) ∧ (qm_PW X 142 [.int (g 42 0)] g _))) ∧ (¬ a = 3 → ((a = 4 → (Q (some (.int (g 39 9))) g)) ∧ (¬ a = 4 → ((a = 5 → ((0 ≤ (0 : Int) ∧ (0 : Int) < 4) ∧ ((¬ (g 48 0) = (-4 : Int32) → ((0 ≤ (0 : Int) ∧ (0 : Int) < 4) ∧ (Q (some (.int (g 49 0))) g))) ∧ ((g 48 0) = (-4 : Int32) → (Q (some (.int (-4 : Int32))) g))))) ∧ (¬ a = 5 → (Q (some (.int (-1 : Int32))) g))))))))))))))) ∧ (l4.toInt < (g 41 4).toInt → (qm_PW X 213 [.ref 39, .int l4] g _)))
    refine ⟨by decide, ?_⟩
    refine ⟨fun c1 => ?_, fun c2 => ?_⟩
    · refine ⟨fun c3 => ?_, fun c4 => ?_⟩
      · have := ti_eqK 0 rfl c3
        exact hq l2 g ⟨hgmi, hgsm, hgzs, hgrw, (fun k hk => hgf k hk), (by have ⟨⟨_, _⟩, ⟨_, _⟩, ⟨_, _⟩, ⟨_, _⟩, _, _⟩ := hmmi; have := hmsm.1; show l2.toInt = qCount a.toInt (mR h) (h 42) (h 39 9).toInt (svR h 0); have ec : l4.toInt.toNat = (h 40 4).toInt.toNat := (by omega); exact (hi0.2.1.trans (by rw [ec])).trans (show qCount a.toInt (mR h) (h 42) (h 39 9).toInt (svR h 0) = _ from count_0 (by omega)).symm)⟩
      · have := ti_neK 0 rfl c4
        refine ⟨fun c5 => ?_, fun c6 => ?_⟩
        · have := ti_eqK 1 rfl c5
          exact hq l3 g ⟨hgmi, hgsm, hgzs, hgrw, (fun k hk => hgf k hk), (by have ⟨⟨_, _⟩, ⟨_, _⟩, ⟨_, _⟩, ⟨_, _⟩, _, _⟩ := hmmi; have := hmsm.1; show l3.toInt = qCount a.toInt (mR h) (h 42) (h 39 9).toInt (svR h 0); have ec : l4.toInt.toNat = (h 40 4).toInt.toNat := (by omega); exact (hi0.2.2.1.trans (by rw [ec])).trans (show qCount a.toInt (mR h) (h 42) (h 39 9).toInt (svR h 0) = _ from count_1 (by omega)).symm)⟩
        · have := ti_neK 1 rfl c6
          refine ⟨fun c7 => ?_, fun c8 => ?_⟩
          · have := ti_eqK 2 rfl c7
            refine ⟨by decide, ?_⟩
            exact hq (g 40 36) g ⟨hgmi, hgsm, hgzs, hgrw, (fun k hk => hgf k hk), (by have ⟨⟨_, _⟩, ⟨_, _⟩, ⟨_, _⟩, ⟨_, _⟩, _, _⟩ := hmmi; have := hmsm.1; have := hgsm.1; show (g 40 36).toInt = qCount a.toInt (mR h) (h 42) (h 39 9).toInt (svR h 0); exact (congrArg (fun f : Nat → Int32 => (f 36).toInt) w40_g).trans (show qCount a.toInt (mR h) (h 42) (h 39 9).toInt (svR h 0) = _ from count_2 (M := mR h) (by omega)).symm)⟩
          · have := ti_neK 2 rfl c8
            refine ⟨fun c9 => ?_, fun c10 => ?_⟩
            · have := ti_eqK 3 rfl c9
              refine ⟨by decide, ?_⟩
              refine tx_142 X g (g 42 0) trivial _ (fun r11 p12 => ?_)
              have o13 : ((g 42 0).toInt = 0 ∧ r11.toInt = 0) ∨ (¬ (g 42 0).toInt = 0 ∧ r11.toInt = 1) := p12
              clear p12
              show (0 ≤ (1 : Int) ∧ (1 : Int) < 2) ∧ (qm_PW X 142 [.int (g 42 1)] g _)
              refine ⟨by decide, ?_⟩
              refine tx_142 X g (g 42 1) trivial _ (fun r14 p15 => ?_)
              have o16 : ((g 42 1).toInt = 0 ∧ r14.toInt = 0) ∨ (¬ (g 42 1).toInt = 0 ∧ r14.toInt = 1) := p15
              clear p15
              show Q (some (.int (r11 + r14))) g
              exact hq (r11 + r14) g ⟨hgmi, hgsm, hgzs, hgrw, (fun k hk => hgf k hk), (by have := ti_add r11 r14; have ⟨⟨_, _⟩, ⟨_, _⟩, ⟨_, _⟩, ⟨_, _⟩, _, _⟩ := hmmi; have := hmsm.1; show (r11 + r14).toInt = qCount a.toInt (mR h) (h 42) (h 39 9).toInt (svR h 0); have b1 := fl_if (h := h) w42_g o13; have b2 := fl_if (h := h) w42_g o16; have r1 := fl_rng (f := h 42) (k := 0); have r2 := fl_rng (f := h 42) (k := 1); have q9 := ti_add r11 r14 (by omega); exact (show _ = ifP (h 42 0 = 0) 0 1 + ifP (h 42 1 = 0) 0 1 by omega).trans (show qCount a.toInt (mR h) (h 42) (h 39 9).toInt (svR h 0) = _ from count_3 (by omega)).symm)⟩
            · have := ti_neK 3 rfl c10
              refine ⟨fun c17 => ?_, fun c18 => ?_⟩
              · have := ti_eqK 4 rfl c17
                exact hq (g 39 9) g ⟨hgmi, hgsm, hgzs, hgrw, (fun k hk => hgf k hk), (by have ⟨⟨_, _⟩, ⟨_, _⟩, ⟨_, _⟩, ⟨_, _⟩, _, _⟩ := hmmi; have := hmsm.1; have ⟨⟨_, _⟩, ⟨_, _⟩, ⟨_, _⟩, ⟨_, _⟩, _, _⟩ := hgmi; show (g 39 9).toInt = qCount a.toInt (mR h) (h 42) (h 39 9).toInt (svR h 0); exact (congrArg (fun f : Nat → Int32 => (f 9).toInt) w39_g).trans (show qCount a.toInt (mR h) (h 42) (h 39 9).toInt (svR h 0) = _ from count_4 (by omega)).symm)⟩
              · have := ti_neK 4 rfl c18
                refine ⟨fun c19 => ?_, fun c20 => ?_⟩
                · have := ti_eqK 5 rfl c19
                  refine ⟨by decide, ?_⟩
                  refine ⟨fun c21 => ?_, fun c22 => ?_⟩
                  · have := ti_neK (-4) ti_n4 c21
                    refine ⟨by decide, ?_⟩
                    exact hq (g 49 0) g ⟨hgmi, hgsm, hgzs, hgrw, (fun k hk => hgf k hk), (by have := hgzs (0); have ⟨⟨_, _⟩, ⟨_, _⟩, ⟨_, _⟩, ⟨_, _⟩, _, _⟩ := hmmi; have := hmsm.1; show (g 49 0).toInt = qCount a.toInt (mR h) (h 42) (h 39 9).toInt (svR h 0); have e48 : (g 48 0).toInt = (h 48 0).toInt := congrArg (fun f : Nat → Int32 => (f 0).toInt) w48_g; have e49 : (g 49 0).toInt = (h 49 0).toInt := congrArg (fun f : Nat → Int32 => (f 0).toInt) w49_g; exact (svR_sz (h := h) (k := 0) (Or.inr ⟨by omega, e49⟩)).trans (show qCount a.toInt (mR h) (h 42) (h 39 9).toInt (svR h 0) = _ from count_5 (by omega)).symm)⟩
                  · have := ti_eqK (-4) ti_n4 c22
                    exact hq (-4 : Int32) g ⟨hgmi, hgsm, hgzs, hgrw, (fun k hk => hgf k hk), (by have ⟨⟨_, _⟩, ⟨_, _⟩, ⟨_, _⟩, ⟨_, _⟩, _, _⟩ := hmmi; have := hmsm.1; show (-4 : Int32).toInt = qCount a.toInt (mR h) (h 42) (h 39 9).toInt (svR h 0); rw [ti_n4]; have e48 : (g 48 0).toInt = (h 48 0).toInt := congrArg (fun f : Nat → Int32 => (f 0).toInt) w48_g; have e49 : (g 49 0).toInt = (h 49 0).toInt := congrArg (fun f : Nat → Int32 => (f 0).toInt) w49_g; exact (svR_sz (h := h) (k := 0) (Or.inl ⟨by omega, rfl⟩)).trans (show qCount a.toInt (mR h) (h 42) (h 39 9).toInt (svR h 0) = _ from count_5 (by omega)).symm)⟩
                · have := ti_neK 5 rfl c20
                  exact hq (-1 : Int32) g ⟨hgmi, hgsm, hgzs, hgrw, (fun k hk => hgf k hk), (by have ⟨⟨_, _⟩, ⟨_, _⟩, ⟨_, _⟩, ⟨_, _⟩, _, _⟩ := hmmi; have := hmsm.1; show (-1 : Int32).toInt = qCount a.toInt (mR h) (h 42) (h 39 9).toInt (svR h 0); rw [ti_n1]; exact (show qCount a.toInt (mR h) (h 42) (h 39 9).toInt (svR h 0) = _ from count_d (by omega)).symm)⟩
    · refine ty_213 X g l4 ⟨hgam, (by have := hmsm.1; omega)⟩ _ (fun r23 p24 => ?_)
      have o25 : (r23 = 0 ∨ r23 = 1) ∧ ((¬ r23 = 0 ∧ fsA (fun t => (g 41 (7 + 3 * t))) (fun t => (g 41 (8 + 3 * t))) l4.toInt.toNat) ∨ (r23 = 0 ∧ ¬ fsA (fun t => (g 41 (7 + 3 * t))) (fun t => (g 41 (8 + 3 * t))) l4.toInt.toNat)) := p24
      clear p24
      show qm_PW X 142 [.int r23] g _
      refine tx_142 X g r23 trivial _ (fun r26 p27 => ?_)
      have o28 : (r23.toInt = 0 ∧ r26.toInt = 0) ∨ (¬ r23.toInt = 0 ∧ r26.toInt = 1) := p27
      clear p27
      show qm_PW X 179 [.ref 39, .int l4] g _
      refine ty_179 X g l4 ⟨hgam, (by have := hmsm.1; omega)⟩ _ (fun r29 p30 => ?_)
      have o31 : (r29 = 0 ∨ r29 = 1) ∧ ((¬ r29 = 0 ∧ icA (fun t => (g 41 (6 + 3 * t))) (fun t => (g 41 (7 + 3 * t))) (fun t => (g 41 (8 + 3 * t))) l4.toInt.toNat) ∨ (r29 = 0 ∧ ¬ icA (fun t => (g 41 (6 + 3 * t))) (fun t => (g 41 (7 + 3 * t))) (fun t => (g 41 (8 + 3 * t))) l4.toInt.toNat)) := p30
      clear p30
      show qm_PW X 142 [.int r29] g _
      refine tx_142 X g r29 trivial _ (fun r32 p33 => ?_)
      have o34 : (r29.toInt = 0 ∧ r32.toInt = 0) ∨ (¬ r29.toInt = 0 ∧ r32.toInt = 1) := p33
      clear p33
      show qm_PA X 238 11 [(0, .ref 39), (1, .int a), (2, .int (l2 + r26)), (3, .int (l3 + r32)), (4, .int (l4 + 1))] [] g Q
      exact ih (l2 + r26) (l3 + r32) (l4 + 1) g ⟨(by have := ti_addK l4 (1 : Int32) 1 rfl; have := ti_add l2 r26; have := ti_add l3 r32; have := hmsm.1; show (0 ≤ (l4 + 1).toInt ∧ (l4 + 1).toInt ≤ (h 40 4).toInt) ∧ (l2 + r26).toInt = cntP (fsA (fun t => h 40 (7 + 3 * t)) (fun t => h 40 (8 + 3 * t))) (l4 + 1).toInt.toNat ∧ (l3 + r32).toInt = cntP (icA (fun t => h 40 (6 + 3 * t)) (fun t => h 40 (7 + 3 * t)) (fun t => h 40 (8 + 3 * t))) (l4 + 1).toInt.toNat ∧ (∀ j : Nat, j < 49 → g 41 j = h 40 j); have e9 : (l4 + 1).toInt.toNat = l4.toInt.toNat + 1 := (by omega); have x1 := cnt_fl o25.2 o28 (fs_41 hi0.2.2.2 (by omega)) (n := l2.toInt) hi0.2.1; have x2 := cnt_fl o31.2 o34 (ic_41 hi0.2.2.2 (by omega)) (n := l3.toInt) hi0.2.2.1; exact ⟨by omega, by rw [e9]; omega, by rw [e9]; omega, hi0.2.2.2⟩), hgmi, hgsm, hgzs, hgrw, hgam, (fun k hk => hgf k hk)⟩ (by have := ti_addK l4 (1 : Int32) 1 rfl; have := hmsm.1; show (10 - (l4 + 1).toInt).toNat < n; omega)
set_option maxRecDepth 100000 in
set_option maxHeartbeats 4000000 in
theorem ty_238 (X : qm_X) (h : qm_H) (a : Int32) (hp : mi h ∧ sm h ∧ zs h ∧ rw_ h) (Q : qm_Q) (hq : ∀ r : Int32, ∀ h' : qm_H, (mi h' ∧ sm h' ∧ zs h' ∧ rw_ h' ∧ (∀ k, (k < 41 ∨ 41 < k) → h' k = h k) ∧ (r.toInt = qCount a.toInt (mR h) (h 42) (h 39 9).toInt (svR h 0))) → Q (some (.int r)) h') : qm_PW X 238 [.ref 39, .int a] h Q := by
  have hmmi : mi h := hp.1
  have ⟨⟨_, _⟩, ⟨_, _⟩, ⟨_, _⟩, ⟨_, _⟩, _, _⟩ := hmmi
  have hmsm : sm h := hp.2.1
  have ⟨⟨⟨_, _⟩, _, _⟩, _, _, _⟩ := hmsm
  have hmzs : zs h := hp.2.2.1
  have hmrw : rw_ h := hp.2.2.2
  refine qm_seg_ok (C := qc_238) (rt := some .int) rfl rfl (cuts := [(11, [0, 1, 2, 3, 4])]) 400 _ _ _ _ ?_
  show qm_PW X 169 [.ref 39] h _
  refine sf_169_39 X h  hmsm _ (fun g1 p2 => ?_)
  obtain ⟨p2_0, p2_1, p2_2⟩ := p2
  have f3 : ∀ k, (k < 41 ∨ 41 < k) → g1 k = h k := fun k hk => (p2_1 k (by omega)).trans (rfl)
  have k4 : mi g1 := by unfold mi; rw [p2_1 39 (by omega)]; exact hmmi
  have k5 : sm g1 := by unfold sm; rw [p2_1 40 (by omega)]; exact hmsm
  have k6 : zs g1 := by unfold zs; rw [p2_1 49 (by omega)]; exact hmzs
  have k7 : rw_ g1 := by unfold rw_; rw [p2_1 46 (by omega)]; exact hmrw
  have o8 : (∀ j : Nat, j < 49 → g1 41 j = h 40 j) := p2_2
  clear p2_2
  have w39_g1 : g1 39 = h 39 := (p2_1 39 (by omega))
  have w40_g1 : g1 40 = h 40 := (p2_1 40 (by omega))
  have sA_g1 : ∀ j : Nat, j < 49 → g1 41 j = h 40 j := o8
  have s4_g1 : (g1 41 4).toInt = (h 40 4).toInt := congrArg Int32.toInt (sA_g1 4 (by decide))
  show qm_PA X 238 11 [(0, .ref 39), (1, .int a), (2, .int 0), (3, .int 0), (4, .int 0)] [] g1 Q
  exact (ty_238_c X h a hp Q hq _) (0 : Int32) (0 : Int32) (0 : Int32) g1 ⟨(by have : (0 : Int32).toInt = 0 := rfl; have := hmsm.1; show (0 ≤ (0 : Int32).toInt ∧ (0 : Int32).toInt ≤ (h 40 4).toInt) ∧ (0 : Int32).toInt = cntP (fsA (fun t => h 40 (7 + 3 * t)) (fun t => h 40 (8 + 3 * t))) (0 : Int32).toInt.toNat ∧ (0 : Int32).toInt = cntP (icA (fun t => h 40 (6 + 3 * t)) (fun t => h 40 (7 + 3 * t)) (fun t => h 40 (8 + 3 * t))) (0 : Int32).toInt.toNat ∧ (∀ j : Nat, j < 49 → g1 41 j = h 40 j); exact ⟨by have : (0 : Int32).toInt = 0 := rfl; omega, rfl, rfl, sA_g1⟩), k4, k5, k6, k7, p2_0, (fun k hk => f3 k hk)⟩ (Nat.lt_succ_self _)
