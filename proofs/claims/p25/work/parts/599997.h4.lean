-- ThreadBankModel.copies()I
set_option maxRecDepth 100000 in
set_option maxHeartbeats 4000000 in
theorem ty_216_c (X : qm_X) (h : qm_H) (hp : mi h ∧ sm h ∧ zs h ∧ rw_ h ∧ wr h) (Q : qm_Q) (hq : ∀ r : Int32, ∀ h' : qm_H, (mi h' ∧ sm h' ∧ zs h' ∧ rw_ h' ∧ (∀ k, (k < 41 ∨ 41 < k) → h' k = h k) ∧ (r.toInt = qCopies (mR h))) → Q (some (.int r)) h') : ∀ n : Nat, (∀ (l1 : Int32) (l2 : Int32) (l3 : Int32) (g : qm_H), (((0 ≤ l3.toInt ∧ l3.toInt ≤ (h 39 3).toInt) ∧ l1.toInt = sumI (rkN (fun t => h 40 (6 + 3 * t)) (fun t => h 40 (7 + 3 * t)) (fun t => h 40 (8 + 3 * t)) (h 40 4).toInt.toNat) l3.toInt.toNat ∧ l2.toInt = sumI (lfN (h 40) (fun t => h 40 (6 + 3 * t)) (h 40 4).toInt.toNat) l3.toInt.toNat ∧ (∀ j : Nat, j < 49 → g 41 j = h 40 j)) ∧ mi g ∧ sm g ∧ zs g ∧ rw_ g ∧ am g ∧ ∀ k, (k < 41 ∨ 41 < k) → g k = h k) → (104 - l3.toInt).toNat < n → qm_PA X 216 10 [(0, .ref 39), (1, .int l1), (2, .int l2), (3, .int l3)] [] g Q) ∧ (∀ (l1 : Int32) (l2 : Int32) (l3 : Int32) (l4 : Int32) (g : qm_H), (((0 ≤ l4.toInt ∧ l4.toInt ≤ (h 39 3).toInt) ∧ l1.toInt = sumI (rkN (fun t => h 40 (6 + 3 * t)) (fun t => h 40 (7 + 3 * t)) (fun t => h 40 (8 + 3 * t)) (h 40 4).toInt.toNat) (h 39 3).toInt.toNat ∧ l2.toInt = sumI (lfN (h 40) (fun t => h 40 (6 + 3 * t)) (h 40 4).toInt.toNat) (h 39 3).toInt.toNat ∧ acI l3 (cpA l1.toInt l2.toInt (h 40 4).toInt) (cpP (rkN (fun t => h 40 (6 + 3 * t)) (fun t => h 40 (7 + 3 * t)) (fun t => h 40 (8 + 3 * t)) (h 40 4).toInt.toNat) (lfN (h 40) (fun t => h 40 (6 + 3 * t)) (h 40 4).toInt.toNat) l2.toInt) l4.toInt.toNat ∧ (∀ j : Nat, j < 49 → g 41 j = h 40 j)) ∧ (l3 = 0 ∨ l3 = 1) ∧ mi g ∧ sm g ∧ zs g ∧ rw_ g ∧ am g ∧ ∀ k, (k < 41 ∨ 41 < k) → g k = h k) → (4 - l4.toInt).toNat < n → qm_PA X 216 73 [(0, .ref 39), (1, .int l1), (2, .int l2), (3, .int l3), (4, .int l4)] [] g Q) := by
  have hmmi : mi h := hp.1
  have ⟨⟨_, _⟩, ⟨_, _⟩, ⟨_, _⟩, ⟨_, _⟩, _, _⟩ := hmmi
  have hmsm : sm h := hp.2.1
  have ⟨⟨⟨_, _⟩, _, _⟩, _, _, _⟩ := hmsm
  have hmzs : zs h := hp.2.2.1
  have hmrw : rw_ h := hp.2.2.2.1
  have hmwr : wr h := hp.2.2.2.2
  have hkd := (wf_raw (show wfM (mR h) from hmwr)).2.1
  intro n
  induction n with
  | zero => exact ⟨fun _ _ _ _ _ h0 => absurd h0 (Nat.not_lt_zero _), fun _ _ _ _ _ _ h0 => absurd h0 (Nat.not_lt_zero _)⟩
  | succ n ih =>
    refine ⟨?_, ?_⟩
    · intro l1 l2 l3 g hi hr
      obtain ⟨hi0, hgmi, hgsm, hgzs, hgrw, hgam, hgf⟩ := hi
      have ⟨⟨_, _⟩, ⟨_, _⟩, ⟨_, _⟩, ⟨_, _⟩, _, _⟩ := hgmi
      have ⟨⟨⟨_, _⟩, _, _⟩, _, _, _⟩ := hgsm
      have ⟨⟨_, _⟩, ⟨_, _⟩, _, _, _⟩ := hgam
      have ti_l3 := ti_rng l3
      have hr1 := sumI_rng (f := rkN (fun t => h 40 (6 + 3 * t)) (fun t => h 40 (7 + 3 * t)) (fun t => h 40 (8 + 3 * t)) (h 40 4).toInt.toNat) (m := 10) (fun j => rkN_rng (by omega)) l3.toInt.toNat
      have hr2 := sumI_rn2 (f := lfN (h 40) (fun t => h 40 (6 + 3 * t)) (h 40 4).toInt.toNat) (lo := -10) (hi := 15) (fun j => lfN_rng (by omega)) l3.toInt.toNat
      have e4_g : (g 41 4).toInt = (h 40 4).toInt := congrArg Int32.toInt (hi0.2.2.2 4 (by decide))
      have w39_g : g 39 = h 39 := hgf 39 (by omega)
      have e3_g : (g 39 3).toInt = (h 39 3).toInt := by rw [w39_g]
      refine qm_seg_ok (C := qc_216) (rt := some .int) rfl rfl (cuts := [(10, [0, 1, 2, 3]), (73, [0, 1, 2, 3, 4])]) 400 _ _ _ _ ?_
      show ((g 39 3).toInt ≤ l3.toInt → ((l2.toInt < l1.toInt → (qm_PA X 216 73 [(0, .ref 39), (1, .int l1), (2, .int l2), (3, .int 0), (4, .int 0)] [] g Q)) ∧ (l1.toInt ≤ l2.toInt → ((0 ≤ (4 : Int) ∧ (4 : Int) < 49) ∧ ((10 < ((g 41 4) + l1).toInt → (qm_PA X 216 73 [(0, .ref 39), (1, .int l1), (2, .int l2), (3, .int 0), (4, .int 0)] [] g Q)) ∧ (((g 41 4) + l1).toInt ≤ 10 → (qm_PA X 216 73 [(0, .ref 39), (1, .int l1), (2, .int l2), (3, .int 1), (4, .int 0)] [] g Q))))))) ∧ (l3.toInt < (g 39 3).toInt → (qm_PW X 214 [.ref 39, .int l3] g _))
      refine ⟨fun c1 => ?_, fun c2 => ?_⟩
      · refine ⟨fun c3 => ?_, fun c4 => ?_⟩
        · exact ih.2 l1 l2 (0 : Int32) (0 : Int32) g ⟨(by have : (0 : Int32).toInt = 0 := rfl; have ⟨⟨_, _⟩, ⟨_, _⟩, ⟨_, _⟩, ⟨_, _⟩, _, _⟩ := hmmi; have := hmsm.1; have ⟨⟨_, _⟩, ⟨_, _⟩, ⟨_, _⟩, ⟨_, _⟩, _, _⟩ := hgmi; show (0 ≤ (0 : Int32).toInt ∧ (0 : Int32).toInt ≤ (h 39 3).toInt) ∧ l1.toInt = sumI (rkN (fun t => h 40 (6 + 3 * t)) (fun t => h 40 (7 + 3 * t)) (fun t => h 40 (8 + 3 * t)) (h 40 4).toInt.toNat) (h 39 3).toInt.toNat ∧ l2.toInt = sumI (lfN (h 40) (fun t => h 40 (6 + 3 * t)) (h 40 4).toInt.toNat) (h 39 3).toInt.toNat ∧ acI (0 : Int32) (cpA l1.toInt l2.toInt (h 40 4).toInt) (cpP (rkN (fun t => h 40 (6 + 3 * t)) (fun t => h 40 (7 + 3 * t)) (fun t => h 40 (8 + 3 * t)) (h 40 4).toInt.toNat) (lfN (h 40) (fun t => h 40 (6 + 3 * t)) (h 40 4).toInt.toNat) l2.toInt) (0 : Int32).toInt.toNat ∧ (∀ j : Nat, j < 49 → g 41 j = h 40 j); have h1 := hi0.2.1; have h2 := hi0.2.2.1; rw [show l3.toInt.toNat = (h 39 3).toInt.toNat by omega] at h1 h2; exact ⟨by have : (0 : Int32).toInt = 0 := rfl; omega, h1, h2, acI_0 (fun w => by have w1 : l1.toInt ≤ l2.toInt ∧ l1.toInt ≤ 10 - (h 40 4).toInt := w; omega), hi0.2.2.2⟩), (Or.inl rfl), hgmi, hgsm, hgzs, hgrw, hgam, (fun k hk => hgf k hk)⟩ (by have : (0 : Int32).toInt = 0 := rfl; have ⟨⟨_, _⟩, ⟨_, _⟩, ⟨_, _⟩, ⟨_, _⟩, _, _⟩ := hmmi; have := hmsm.1; have ⟨⟨_, _⟩, ⟨_, _⟩, ⟨_, _⟩, ⟨_, _⟩, _, _⟩ := hgmi; show (4 - (0 : Int32).toInt).toNat < n; omega)
        · refine ⟨by decide, ?_⟩
          refine ⟨fun c5 => ?_, fun c6 => ?_⟩
          · exact ih.2 l1 l2 (0 : Int32) (0 : Int32) g ⟨(by have : (0 : Int32).toInt = 0 := rfl; have := ti_add (g 41 4) l1; have ⟨⟨_, _⟩, ⟨_, _⟩, ⟨_, _⟩, ⟨_, _⟩, _, _⟩ := hmmi; have := hmsm.1; have ⟨⟨_, _⟩, ⟨_, _⟩, ⟨_, _⟩, ⟨_, _⟩, _, _⟩ := hgmi; show (0 ≤ (0 : Int32).toInt ∧ (0 : Int32).toInt ≤ (h 39 3).toInt) ∧ l1.toInt = sumI (rkN (fun t => h 40 (6 + 3 * t)) (fun t => h 40 (7 + 3 * t)) (fun t => h 40 (8 + 3 * t)) (h 40 4).toInt.toNat) (h 39 3).toInt.toNat ∧ l2.toInt = sumI (lfN (h 40) (fun t => h 40 (6 + 3 * t)) (h 40 4).toInt.toNat) (h 39 3).toInt.toNat ∧ acI (0 : Int32) (cpA l1.toInt l2.toInt (h 40 4).toInt) (cpP (rkN (fun t => h 40 (6 + 3 * t)) (fun t => h 40 (7 + 3 * t)) (fun t => h 40 (8 + 3 * t)) (h 40 4).toInt.toNat) (lfN (h 40) (fun t => h 40 (6 + 3 * t)) (h 40 4).toInt.toNat) l2.toInt) (0 : Int32).toInt.toNat ∧ (∀ j : Nat, j < 49 → g 41 j = h 40 j); have h1 := hi0.2.1; have h2 := hi0.2.2.1; rw [show l3.toInt.toNat = (h 39 3).toInt.toNat by omega] at h1 h2; exact ⟨by have : (0 : Int32).toInt = 0 := rfl; omega, h1, h2, acI_0 (fun w => by have w1 : l1.toInt ≤ l2.toInt ∧ l1.toInt ≤ 10 - (h 40 4).toInt := w; omega), hi0.2.2.2⟩), (Or.inl rfl), hgmi, hgsm, hgzs, hgrw, hgam, (fun k hk => hgf k hk)⟩ (by have : (0 : Int32).toInt = 0 := rfl; have := ti_add (g 41 4) l1; have ⟨⟨_, _⟩, ⟨_, _⟩, ⟨_, _⟩, ⟨_, _⟩, _, _⟩ := hmmi; have := hmsm.1; have ⟨⟨_, _⟩, ⟨_, _⟩, ⟨_, _⟩, ⟨_, _⟩, _, _⟩ := hgmi; show (4 - (0 : Int32).toInt).toNat < n; omega)
          · exact ih.2 l1 l2 (1 : Int32) (0 : Int32) g ⟨(by have : (0 : Int32).toInt = 0 := rfl; have := ti_add (g 41 4) l1; have ⟨⟨_, _⟩, ⟨_, _⟩, ⟨_, _⟩, ⟨_, _⟩, _, _⟩ := hmmi; have := hmsm.1; have ⟨⟨_, _⟩, ⟨_, _⟩, ⟨_, _⟩, ⟨_, _⟩, _, _⟩ := hgmi; show (0 ≤ (0 : Int32).toInt ∧ (0 : Int32).toInt ≤ (h 39 3).toInt) ∧ l1.toInt = sumI (rkN (fun t => h 40 (6 + 3 * t)) (fun t => h 40 (7 + 3 * t)) (fun t => h 40 (8 + 3 * t)) (h 40 4).toInt.toNat) (h 39 3).toInt.toNat ∧ l2.toInt = sumI (lfN (h 40) (fun t => h 40 (6 + 3 * t)) (h 40 4).toInt.toNat) (h 39 3).toInt.toNat ∧ acI (1 : Int32) (cpA l1.toInt l2.toInt (h 40 4).toInt) (cpP (rkN (fun t => h 40 (6 + 3 * t)) (fun t => h 40 (7 + 3 * t)) (fun t => h 40 (8 + 3 * t)) (h 40 4).toInt.toNat) (lfN (h 40) (fun t => h 40 (6 + 3 * t)) (h 40 4).toInt.toNat) l2.toInt) (0 : Int32).toInt.toNat ∧ (∀ j : Nat, j < 49 → g 41 j = h 40 j); have h1 := hi0.2.1; have h2 := hi0.2.2.1; rw [show l3.toInt.toNat = (h 39 3).toInt.toNat by omega] at h1 h2; exact ⟨by have : (0 : Int32).toInt = 0 := rfl; omega, h1, h2, acI_1 rfl ⟨by omega, by omega⟩, hi0.2.2.2⟩), (Or.inr rfl), hgmi, hgsm, hgzs, hgrw, hgam, (fun k hk => hgf k hk)⟩ (by have : (0 : Int32).toInt = 0 := rfl; have := ti_add (g 41 4) l1; have ⟨⟨_, _⟩, ⟨_, _⟩, ⟨_, _⟩, ⟨_, _⟩, _, _⟩ := hmmi; have := hmsm.1; have ⟨⟨_, _⟩, ⟨_, _⟩, ⟨_, _⟩, ⟨_, _⟩, _, _⟩ := hgmi; show (4 - (0 : Int32).toInt).toNat < n; omega)
      · refine ty_214 X g l3 ⟨hgam, (by have ⟨⟨_, _⟩, ⟨_, _⟩, ⟨_, _⟩, ⟨_, _⟩, _, _⟩ := hmmi; have := hmsm.1; have ⟨⟨_, _⟩, ⟨_, _⟩, ⟨_, _⟩, ⟨_, _⟩, _, _⟩ := hgmi; omega)⟩ _ (fun r7 p8 => ?_)
        have o9 : r7.toInt = cntP (rkA (fun t => (g 41 (6 + 3 * t))) (fun t => (g 41 (7 + 3 * t))) (fun t => (g 41 (8 + 3 * t))) (g 41 4).toInt.toNat (1 <<< (l3 &&& 31))) (g 41 4).toInt.toNat ∧ (0 ≤ r7.toInt ∧ r7.toInt ≤ 10) := p8
        clear p8
        show qm_PW X 176 [.ref 39, .int l3] g _
        refine ty_176 X g l3 ⟨hgam, (by have ⟨⟨_, _⟩, ⟨_, _⟩, ⟨_, _⟩, ⟨_, _⟩, _, _⟩ := hmmi; have := hmsm.1; have ⟨⟨_, _⟩, ⟨_, _⟩, ⟨_, _⟩, ⟨_, _⟩, _, _⟩ := hgmi; omega)⟩ _ (fun r10 p11 => ?_)
        have o12 : r10.toInt = sumI (fun f => rmF (g 41 l3.toInt.toNat).toInt (f : Int)) 5 ∧ (0 ≤ r10.toInt ∧ r10.toInt ≤ 15) := p11
        clear p11
        show qm_PW X 175 [.ref 39, .int l3] g _
        refine ty_175 X g l3 hgam _ (fun r13 p14 => ?_)
        have o15 : r13.toInt = cntR (fun t => (g 41 (6 + 3 * t)) / 10) (g 41 4).toInt.toNat l3.toInt ∧ (0 ≤ r13.toInt ∧ r13.toInt ≤ 10) := p14
        clear p14
        show qm_PA X 216 10 [(0, .ref 39), (1, .int (l1 + r7)), (2, .int (l2 + (r10 - r13))), (3, .int (l3 + 1))] [] g Q
        exact ih.1 (l1 + r7) (l2 + (r10 - r13)) (l3 + 1) g ⟨(by have := ti_addK l3 (1 : Int32) 1 rfl; have := ti_add l1 r7; have := ti_sub r10 r13; have := ti_add l2 (r10 - r13); have ⟨⟨_, _⟩, ⟨_, _⟩, ⟨_, _⟩, ⟨_, _⟩, _, _⟩ := hmmi; have := hmsm.1; have ⟨⟨_, _⟩, ⟨_, _⟩, ⟨_, _⟩, ⟨_, _⟩, _, _⟩ := hgmi; show (0 ≤ (l3 + 1).toInt ∧ (l3 + 1).toInt ≤ (h 39 3).toInt) ∧ (l1 + r7).toInt = sumI (rkN (fun t => h 40 (6 + 3 * t)) (fun t => h 40 (7 + 3 * t)) (fun t => h 40 (8 + 3 * t)) (h 40 4).toInt.toNat) (l3 + 1).toInt.toNat ∧ (l2 + (r10 - r13)).toInt = sumI (lfN (h 40) (fun t => h 40 (6 + 3 * t)) (h 40 4).toInt.toNat) (l3 + 1).toInt.toNat ∧ (∀ j : Nat, j < 49 → g 41 j = h 40 j); have hk9 := rk_sh (c := l3) (k := l3.toInt.toNat) (by omega) o9.1; rw [show (g 41 4) = h 40 4 from hi0.2.2.2 4 (by decide)] at hk9; have hk8 := hk9.trans (rkN_eq (eq3_41 hi0.2.2.2 (by omega))); have hl9 := lf_R (c := l3) hi0.2.2.2 (by omega) (by omega) (hkd l3.toInt.toNat (by show ((l3.toInt.toNat : Nat) : Int) < (h 39 3).toInt; omega)) o12.1 o15.1; have hlr := lfN_rng (kd := h 40) (pl := fun t => h 40 (6 + 3 * t)) (n := (h 40 4).toInt.toNat) (c := l3.toInt.toNat) (by omega); have q7 := ti_sub r10 r13 (by omega); have e9 : (l3 + 1).toInt.toNat = l3.toInt.toNat + 1 := (by omega); exact ⟨by omega, by rw [e9, sumI_s]; omega, by rw [e9, sumI_s]; omega, hi0.2.2.2⟩), hgmi, hgsm, hgzs, hgrw, hgam, (fun k hk => hgf k hk)⟩ (by have := ti_addK l3 (1 : Int32) 1 rfl; have ⟨⟨_, _⟩, ⟨_, _⟩, ⟨_, _⟩, ⟨_, _⟩, _, _⟩ := hmmi; have := hmsm.1; have ⟨⟨_, _⟩, ⟨_, _⟩, ⟨_, _⟩, ⟨_, _⟩, _, _⟩ := hgmi; show (104 - (l3 + 1).toInt).toNat < n; omega)
    · intro l1 l2 l3 l4 g hi hr
      obtain ⟨hi0, hb3, hgmi, hgsm, hgzs, hgrw, hgam, hgf⟩ := hi
      have ⟨⟨_, _⟩, ⟨_, _⟩, ⟨_, _⟩, ⟨_, _⟩, _, _⟩ := hgmi
      have ⟨⟨⟨_, _⟩, _, _⟩, _, _, _⟩ := hgsm
      have ⟨⟨_, _⟩, ⟨_, _⟩, _, _, _⟩ := hgam
      have ti_l4 := ti_rng l4
      have hr1 := sumI_rng (f := rkN (fun t => h 40 (6 + 3 * t)) (fun t => h 40 (7 + 3 * t)) (fun t => h 40 (8 + 3 * t)) (h 40 4).toInt.toNat) (m := 10) (fun j => rkN_rng (by omega)) (h 39 3).toInt.toNat
      have hr2 := sumI_rn2 (f := lfN (h 40) (fun t => h 40 (6 + 3 * t)) (h 40 4).toInt.toNat) (lo := -10) (hi := 15) (fun j => lfN_rng (by omega)) (h 39 3).toInt.toNat
      have e4_g : (g 41 4).toInt = (h 40 4).toInt := congrArg Int32.toInt (hi0.2.2.2.2 4 (by decide))
      have w39_g : g 39 = h 39 := hgf 39 (by omega)
      have e3_g : (g 39 3).toInt = (h 39 3).toInt := by rw [w39_g]
      refine qm_seg_ok (C := qc_216) (rt := some .int) rfl rfl (cuts := [(10, [0, 1, 2, 3]), (73, [0, 1, 2, 3, 4])]) 400 _ _ _ _ ?_
      show ((g 39 3).toInt ≤ l4.toInt → ((l3 = 0 → (Q (some (.int (-4 : Int32))) g)) ∧ (¬ l3 = 0 → (Q (some (.int l1)) g)))) ∧ (l4.toInt < (g 39 3).toInt → ((l3 = 0 → (qm_PA X 216 73 [(0, .ref 39), (1, .int l1), (2, .int l2), (3, .int 0), (4, .int (l4 + 1))] [] g Q)) ∧ (¬ l3 = 0 → (qm_PW X 214 [.ref 39, .int l4] g _))))
      refine ⟨fun c1 => ?_, fun c2 => ?_⟩
      · refine ⟨fun c3 => ?_, fun c4 => ?_⟩
        · have := ti_eqK 0 rfl c3
          exact hq (-4 : Int32) g ⟨hgmi, hgsm, hgzs, hgrw, (fun k hk => hgf k hk), (by have ⟨⟨_, _⟩, ⟨_, _⟩, ⟨_, _⟩, ⟨_, _⟩, _, _⟩ := hmmi; have := hmsm.1; have ⟨⟨_, _⟩, ⟨_, _⟩, ⟨_, _⟩, ⟨_, _⟩, _, _⟩ := hgmi; show (-4 : Int32).toInt = qCopies (mR h); rw [ti_n4]; have hz := hi0.2.2.2.1; rw [show l4.toInt.toNat = (h 39 3).toInt.toNat by omega] at hz; exact (cp_n hi0.2.1 hi0.2.2.1 (acI_f hz (by assumption))).trans (show qCopies (mR h) = _ from copies_mk).symm)⟩
        · have := ti_neK 0 rfl c4
          exact hq l1 g ⟨hgmi, hgsm, hgzs, hgrw, (fun k hk => hgf k hk), (by have ⟨⟨_, _⟩, ⟨_, _⟩, ⟨_, _⟩, ⟨_, _⟩, _, _⟩ := hmmi; have := hmsm.1; have ⟨⟨_, _⟩, ⟨_, _⟩, ⟨_, _⟩, ⟨_, _⟩, _, _⟩ := hgmi; show l1.toInt = qCopies (mR h); have hz := hi0.2.2.2.1; rw [show l4.toInt.toNat = (h 39 3).toInt.toNat by omega] at hz; have hy := acI_t hz (by assumption); exact (cp_y hi0.2.1 hi0.2.2.1 hy.1 hy.2).trans (show qCopies (mR h) = _ from copies_mk).symm)⟩
      · refine ⟨fun c5 => ?_, fun c6 => ?_⟩
        · have := ti_eqK 0 rfl c5
          exact ih.2 l1 l2 (0 : Int32) (l4 + 1) g ⟨(by have := ti_addK l4 (1 : Int32) 1 rfl; have ⟨⟨_, _⟩, ⟨_, _⟩, ⟨_, _⟩, ⟨_, _⟩, _, _⟩ := hmmi; have := hmsm.1; have ⟨⟨_, _⟩, ⟨_, _⟩, ⟨_, _⟩, ⟨_, _⟩, _, _⟩ := hgmi; show (0 ≤ (l4 + 1).toInt ∧ (l4 + 1).toInt ≤ (h 39 3).toInt) ∧ l1.toInt = sumI (rkN (fun t => h 40 (6 + 3 * t)) (fun t => h 40 (7 + 3 * t)) (fun t => h 40 (8 + 3 * t)) (h 40 4).toInt.toNat) (h 39 3).toInt.toNat ∧ l2.toInt = sumI (lfN (h 40) (fun t => h 40 (6 + 3 * t)) (h 40 4).toInt.toNat) (h 39 3).toInt.toNat ∧ acI (0 : Int32) (cpA l1.toInt l2.toInt (h 40 4).toInt) (cpP (rkN (fun t => h 40 (6 + 3 * t)) (fun t => h 40 (7 + 3 * t)) (fun t => h 40 (8 + 3 * t)) (h 40 4).toInt.toNat) (lfN (h 40) (fun t => h 40 (6 + 3 * t)) (h 40 4).toInt.toNat) l2.toInt) (l4 + 1).toInt.toNat ∧ (∀ j : Nat, j < 49 → g 41 j = h 40 j); have e9 : (l4 + 1).toInt.toNat = l4.toInt.toNat + 1 := (by omega); exact ⟨by omega, hi0.2.1, hi0.2.2.1, by rw [e9]; exact acI_k hi0.2.2.2.1 (by assumption), hi0.2.2.2.2⟩), (Or.inl rfl), hgmi, hgsm, hgzs, hgrw, hgam, (fun k hk => hgf k hk)⟩ (by have := ti_addK l4 (1 : Int32) 1 rfl; have ⟨⟨_, _⟩, ⟨_, _⟩, ⟨_, _⟩, ⟨_, _⟩, _, _⟩ := hmmi; have := hmsm.1; have ⟨⟨_, _⟩, ⟨_, _⟩, ⟨_, _⟩, ⟨_, _⟩, _, _⟩ := hgmi; show (4 - (l4 + 1).toInt).toNat < n; omega)
        · have := ti_neK 0 rfl c6
          refine ty_214 X g l4 ⟨hgam, (by have ⟨⟨_, _⟩, ⟨_, _⟩, ⟨_, _⟩, ⟨_, _⟩, _, _⟩ := hmmi; have := hmsm.1; have ⟨⟨_, _⟩, ⟨_, _⟩, ⟨_, _⟩, ⟨_, _⟩, _, _⟩ := hgmi; omega)⟩ _ (fun r7 p8 => ?_)
          have o9 : r7.toInt = cntP (rkA (fun t => (g 41 (6 + 3 * t))) (fun t => (g 41 (7 + 3 * t))) (fun t => (g 41 (8 + 3 * t))) (g 41 4).toInt.toNat (1 <<< (l4 &&& 31))) (g 41 4).toInt.toNat ∧ (0 ≤ r7.toInt ∧ r7.toInt ≤ 10) := p8
          clear p8
          show qm_PW X 176 [.ref 39, .int l4] g _
          refine ty_176 X g l4 ⟨hgam, (by have ⟨⟨_, _⟩, ⟨_, _⟩, ⟨_, _⟩, ⟨_, _⟩, _, _⟩ := hmmi; have := hmsm.1; have ⟨⟨_, _⟩, ⟨_, _⟩, ⟨_, _⟩, ⟨_, _⟩, _, _⟩ := hgmi; omega)⟩ _ (fun r10 p11 => ?_)
          have o12 : r10.toInt = sumI (fun f => rmF (g 41 l4.toInt.toNat).toInt (f : Int)) 5 ∧ (0 ≤ r10.toInt ∧ r10.toInt ≤ 15) := p11
          clear p11
          show qm_PW X 175 [.ref 39, .int l4] g _
          refine ty_175 X g l4 hgam _ (fun r13 p14 => ?_)
          have o15 : r13.toInt = cntR (fun t => (g 41 (6 + 3 * t)) / 10) (g 41 4).toInt.toNat l4.toInt ∧ (0 ≤ r13.toInt ∧ r13.toInt ≤ 10) := p14
          clear p14
          show ((l2 - (r10 - r13)).toInt < r7.toInt → (qm_PA X 216 73 [(0, .ref 39), (1, .int l1), (2, .int l2), (3, .int 0), (4, .int (l4 + 1))] [] g Q)) ∧ (r7.toInt ≤ (l2 - (r10 - r13)).toInt → (qm_PA X 216 73 [(0, .ref 39), (1, .int l1), (2, .int l2), (3, .int 1), (4, .int (l4 + 1))] [] g Q))
          refine ⟨fun c16 => ?_, fun c17 => ?_⟩
          · exact ih.2 l1 l2 (0 : Int32) (l4 + 1) g ⟨(by have := ti_addK l4 (1 : Int32) 1 rfl; have := ti_sub r10 r13; have := ti_sub l2 (r10 - r13); have ⟨⟨_, _⟩, ⟨_, _⟩, ⟨_, _⟩, ⟨_, _⟩, _, _⟩ := hmmi; have := hmsm.1; have ⟨⟨_, _⟩, ⟨_, _⟩, ⟨_, _⟩, ⟨_, _⟩, _, _⟩ := hgmi; show (0 ≤ (l4 + 1).toInt ∧ (l4 + 1).toInt ≤ (h 39 3).toInt) ∧ l1.toInt = sumI (rkN (fun t => h 40 (6 + 3 * t)) (fun t => h 40 (7 + 3 * t)) (fun t => h 40 (8 + 3 * t)) (h 40 4).toInt.toNat) (h 39 3).toInt.toNat ∧ l2.toInt = sumI (lfN (h 40) (fun t => h 40 (6 + 3 * t)) (h 40 4).toInt.toNat) (h 39 3).toInt.toNat ∧ acI (0 : Int32) (cpA l1.toInt l2.toInt (h 40 4).toInt) (cpP (rkN (fun t => h 40 (6 + 3 * t)) (fun t => h 40 (7 + 3 * t)) (fun t => h 40 (8 + 3 * t)) (h 40 4).toInt.toNat) (lfN (h 40) (fun t => h 40 (6 + 3 * t)) (h 40 4).toInt.toNat) l2.toInt) (l4 + 1).toInt.toNat ∧ (∀ j : Nat, j < 49 → g 41 j = h 40 j); have hk9 := rk_sh (c := l4) (k := l4.toInt.toNat) (by omega) o9.1; rw [show (g 41 4) = h 40 4 from hi0.2.2.2.2 4 (by decide)] at hk9; have hk8 := hk9.trans (rkN_eq (eq3_41 hi0.2.2.2.2 (by omega))); have hl9 := lf_R (c := l4) hi0.2.2.2.2 (by omega) (by omega) (hkd l4.toInt.toNat (by show ((l4.toInt.toNat : Nat) : Int) < (h 39 3).toInt; omega)) o12.1 o15.1; have hlr := lfN_rng (kd := h 40) (pl := fun t => h 40 (6 + 3 * t)) (n := (h 40 4).toInt.toNat) (c := l4.toInt.toNat) (by omega); have e9 : (l4 + 1).toInt.toNat = l4.toInt.toNat + 1 := (by omega); have q7 := ti_sub r10 r13 (by omega); have q6 := ti_sub l2 (r10 - r13) (by omega); exact ⟨by omega, hi0.2.1, hi0.2.2.1, by rw [e9]; exact acI_n (fun w => by unfold cpP at w; omega), hi0.2.2.2.2⟩), (Or.inl rfl), hgmi, hgsm, hgzs, hgrw, hgam, (fun k hk => hgf k hk)⟩ (by have := ti_addK l4 (1 : Int32) 1 rfl; have := ti_sub r10 r13; have := ti_sub l2 (r10 - r13); have ⟨⟨_, _⟩, ⟨_, _⟩, ⟨_, _⟩, ⟨_, _⟩, _, _⟩ := hmmi; have := hmsm.1; have ⟨⟨_, _⟩, ⟨_, _⟩, ⟨_, _⟩, ⟨_, _⟩, _, _⟩ := hgmi; show (4 - (l4 + 1).toInt).toNat < n; omega)
          · exact ih.2 l1 l2 (1 : Int32) (l4 + 1) g ⟨(by have := ti_addK l4 (1 : Int32) 1 rfl; have := ti_sub r10 r13; have := ti_sub l2 (r10 - r13); have ⟨⟨_, _⟩, ⟨_, _⟩, ⟨_, _⟩, ⟨_, _⟩, _, _⟩ := hmmi; have := hmsm.1; have ⟨⟨_, _⟩, ⟨_, _⟩, ⟨_, _⟩, ⟨_, _⟩, _, _⟩ := hgmi; show (0 ≤ (l4 + 1).toInt ∧ (l4 + 1).toInt ≤ (h 39 3).toInt) ∧ l1.toInt = sumI (rkN (fun t => h 40 (6 + 3 * t)) (fun t => h 40 (7 + 3 * t)) (fun t => h 40 (8 + 3 * t)) (h 40 4).toInt.toNat) (h 39 3).toInt.toNat ∧ l2.toInt = sumI (lfN (h 40) (fun t => h 40 (6 + 3 * t)) (h 40 4).toInt.toNat) (h 39 3).toInt.toNat ∧ acI (1 : Int32) (cpA l1.toInt l2.toInt (h 40 4).toInt) (cpP (rkN (fun t => h 40 (6 + 3 * t)) (fun t => h 40 (7 + 3 * t)) (fun t => h 40 (8 + 3 * t)) (h 40 4).toInt.toNat) (lfN (h 40) (fun t => h 40 (6 + 3 * t)) (h 40 4).toInt.toNat) l2.toInt) (l4 + 1).toInt.toNat ∧ (∀ j : Nat, j < 49 → g 41 j = h 40 j); have hk9 := rk_sh (c := l4) (k := l4.toInt.toNat) (by omega) o9.1; rw [show (g 41 4) = h 40 4 from hi0.2.2.2.2 4 (by decide)] at hk9; have hk8 := hk9.trans (rkN_eq (eq3_41 hi0.2.2.2.2 (by omega))); have hl9 := lf_R (c := l4) hi0.2.2.2.2 (by omega) (by omega) (hkd l4.toInt.toNat (by show ((l4.toInt.toNat : Nat) : Int) < (h 39 3).toInt; omega)) o12.1 o15.1; have hlr := lfN_rng (kd := h 40) (pl := fun t => h 40 (6 + 3 * t)) (n := (h 40 4).toInt.toNat) (c := l4.toInt.toNat) (by omega); have e9 : (l4 + 1).toInt.toNat = l4.toInt.toNat + 1 := (by omega); have q7 := ti_sub r10 r13 (by omega); have q6 := ti_sub l2 (r10 - r13) (by omega); exact ⟨by omega, hi0.2.1, hi0.2.2.1, by rw [e9]; exact acI_y hi0.2.2.2.1 (by assumption) (by unfold cpP; omega), hi0.2.2.2.2⟩), (Or.inr rfl), hgmi, hgsm, hgzs, hgrw, hgam, (fun k hk => hgf k hk)⟩ (by have := ti_addK l4 (1 : Int32) 1 rfl; have := ti_sub r10 r13; have := ti_sub l2 (r10 - r13); have ⟨⟨_, _⟩, ⟨_, _⟩, ⟨_, _⟩, ⟨_, _⟩, _, _⟩ := hmmi; have := hmsm.1; have ⟨⟨_, _⟩, ⟨_, _⟩, ⟨_, _⟩, ⟨_, _⟩, _, _⟩ := hgmi; show (4 - (l4 + 1).toInt).toNat < n; omega)
set_option maxRecDepth 100000 in
set_option maxHeartbeats 4000000 in
theorem ty_216 (X : qm_X) (h : qm_H) (hp : mi h ∧ sm h ∧ zs h ∧ rw_ h ∧ wr h) (Q : qm_Q) (hq : ∀ r : Int32, ∀ h' : qm_H, (mi h' ∧ sm h' ∧ zs h' ∧ rw_ h' ∧ (∀ k, (k < 41 ∨ 41 < k) → h' k = h k) ∧ (r.toInt = qCopies (mR h))) → Q (some (.int r)) h') : qm_PW X 216 [.ref 39] h Q := by
  have hmmi : mi h := hp.1
  have ⟨⟨_, _⟩, ⟨_, _⟩, ⟨_, _⟩, ⟨_, _⟩, _, _⟩ := hmmi
  have hmsm : sm h := hp.2.1
  have ⟨⟨⟨_, _⟩, _, _⟩, _, _, _⟩ := hmsm
  have hmzs : zs h := hp.2.2.1
  have hmrw : rw_ h := hp.2.2.2.1
  have hmwr : wr h := hp.2.2.2.2
  have hkd := (wf_raw (show wfM (mR h) from hmwr)).2.1
  refine qm_seg_ok (C := qc_216) (rt := some .int) rfl rfl (cuts := [(10, [0, 1, 2, 3]), (73, [0, 1, 2, 3, 4])]) 400 _ _ _ _ ?_
  show qm_PW X 169 [.ref 39] h _
  refine sf_169_39 X h  hmsm _ (fun g1 p2 => ?_)
  obtain ⟨p2_0, p2_1, p2_2⟩ := p2
  have f3 : ∀ k, (k < 41 ∨ 41 < k) → g1 k = h k := fun k hk => (p2_1 k (by omega)).trans (rfl)
  have k4 : mi g1 := by unfold mi; rw [p2_1 39 (by omega)]; exact hmmi
  have k5 : sm g1 := by unfold sm; rw [p2_1 40 (by omega)]; exact hmsm
  have k6 : zs g1 := by unfold zs; rw [p2_1 49 (by omega)]; exact hmzs
  have k7 : rw_ g1 := by unfold rw_; rw [p2_1 46 (by omega)]; exact hmrw
  have k8 : wr g1 := wf_tr2 hmwr (mR_of (congrFun (p2_1 39 (by omega)) 3) (p2_1 40 (by omega)))
  have o9 : (∀ j : Nat, j < 49 → g1 41 j = h 40 j) := p2_2
  clear p2_2
  have w39_g1 : g1 39 = h 39 := (p2_1 39 (by omega))
  have w40_g1 : g1 40 = h 40 := (p2_1 40 (by omega))
  have sA_g1 : ∀ j : Nat, j < 49 → g1 41 j = h 40 j := o9
  have s4_g1 : (g1 41 4).toInt = (h 40 4).toInt := congrArg Int32.toInt (sA_g1 4 (by decide))
  show qm_PA X 216 10 [(0, .ref 39), (1, .int 0), (2, .int 0), (3, .int 0)] [] g1 Q
  exact (ty_216_c X h hp Q hq _).1 (0 : Int32) (0 : Int32) (0 : Int32) g1 ⟨(by have : (0 : Int32).toInt = 0 := rfl; have ⟨⟨_, _⟩, ⟨_, _⟩, ⟨_, _⟩, ⟨_, _⟩, _, _⟩ := hmmi; have := hmsm.1; show (0 ≤ (0 : Int32).toInt ∧ (0 : Int32).toInt ≤ (h 39 3).toInt) ∧ (0 : Int32).toInt = sumI (rkN (fun t => h 40 (6 + 3 * t)) (fun t => h 40 (7 + 3 * t)) (fun t => h 40 (8 + 3 * t)) (h 40 4).toInt.toNat) (0 : Int32).toInt.toNat ∧ (0 : Int32).toInt = sumI (lfN (h 40) (fun t => h 40 (6 + 3 * t)) (h 40 4).toInt.toNat) (0 : Int32).toInt.toNat ∧ (∀ j : Nat, j < 49 → g1 41 j = h 40 j); exact ⟨by have : (0 : Int32).toInt = 0 := rfl; omega, rfl, rfl, sA_g1⟩), k4, k5, k6, k7, p2_0, (fun k hk => f3 k hk)⟩ (Nat.lt_succ_self _)
