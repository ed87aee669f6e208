-- ThreadBankModel.handRoom(I)I
set_option maxRecDepth 100000 in
set_option maxHeartbeats 4000000 in
theorem ty_176_c (X : qm_X) (h : qm_H) (a : Int32) (hp : am h ∧ (0 ≤ a.toInt ∧ a.toInt ≤ 3)) (Q : qm_Q) (hq : ∀ r : Int32, (r.toInt = sumI (fun f => rmF (h 41 a.toInt.toNat).toInt (f : Int)) 5 ∧ (0 ≤ r.toInt ∧ r.toInt ≤ 15)) → Q (some (.int r)) h) : ∀ n : Nat, (∀ (l2 : Int32) (l3 : Int32), ((0 ≤ l3.toInt ∧ l3.toInt ≤ 5) ∧ l2.toInt = sumI (fun f => rmF (h 41 a.toInt.toNat).toInt (f : Int)) l3.toInt.toNat) → (5 - l3.toInt).toNat < n → qm_PA X 176 4 [(0, .ref 39), (1, .int a), (2, .int l2), (3, .int l3)] [] h Q) := by
  have hmam : am h := hp.1
  have ⟨⟨_, _⟩, ⟨_, _⟩, _, _, _⟩ := hmam
  have hp0 : 0 ≤ a.toInt ∧ a.toInt ≤ 3 := hp.2
  intro n
  induction n with
  | zero => exact fun _ _ _ h0 => absurd h0 (Nat.not_lt_zero _)
  | succ n ih =>
    intro l2 l3 hi hr
    have ti_l3 := ti_rng l3
    have hsr := sumI_rng (f := (fun f => rmF (h 41 a.toInt.toNat).toInt (f : Int))) (m := 3) (fun j => rmF_rng) l3.toInt.toNat
    refine qm_seg_ok (C := qc_176) (rt := some .int) rfl rfl (cuts := [(4, [0, 1, 2, 3])]) 400 _ _ _ _ ?_
    show (5 ≤ l3.toInt → (Q (some (.int l2)) h)) ∧ (l3.toInt < 5 → (qm_PW X 173 [.ref 39, .int ((10 * a) + l3)] h _))
    refine ⟨fun c1 => ?_, fun c2 => ?_⟩
    · exact hq l2 (by show l2.toInt = sumI (fun f => rmF (h 41 a.toInt.toNat).toInt (f : Int)) 5 ∧ (0 ≤ l2.toInt ∧ l2.toInt ≤ 15); exact ⟨by rw [hi.2, show l3.toInt.toNat = 5 by omega], by omega⟩)
    · refine ty_173 X h ((10 * a) + l3) ⟨hmam, (by have := ti_mulL (10 : Int32) 10 rfl a; have := ti_add (10 * a) l3; omega)⟩ _ (fun r3 p4 => ?_)
      have o5 : r3.toInt = rmF (h 41 (((10 * a) + l3).toInt / 10).toNat).toInt (((10 * a) + l3).toInt % 10) := p4
      clear p4
      show qm_PA X 176 4 [(0, .ref 39), (1, .int a), (2, .int (l2 + r3)), (3, .int (l3 + 1))] [] h Q
      exact ih (l2 + r3) (l3 + 1) (by have := ti_addK l3 (1 : Int32) 1 rfl; have := ti_add l2 r3; have := ti_mulL (10 : Int32) 10 rfl a; have := ti_add (10 * a) l3; have q1 := ti_mulL (10 : Int32) 10 rfl a; have q2 := ti_add (10 * a) l3; have q3 : ((10 * a) + l3).toInt = 10 * a.toInt + l3.toInt := (by omega); rw [q3, show (10 * a.toInt + l3.toInt) / 10 = a.toInt by omega, show (10 * a.toInt + l3.toInt) % 10 = ((l3.toInt.toNat : Nat) : Int) by omega] at o5; have hr9 := rmF_rng (k := (h 41 a.toInt.toNat).toInt) (f := ((l3.toInt.toNat : Nat) : Int)); exact ⟨by omega, by rw [show (l3 + 1).toInt.toNat = l3.toInt.toNat + 1 by omega, sumI_s]; omega⟩) (by have := ti_addK l3 (1 : Int32) 1 rfl; have := ti_mulL (10 : Int32) 10 rfl a; have := ti_add (10 * a) l3; omega)
set_option maxRecDepth 100000 in
set_option maxHeartbeats 4000000 in
theorem ty_176 (X : qm_X) (h : qm_H) (a : Int32) (hp : am h ∧ (0 ≤ a.toInt ∧ a.toInt ≤ 3)) (Q : qm_Q) (hq : ∀ r : Int32, (r.toInt = sumI (fun f => rmF (h 41 a.toInt.toNat).toInt (f : Int)) 5 ∧ (0 ≤ r.toInt ∧ r.toInt ≤ 15)) → Q (some (.int r)) h) : qm_PW X 176 [.ref 39, .int a] h Q := by
  have hmam : am h := hp.1
  have ⟨⟨_, _⟩, ⟨_, _⟩, _, _, _⟩ := hmam
  have hp0 : 0 ≤ a.toInt ∧ a.toInt ≤ 3 := hp.2
  refine qm_seg_ok (C := qc_176) (rt := some .int) rfl rfl (cuts := [(4, [0, 1, 2, 3])]) 400 _ _ _ _ ?_
  show qm_PA X 176 4 [(0, .ref 39), (1, .int a), (2, .int 0), (3, .int 0)] [] h Q
  exact (ty_176_c X h a hp Q hq _) (0 : Int32) (0 : Int32) (by have : (0 : Int32).toInt = 0 := rfl; exact ⟨by have : (0 : Int32).toInt = 0 := rfl; omega, rfl⟩) (Nat.lt_succ_self _)
-- ThreadBankModel.rule(I)I
set_option maxRecDepth 100000 in
set_option maxHeartbeats 4000000 in
theorem ty_184_c (X : qm_X) (h : qm_H) (a : Int32) (hp : mi h ∧ sm h ∧ zs h ∧ rw_ h) (Q : qm_Q) (hq : ∀ r : Int32, ∀ h' : qm_H, (mi h' ∧ sm h' ∧ zs h' ∧ rw_ h' ∧ (∀ k, (k < 41 ∨ 41 < k) → h' k = h k) ∧ (wfM (mR h) → r.toInt = qRule a.toInt (mR h))) → Q (some (.int r)) h') : ∀ n : Nat, (∀ (l2 : Int32) (l3 : Int32) (l4 : Int32) (g : qm_H), (((0 ≤ l4.toInt ∧ l4.toInt ≤ (h 39 3).toInt) ∧ l2.toInt = rfA (h 40) l4.toInt.toNat ∧ l3.toInt = usA (fun t => h 40 (6 + 3 * t)) (h 40 4).toInt.toNat l4.toInt.toNat ∧ (∀ j : Nat, j < 49 → g 41 j = h 40 j)) ∧ mi g ∧ sm g ∧ zs g ∧ rw_ g ∧ am g ∧ ∀ k, (k < 41 ∨ 41 < k) → g k = h k) → ((4 - l4.toInt) * 100 + 50).toNat < n → qm_PA X 184 11 [(0, .ref 39), (1, .int a), (2, .int l2), (3, .int l3), (4, .int l4)] [] g Q) ∧ (∀ (l2 : Int32) (l3 : Int32) (l4 : Int32) (l5 : Int32) (g : qm_H), ((((0 ≤ l4.toInt ∧ l4.toInt < (h 39 3).toInt) ∧ 0 ≤ l5.toInt ∧ l5.toInt ≤ 5) ∧ l2.toInt = rfA (h 40) (l4.toInt.toNat + 1) ∧ l3.toInt = usA (fun t => h 40 (6 + 3 * t)) (h 40 4).toInt.toNat l4.toInt.toNat + usH (fun t => h 40 (6 + 3 * t)) (h 40 4).toInt.toNat l4.toInt.toNat l5.toInt.toNat ∧ (∀ j : Nat, j < 49 → g 41 j = h 40 j)) ∧ mi g ∧ sm g ∧ zs g ∧ rw_ g ∧ am g ∧ ∀ k, (k < 41 ∨ 41 < k) → g k = h k) → ((4 - l4.toInt) * 100 + 40 - l5.toInt).toNat < n → qm_PA X 184 32 [(0, .ref 39), (1, .int a), (2, .int l2), (3, .int l3), (4, .int l4), (5, .int l5)] [] g Q) := by
  have hmmi : mi h := hp.1
  have ⟨⟨_, _⟩, ⟨_, _⟩, ⟨_, _⟩, ⟨_, _⟩, _, _⟩ := hmmi
  have hmsm : sm h := hp.2.1
  have ⟨⟨⟨_, _⟩, _, _⟩, _, _, _⟩ := hmsm
  have hmzs : zs h := hp.2.2.1
  have hmrw : rw_ h := hp.2.2.2
  intro n
  induction n with
  | zero => exact ⟨fun _ _ _ _ _ h0 => absurd h0 (Nat.not_lt_zero _), fun _ _ _ _ _ _ h0 => absurd h0 (Nat.not_lt_zero _)⟩
  | succ n ih =>
    refine ⟨?_, ?_⟩
    · intro l2 l3 l4 g hi hr
      obtain ⟨hi0, hgmi, hgsm, hgzs, hgrw, hgam, hgf⟩ := hi
      have ⟨⟨_, _⟩, ⟨_, _⟩, ⟨_, _⟩, ⟨_, _⟩, _, _⟩ := hgmi
      have ⟨⟨⟨_, _⟩, _, _⟩, _, _, _⟩ := hgsm
      have ⟨⟨_, _⟩, ⟨_, _⟩, _, _, _⟩ := hgam
      have ti_l4 := ti_rng l4
      have hsr := usA_rng (pl := fun t => h 40 (6 + 3 * t)) (n := (h 40 4).toInt.toNat) (k := l4.toInt.toNat)
      have hsq := rfA_rng (kd := h 40) (n := l4.toInt.toNat)
      have w39_g : g 39 = h 39 := hgf 39 (by omega)
      have w40_g : g 40 = h 40 := hgf 40 (by omega)
      have e3_g : (g 39 3).toInt = (h 39 3).toInt := by rw [w39_g]
      have e4_g : (g 40 4).toInt = (h 40 4).toInt := by rw [w40_g]
      refine qm_seg_ok (C := qc_184) (rt := some .int) rfl rfl (cuts := [(11, [0, 1, 2, 3, 4]), (32, [0, 1, 2, 3, 4, 5])]) 400 _ _ _ _ ?_
      show ((g 39 3).toInt ≤ l4.toInt → (((a = 0 → (Q (some (.int (g 39 3))) g)) ∧ (¬ a = 0 → ((a = 1 → ((0 ≤ (4 : Int) ∧ (4 : Int) < 147) ∧ (Q (some (.int (g 40 4))) g))) ∧ (¬ a = 1 → ((a = 2 → ((0 ≤ (5 : Int) ∧ (5 : Int) < 147) ∧ (Q (some (.int (g 40 5))) g))) ∧ (¬ a = 2 → ((a = 3 → (Q (some (.int l2)) g)) ∧ (¬ a = 3 → ((a = 4 → (Q (some (.int l3)) g)) ∧ (¬ a = 4 → (Q (some (.int (-1 : Int32))) g))))))))))))) ∧ (l4.toInt < (g 39 3).toInt → (qm_PW X 176 [.ref 39, .int l4] g _))
      refine ⟨fun c1 => ?_, fun c2 => ?_⟩
      · refine ⟨fun c3 => ?_, fun c4 => ?_⟩
        · have := ti_eqK 0 rfl c3
          exact hq (g 39 3) g ⟨hgmi, hgsm, hgzs, hgrw, (fun k hk => hgf k hk), (by have ⟨⟨_, _⟩, ⟨_, _⟩, ⟨_, _⟩, ⟨_, _⟩, _, _⟩ := hmmi; have := hmsm.1; have ⟨⟨_, _⟩, ⟨_, _⟩, ⟨_, _⟩, ⟨_, _⟩, _, _⟩ := hgmi; show wfM (mR h) → (g 39 3).toInt = qRule a.toInt (mR h); exact fun hw => (congrArg Int32.toInt (congrFun w39_g 3)).trans (show qRule a.toInt (mR h) = _ from rule_0 (M := mR h) (by omega)).symm)⟩
        · have := ti_neK 0 rfl c4
          refine ⟨fun c5 => ?_, fun c6 => ?_⟩
          · have := ti_eqK 1 rfl c5
            refine ⟨by decide, ?_⟩
            exact hq (g 40 4) g ⟨hgmi, hgsm, hgzs, hgrw, (fun k hk => hgf k hk), (by have ⟨⟨_, _⟩, ⟨_, _⟩, ⟨_, _⟩, ⟨_, _⟩, _, _⟩ := hmmi; have := hmsm.1; have ⟨⟨_, _⟩, ⟨_, _⟩, ⟨_, _⟩, ⟨_, _⟩, _, _⟩ := hgmi; have := hgsm.1; show wfM (mR h) → (g 40 4).toInt = qRule a.toInt (mR h); exact fun hw => (congrArg Int32.toInt (congrFun w40_g 4)).trans (show qRule a.toInt (mR h) = _ from rule_1 (M := mR h) (by omega)).symm)⟩
          · have := ti_neK 1 rfl c6
            refine ⟨fun c7 => ?_, fun c8 => ?_⟩
            · have := ti_eqK 2 rfl c7
              refine ⟨by decide, ?_⟩
              exact hq (g 40 5) g ⟨hgmi, hgsm, hgzs, hgrw, (fun k hk => hgf k hk), (by have ⟨⟨_, _⟩, ⟨_, _⟩, ⟨_, _⟩, ⟨_, _⟩, _, _⟩ := hmmi; have := hmsm.1; have ⟨⟨_, _⟩, ⟨_, _⟩, ⟨_, _⟩, ⟨_, _⟩, _, _⟩ := hgmi; have := hgsm.1; show wfM (mR h) → (g 40 5).toInt = qRule a.toInt (mR h); exact fun hw => (congrArg Int32.toInt (congrFun w40_g 5)).trans (show qRule a.toInt (mR h) = _ from rule_2 (M := mR h) (by omega)).symm)⟩
            · have := ti_neK 2 rfl c8
              refine ⟨fun c9 => ?_, fun c10 => ?_⟩
              · have := ti_eqK 3 rfl c9
                exact hq l2 g ⟨hgmi, hgsm, hgzs, hgrw, (fun k hk => hgf k hk), (by have ⟨⟨_, _⟩, ⟨_, _⟩, ⟨_, _⟩, ⟨_, _⟩, _, _⟩ := hmmi; have := hmsm.1; have ⟨⟨_, _⟩, ⟨_, _⟩, ⟨_, _⟩, ⟨_, _⟩, _, _⟩ := hgmi; show wfM (mR h) → l2.toInt = qRule a.toInt (mR h); have ec : l4.toInt.toNat = (h 39 3).toInt.toNat := (by omega); exact fun hw => (hi0.2.1.trans (by rw [ec]; exact rfA_C (wf_raw hw).2.1)).trans (show qRule a.toInt (mR h) = _ from rule_3 (by omega)).symm)⟩
              · have := ti_neK 3 rfl c10
                refine ⟨fun c11 => ?_, fun c12 => ?_⟩
                · have := ti_eqK 4 rfl c11
                  exact hq l3 g ⟨hgmi, hgsm, hgzs, hgrw, (fun k hk => hgf k hk), (by have ⟨⟨_, _⟩, ⟨_, _⟩, ⟨_, _⟩, ⟨_, _⟩, _, _⟩ := hmmi; have := hmsm.1; have ⟨⟨_, _⟩, ⟨_, _⟩, ⟨_, _⟩, ⟨_, _⟩, _, _⟩ := hgmi; show wfM (mR h) → l3.toInt = qRule a.toInt (mR h); have ec : l4.toInt.toNat = (h 39 3).toInt.toNat := (by omega); exact fun hw => (hi0.2.2.1.trans (by rw [ec])).trans (show qRule a.toInt (mR h) = _ from rule_4 (by omega)).symm)⟩
                · have := ti_neK 4 rfl c12
                  exact hq (-1 : Int32) g ⟨hgmi, hgsm, hgzs, hgrw, (fun k hk => hgf k hk), (by have ⟨⟨_, _⟩, ⟨_, _⟩, ⟨_, _⟩, ⟨_, _⟩, _, _⟩ := hmmi; have := hmsm.1; have ⟨⟨_, _⟩, ⟨_, _⟩, ⟨_, _⟩, ⟨_, _⟩, _, _⟩ := hgmi; show wfM (mR h) → (-1 : Int32).toInt = qRule a.toInt (mR h); rw [ti_n1]; exact fun hw => (rule_d (M := mR h) ⟨by omega, by omega, by omega, by omega, by omega⟩).symm)⟩
      · refine ty_176 X g l4 ⟨hgam, (by have ⟨⟨_, _⟩, ⟨_, _⟩, ⟨_, _⟩, ⟨_, _⟩, _, _⟩ := hmmi; have := hmsm.1; have ⟨⟨_, _⟩, ⟨_, _⟩, ⟨_, _⟩, ⟨_, _⟩, _, _⟩ := hgmi; omega)⟩ _ (fun r13 p14 => ?_)
        have o15 : r13.toInt = sumI (fun f => rmF (g 41 l4.toInt.toNat).toInt (f : Int)) 5 ∧ (0 ≤ r13.toInt ∧ r13.toInt ≤ 15) := p14
        clear p14
        show qm_PA X 184 32 [(0, .ref 39), (1, .int a), (2, .int (l2 + r13)), (3, .int l3), (4, .int l4), (5, .int 0)] [] g Q
        exact ih.2 (l2 + r13) l3 l4 (0 : Int32) g ⟨(by have : (0 : Int32).toInt = 0 := rfl; have := ti_add l2 r13; have ⟨⟨_, _⟩, ⟨_, _⟩, ⟨_, _⟩, ⟨_, _⟩, _, _⟩ := hmmi; have := hmsm.1; have ⟨⟨_, _⟩, ⟨_, _⟩, ⟨_, _⟩, ⟨_, _⟩, _, _⟩ := hgmi; show ((0 ≤ l4.toInt ∧ l4.toInt < (h 39 3).toInt) ∧ 0 ≤ (0 : Int32).toInt ∧ (0 : Int32).toInt ≤ 5) ∧ (l2 + r13).toInt = rfA (h 40) (l4.toInt.toNat + 1) ∧ l3.toInt = usA (fun t => h 40 (6 + 3 * t)) (h 40 4).toInt.toNat l4.toInt.toNat + usH (fun t => h 40 (6 + 3 * t)) (h 40 4).toInt.toNat l4.toInt.toNat (0 : Int32).toInt.toNat ∧ (∀ j : Nat, j < 49 → g 41 j = h 40 j); have oy9 := o15.1; rw [hi0.2.2.2 _ (by omega)] at oy9; exact ⟨by have : (0 : Int32).toInt = 0 := rfl; omega, by show _ = rfA (h 40) l4.toInt.toNat + sumI (fun f => rmF (h 40 l4.toInt.toNat).toInt (f : Int)) 5; omega, by show _ = usA (fun t => h 40 (6 + 3 * t)) (h 40 4).toInt.toNat l4.toInt.toNat + 0; omega, hi0.2.2.2⟩), hgmi, hgsm, hgzs, hgrw, hgam, (fun k hk => hgf k hk)⟩ (by have : (0 : Int32).toInt = 0 := rfl; have ⟨⟨_, _⟩, ⟨_, _⟩, ⟨_, _⟩, ⟨_, _⟩, _, _⟩ := hmmi; have := hmsm.1; have ⟨⟨_, _⟩, ⟨_, _⟩, ⟨_, _⟩, ⟨_, _⟩, _, _⟩ := hgmi; show ((4 - l4.toInt) * 100 + 40 - (0 : Int32).toInt).toNat < n; omega)
    · intro l2 l3 l4 l5 g hi hr
      obtain ⟨hi0, hgmi, hgsm, hgzs, hgrw, hgam, hgf⟩ := hi
      have ⟨⟨_, _⟩, ⟨_, _⟩, ⟨_, _⟩, ⟨_, _⟩, _, _⟩ := hgmi
      have ⟨⟨⟨_, _⟩, _, _⟩, _, _, _⟩ := hgsm
      have ⟨⟨_, _⟩, ⟨_, _⟩, _, _, _⟩ := hgam
      have ti_l4 := ti_rng l4
      have hsr := usA_rng (pl := fun t => h 40 (6 + 3 * t)) (n := (h 40 4).toInt.toNat) (k := l4.toInt.toNat)
      have hsq := rfA_rng (kd := h 40) (n := l4.toInt.toNat)
      have w39_g : g 39 = h 39 := hgf 39 (by omega)
      have w40_g : g 40 = h 40 := hgf 40 (by omega)
      have e3_g : (g 39 3).toInt = (h 39 3).toInt := by rw [w39_g]
      have e4_g : (g 40 4).toInt = (h 40 4).toInt := by rw [w40_g]
      have ti_l5 := ti_rng l5
      have hss := usH_rng (pl := fun t => h 40 (6 + 3 * t)) (n := (h 40 4).toInt.toNat) (c := l4.toInt.toNat) (k := l5.toInt.toNat)
      refine qm_seg_ok (C := qc_184) (rt := some .int) rfl rfl (cuts := [(11, [0, 1, 2, 3, 4]), (32, [0, 1, 2, 3, 4, 5])]) 400 _ _ _ _ ?_
      show (5 ≤ l5.toInt → (qm_PA X 184 11 [(0, .ref 39), (1, .int a), (2, .int l2), (3, .int l3), (4, .int (l4 + 1))] [] g Q)) ∧ (l5.toInt < 5 → (qm_PW X 174 [.ref 39, .int ((10 * l4) + l5)] g _))
      refine ⟨fun c1 => ?_, fun c2 => ?_⟩
      · exact ih.1 l2 l3 (l4 + 1) g ⟨(by have := ti_addK l4 (1 : Int32) 1 rfl; have ⟨⟨_, _⟩, ⟨_, _⟩, ⟨_, _⟩, ⟨_, _⟩, _, _⟩ := hmmi; have := hmsm.1; show (0 ≤ (l4 + 1).toInt ∧ (l4 + 1).toInt ≤ (h 39 3).toInt) ∧ l2.toInt = rfA (h 40) (l4 + 1).toInt.toNat ∧ l3.toInt = usA (fun t => h 40 (6 + 3 * t)) (h 40 4).toInt.toNat (l4 + 1).toInt.toNat ∧ (∀ j : Nat, j < 49 → g 41 j = h 40 j); have h5 : l5.toInt.toNat = 5 := (by omega); have hi2 := hi0.2.2.1; rw [h5] at hi2; have e9 : (l4 + 1).toInt.toNat = l4.toInt.toNat + 1 := (by omega); exact ⟨by omega, by rw [e9]; exact hi0.2.1, by rw [e9]; show _ = usA (fun t => h 40 (6 + 3 * t)) (h 40 4).toInt.toNat l4.toInt.toNat + usH (fun t => h 40 (6 + 3 * t)) (h 40 4).toInt.toNat l4.toInt.toNat 5; omega, hi0.2.2.2⟩), hgmi, hgsm, hgzs, hgrw, hgam, (fun k hk => hgf k hk)⟩ (by have := ti_addK l4 (1 : Int32) 1 rfl; have ⟨⟨_, _⟩, ⟨_, _⟩, ⟨_, _⟩, ⟨_, _⟩, _, _⟩ := hmmi; have := hmsm.1; show ((4 - (l4 + 1).toInt) * 100 + 50).toNat < n; omega)
      · refine ty_174 X g ((10 * l4) + l5) hgam _ (fun r3 p4 => ?_)
        have o5 : r3.toInt = cntD (g 41) (g 41 4).toInt.toNat ((10 * l4) + l5).toInt ∧ (0 ≤ r3.toInt ∧ r3.toInt ≤ 10) := p4
        clear p4
        show (r3.toInt ≤ 0 → (qm_PW X 142 [.int 0] g _)) ∧ (0 < r3.toInt → (qm_PW X 142 [.int 1] g _))
        refine ⟨fun c6 => ?_, fun c7 => ?_⟩
        · refine tx_142 X g (0 : Int32) trivial _ (fun r8 p9 => ?_)
          have o10 : ((0 : Int32).toInt = 0 ∧ r8.toInt = 0) ∨ (¬ (0 : Int32).toInt = 0 ∧ r8.toInt = 1) := p9
          clear p9
          show qm_PA X 184 32 [(0, .ref 39), (1, .int a), (2, .int l2), (3, .int (l3 + r8)), (4, .int l4), (5, .int (l5 + 1))] [] g Q
          exact ih.2 l2 (l3 + r8) l4 (l5 + 1) g ⟨(by have : (0 : Int32).toInt = 0 := rfl; have := ti_addK l5 (1 : Int32) 1 rfl; have := ti_add l3 r8; have := ti_mulL (10 : Int32) 10 rfl l4; have := ti_add (10 * l4) l5; have ⟨⟨_, _⟩, ⟨_, _⟩, ⟨_, _⟩, ⟨_, _⟩, _, _⟩ := hmmi; have := hmsm.1; show ((0 ≤ l4.toInt ∧ l4.toInt < (h 39 3).toInt) ∧ 0 ≤ (l5 + 1).toInt ∧ (l5 + 1).toInt ≤ 5) ∧ l2.toInt = rfA (h 40) (l4.toInt.toNat + 1) ∧ (l3 + r8).toInt = usA (fun t => h 40 (6 + 3 * t)) (h 40 4).toInt.toNat l4.toInt.toNat + usH (fun t => h 40 (6 + 3 * t)) (h 40 4).toInt.toNat l4.toInt.toNat (l5 + 1).toInt.toNat ∧ (∀ j : Nat, j < 49 → g 41 j = h 40 j); have q1 := ti_mulL (10 : Int32) 10 rfl l4; have q2 := ti_add (10 * l4) l5; have q3 : ((10 * l4) + l5).toInt = 10 * l4.toInt + l5.toInt := (by omega); have h01 : (0 : Int32).toInt = 0 := rfl; have h11 : (1 : Int32).toInt = 1 := rfl; have oy9 := o5.1; rw [q3, cnt_41 hi0.2.2.2 (by omega), show 10 * l4.toInt + l5.toInt = 10 * ((l4.toInt.toNat : Nat) : Int) + ((l5.toInt.toNat : Nat) : Int) by omega] at oy9; have hu : usF (fun t => h 40 (6 + 3 * t)) (h 40 4).toInt.toNat (10 * ((l4.toInt.toNat : Nat) : Int) + ((l5.toInt.toNat : Nat) : Int)) = 0 := if_neg (by omega); exact ⟨by omega, hi0.2.1, by rw [show (l5 + 1).toInt.toNat = l5.toInt.toNat + 1 by omega]; show _ = usA (fun t => h 40 (6 + 3 * t)) (h 40 4).toInt.toNat l4.toInt.toNat + (usH (fun t => h 40 (6 + 3 * t)) (h 40 4).toInt.toNat l4.toInt.toNat l5.toInt.toNat + usF (fun t => h 40 (6 + 3 * t)) (h 40 4).toInt.toNat (10 * ((l4.toInt.toNat : Nat) : Int) + ((l5.toInt.toNat : Nat) : Int))); omega, hi0.2.2.2⟩), hgmi, hgsm, hgzs, hgrw, hgam, (fun k hk => hgf k hk)⟩ (by have : (0 : Int32).toInt = 0 := rfl; have := ti_addK l5 (1 : Int32) 1 rfl; have := ti_mulL (10 : Int32) 10 rfl l4; have := ti_add (10 * l4) l5; have ⟨⟨_, _⟩, ⟨_, _⟩, ⟨_, _⟩, ⟨_, _⟩, _, _⟩ := hmmi; have := hmsm.1; show ((4 - l4.toInt) * 100 + 40 - (l5 + 1).toInt).toNat < n; omega)
        · refine tx_142 X g (1 : Int32) trivial _ (fun r11 p12 => ?_)
          have o13 : ((1 : Int32).toInt = 0 ∧ r11.toInt = 0) ∨ (¬ (1 : Int32).toInt = 0 ∧ r11.toInt = 1) := p12
          clear p12
          show qm_PA X 184 32 [(0, .ref 39), (1, .int a), (2, .int l2), (3, .int (l3 + r11)), (4, .int l4), (5, .int (l5 + 1))] [] g Q
          exact ih.2 l2 (l3 + r11) l4 (l5 + 1) g ⟨(by have : (1 : Int32).toInt = 1 := rfl; have := ti_addK l5 (1 : Int32) 1 rfl; have := ti_add l3 r11; have := ti_mulL (10 : Int32) 10 rfl l4; have := ti_add (10 * l4) l5; have ⟨⟨_, _⟩, ⟨_, _⟩, ⟨_, _⟩, ⟨_, _⟩, _, _⟩ := hmmi; have := hmsm.1; show ((0 ≤ l4.toInt ∧ l4.toInt < (h 39 3).toInt) ∧ 0 ≤ (l5 + 1).toInt ∧ (l5 + 1).toInt ≤ 5) ∧ l2.toInt = rfA (h 40) (l4.toInt.toNat + 1) ∧ (l3 + r11).toInt = usA (fun t => h 40 (6 + 3 * t)) (h 40 4).toInt.toNat l4.toInt.toNat + usH (fun t => h 40 (6 + 3 * t)) (h 40 4).toInt.toNat l4.toInt.toNat (l5 + 1).toInt.toNat ∧ (∀ j : Nat, j < 49 → g 41 j = h 40 j); have q1 := ti_mulL (10 : Int32) 10 rfl l4; have q2 := ti_add (10 * l4) l5; have q3 : ((10 * l4) + l5).toInt = 10 * l4.toInt + l5.toInt := (by omega); have h01 : (0 : Int32).toInt = 0 := rfl; have h11 : (1 : Int32).toInt = 1 := rfl; have oy9 := o5.1; rw [q3, cnt_41 hi0.2.2.2 (by omega), show 10 * l4.toInt + l5.toInt = 10 * ((l4.toInt.toNat : Nat) : Int) + ((l5.toInt.toNat : Nat) : Int) by omega] at oy9; have hu : usF (fun t => h 40 (6 + 3 * t)) (h 40 4).toInt.toNat (10 * ((l4.toInt.toNat : Nat) : Int) + ((l5.toInt.toNat : Nat) : Int)) = 1 := if_pos (by omega); exact ⟨by omega, hi0.2.1, by rw [show (l5 + 1).toInt.toNat = l5.toInt.toNat + 1 by omega]; show _ = usA (fun t => h 40 (6 + 3 * t)) (h 40 4).toInt.toNat l4.toInt.toNat + (usH (fun t => h 40 (6 + 3 * t)) (h 40 4).toInt.toNat l4.toInt.toNat l5.toInt.toNat + usF (fun t => h 40 (6 + 3 * t)) (h 40 4).toInt.toNat (10 * ((l4.toInt.toNat : Nat) : Int) + ((l5.toInt.toNat : Nat) : Int))); omega, hi0.2.2.2⟩), hgmi, hgsm, hgzs, hgrw, hgam, (fun k hk => hgf k hk)⟩ (by have : (1 : Int32).toInt = 1 := rfl; have := ti_addK l5 (1 : Int32) 1 rfl; have := ti_mulL (10 : Int32) 10 rfl l4; have := ti_add (10 * l4) l5; have ⟨⟨_, _⟩, ⟨_, _⟩, ⟨_, _⟩, ⟨_, _⟩, _, _⟩ := hmmi; have := hmsm.1; show ((4 - l4.toInt) * 100 + 40 - (l5 + 1).toInt).toNat < n; omega)
set_option maxRecDepth 100000 in
set_option maxHeartbeats 4000000 in
theorem ty_184 (X : qm_X) (h : qm_H) (a : Int32) (hp : mi h ∧ sm h ∧ zs h ∧ rw_ h) (Q : qm_Q) (hq : ∀ r : Int32, ∀ h' : qm_H, (mi h' ∧ sm h' ∧ zs h' ∧ rw_ h' ∧ (∀ k, (k < 41 ∨ 41 < k) → h' k = h k) ∧ (wfM (mR h) → r.toInt = qRule a.toInt (mR h))) → Q (some (.int r)) h') : qm_PW X 184 [.ref 39, .int a] h Q := by
  have hmmi : mi h := hp.1
  have ⟨⟨_, _⟩, ⟨_, _⟩, ⟨_, _⟩, ⟨_, _⟩, _, _⟩ := hmmi
  have hmsm : sm h := hp.2.1
  have ⟨⟨⟨_, _⟩, _, _⟩, _, _, _⟩ := hmsm
  have hmzs : zs h := hp.2.2.1
  have hmrw : rw_ h := hp.2.2.2
  refine qm_seg_ok (C := qc_184) (rt := some .int) rfl rfl (cuts := [(11, [0, 1, 2, 3, 4]), (32, [0, 1, 2, 3, 4, 5])]) 400 _ _ _ _ ?_
  show qm_PW X 169 [.ref 39] h _
  refine sf_169_39 X h  hmsm _ (fun g1 p2 => ?_)
  obtain ⟨p2_0, p2_1, p2_2⟩ := p2
  have f3 : ∀ k, (k < 41 ∨ 41 < k) → g1 k = h k := fun k hk => (p2_1 k (by omega)).trans (rfl)
  have k4 : mi g1 := by unfold mi; rw [p2_1 39 (by omega)]; exact hmmi
  have k5 : sm g1 := by unfold sm; rw [p2_1 40 (by omega)]; exact hmsm
  have k6 : zs g1 := by unfold zs; rw [p2_1 49 (by omega)]; exact hmzs
  have k7 : rw_ g1 := by unfold rw_; rw [p2_1 46 (by omega)]; exact hmrw
  have o8 : (∀ j : Nat, j < 49 → g1 41 j = h 40 j) := p2_2
  clear p2_2
  have w39_g1 : g1 39 = h 39 := (p2_1 39 (by omega))
  have w40_g1 : g1 40 = h 40 := (p2_1 40 (by omega))
  have sA_g1 : ∀ j : Nat, j < 49 → g1 41 j = h 40 j := o8
  have s4_g1 : (g1 41 4).toInt = (h 40 4).toInt := congrArg Int32.toInt (sA_g1 4 (by decide))
  show qm_PA X 184 11 [(0, .ref 39), (1, .int a), (2, .int 0), (3, .int 0), (4, .int 0)] [] g1 Q
  exact (ty_184_c X h a hp Q hq _).1 (0 : Int32) (0 : Int32) (0 : Int32) g1 ⟨(by have : (0 : Int32).toInt = 0 := rfl; have ⟨⟨_, _⟩, ⟨_, _⟩, ⟨_, _⟩, ⟨_, _⟩, _, _⟩ := hmmi; have := hmsm.1; show (0 ≤ (0 : Int32).toInt ∧ (0 : Int32).toInt ≤ (h 39 3).toInt) ∧ (0 : Int32).toInt = rfA (h 40) (0 : Int32).toInt.toNat ∧ (0 : Int32).toInt = usA (fun t => h 40 (6 + 3 * t)) (h 40 4).toInt.toNat (0 : Int32).toInt.toNat ∧ (∀ j : Nat, j < 49 → g1 41 j = h 40 j); exact ⟨by have : (0 : Int32).toInt = 0 := rfl; omega, rfl, rfl, sA_g1⟩), k4, k5, k6, k7, p2_0, (fun k hk => f3 k hk)⟩ (Nat.lt_succ_self _)
