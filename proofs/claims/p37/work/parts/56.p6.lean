-- ThreadBankModel.text()I
set_option maxRecDepth 100000 in
set_option maxHeartbeats 4000000 in
theorem sf_162_39_c (X : qm_X) (h : qm_H) (hp : mi h ∧ sm h ∧ zs h ∧ rw_ h) (Q : qm_Q) (hq : ∀ r : Int32, ∀ h' : qm_H, (mi h' ∧ sm h' ∧ zs h' ∧ rw_ h' ∧ (∀ k, (k < 39 ∨ 50 < k) → h' k = h k)) → Q (some (.int r)) h') : ∀ n : Nat, (∀ (l1 : Int32) (g : qm_H), (((g 39 14).toInt = 0 ∧ ¬ (g 39 12).toInt = 0) ∧ mi g ∧ pp g ∧ dd g ∧ dp g ∧ sm g ∧ zs g ∧ rw_ g ∧ ∀ k, (k < 39 ∨ 50 < k) → g k = h k) → (161 - (g 39 10).toInt).toNat < n → qm_PA X 162 34 [(0, .ref 39), (1, .int l1)] [] g Q) ∧ (∀ (l1 : Int32) (g : qm_H), (mi g ∧ pp g ∧ dd g ∧ dp g ∧ sm g ∧ zs g ∧ rw_ g ∧ ∀ k, (k < 39 ∨ 50 < k) → g k = h k) → 0 < n → qm_PA X 162 44 [(0, .ref 39), (1, .int l1)] [] g Q) := by
  have hmmi : mi h := hp.1
  have ⟨⟨_, _⟩, ⟨_, _⟩, ⟨_, _⟩, ⟨_, _⟩, _, _⟩ := hmmi
  have hmsm : sm h := hp.2.1
  have ⟨⟨⟨_, _⟩, _, _⟩, _, _, _⟩ := hmsm
  have hmzs : zs h := hp.2.2.1
  have hmrw : rw_ h := hp.2.2.2
  intro n
  induction n with
  | zero => exact ⟨fun _ _ _ h0 => absurd h0 (Nat.not_lt_zero _), fun _ _ _ h0 => absurd h0 (Nat.not_lt_zero _)⟩
  | succ n ih =>
    refine ⟨?_, ?_⟩
    · intro l1 g hi hr
      obtain ⟨hi0, hgmi, hgpp, hgdd, hgdp, hgsm, hgzs, hgrw, hgf⟩ := hi
      have ⟨⟨_, _⟩, ⟨_, _⟩, ⟨_, _⟩, ⟨_, _⟩, _, _⟩ := hgmi
      have ⟨⟨_, _⟩, ⟨_, _⟩, _, _⟩ := hgpp
      have ⟨⟨_, _⟩, _, _⟩ := hgdd
      have ⟨⟨⟨_, _⟩, _, _⟩, _, _, _⟩ := hgsm
      refine qm_seg_ok (C := qc_162) (rt := some .int) rfl rfl (cuts := [(34, [0, 1]), (44, [0, 1])]) 400 _ _ _ _ ?_
      show qm_PW X 159 [.ref 39] g _
      refine sf_159_39 X g  ⟨hgmi, hgpp, hgdd, hgdp, hgsm, (by show (g 39 14).toInt = 0; omega)⟩ _ (fun g1 p2 => ?_)
      have f3 : ∀ k, (k < 39 ∨ 50 < k) → g1 k = h k := fun k hk => (p2.2.2.2.2.2.1 k (by omega)).trans (hgf k hk)
      have k4 : zs g1 := by unfold zs; rw [p2.2.2.2.2.2.1 49 (by omega)]; exact hgzs
      have k5 : rw_ g1 := by unfold rw_; rw [p2.2.2.2.2.2.1 46 (by omega)]; exact hgrw
      have o6 : ((g1 39 14).toInt = 0 → (g 39 10).toInt < (g1 39 10).toInt) := p2.2.2.2.2.2.2
      show (¬ (g1 39 14) = 0 → (qm_PA X 162 44 [(0, .ref 39), (1, .int (l1 + 1))] [] g1 Q)) ∧ ((g1 39 14) = 0 → (((g1 39 12) = 0 → (qm_PA X 162 44 [(0, .ref 39), (1, .int (l1 + 1))] [] g1 Q)) ∧ (¬ (g1 39 12) = 0 → (qm_PA X 162 34 [(0, .ref 39), (1, .int (l1 + 1))] [] g1 Q))))
      refine ⟨fun c7 => ?_, fun c8 => ?_⟩
      · have := ti_neK 0 rfl c7
        exact ih.2 (l1 + 1) g1 ⟨p2.1, p2.2.1, p2.2.2.1, p2.2.2.2.1, p2.2.2.2.2.1, k4, k5, (fun k hk => f3 k hk)⟩ (by show 0 < n; omega)
      · have := ti_eqK 0 rfl c8
        refine ⟨fun c9 => ?_, fun c10 => ?_⟩
        · have := ti_eqK 0 rfl c9
          exact ih.2 (l1 + 1) g1 ⟨p2.1, p2.2.1, p2.2.2.1, p2.2.2.2.1, p2.2.2.2.2.1, k4, k5, (fun k hk => f3 k hk)⟩ (by show 0 < n; omega)
        · have := ti_neK 0 rfl c10
          exact ih.1 (l1 + 1) g1 ⟨(by show (g1 39 14).toInt = 0 ∧ ¬ (g1 39 12).toInt = 0; omega), p2.1, p2.2.1, p2.2.2.1, p2.2.2.2.1, p2.2.2.2.2.1, k4, k5, (fun k hk => f3 k hk)⟩ (by show (161 - (g1 39 10).toInt).toNat < n; omega)
    · intro l1 g hi hr
      obtain ⟨hgmi, hgpp, hgdd, hgdp, hgsm, hgzs, hgrw, hgf⟩ := hi
      have ⟨⟨_, _⟩, ⟨_, _⟩, ⟨_, _⟩, ⟨_, _⟩, _, _⟩ := hgmi
      have ⟨⟨_, _⟩, ⟨_, _⟩, _, _⟩ := hgpp
      have ⟨⟨_, _⟩, _, _⟩ := hgdd
      have ⟨⟨⟨_, _⟩, _, _⟩, _, _, _⟩ := hgsm
      refine qm_seg_ok (C := qc_162) (rt := some .int) rfl rfl (cuts := [(34, [0, 1]), (44, [0, 1])]) 400 _ _ _ _ ?_
      show (¬ (g 39 14) = 0 → (((g 39 14).toInt ≤ 0 → (qm_PW X 144 [.ref 39] (qm_row g 39 (upd (g 39) 9 0)) _)) ∧ (0 < (g 39 14).toInt → (Q (some (.int ((-10 : Int32) - (g 39 15)))) (qm_row g 39 (upd (g 39) 9 0)))))) ∧ ((g 39 14) = 0 → (((g 39 5).toInt ≤ (g 39 7).toInt → (qm_PW X 147 [.ref 39, .int 0, .int 6] g _)) ∧ ((g 39 7).toInt < (g 39 5).toInt → (qm_PW X 147 [.ref 39, .int 1, .int 6] g _))))
      refine ⟨fun c1 => ?_, fun c2 => ?_⟩
      · have := ti_neK 0 rfl c1
        refine ⟨fun c3 => ?_, fun c4 => ?_⟩
        · refine sf_144_39 X (qm_row g 39 (upd (g 39) 9 0))  ⟨(by have ⟨⟨_, _⟩, ⟨_, _⟩, ⟨_, _⟩, ⟨_, _⟩, _, _⟩ := hmmi; have ⟨⟨⟨_, _⟩, _, _⟩, _, _, _⟩ := hmsm; have ⟨⟨_, _⟩, ⟨_, _⟩, ⟨_, _⟩, ⟨_, _⟩, _, _⟩ := hgmi; have ⟨⟨_, _⟩, ⟨_, _⟩, _, _⟩ := hgpp; have ⟨⟨_, _⟩, _, _⟩ := hgdd; have ⟨⟨⟨_, _⟩, _, _⟩, _, _, _⟩ := hgsm; show (0 ≤ (g 39 3).toInt ∧ (g 39 3).toInt ≤ 4) ∧ (0 ≤ (0 : Int) ∧ (0 : Int) ≤ 160) ∧ (0 ≤ (g 39 19).toInt ∧ (g 39 19).toInt ≤ 4) ∧ (0 ≤ (g 39 20).toInt ∧ (g 39 20).toInt ≤ 255) ∧ (0 ≤ (g 39 11).toInt ∧ (g 39 11).toInt ≤ 160); omega), (by have ⟨⟨_, _⟩, ⟨_, _⟩, ⟨_, _⟩, ⟨_, _⟩, _, _⟩ := hmmi; have ⟨⟨⟨_, _⟩, _, _⟩, _, _, _⟩ := hmsm; have ⟨⟨_, _⟩, ⟨_, _⟩, ⟨_, _⟩, ⟨_, _⟩, _, _⟩ := hgmi; have ⟨⟨_, _⟩, ⟨_, _⟩, _, _⟩ := hgpp; have ⟨⟨_, _⟩, _, _⟩ := hgdd; have ⟨⟨⟨_, _⟩, _, _⟩, _, _, _⟩ := hgsm; show (0 ≤ (g 39 5).toInt ∧ (g 39 5).toInt ≤ 4) ∧ (0 ≤ (g 39 10).toInt ∧ (g 39 10).toInt ≤ 160) ∧ (0 ≤ (g 39 14).toInt ∧ (g 39 14).toInt ≤ 7); omega), (by exact hgdd), (by exact hgdp), (by exact hgsm), (by show (g 39 14).toInt = 0; omega)⟩ _ (fun g5 p6 => ?_)
          have f7 : ∀ k, (k < 39 ∨ 50 < k) → g5 k = h k := fun k hk => (p6.2.2 k (by omega)).trans (by simp only [qm_row]; rw [if_neg (by omega)]; exact hgf k hk)
          have k8 : zs g5 := by unfold zs; rw [p6.2.2 49 (by omega)]; exact hgzs
          have k9 : rw_ g5 := by unfold rw_; rw [p6.2.2 46 (by omega)]; exact hgrw
          have k10 : dd g5 := by unfold dd; rw [p6.2.2 43 (by omega)]; exact hgdd
          show Q (some (.int l1)) g5
          exact hq l1 g5 ⟨p6.1, p6.2.1, k8, k9, (fun k hk => f7 k hk)⟩
        · exact hq ((-10 : Int32) - (g 39 15)) (qm_row g 39 (upd (g 39) 9 0)) ⟨(by have ⟨⟨_, _⟩, ⟨_, _⟩, ⟨_, _⟩, ⟨_, _⟩, _, _⟩ := hmmi; have ⟨⟨⟨_, _⟩, _, _⟩, _, _, _⟩ := hmsm; have ⟨⟨_, _⟩, ⟨_, _⟩, ⟨_, _⟩, ⟨_, _⟩, _, _⟩ := hgmi; have ⟨⟨_, _⟩, ⟨_, _⟩, _, _⟩ := hgpp; have ⟨⟨_, _⟩, _, _⟩ := hgdd; have ⟨⟨⟨_, _⟩, _, _⟩, _, _, _⟩ := hgsm; show (0 ≤ (g 39 3).toInt ∧ (g 39 3).toInt ≤ 4) ∧ (0 ≤ (0 : Int) ∧ (0 : Int) ≤ 160) ∧ (0 ≤ (g 39 19).toInt ∧ (g 39 19).toInt ≤ 4) ∧ (0 ≤ (g 39 20).toInt ∧ (g 39 20).toInt ≤ 255) ∧ (0 ≤ (g 39 11).toInt ∧ (g 39 11).toInt ≤ 160); omega), (by exact hgsm), (by exact hgzs), (by exact hgrw), (fun k hk => by simp only [qm_row]; rw [if_neg (by omega)]; exact hgf k hk)⟩
      · have := ti_eqK 0 rfl c2
        refine ⟨fun c11 => ?_, fun c12 => ?_⟩
        · refine sf_147_39 X g (0 : Int32) (6 : Int32) ⟨hgmi, hgpp, (by have : (6 : Int32).toInt = 6 := rfl; omega)⟩ _ (fun g13 p14 => ?_)
          have f15 : ∀ k, (k < 39 ∨ 50 < k) → g13 k = h k := fun k hk => (p14.2.2.1 k (by omega)).trans (hgf k hk)
          have k16 : sm g13 := by unfold sm; rw [p14.2.2.1 40 (by omega)]; exact hgsm
          have k17 : zs g13 := by unfold zs; rw [p14.2.2.1 49 (by omega)]; exact hgzs
          have k18 : rw_ g13 := by unfold rw_; rw [p14.2.2.1 46 (by omega)]; exact hgrw
          have k19 : dd g13 := by unfold dd; rw [p14.2.2.1 43 (by omega)]; exact hgdd
          have o20 : ((g 39 14).toInt ≤ (g13 39 14).toInt) ∧ ((0 : Int32).toInt = 0 → 1 ≤ (g13 39 14).toInt) ∧ ((g13 39 10).toInt = (g 39 10).toInt) ∧ ((g13 39 12).toInt = (g 39 12).toInt) ∧ ((g13 39 13).toInt = (g 39 13).toInt) ∧ ((g13 39 5).toInt = (g 39 5).toInt) := p14.2.2.2
          have kdp_g13 : dp g13 := fun hf => by rw [p14.2.2.1 43 (by omega)]; exact hgdp (by have := (hgpp).2.2; have : (0 : Int32).toInt = 0 := rfl; omega)
          have e434_g13 : (g13 43 4).toInt = (g 43 4).toInt := congrArg (fun f : Nat → Int32 => (f 4).toInt) (p14.2.2.1 43 (by omega))
          show qm_PW X 161 [.ref 39] g13 _
          refine sf_161_39 X g13  ⟨p14.2.1, k19⟩ _ (fun r21 p22 => ?_)
          show qm_PW X 147 [.ref 39, .int r21, .int 7] g13 _
          refine sf_147_39 X g13 r21 (7 : Int32) ⟨p14.1, p14.2.1, (by have : (7 : Int32).toInt = 7 := rfl; have : (0 : Int32).toInt = 0 := rfl; omega)⟩ _ (fun g23 p24 => ?_)
          have f25 : ∀ k, (k < 39 ∨ 50 < k) → g23 k = h k := fun k hk => (p24.2.2.1 k (by omega)).trans (f15 k hk)
          have k26 : sm g23 := by unfold sm; rw [p24.2.2.1 40 (by omega)]; exact k16
          have k27 : zs g23 := by unfold zs; rw [p24.2.2.1 49 (by omega)]; exact k17
          have k28 : rw_ g23 := by unfold rw_; rw [p24.2.2.1 46 (by omega)]; exact k18
          have k29 : dd g23 := by unfold dd; rw [p24.2.2.1 43 (by omega)]; exact k19
          have o30 : ((g13 39 14).toInt ≤ (g23 39 14).toInt) ∧ (r21.toInt = 0 → 1 ≤ (g23 39 14).toInt) ∧ ((g23 39 10).toInt = (g13 39 10).toInt) ∧ ((g23 39 12).toInt = (g13 39 12).toInt) ∧ ((g23 39 13).toInt = (g13 39 13).toInt) ∧ ((g23 39 5).toInt = (g13 39 5).toInt) := p24.2.2.2
          have kdp_g23 : dp g23 := fun hf => by rw [p24.2.2.1 43 (by omega)]; exact kdp_g13 (by have := (p14.2.1).2.2; have : (0 : Int32).toInt = 0 := rfl; omega)
          have e434_g23 : (g23 43 4).toInt = (g13 43 4).toInt := congrArg (fun f : Nat → Int32 => (f 4).toInt) (p24.2.2.1 43 (by omega))
          show ((g23 39 14).toInt ≤ 0 → (qm_PW X 144 [.ref 39] (qm_row g23 39 (upd (g23 39) 9 0)) _)) ∧ (0 < (g23 39 14).toInt → (Q (some (.int ((-10 : Int32) - (g23 39 15)))) (qm_row g23 39 (upd (g23 39) 9 0))))
          refine ⟨fun c31 => ?_, fun c32 => ?_⟩
          · refine sf_144_39 X (qm_row g23 39 (upd (g23 39) 9 0))  ⟨(by have ⟨⟨_, _⟩, ⟨_, _⟩, ⟨_, _⟩, ⟨_, _⟩, _, _⟩ := hmmi; have ⟨⟨⟨_, _⟩, _, _⟩, _, _, _⟩ := hmsm; have ⟨⟨_, _⟩, ⟨_, _⟩, ⟨_, _⟩, ⟨_, _⟩, _, _⟩ := hgmi; have ⟨⟨_, _⟩, ⟨_, _⟩, _, _⟩ := hgpp; have ⟨⟨_, _⟩, _, _⟩ := hgdd; have ⟨⟨⟨_, _⟩, _, _⟩, _, _, _⟩ := hgsm; have ⟨⟨_, _⟩, ⟨_, _⟩, ⟨_, _⟩, ⟨_, _⟩, _, _⟩ := p14.1; have ⟨⟨_, _⟩, ⟨_, _⟩, _, _⟩ := p14.2.1; have ⟨⟨⟨_, _⟩, _, _⟩, _, _, _⟩ := k16; have ⟨⟨_, _⟩, _, _⟩ := k19; have ⟨⟨_, _⟩, ⟨_, _⟩, ⟨_, _⟩, ⟨_, _⟩, _, _⟩ := p24.1; have ⟨⟨_, _⟩, ⟨_, _⟩, _, _⟩ := p24.2.1; have ⟨⟨⟨_, _⟩, _, _⟩, _, _, _⟩ := k26; have ⟨⟨_, _⟩, _, _⟩ := k29; show (0 ≤ (g23 39 3).toInt ∧ (g23 39 3).toInt ≤ 4) ∧ (0 ≤ (0 : Int) ∧ (0 : Int) ≤ 160) ∧ (0 ≤ (g23 39 19).toInt ∧ (g23 39 19).toInt ≤ 4) ∧ (0 ≤ (g23 39 20).toInt ∧ (g23 39 20).toInt ≤ 255) ∧ (0 ≤ (g23 39 11).toInt ∧ (g23 39 11).toInt ≤ 160); have : (0 : Int32).toInt = 0 := rfl; omega), (by have ⟨⟨_, _⟩, ⟨_, _⟩, ⟨_, _⟩, ⟨_, _⟩, _, _⟩ := hmmi; have ⟨⟨⟨_, _⟩, _, _⟩, _, _, _⟩ := hmsm; have ⟨⟨_, _⟩, ⟨_, _⟩, ⟨_, _⟩, ⟨_, _⟩, _, _⟩ := hgmi; have ⟨⟨_, _⟩, ⟨_, _⟩, _, _⟩ := hgpp; have ⟨⟨_, _⟩, _, _⟩ := hgdd; have ⟨⟨⟨_, _⟩, _, _⟩, _, _, _⟩ := hgsm; have ⟨⟨_, _⟩, ⟨_, _⟩, ⟨_, _⟩, ⟨_, _⟩, _, _⟩ := p14.1; have ⟨⟨_, _⟩, ⟨_, _⟩, _, _⟩ := p14.2.1; have ⟨⟨⟨_, _⟩, _, _⟩, _, _, _⟩ := k16; have ⟨⟨_, _⟩, _, _⟩ := k19; have ⟨⟨_, _⟩, ⟨_, _⟩, ⟨_, _⟩, ⟨_, _⟩, _, _⟩ := p24.1; have ⟨⟨_, _⟩, ⟨_, _⟩, _, _⟩ := p24.2.1; have ⟨⟨⟨_, _⟩, _, _⟩, _, _, _⟩ := k26; have ⟨⟨_, _⟩, _, _⟩ := k29; show (0 ≤ (g23 39 5).toInt ∧ (g23 39 5).toInt ≤ 4) ∧ (0 ≤ (g23 39 10).toInt ∧ (g23 39 10).toInt ≤ 160) ∧ (0 ≤ (g23 39 14).toInt ∧ (g23 39 14).toInt ≤ 7); have : (0 : Int32).toInt = 0 := rfl; omega), (by exact k29), (by exact kdp_g23), (by exact k26), (by have : (0 : Int32).toInt = 0 := rfl; show (g23 39 14).toInt = 0; omega)⟩ _ (fun g33 p34 => ?_)
            have f35 : ∀ k, (k < 39 ∨ 50 < k) → g33 k = h k := fun k hk => (p34.2.2 k (by omega)).trans (by simp only [qm_row]; rw [if_neg (by omega)]; exact f25 k hk)
            have k36 : zs g33 := by unfold zs; rw [p34.2.2 49 (by omega)]; exact k27
            have k37 : rw_ g33 := by unfold rw_; rw [p34.2.2 46 (by omega)]; exact k28
            have k38 : dd g33 := by unfold dd; rw [p34.2.2 43 (by omega)]; exact k29
            show Q (some (.int l1)) g33
            exact hq l1 g33 ⟨p34.1, p34.2.1, k36, k37, (fun k hk => f35 k hk)⟩
          · exact hq ((-10 : Int32) - (g23 39 15)) (qm_row g23 39 (upd (g23 39) 9 0)) ⟨(by have ⟨⟨_, _⟩, ⟨_, _⟩, ⟨_, _⟩, ⟨_, _⟩, _, _⟩ := hmmi; have ⟨⟨⟨_, _⟩, _, _⟩, _, _, _⟩ := hmsm; have ⟨⟨_, _⟩, ⟨_, _⟩, ⟨_, _⟩, ⟨_, _⟩, _, _⟩ := hgmi; have ⟨⟨_, _⟩, ⟨_, _⟩, _, _⟩ := hgpp; have ⟨⟨_, _⟩, _, _⟩ := hgdd; have ⟨⟨⟨_, _⟩, _, _⟩, _, _, _⟩ := hgsm; have ⟨⟨_, _⟩, ⟨_, _⟩, ⟨_, _⟩, ⟨_, _⟩, _, _⟩ := p14.1; have ⟨⟨_, _⟩, ⟨_, _⟩, _, _⟩ := p14.2.1; have ⟨⟨⟨_, _⟩, _, _⟩, _, _, _⟩ := k16; have ⟨⟨_, _⟩, _, _⟩ := k19; have ⟨⟨_, _⟩, ⟨_, _⟩, ⟨_, _⟩, ⟨_, _⟩, _, _⟩ := p24.1; have ⟨⟨_, _⟩, ⟨_, _⟩, _, _⟩ := p24.2.1; have ⟨⟨⟨_, _⟩, _, _⟩, _, _, _⟩ := k26; have ⟨⟨_, _⟩, _, _⟩ := k29; show (0 ≤ (g23 39 3).toInt ∧ (g23 39 3).toInt ≤ 4) ∧ (0 ≤ (0 : Int) ∧ (0 : Int) ≤ 160) ∧ (0 ≤ (g23 39 19).toInt ∧ (g23 39 19).toInt ≤ 4) ∧ (0 ≤ (g23 39 20).toInt ∧ (g23 39 20).toInt ≤ 255) ∧ (0 ≤ (g23 39 11).toInt ∧ (g23 39 11).toInt ≤ 160); have : (0 : Int32).toInt = 0 := rfl; omega), (by exact k26), (by exact k27), (by exact k28), (fun k hk => by simp only [qm_row]; rw [if_neg (by omega)]; exact f25 k hk)⟩
        · refine sf_147_39 X g (1 : Int32) (6 : Int32) ⟨hgmi, hgpp, (by have : (6 : Int32).toInt = 6 := rfl; omega)⟩ _ (fun g39 p40 => ?_)
          have f41 : ∀ k, (k < 39 ∨ 50 < k) → g39 k = h k := fun k hk => (p40.2.2.1 k (by omega)).trans (hgf k hk)
          have k42 : sm g39 := by unfold sm; rw [p40.2.2.1 40 (by omega)]; exact hgsm
          have k43 : zs g39 := by unfold zs; rw [p40.2.2.1 49 (by omega)]; exact hgzs
          have k44 : rw_ g39 := by unfold rw_; rw [p40.2.2.1 46 (by omega)]; exact hgrw
          have k45 : dd g39 := by unfold dd; rw [p40.2.2.1 43 (by omega)]; exact hgdd
          have o46 : ((g 39 14).toInt ≤ (g39 39 14).toInt) ∧ ((1 : Int32).toInt = 0 → 1 ≤ (g39 39 14).toInt) ∧ ((g39 39 10).toInt = (g 39 10).toInt) ∧ ((g39 39 12).toInt = (g 39 12).toInt) ∧ ((g39 39 13).toInt = (g 39 13).toInt) ∧ ((g39 39 5).toInt = (g 39 5).toInt) := p40.2.2.2
          have kdp_g39 : dp g39 := fun hf => by rw [p40.2.2.1 43 (by omega)]; exact hgdp (by have := (hgpp).2.2; have : (0 : Int32).toInt = 0 := rfl; omega)
          have e434_g39 : (g39 43 4).toInt = (g 43 4).toInt := congrArg (fun f : Nat → Int32 => (f 4).toInt) (p40.2.2.1 43 (by omega))
          show qm_PW X 161 [.ref 39] g39 _
          refine sf_161_39 X g39  ⟨p40.2.1, k45⟩ _ (fun r47 p48 => ?_)
          show qm_PW X 147 [.ref 39, .int r47, .int 7] g39 _
          refine sf_147_39 X g39 r47 (7 : Int32) ⟨p40.1, p40.2.1, (by have : (7 : Int32).toInt = 7 := rfl; have : (1 : Int32).toInt = 1 := rfl; omega)⟩ _ (fun g49 p50 => ?_)
          have f51 : ∀ k, (k < 39 ∨ 50 < k) → g49 k = h k := fun k hk => (p50.2.2.1 k (by omega)).trans (f41 k hk)
          have k52 : sm g49 := by unfold sm; rw [p50.2.2.1 40 (by omega)]; exact k42
          have k53 : zs g49 := by unfold zs; rw [p50.2.2.1 49 (by omega)]; exact k43
          have k54 : rw_ g49 := by unfold rw_; rw [p50.2.2.1 46 (by omega)]; exact k44
          have k55 : dd g49 := by unfold dd; rw [p50.2.2.1 43 (by omega)]; exact k45
          have o56 : ((g39 39 14).toInt ≤ (g49 39 14).toInt) ∧ (r47.toInt = 0 → 1 ≤ (g49 39 14).toInt) ∧ ((g49 39 10).toInt = (g39 39 10).toInt) ∧ ((g49 39 12).toInt = (g39 39 12).toInt) ∧ ((g49 39 13).toInt = (g39 39 13).toInt) ∧ ((g49 39 5).toInt = (g39 39 5).toInt) := p50.2.2.2
          have kdp_g49 : dp g49 := fun hf => by rw [p50.2.2.1 43 (by omega)]; exact kdp_g39 (by have := (p40.2.1).2.2; have : (0 : Int32).toInt = 0 := rfl; omega)
          have e434_g49 : (g49 43 4).toInt = (g39 43 4).toInt := congrArg (fun f : Nat → Int32 => (f 4).toInt) (p50.2.2.1 43 (by omega))
          show ((g49 39 14).toInt ≤ 0 → (qm_PW X 144 [.ref 39] (qm_row g49 39 (upd (g49 39) 9 0)) _)) ∧ (0 < (g49 39 14).toInt → (Q (some (.int ((-10 : Int32) - (g49 39 15)))) (qm_row g49 39 (upd (g49 39) 9 0))))
          refine ⟨fun c57 => ?_, fun c58 => ?_⟩
          · refine sf_144_39 X (qm_row g49 39 (upd (g49 39) 9 0))  ⟨(by have ⟨⟨_, _⟩, ⟨_, _⟩, ⟨_, _⟩, ⟨_, _⟩, _, _⟩ := hmmi; have ⟨⟨⟨_, _⟩, _, _⟩, _, _, _⟩ := hmsm; have ⟨⟨_, _⟩, ⟨_, _⟩, ⟨_, _⟩, ⟨_, _⟩, _, _⟩ := hgmi; have ⟨⟨_, _⟩, ⟨_, _⟩, _, _⟩ := hgpp; have ⟨⟨_, _⟩, _, _⟩ := hgdd; have ⟨⟨⟨_, _⟩, _, _⟩, _, _, _⟩ := hgsm; have ⟨⟨_, _⟩, ⟨_, _⟩, ⟨_, _⟩, ⟨_, _⟩, _, _⟩ := p40.1; have ⟨⟨_, _⟩, ⟨_, _⟩, _, _⟩ := p40.2.1; have ⟨⟨⟨_, _⟩, _, _⟩, _, _, _⟩ := k42; have ⟨⟨_, _⟩, _, _⟩ := k45; have ⟨⟨_, _⟩, ⟨_, _⟩, ⟨_, _⟩, ⟨_, _⟩, _, _⟩ := p50.1; have ⟨⟨_, _⟩, ⟨_, _⟩, _, _⟩ := p50.2.1; have ⟨⟨⟨_, _⟩, _, _⟩, _, _, _⟩ := k52; have ⟨⟨_, _⟩, _, _⟩ := k55; show (0 ≤ (g49 39 3).toInt ∧ (g49 39 3).toInt ≤ 4) ∧ (0 ≤ (0 : Int) ∧ (0 : Int) ≤ 160) ∧ (0 ≤ (g49 39 19).toInt ∧ (g49 39 19).toInt ≤ 4) ∧ (0 ≤ (g49 39 20).toInt ∧ (g49 39 20).toInt ≤ 255) ∧ (0 ≤ (g49 39 11).toInt ∧ (g49 39 11).toInt ≤ 160); have : (1 : Int32).toInt = 1 := rfl; omega), (by have ⟨⟨_, _⟩, ⟨_, _⟩, ⟨_, _⟩, ⟨_, _⟩, _, _⟩ := hmmi; have ⟨⟨⟨_, _⟩, _, _⟩, _, _, _⟩ := hmsm; have ⟨⟨_, _⟩, ⟨_, _⟩, ⟨_, _⟩, ⟨_, _⟩, _, _⟩ := hgmi; have ⟨⟨_, _⟩, ⟨_, _⟩, _, _⟩ := hgpp; have ⟨⟨_, _⟩, _, _⟩ := hgdd; have ⟨⟨⟨_, _⟩, _, _⟩, _, _, _⟩ := hgsm; have ⟨⟨_, _⟩, ⟨_, _⟩, ⟨_, _⟩, ⟨_, _⟩, _, _⟩ := p40.1; have ⟨⟨_, _⟩, ⟨_, _⟩, _, _⟩ := p40.2.1; have ⟨⟨⟨_, _⟩, _, _⟩, _, _, _⟩ := k42; have ⟨⟨_, _⟩, _, _⟩ := k45; have ⟨⟨_, _⟩, ⟨_, _⟩, ⟨_, _⟩, ⟨_, _⟩, _, _⟩ := p50.1; have ⟨⟨_, _⟩, ⟨_, _⟩, _, _⟩ := p50.2.1; have ⟨⟨⟨_, _⟩, _, _⟩, _, _, _⟩ := k52; have ⟨⟨_, _⟩, _, _⟩ := k55; show (0 ≤ (g49 39 5).toInt ∧ (g49 39 5).toInt ≤ 4) ∧ (0 ≤ (g49 39 10).toInt ∧ (g49 39 10).toInt ≤ 160) ∧ (0 ≤ (g49 39 14).toInt ∧ (g49 39 14).toInt ≤ 7); have : (1 : Int32).toInt = 1 := rfl; omega), (by exact k55), (by exact kdp_g49), (by exact k52), (by have : (1 : Int32).toInt = 1 := rfl; show (g49 39 14).toInt = 0; omega)⟩ _ (fun g59 p60 => ?_)
            have f61 : ∀ k, (k < 39 ∨ 50 < k) → g59 k = h k := fun k hk => (p60.2.2 k (by omega)).trans (by simp only [qm_row]; rw [if_neg (by omega)]; exact f51 k hk)
            have k62 : zs g59 := by unfold zs; rw [p60.2.2 49 (by omega)]; exact k53
            have k63 : rw_ g59 := by unfold rw_; rw [p60.2.2 46 (by omega)]; exact k54
            have k64 : dd g59 := by unfold dd; rw [p60.2.2 43 (by omega)]; exact k55
            show Q (some (.int l1)) g59
            exact hq l1 g59 ⟨p60.1, p60.2.1, k62, k63, (fun k hk => f61 k hk)⟩
          · exact hq ((-10 : Int32) - (g49 39 15)) (qm_row g49 39 (upd (g49 39) 9 0)) ⟨(by have ⟨⟨_, _⟩, ⟨_, _⟩, ⟨_, _⟩, ⟨_, _⟩, _, _⟩ := hmmi; have ⟨⟨⟨_, _⟩, _, _⟩, _, _, _⟩ := hmsm; have ⟨⟨_, _⟩, ⟨_, _⟩, ⟨_, _⟩, ⟨_, _⟩, _, _⟩ := hgmi; have ⟨⟨_, _⟩, ⟨_, _⟩, _, _⟩ := hgpp; have ⟨⟨_, _⟩, _, _⟩ := hgdd; have ⟨⟨⟨_, _⟩, _, _⟩, _, _, _⟩ := hgsm; have ⟨⟨_, _⟩, ⟨_, _⟩, ⟨_, _⟩, ⟨_, _⟩, _, _⟩ := p40.1; have ⟨⟨_, _⟩, ⟨_, _⟩, _, _⟩ := p40.2.1; have ⟨⟨⟨_, _⟩, _, _⟩, _, _, _⟩ := k42; have ⟨⟨_, _⟩, _, _⟩ := k45; have ⟨⟨_, _⟩, ⟨_, _⟩, ⟨_, _⟩, ⟨_, _⟩, _, _⟩ := p50.1; have ⟨⟨_, _⟩, ⟨_, _⟩, _, _⟩ := p50.2.1; have ⟨⟨⟨_, _⟩, _, _⟩, _, _, _⟩ := k52; have ⟨⟨_, _⟩, _, _⟩ := k55; show (0 ≤ (g49 39 3).toInt ∧ (g49 39 3).toInt ≤ 4) ∧ (0 ≤ (0 : Int) ∧ (0 : Int) ≤ 160) ∧ (0 ≤ (g49 39 19).toInt ∧ (g49 39 19).toInt ≤ 4) ∧ (0 ≤ (g49 39 20).toInt ∧ (g49 39 20).toInt ≤ 255) ∧ (0 ≤ (g49 39 11).toInt ∧ (g49 39 11).toInt ≤ 160); have : (1 : Int32).toInt = 1 := rfl; omega), (by exact k52), (by exact k53), (by exact k54), (fun k hk => by simp only [qm_row]; rw [if_neg (by omega)]; exact f51 k hk)⟩
set_option maxRecDepth 100000 in
set_option maxHeartbeats 4000000 in
theorem sf_162_39 (X : qm_X) (h : qm_H) (hp : mi h ∧ sm h ∧ zs h ∧ rw_ h) (Q : qm_Q) (hq : ∀ r : Int32, ∀ h' : qm_H, (mi h' ∧ sm h' ∧ zs h' ∧ rw_ h' ∧ (∀ k, (k < 39 ∨ 50 < k) → h' k = h k)) → Q (some (.int r)) h') : qm_PW X 162 [.ref 39] h Q := by
  have hmmi : mi h := hp.1
  have ⟨⟨_, _⟩, ⟨_, _⟩, ⟨_, _⟩, ⟨_, _⟩, _, _⟩ := hmmi
  have hmsm : sm h := hp.2.1
  have ⟨⟨⟨_, _⟩, _, _⟩, _, _, _⟩ := hmsm
  have hmzs : zs h := hp.2.2.1
  have hmrw : rw_ h := hp.2.2.2
  refine qm_seg_ok (C := qc_162) (rt := some .int) rfl rfl (cuts := [(34, [0, 1]), (44, [0, 1])]) 400 _ _ _ _ ?_
  show qm_PW X 143 [.ref 39] (qm_row (qm_row h 39 (upd (h 39) 14 0)) 39 (upd (upd (h 39) 14 0) 10 0)) _
  refine sf_143_39 X (qm_row (qm_row h 39 (upd (h 39) 14 0)) 39 (upd (upd (h 39) 14 0) 10 0))  ⟨(by have ⟨⟨_, _⟩, ⟨_, _⟩, ⟨_, _⟩, ⟨_, _⟩, _, _⟩ := hmmi; have ⟨⟨⟨_, _⟩, _, _⟩, _, _, _⟩ := hmsm; show (0 ≤ (h 39 3).toInt ∧ (h 39 3).toInt ≤ 4) ∧ (0 ≤ (h 39 9).toInt ∧ (h 39 9).toInt ≤ 160) ∧ (0 ≤ (h 39 19).toInt ∧ (h 39 19).toInt ≤ 4) ∧ (0 ≤ (h 39 20).toInt ∧ (h 39 20).toInt ≤ 255) ∧ (0 ≤ (h 39 11).toInt ∧ (h 39 11).toInt ≤ 160); omega), (by exact hmsm), (by have : (0 : Int32).toInt = 0 := rfl; show (0 ≤ (0 : Int32).toInt ∧ (0 : Int32).toInt ≤ 160) ∧ (0 ≤ (0 : Int32).toInt ∧ (0 : Int32).toInt ≤ 7); omega)⟩ _ (fun g1 p2 => ?_)
  have f3 : ∀ k, (k < 39 ∨ 50 < k) → g1 k = h k := fun k hk => (p2.2.2.2.2.2.1 k (by omega)).trans (by simp only [qm_row]; rw [if_neg (by omega)]; rw [if_neg (by omega)])
  have k4 : zs g1 := by unfold zs; rw [p2.2.2.2.2.2.1 49 (by omega)]; exact hmzs
  have k5 : rw_ g1 := by unfold rw_; rw [p2.2.2.2.2.2.1 46 (by omega)]; exact hmrw
  have o6 : ((g1 39 14).toInt = (0 : Int32).toInt) ∧ ((g1 39 10).toInt = (0 : Int32).toInt) := p2.2.2.2.2.2.2
  show qm_PW X 152 [.ref 39] g1 _
  refine sf_152_39 X g1  ⟨p2.1, p2.2.1⟩ _ (fun g7 p8 => ?_)
  have f9 : ∀ k, (k < 39 ∨ 50 < k) → g7 k = h k := fun k hk => (p8.2.2.1 k (by omega)).trans (f3 k hk)
  have k10 : sm g7 := by unfold sm; rw [p8.2.2.1 40 (by omega)]; exact p2.2.2.2.2.1
  have k11 : zs g7 := by unfold zs; rw [p8.2.2.1 49 (by omega)]; exact k4
  have k12 : rw_ g7 := by unfold rw_; rw [p8.2.2.1 46 (by omega)]; exact k5
  have k13 : dd g7 := by unfold dd; rw [p8.2.2.1 43 (by omega)]; exact p2.2.2.1
  have o14 : ((g1 39 14).toInt ≤ (g7 39 14).toInt) ∧ ((g7 39 5).toInt = (g1 39 5).toInt) ∧ ((g1 39 10).toInt ≤ (g7 39 10).toInt) ∧ (((g7 39 14).toInt = 0 ∧ ¬ (g7 39 12).toInt = 0) → (g1 39 10).toInt < (g7 39 10).toInt) := p8.2.2.2
  have kdp_g7 : dp g7 := fun hf => by rw [p8.2.2.1 43 (by omega)]; exact p2.2.2.2.1 (by have := (p2.2.1).2.2; have : (0 : Int32).toInt = 0 := rfl; omega)
  have e434_g7 : (g7 43 4).toInt = (g1 43 4).toInt := congrArg (fun f : Nat → Int32 => (f 4).toInt) (p8.2.2.1 43 (by omega))
  show (¬ (g7 39 14) = 0 → (qm_PA X 162 44 [(0, .ref 39), (1, .int 0)] [] g7 Q)) ∧ ((g7 39 14) = 0 → (((g7 39 12) = 0 → (qm_PA X 162 44 [(0, .ref 39), (1, .int 0)] [] g7 Q)) ∧ (¬ (g7 39 12) = 0 → (qm_PA X 162 34 [(0, .ref 39), (1, .int 0)] [] g7 Q))))
  refine ⟨fun c15 => ?_, fun c16 => ?_⟩
  · have := ti_neK 0 rfl c15
    exact (sf_162_39_c X h hp Q hq _).2 (0 : Int32) g7 ⟨p8.1, p8.2.1, k13, kdp_g7, k10, k11, k12, (fun k hk => f9 k hk)⟩ (Nat.lt_succ_self _)
  · have := ti_eqK 0 rfl c16
    refine ⟨fun c17 => ?_, fun c18 => ?_⟩
    · have := ti_eqK 0 rfl c17
      exact (sf_162_39_c X h hp Q hq _).2 (0 : Int32) g7 ⟨p8.1, p8.2.1, k13, kdp_g7, k10, k11, k12, (fun k hk => f9 k hk)⟩ (Nat.lt_succ_self _)
    · have := ti_neK 0 rfl c18
      exact (sf_162_39_c X h hp Q hq _).1 (0 : Int32) g7 ⟨(by have : (0 : Int32).toInt = 0 := rfl; show (g7 39 14).toInt = 0 ∧ ¬ (g7 39 12).toInt = 0; omega), p8.1, p8.2.1, k13, kdp_g7, k10, k11, k12, (fun k hk => f9 k hk)⟩ (Nat.lt_succ_self _)
