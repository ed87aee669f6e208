-- ThreadBankModel.text()I
set_option maxRecDepth 100000 in
set_option maxHeartbeats 4000000 in
theorem sf_162_39_c (X : qm_X) (h : qm_H) (hp : mi h ∧ sm h ∧ zs h ∧ rw_ h) (Q : qm_Q) (hq : ∀ r : Int32, ∀ h' : qm_H, (mi h' ∧ sm h' ∧ zs h' ∧ rw_ h' ∧ (∀ k, (k < 39 ∨ 44 < k) → h' k = h k) ∧ ((h' 39 9).toInt = 0)) → Q (some (.int r)) h') : ∀ n : Nat, (∀ (l1 : Int32) (g : qm_H), (((g 39 14).toInt = 0 ∧ ¬ (g 39 12).toInt = 0) ∧ mi g ∧ pp g ∧ dd g ∧ dp g ∧ sm g ∧ zs g ∧ rw_ g ∧ ∀ k, (k < 39 ∨ 44 < k) → g k = h k) → (161 - (g 39 10).toInt).toNat < n → qm_PA X 162 34 [(0, .ref 39), (1, .int l1)] [] g Q) ∧ (∀ (l1 : Int32) (g : qm_H), (mi g ∧ pp g ∧ dd g ∧ dp g ∧ sm g ∧ zs g ∧ rw_ g ∧ ∀ k, (k < 39 ∨ 44 < k) → g k = h k) → 0 < n → qm_PA X 162 44 [(0, .ref 39), (1, .int l1)] [] g Q) := by
  have hmmi : mi h := hp.1
  have ⟨⟨_, _⟩, ⟨_, _⟩, ⟨_, _⟩, ⟨_, _⟩, _, _⟩ := hmmi
  have hmsm : sm h := hp.2.1
  have ⟨⟨⟨_, _⟩, _, _⟩, _, _, _⟩ := hmsm
  have hmzs : zs h := hp.2.2.1
  have hmrw : rw_ h := hp.2.2.2
  intro n
  induction n with
  | zero => exact ⟨fun _ _ _ h0 => absurd h0 (Nat.not_lt_zero _), fun _ _ _ h0 => absurd h0 (Nat.not_lt_zero _)⟩
  | succ n ih =>
    refine ⟨?_, ?_⟩
    · intro l1 g hi hr
      obtain ⟨hi0, hgmi, hgpp, hgdd, hgdp, hgsm, hgzs, hgrw, hgf⟩ := hi
      have ⟨⟨_, _⟩, ⟨_, _⟩, ⟨_, _⟩, ⟨_, _⟩, _, _⟩ := hgmi
      have ⟨⟨_, _⟩, ⟨_, _⟩, _, _⟩ := hgpp
      have ⟨⟨_, _⟩, _, _⟩ := hgdd
      have ⟨⟨⟨_, _⟩, _, _⟩, _, _, _⟩ := hgsm
      refine qm_seg_ok (C := qc_162) (rt := some .int) rfl rfl (cuts := [(34, [0, 1]), (44, [0, 1])]) 400 _ _ _ _ ?_
      show qm_PW X 159 [.ref 39] g _
      refine sf_159_39 X g  ⟨hgmi, hgpp, hgdd, hgdp, hgsm, (by show (g 39 14).toInt = 0; omega)⟩ _ (fun g1 p2 => ?_)
      have f3 : ∀ k, (k < 39 ∨ 44 < k) → g1 k = h k := fun k hk => (p2.2.2.2.2.2.1 k (by omega)).trans (hgf k hk)
      have k4 : zs g1 := by unfold zs; rw [p2.2.2.2.2.2.1 49 (by omega)]; exact hgzs
      have k5 : rw_ g1 := by unfold rw_; rw [p2.2.2.2.2.2.1 46 (by omega)]; exact hgrw
      have o6 : ((g1 39 14).toInt = 0 → (g 39 10).toInt < (g1 39 10).toInt) := p2.2.2.2.2.2.2
      show (¬ (g1 39 14) = 0 → (qm_PA X 162 44 [(0, .ref 39), (1, .int (l1 + 1))] [] g1 Q)) ∧ ((g1 39 14) = 0 → (((g1 39 12) = 0 → (qm_PA X 162 44 [(0, .ref 39), (1, .int (l1 + 1))] [] g1 Q)) ∧ (¬ (g1 39 12) = 0 → (qm_PA X 162 34 [(0, .ref 39), (1, .int (l1 + 1))] [] g1 Q))))
      refine ⟨fun c7 => ?_, fun c8 => ?_⟩
      · have := ti_neK 0 rfl c7
        exact ih.2 (l1 + 1) g1 ⟨p2.1, p2.2.1, p2.2.2.1, p2.2.2.2.1, p2.2.2.2.2.1, k4, k5, (fun k hk => f3 k hk)⟩ (by show 0 < n; omega)
      · have := ti_eqK 0 rfl c8
        refine ⟨fun c9 => ?_, fun c10 => ?_⟩
        · have := ti_eqK 0 rfl c9
          exact ih.2 (l1 + 1) g1 ⟨p2.1, p2.2.1, p2.2.2.1, p2.2.2.2.1, p2.2.2.2.2.1, k4, k5, (fun k hk => f3 k hk)⟩ (by show 0 < n; omega)
        · have := ti_neK 0 rfl c10
          exact ih.1 (l1 + 1) g1 ⟨(by show (g1 39 14).toInt = 0 ∧ ¬ (g1 39 12).toInt = 0; omega), p2.1, p2.2.1, p2.2.2.1, p2.2.2.2.1, p2.2.2.2.2.1, k4, k5, (fun k hk => f3 k hk)⟩ (by show (161 - (g1 39 10).toInt).toNat < n; omega)
    · intro l1 g hi hr
      obtain ⟨hgmi, hgpp, hgdd, hgdp, hgsm, hgzs, hgrw, hgf⟩ := hi
      have ⟨⟨_, _⟩, ⟨_, _⟩, ⟨_, _⟩, ⟨_, _⟩, _, _⟩ := hgmi
      have ⟨⟨_, _⟩, ⟨_, _⟩, _, _⟩ := hgpp
      have ⟨⟨_, _⟩, _, _⟩ := hgdd
      have ⟨⟨⟨_, _⟩, _, _⟩, _, _, _⟩ := hgsm
      refine qm_seg_ok (C := qc_162) (rt := some .int) rfl rfl (cuts := [(34, [0, 1]), (44, [0, 1])]) 400 _ _ _ _ ?_
      show (¬ (g 39 14) = 0 → (((g 39 14).toInt ≤ 0 → (qm_PW X 144 [.ref 39] (qm_row g 39 (upd (g 39) 9 0)) _)) ∧ (0 < (g 39 14).toInt → (Q (some (.int ((-10 : Int32) - (g 39 15)))) (qm_row g 39 (upd (g 39) 9 0)))))) ∧ ((g 39 14) = 0 → (((g 39 5).toInt ≤ (g 39 7).toInt → (qm_PW X 147 [.ref 39, .int 0, .int 6] g _)) ∧ ((g 39 7).toInt < (g 39 5).toInt → (qm_PW X 147 [.ref 39, .int 1, .int 6] g _))))
      refine ⟨fun c1 => ?_, fun c2 => ?_⟩
      · have := ti_neK 0 rfl c1
        refine ⟨fun c3 => ?_, fun c4 => ?_⟩
        · refine sf_144_39 X (qm_row g 39 (upd (g 39) 9 0))  ⟨(by have ⟨⟨_, _⟩, ⟨_, _⟩, ⟨_, _⟩, ⟨_, _⟩, _, _⟩ := hmmi; have ⟨⟨⟨_, _⟩, _, _⟩, _, _, _⟩ := hmsm; have ⟨⟨_, _⟩, ⟨_, _⟩, ⟨_, _⟩, ⟨_, _⟩, _, _⟩ := hgmi; have ⟨⟨_, _⟩, ⟨_, _⟩, _, _⟩ := hgpp; have ⟨⟨_, _⟩, _, _⟩ := hgdd; have ⟨⟨⟨_, _⟩, _, _⟩, _, _, _⟩ := hgsm; show (0 ≤ (g 39 3).toInt ∧ (g 39 3).toInt ≤ 4) ∧ (0 ≤ (0 : Int) ∧ (0 : Int) ≤ 160) ∧ (0 ≤ (g 39 19).toInt ∧ (g 39 19).toInt ≤ 4) ∧ (0 ≤ (g 39 20).toInt ∧ (g 39 20).toInt ≤ 255) ∧ (0 ≤ (g 39 11).toInt ∧ (g 39 11).toInt ≤ 160); omega), (by have ⟨⟨_, _⟩, ⟨_, _⟩, ⟨_, _⟩, ⟨_, _⟩, _, _⟩ := hmmi; have ⟨⟨⟨_, _⟩, _, _⟩, _, _, _⟩ := hmsm; have ⟨⟨_, _⟩, ⟨_, _⟩, ⟨_, _⟩, ⟨_, _⟩, _, _⟩ := hgmi; have ⟨⟨_, _⟩, ⟨_, _⟩, _, _⟩ := hgpp; have ⟨⟨_, _⟩, _, _⟩ := hgdd; have ⟨⟨⟨_, _⟩, _, _⟩, _, _, _⟩ := hgsm; show (0 ≤ (g 39 5).toInt ∧ (g 39 5).toInt ≤ 4) ∧ (0 ≤ (g 39 10).toInt ∧ (g 39 10).toInt ≤ 160) ∧ (0 ≤ (g 39 14).toInt ∧ (g 39 14).toInt ≤ 7); omega), (by exact hgdd), (by exact hgdp), (by exact hgsm), (by show (g 39 14).toInt = 0; omega)⟩ _ (fun g5 p6 => ?_)
          have f7 : ∀ k, (k < 39 ∨ 44 < k) → g5 k = h k := fun k hk => (p6.2.2.1 k (by omega)).trans (by simp only [qm_row]; rw [if_neg (by omega)]; exact hgf k hk)
          have k8 : zs g5 := by unfold zs; rw [p6.2.2.1 49 (by omega)]; exact hgzs
          have k9 : rw_ g5 := by unfold rw_; rw [p6.2.2.1 46 (by omega)]; exact hgrw
          have k10 : dd g5 := by unfold dd; rw [p6.2.2.1 43 (by omega)]; exact hgdd
          have o11 : (g5 39 9).toInt = (0 : Int32).toInt := p6.2.2.2
          show Q (some (.int l1)) g5
          exact hq l1 g5 ⟨p6.1, p6.2.1, k8, k9, (fun k hk => f7 k hk), (by have : (0 : Int32).toInt = 0 := rfl; show (g5 39 9).toInt = 0; omega)⟩
        · exact hq ((-10 : Int32) - (g 39 15)) (qm_row g 39 (upd (g 39) 9 0)) ⟨(by have ⟨⟨_, _⟩, ⟨_, _⟩, ⟨_, _⟩, ⟨_, _⟩, _, _⟩ := hmmi; have ⟨⟨⟨_, _⟩, _, _⟩, _, _, _⟩ := hmsm; have ⟨⟨_, _⟩, ⟨_, _⟩, ⟨_, _⟩, ⟨_, _⟩, _, _⟩ := hgmi; have ⟨⟨_, _⟩, ⟨_, _⟩, _, _⟩ := hgpp; have ⟨⟨_, _⟩, _, _⟩ := hgdd; have ⟨⟨⟨_, _⟩, _, _⟩, _, _, _⟩ := hgsm; show (0 ≤ (g 39 3).toInt ∧ (g 39 3).toInt ≤ 4) ∧ (0 ≤ (0 : Int) ∧ (0 : Int) ≤ 160) ∧ (0 ≤ (g 39 19).toInt ∧ (g 39 19).toInt ≤ 4) ∧ (0 ≤ (g 39 20).toInt ∧ (g 39 20).toInt ≤ 255) ∧ (0 ≤ (g 39 11).toInt ∧ (g 39 11).toInt ≤ 160); omega), (by exact hgsm), (by exact hgzs), (by exact hgrw), (fun k hk => by simp only [qm_row]; rw [if_neg (by omega)]; exact hgf k hk), (by have : (0 : Int32).toInt = 0 := rfl; show (0 : Int32).toInt = 0; omega)⟩
      · have := ti_eqK 0 rfl c2
        refine ⟨fun c12 => ?_, fun c13 => ?_⟩
        · refine sf_147_39 X g (0 : Int32) (6 : Int32) ⟨hgmi, hgpp, (by have : (6 : Int32).toInt = 6 := rfl; omega)⟩ _ (fun g14 p15 => ?_)
          have f16 : ∀ k, (k < 39 ∨ 44 < k) → g14 k = h k := fun k hk => (p15.2.2.1 k (by omega)).trans (hgf k hk)
          have k17 : sm g14 := by unfold sm; rw [p15.2.2.1 40 (by omega)]; exact hgsm
          have k18 : zs g14 := by unfold zs; rw [p15.2.2.1 49 (by omega)]; exact hgzs
          have k19 : rw_ g14 := by unfold rw_; rw [p15.2.2.1 46 (by omega)]; exact hgrw
          have k20 : dd g14 := by unfold dd; rw [p15.2.2.1 43 (by omega)]; exact hgdd
          have o21 : ((g 39 14).toInt ≤ (g14 39 14).toInt) ∧ ((0 : Int32).toInt = 0 → 1 ≤ (g14 39 14).toInt) ∧ ((g14 39 10).toInt = (g 39 10).toInt) ∧ ((g14 39 12).toInt = (g 39 12).toInt) ∧ ((g14 39 13).toInt = (g 39 13).toInt) ∧ ((g14 39 5).toInt = (g 39 5).toInt) := p15.2.2.2
          have kdp_g14 : dp g14 := fun hf => by rw [p15.2.2.1 43 (by omega)]; exact hgdp (by have := (hgpp).2.2; have : (0 : Int32).toInt = 0 := rfl; omega)
          have e434_g14 : (g14 43 4).toInt = (g 43 4).toInt := congrArg (fun f : Nat → Int32 => (f 4).toInt) (p15.2.2.1 43 (by omega))
          show qm_PW X 161 [.ref 39] g14 _
          refine sf_161_39 X g14  ⟨p15.2.1, k20⟩ _ (fun r22 p23 => ?_)
          show qm_PW X 147 [.ref 39, .int r22, .int 7] g14 _
          refine sf_147_39 X g14 r22 (7 : Int32) ⟨p15.1, p15.2.1, (by have : (7 : Int32).toInt = 7 := rfl; have : (0 : Int32).toInt = 0 := rfl; omega)⟩ _ (fun g24 p25 => ?_)
          have f26 : ∀ k, (k < 39 ∨ 44 < k) → g24 k = h k := fun k hk => (p25.2.2.1 k (by omega)).trans (f16 k hk)
          have k27 : sm g24 := by unfold sm; rw [p25.2.2.1 40 (by omega)]; exact k17
          have k28 : zs g24 := by unfold zs; rw [p25.2.2.1 49 (by omega)]; exact k18
          have k29 : rw_ g24 := by unfold rw_; rw [p25.2.2.1 46 (by omega)]; exact k19
          have k30 : dd g24 := by unfold dd; rw [p25.2.2.1 43 (by omega)]; exact k20
          have o31 : ((g14 39 14).toInt ≤ (g24 39 14).toInt) ∧ (r22.toInt = 0 → 1 ≤ (g24 39 14).toInt) ∧ ((g24 39 10).toInt = (g14 39 10).toInt) ∧ ((g24 39 12).toInt = (g14 39 12).toInt) ∧ ((g24 39 13).toInt = (g14 39 13).toInt) ∧ ((g24 39 5).toInt = (g14 39 5).toInt) := p25.2.2.2
          have kdp_g24 : dp g24 := fun hf => by rw [p25.2.2.1 43 (by omega)]; exact kdp_g14 (by have := (p15.2.1).2.2; have : (0 : Int32).toInt = 0 := rfl; omega)
          have e434_g24 : (g24 43 4).toInt = (g14 43 4).toInt := congrArg (fun f : Nat → Int32 => (f 4).toInt) (p25.2.2.1 43 (by omega))
          show ((g24 39 14).toInt ≤ 0 → (qm_PW X 144 [.ref 39] (qm_row g24 39 (upd (g24 39) 9 0)) _)) ∧ (0 < (g24 39 14).toInt → (Q (some (.int ((-10 : Int32) - (g24 39 15)))) (qm_row g24 39 (upd (g24 39) 9 0))))
          refine ⟨fun c32 => ?_, fun c33 => ?_⟩
          · refine sf_144_39 X (qm_row g24 39 (upd (g24 39) 9 0))  ⟨(by have ⟨⟨_, _⟩, ⟨_, _⟩, ⟨_, _⟩, ⟨_, _⟩, _, _⟩ := hmmi; have ⟨⟨⟨_, _⟩, _, _⟩, _, _, _⟩ := hmsm; have ⟨⟨_, _⟩, ⟨_, _⟩, ⟨_, _⟩, ⟨_, _⟩, _, _⟩ := hgmi; have ⟨⟨_, _⟩, ⟨_, _⟩, _, _⟩ := hgpp; have ⟨⟨_, _⟩, _, _⟩ := hgdd; have ⟨⟨⟨_, _⟩, _, _⟩, _, _, _⟩ := hgsm; have ⟨⟨_, _⟩, ⟨_, _⟩, ⟨_, _⟩, ⟨_, _⟩, _, _⟩ := p15.1; have ⟨⟨_, _⟩, ⟨_, _⟩, _, _⟩ := p15.2.1; have ⟨⟨⟨_, _⟩, _, _⟩, _, _, _⟩ := k17; have ⟨⟨_, _⟩, _, _⟩ := k20; have ⟨⟨_, _⟩, ⟨_, _⟩, ⟨_, _⟩, ⟨_, _⟩, _, _⟩ := p25.1; have ⟨⟨_, _⟩, ⟨_, _⟩, _, _⟩ := p25.2.1; have ⟨⟨⟨_, _⟩, _, _⟩, _, _, _⟩ := k27; have ⟨⟨_, _⟩, _, _⟩ := k30; show (0 ≤ (g24 39 3).toInt ∧ (g24 39 3).toInt ≤ 4) ∧ (0 ≤ (0 : Int) ∧ (0 : Int) ≤ 160) ∧ (0 ≤ (g24 39 19).toInt ∧ (g24 39 19).toInt ≤ 4) ∧ (0 ≤ (g24 39 20).toInt ∧ (g24 39 20).toInt ≤ 255) ∧ (0 ≤ (g24 39 11).toInt ∧ (g24 39 11).toInt ≤ 160); have : (0 : Int32).toInt = 0 := rfl; omega), (by have ⟨⟨_, _⟩, ⟨_, _⟩, ⟨_, _⟩, ⟨_, _⟩, _, _⟩ := hmmi; have ⟨⟨⟨_, _⟩, _, _⟩, _, _, _⟩ := hmsm; have ⟨⟨_, _⟩, ⟨_, _⟩, ⟨_, _⟩, ⟨_, _⟩, _, _⟩ := hgmi; have ⟨⟨_, _⟩, ⟨_, _⟩, _, _⟩ := hgpp; have ⟨⟨_, _⟩, _, _⟩ := hgdd; have ⟨⟨⟨_, _⟩, _, _⟩, _, _, _⟩ := hgsm; have ⟨⟨_, _⟩, ⟨_, _⟩, ⟨_, _⟩, ⟨_, _⟩, _, _⟩ := p15.1; have ⟨⟨_, _⟩, ⟨_, _⟩, _, _⟩ := p15.2.1; have ⟨⟨⟨_, _⟩, _, _⟩, _, _, _⟩ := k17; have ⟨⟨_, _⟩, _, _⟩ := k20; have ⟨⟨_, _⟩, ⟨_, _⟩, ⟨_, _⟩, ⟨_, _⟩, _, _⟩ := p25.1; have ⟨⟨_, _⟩, ⟨_, _⟩, _, _⟩ := p25.2.1; have ⟨⟨⟨_, _⟩, _, _⟩, _, _, _⟩ := k27; have ⟨⟨_, _⟩, _, _⟩ := k30; show (0 ≤ (g24 39 5).toInt ∧ (g24 39 5).toInt ≤ 4) ∧ (0 ≤ (g24 39 10).toInt ∧ (g24 39 10).toInt ≤ 160) ∧ (0 ≤ (g24 39 14).toInt ∧ (g24 39 14).toInt ≤ 7); have : (0 : Int32).toInt = 0 := rfl; omega), (by exact k30), (by exact kdp_g24), (by exact k27), (by have : (0 : Int32).toInt = 0 := rfl; show (g24 39 14).toInt = 0; omega)⟩ _ (fun g34 p35 => ?_)
            have f36 : ∀ k, (k < 39 ∨ 44 < k) → g34 k = h k := fun k hk => (p35.2.2.1 k (by omega)).trans (by simp only [qm_row]; rw [if_neg (by omega)]; exact f26 k hk)
            have k37 : zs g34 := by unfold zs; rw [p35.2.2.1 49 (by omega)]; exact k28
            have k38 : rw_ g34 := by unfold rw_; rw [p35.2.2.1 46 (by omega)]; exact k29
            have k39 : dd g34 := by unfold dd; rw [p35.2.2.1 43 (by omega)]; exact k30
            have o40 : (g34 39 9).toInt = (0 : Int32).toInt := p35.2.2.2
            show Q (some (.int l1)) g34
            exact hq l1 g34 ⟨p35.1, p35.2.1, k37, k38, (fun k hk => f36 k hk), (by have : (0 : Int32).toInt = 0 := rfl; show (g34 39 9).toInt = 0; omega)⟩
          · exact hq ((-10 : Int32) - (g24 39 15)) (qm_row g24 39 (upd (g24 39) 9 0)) ⟨(by have ⟨⟨_, _⟩, ⟨_, _⟩, ⟨_, _⟩, ⟨_, _⟩, _, _⟩ := hmmi; have ⟨⟨⟨_, _⟩, _, _⟩, _, _, _⟩ := hmsm; have ⟨⟨_, _⟩, ⟨_, _⟩, ⟨_, _⟩, ⟨_, _⟩, _, _⟩ := hgmi; have ⟨⟨_, _⟩, ⟨_, _⟩, _, _⟩ := hgpp; have ⟨⟨_, _⟩, _, _⟩ := hgdd; have ⟨⟨⟨_, _⟩, _, _⟩, _, _, _⟩ := hgsm; have ⟨⟨_, _⟩, ⟨_, _⟩, ⟨_, _⟩, ⟨_, _⟩, _, _⟩ := p15.1; have ⟨⟨_, _⟩, ⟨_, _⟩, _, _⟩ := p15.2.1; have ⟨⟨⟨_, _⟩, _, _⟩, _, _, _⟩ := k17; have ⟨⟨_, _⟩, _, _⟩ := k20; have ⟨⟨_, _⟩, ⟨_, _⟩, ⟨_, _⟩, ⟨_, _⟩, _, _⟩ := p25.1; have ⟨⟨_, _⟩, ⟨_, _⟩, _, _⟩ := p25.2.1; have ⟨⟨⟨_, _⟩, _, _⟩, _, _, _⟩ := k27; have ⟨⟨_, _⟩, _, _⟩ := k30; show (0 ≤ (g24 39 3).toInt ∧ (g24 39 3).toInt ≤ 4) ∧ (0 ≤ (0 : Int) ∧ (0 : Int) ≤ 160) ∧ (0 ≤ (g24 39 19).toInt ∧ (g24 39 19).toInt ≤ 4) ∧ (0 ≤ (g24 39 20).toInt ∧ (g24 39 20).toInt ≤ 255) ∧ (0 ≤ (g24 39 11).toInt ∧ (g24 39 11).toInt ≤ 160); have : (0 : Int32).toInt = 0 := rfl; omega), (by exact k27), (by exact k28), (by exact k29), (fun k hk => by simp only [qm_row]; rw [if_neg (by omega)]; exact f26 k hk), (by have : (0 : Int32).toInt = 0 := rfl; show (0 : Int32).toInt = 0; omega)⟩
        · refine sf_147_39 X g (1 : Int32) (6 : Int32) ⟨hgmi, hgpp, (by have : (6 : Int32).toInt = 6 := rfl; omega)⟩ _ (fun g41 p42 => ?_)
          have f43 : ∀ k, (k < 39 ∨ 44 < k) → g41 k = h k := fun k hk => (p42.2.2.1 k (by omega)).trans (hgf k hk)
          have k44 : sm g41 := by unfold sm; rw [p42.2.2.1 40 (by omega)]; exact hgsm
          have k45 : zs g41 := by unfold zs; rw [p42.2.2.1 49 (by omega)]; exact hgzs
          have k46 : rw_ g41 := by unfold rw_; rw [p42.2.2.1 46 (by omega)]; exact hgrw
          have k47 : dd g41 := by unfold dd; rw [p42.2.2.1 43 (by omega)]; exact hgdd
          have o48 : ((g 39 14).toInt ≤ (g41 39 14).toInt) ∧ ((1 : Int32).toInt = 0 → 1 ≤ (g41 39 14).toInt) ∧ ((g41 39 10).toInt = (g 39 10).toInt) ∧ ((g41 39 12).toInt = (g 39 12).toInt) ∧ ((g41 39 13).toInt = (g 39 13).toInt) ∧ ((g41 39 5).toInt = (g 39 5).toInt) := p42.2.2.2
          have kdp_g41 : dp g41 := fun hf => by rw [p42.2.2.1 43 (by omega)]; exact hgdp (by have := (hgpp).2.2; have : (0 : Int32).toInt = 0 := rfl; omega)
          have e434_g41 : (g41 43 4).toInt = (g 43 4).toInt := congrArg (fun f : Nat → Int32 => (f 4).toInt) (p42.2.2.1 43 (by omega))
          show qm_PW X 161 [.ref 39] g41 _
          refine sf_161_39 X g41  ⟨p42.2.1, k47⟩ _ (fun r49 p50 => ?_)
          show qm_PW X 147 [.ref 39, .int r49, .int 7] g41 _
          refine sf_147_39 X g41 r49 (7 : Int32) ⟨p42.1, p42.2.1, (by have : (7 : Int32).toInt = 7 := rfl; have : (1 : Int32).toInt = 1 := rfl; omega)⟩ _ (fun g51 p52 => ?_)
          have f53 : ∀ k, (k < 39 ∨ 44 < k) → g51 k = h k := fun k hk => (p52.2.2.1 k (by omega)).trans (f43 k hk)
          have k54 : sm g51 := by unfold sm; rw [p52.2.2.1 40 (by omega)]; exact k44
          have k55 : zs g51 := by unfold zs; rw [p52.2.2.1 49 (by omega)]; exact k45
          have k56 : rw_ g51 := by unfold rw_; rw [p52.2.2.1 46 (by omega)]; exact k46
          have k57 : dd g51 := by unfold dd; rw [p52.2.2.1 43 (by omega)]; exact k47
          have o58 : ((g41 39 14).toInt ≤ (g51 39 14).toInt) ∧ (r49.toInt = 0 → 1 ≤ (g51 39 14).toInt) ∧ ((g51 39 10).toInt = (g41 39 10).toInt) ∧ ((g51 39 12).toInt = (g41 39 12).toInt) ∧ ((g51 39 13).toInt = (g41 39 13).toInt) ∧ ((g51 39 5).toInt = (g41 39 5).toInt) := p52.2.2.2
          have kdp_g51 : dp g51 := fun hf => by rw [p52.2.2.1 43 (by omega)]; exact kdp_g41 (by have := (p42.2.1).2.2; have : (0 : Int32).toInt = 0 := rfl; omega)
          have e434_g51 : (g51 43 4).toInt = (g41 43 4).toInt := congrArg (fun f : Nat → Int32 => (f 4).toInt) (p52.2.2.1 43 (by omega))
          show ((g51 39 14).toInt ≤ 0 → (qm_PW X 144 [.ref 39] (qm_row g51 39 (upd (g51 39) 9 0)) _)) ∧ (0 < (g51 39 14).toInt → (Q (some (.int ((-10 : Int32) - (g51 39 15)))) (qm_row g51 39 (upd (g51 39) 9 0))))
          refine ⟨fun c59 => ?_, fun c60 => ?_⟩
          · refine sf_144_39 X (qm_row g51 39 (upd (g51 39) 9 0))  ⟨(by have ⟨⟨_, _⟩, ⟨_, _⟩, ⟨_, _⟩, ⟨_, _⟩, _, _⟩ := hmmi; have ⟨⟨⟨_, _⟩, _, _⟩, _, _, _⟩ := hmsm; have ⟨⟨_, _⟩, ⟨_, _⟩, ⟨_, _⟩, ⟨_, _⟩, _, _⟩ := hgmi; have ⟨⟨_, _⟩, ⟨_, _⟩, _, _⟩ := hgpp; have ⟨⟨_, _⟩, _, _⟩ := hgdd; have ⟨⟨⟨_, _⟩, _, _⟩, _, _, _⟩ := hgsm; have ⟨⟨_, _⟩, ⟨_, _⟩, ⟨_, _⟩, ⟨_, _⟩, _, _⟩ := p42.1; have ⟨⟨_, _⟩, ⟨_, _⟩, _, _⟩ := p42.2.1; have ⟨⟨⟨_, _⟩, _, _⟩, _, _, _⟩ := k44; have ⟨⟨_, _⟩, _, _⟩ := k47; have ⟨⟨_, _⟩, ⟨_, _⟩, ⟨_, _⟩, ⟨_, _⟩, _, _⟩ := p52.1; have ⟨⟨_, _⟩, ⟨_, _⟩, _, _⟩ := p52.2.1; have ⟨⟨⟨_, _⟩, _, _⟩, _, _, _⟩ := k54; have ⟨⟨_, _⟩, _, _⟩ := k57; show (0 ≤ (g51 39 3).toInt ∧ (g51 39 3).toInt ≤ 4) ∧ (0 ≤ (0 : Int) ∧ (0 : Int) ≤ 160) ∧ (0 ≤ (g51 39 19).toInt ∧ (g51 39 19).toInt ≤ 4) ∧ (0 ≤ (g51 39 20).toInt ∧ (g51 39 20).toInt ≤ 255) ∧ (0 ≤ (g51 39 11).toInt ∧ (g51 39 11).toInt ≤ 160); have : (1 : Int32).toInt = 1 := rfl; omega), (by have ⟨⟨_, _⟩, ⟨_, _⟩, ⟨_, _⟩, ⟨_, _⟩, _, _⟩ := hmmi; have ⟨⟨⟨_, _⟩, _, _⟩, _, _, _⟩ := hmsm; have ⟨⟨_, _⟩, ⟨_, _⟩, ⟨_, _⟩, ⟨_, _⟩, _, _⟩ := hgmi; have ⟨⟨_, _⟩, ⟨_, _⟩, _, _⟩ := hgpp; have ⟨⟨_, _⟩, _, _⟩ := hgdd; have ⟨⟨⟨_, _⟩, _, _⟩, _, _, _⟩ := hgsm; have ⟨⟨_, _⟩, ⟨_, _⟩, ⟨_, _⟩, ⟨_, _⟩, _, _⟩ := p42.1; have ⟨⟨_, _⟩, ⟨_, _⟩, _, _⟩ := p42.2.1; have ⟨⟨⟨_, _⟩, _, _⟩, _, _, _⟩ := k44; have ⟨⟨_, _⟩, _, _⟩ := k47; have ⟨⟨_, _⟩, ⟨_, _⟩, ⟨_, _⟩, ⟨_, _⟩, _, _⟩ := p52.1; have ⟨⟨_, _⟩, ⟨_, _⟩, _, _⟩ := p52.2.1; have ⟨⟨⟨_, _⟩, _, _⟩, _, _, _⟩ := k54; have ⟨⟨_, _⟩, _, _⟩ := k57; show (0 ≤ (g51 39 5).toInt ∧ (g51 39 5).toInt ≤ 4) ∧ (0 ≤ (g51 39 10).toInt ∧ (g51 39 10).toInt ≤ 160) ∧ (0 ≤ (g51 39 14).toInt ∧ (g51 39 14).toInt ≤ 7); have : (1 : Int32).toInt = 1 := rfl; omega), (by exact k57), (by exact kdp_g51), (by exact k54), (by have : (1 : Int32).toInt = 1 := rfl; show (g51 39 14).toInt = 0; omega)⟩ _ (fun g61 p62 => ?_)
            have f63 : ∀ k, (k < 39 ∨ 44 < k) → g61 k = h k := fun k hk => (p62.2.2.1 k (by omega)).trans (by simp only [qm_row]; rw [if_neg (by omega)]; exact f53 k hk)
            have k64 : zs g61 := by unfold zs; rw [p62.2.2.1 49 (by omega)]; exact k55
            have k65 : rw_ g61 := by unfold rw_; rw [p62.2.2.1 46 (by omega)]; exact k56
            have k66 : dd g61 := by unfold dd; rw [p62.2.2.1 43 (by omega)]; exact k57
            have o67 : (g61 39 9).toInt = (0 : Int32).toInt := p62.2.2.2
            show Q (some (.int l1)) g61
            exact hq l1 g61 ⟨p62.1, p62.2.1, k64, k65, (fun k hk => f63 k hk), (by have : (1 : Int32).toInt = 1 := rfl; have : (0 : Int32).toInt = 0 := rfl; show (g61 39 9).toInt = 0; omega)⟩
          · exact hq ((-10 : Int32) - (g51 39 15)) (qm_row g51 39 (upd (g51 39) 9 0)) ⟨(by have ⟨⟨_, _⟩, ⟨_, _⟩, ⟨_, _⟩, ⟨_, _⟩, _, _⟩ := hmmi; have ⟨⟨⟨_, _⟩, _, _⟩, _, _, _⟩ := hmsm; have ⟨⟨_, _⟩, ⟨_, _⟩, ⟨_, _⟩, ⟨_, _⟩, _, _⟩ := hgmi; have ⟨⟨_, _⟩, ⟨_, _⟩, _, _⟩ := hgpp; have ⟨⟨_, _⟩, _, _⟩ := hgdd; have ⟨⟨⟨_, _⟩, _, _⟩, _, _, _⟩ := hgsm; have ⟨⟨_, _⟩, ⟨_, _⟩, ⟨_, _⟩, ⟨_, _⟩, _, _⟩ := p42.1; have ⟨⟨_, _⟩, ⟨_, _⟩, _, _⟩ := p42.2.1; have ⟨⟨⟨_, _⟩, _, _⟩, _, _, _⟩ := k44; have ⟨⟨_, _⟩, _, _⟩ := k47; have ⟨⟨_, _⟩, ⟨_, _⟩, ⟨_, _⟩, ⟨_, _⟩, _, _⟩ := p52.1; have ⟨⟨_, _⟩, ⟨_, _⟩, _, _⟩ := p52.2.1; have ⟨⟨⟨_, _⟩, _, _⟩, _, _, _⟩ := k54; have ⟨⟨_, _⟩, _, _⟩ := k57; show (0 ≤ (g51 39 3).toInt ∧ (g51 39 3).toInt ≤ 4) ∧ (0 ≤ (0 : Int) ∧ (0 : Int) ≤ 160) ∧ (0 ≤ (g51 39 19).toInt ∧ (g51 39 19).toInt ≤ 4) ∧ (0 ≤ (g51 39 20).toInt ∧ (g51 39 20).toInt ≤ 255) ∧ (0 ≤ (g51 39 11).toInt ∧ (g51 39 11).toInt ≤ 160); have : (1 : Int32).toInt = 1 := rfl; omega), (by exact k54), (by exact k55), (by exact k56), (fun k hk => by simp only [qm_row]; rw [if_neg (by omega)]; exact f53 k hk), (by have : (1 : Int32).toInt = 1 := rfl; have : (0 : Int32).toInt = 0 := rfl; show (0 : Int32).toInt = 0; omega)⟩
set_option maxRecDepth 100000 in
set_option maxHeartbeats 4000000 in
theorem sf_162_39 (X : qm_X) (h : qm_H) (hp : mi h ∧ sm h ∧ zs h ∧ rw_ h) (Q : qm_Q) (hq : ∀ r : Int32, ∀ h' : qm_H, (mi h' ∧ sm h' ∧ zs h' ∧ rw_ h' ∧ (∀ k, (k < 39 ∨ 44 < k) → h' k = h k) ∧ ((h' 39 9).toInt = 0)) → Q (some (.int r)) h') : qm_PW X 162 [.ref 39] h Q := by
  have hmmi : mi h := hp.1
  have ⟨⟨_, _⟩, ⟨_, _⟩, ⟨_, _⟩, ⟨_, _⟩, _, _⟩ := hmmi
  have hmsm : sm h := hp.2.1
  have ⟨⟨⟨_, _⟩, _, _⟩, _, _, _⟩ := hmsm
  have hmzs : zs h := hp.2.2.1
  have hmrw : rw_ h := hp.2.2.2
  refine qm_seg_ok (C := qc_162) (rt := some .int) rfl rfl (cuts := [(34, [0, 1]), (44, [0, 1])]) 400 _ _ _ _ ?_
  show qm_PW X 143 [.ref 39] (qm_row (qm_row h 39 (upd (h 39) 14 0)) 39 (upd (upd (h 39) 14 0) 10 0)) _
  refine sf_143_39 X (qm_row (qm_row h 39 (upd (h 39) 14 0)) 39 (upd (upd (h 39) 14 0) 10 0))  ⟨(by have ⟨⟨_, _⟩, ⟨_, _⟩, ⟨_, _⟩, ⟨_, _⟩, _, _⟩ := hmmi; have ⟨⟨⟨_, _⟩, _, _⟩, _, _, _⟩ := hmsm; show (0 ≤ (h 39 3).toInt ∧ (h 39 3).toInt ≤ 4) ∧ (0 ≤ (h 39 9).toInt ∧ (h 39 9).toInt ≤ 160) ∧ (0 ≤ (h 39 19).toInt ∧ (h 39 19).toInt ≤ 4) ∧ (0 ≤ (h 39 20).toInt ∧ (h 39 20).toInt ≤ 255) ∧ (0 ≤ (h 39 11).toInt ∧ (h 39 11).toInt ≤ 160); omega), (by exact hmsm), (by have : (0 : Int32).toInt = 0 := rfl; show (0 ≤ (0 : Int32).toInt ∧ (0 : Int32).toInt ≤ 160) ∧ (0 ≤ (0 : Int32).toInt ∧ (0 : Int32).toInt ≤ 7); omega)⟩ _ (fun g1 p2 => ?_)
  have f3 : ∀ k, (k < 39 ∨ 44 < k) → g1 k = h k := fun k hk => (p2.2.2.2.2.2.1 k (by omega)).trans (by simp only [qm_row]; rw [if_neg (by omega)]; rw [if_neg (by omega)])
  have k4 : zs g1 := by unfold zs; rw [p2.2.2.2.2.2.1 49 (by omega)]; exact hmzs
  have k5 : rw_ g1 := by unfold rw_; rw [p2.2.2.2.2.2.1 46 (by omega)]; exact hmrw
  have o6 : ((g1 39 14).toInt = (0 : Int32).toInt) ∧ ((g1 39 10).toInt = (0 : Int32).toInt) := p2.2.2.2.2.2.2
  show qm_PW X 152 [.ref 39] g1 _
  refine sf_152_39 X g1  ⟨p2.1, p2.2.1⟩ _ (fun g7 p8 => ?_)
  have f9 : ∀ k, (k < 39 ∨ 44 < k) → g7 k = h k := fun k hk => (p8.2.2.1 k (by omega)).trans (f3 k hk)
  have k10 : sm g7 := by unfold sm; rw [p8.2.2.1 40 (by omega)]; exact p2.2.2.2.2.1
  have k11 : zs g7 := by unfold zs; rw [p8.2.2.1 49 (by omega)]; exact k4
  have k12 : rw_ g7 := by unfold rw_; rw [p8.2.2.1 46 (by omega)]; exact k5
  have k13 : dd g7 := by unfold dd; rw [p8.2.2.1 43 (by omega)]; exact p2.2.2.1
  have o14 : ((g1 39 14).toInt ≤ (g7 39 14).toInt) ∧ ((g7 39 5).toInt = (g1 39 5).toInt) ∧ ((g1 39 10).toInt ≤ (g7 39 10).toInt) ∧ (((g7 39 14).toInt = 0 ∧ ¬ (g7 39 12).toInt = 0) → (g1 39 10).toInt < (g7 39 10).toInt) := p8.2.2.2
  have kdp_g7 : dp g7 := fun hf => by rw [p8.2.2.1 43 (by omega)]; exact p2.2.2.2.1 (by have := (p2.2.1).2.2; have : (0 : Int32).toInt = 0 := rfl; omega)
  have e434_g7 : (g7 43 4).toInt = (g1 43 4).toInt := congrArg (fun f : Nat → Int32 => (f 4).toInt) (p8.2.2.1 43 (by omega))
  show (¬ (g7 39 14) = 0 → (qm_PA X 162 44 [(0, .ref 39), (1, .int 0)] [] g7 Q)) ∧ ((g7 39 14) = 0 → (((g7 39 12) = 0 → (qm_PA X 162 44 [(0, .ref 39), (1, .int 0)] [] g7 Q)) ∧ (¬ (g7 39 12) = 0 → (qm_PA X 162 34 [(0, .ref 39), (1, .int 0)] [] g7 Q))))
  refine ⟨fun c15 => ?_, fun c16 => ?_⟩
  · have := ti_neK 0 rfl c15
    exact (sf_162_39_c X h hp Q hq _).2 (0 : Int32) g7 ⟨p8.1, p8.2.1, k13, kdp_g7, k10, k11, k12, (fun k hk => f9 k hk)⟩ (Nat.lt_succ_self _)
  · have := ti_eqK 0 rfl c16
    refine ⟨fun c17 => ?_, fun c18 => ?_⟩
    · have := ti_eqK 0 rfl c17
      exact (sf_162_39_c X h hp Q hq _).2 (0 : Int32) g7 ⟨p8.1, p8.2.1, k13, kdp_g7, k10, k11, k12, (fun k hk => f9 k hk)⟩ (Nat.lt_succ_self _)
    · have := ti_neK 0 rfl c18
      exact (sf_162_39_c X h hp Q hq _).1 (0 : Int32) g7 ⟨(by have : (0 : Int32).toInt = 0 := rfl; show (g7 39 14).toInt = 0 ∧ ¬ (g7 39 12).toInt = 0; omega), p8.1, p8.2.1, k13, kdp_g7, k10, k11, k12, (fun k hk => f9 k hk)⟩ (Nat.lt_succ_self _)
