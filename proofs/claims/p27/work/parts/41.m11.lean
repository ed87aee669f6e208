-- ThreadBankModel.startsOwed()V
set_option maxRecDepth 100000 in
set_option maxHeartbeats 4000000 in
theorem sf_202_39 (X : qm_X) (h : qm_H) (hp : mi h ∧ sm h ∧ zs h ∧ rw_ h) (Q : qm_Q) (hq : ∀ h' : qm_H, (mi h' ∧ sm h' ∧ zs h' ∧ rw_ h' ∧ (∀ k, (k < 41 ∨ 45 < k ∨ k = 42 ∨ k = 43 ∨ k = 44) → h' k = h k)) → Q none h') : qm_PW X 202 [.ref 39] h Q := by
  have hmmi : mi h := hp.1
  have ⟨⟨_, _⟩, ⟨_, _⟩, ⟨_, _⟩, ⟨_, _⟩, _, _⟩ := hmmi
  have hmsm : sm h := hp.2.1
  have ⟨⟨⟨_, _⟩, _, _⟩, _, _, _⟩ := hmsm
  have hmzs : zs h := hp.2.2.1
  have hmrw : rw_ h := hp.2.2.2
  refine qm_seg_ok (C := qc_202) (rt := none) rfl rfl (cuts := []) 400 _ _ _ _ ?_
  show qm_PW X 169 [.ref 39] h _
  refine sf_169_39 X h  hmsm _ (fun g1 p2 => ?_)
  have f3 : ∀ k, (k < 41 ∨ 45 < k ∨ k = 42 ∨ k = 43 ∨ k = 44) → g1 k = h k := fun k hk => (p2.2.1 k (by omega)).trans (rfl)
  have k4 : mi g1 := by unfold mi; rw [p2.2.1 39 (by omega)]; exact hmmi
  have k5 : sm g1 := by unfold sm; rw [p2.2.1 40 (by omega)]; exact hmsm
  have k6 : zs g1 := by unfold zs; rw [p2.2.1 49 (by omega)]; exact hmzs
  have k7 : rw_ g1 := by unfold rw_; rw [p2.2.1 46 (by omega)]; exact hmrw
  show qm_PW X 180 [.ref 39, .int 9] g1 _
  refine sf_180_39 X g1 (9 : Int32) p2.1 _ (fun g8 p9 => ?_)
  have f10 : ∀ k, (k < 41 ∨ 45 < k ∨ k = 42 ∨ k = 43 ∨ k = 44) → g8 k = h k := fun k hk => (p9 k (by omega)).trans (f3 k hk)
  have k11 : mi g8 := by unfold mi; rw [p9 39 (by omega)]; exact k4
  have k12 : sm g8 := by unfold sm; rw [p9 40 (by omega)]; exact k5
  have k13 : zs g8 := by unfold zs; rw [p9 49 (by omega)]; exact k6
  have k14 : rw_ g8 := by unfold rw_; rw [p9 46 (by omega)]; exact k7
  have k15 : am g8 := by unfold am; rw [p9 41 (by omega)]; exact p2.1
  show Q none g8
  exact hq g8 ⟨k11, k12, k13, k14, (fun k hk => f10 k hk)⟩
-- ThreadBankModel.place()I
set_option maxRecDepth 100000 in
set_option maxHeartbeats 4000000 in
theorem sf_211_39_c (X : qm_X) (h : qm_H) (hp : mi h ∧ sm h ∧ zs h ∧ rw_ h) (Q : qm_Q) (hq : ∀ r : Int32, ∀ h' : qm_H, (mi h' ∧ sm h' ∧ zs h' ∧ rw_ h' ∧ (∀ k, (k < 41 ∨ 41 < k) → h' k = h k)) → Q (some (.int r)) h') : ∀ n : Nat, (∀ (l1 : Int32) (l2 : Int32) (l3 : Int32) (g : qm_H), ((0 ≤ l3.toInt ∧ l3.toInt ≤ 4 ∧ l2.toInt ≤ 3 ∧ (l2.toInt = -4 ∨ 0 ≤ l2.toInt)) ∧ mi g ∧ sm g ∧ zs g ∧ rw_ g ∧ am g ∧ ∀ k, (k < 41 ∨ 41 < k) → g k = h k) → (104 - l3.toInt).toNat < n → qm_PA X 211 12 [(0, .ref 39), (1, .int l1), (2, .int l2), (3, .int l3)] [] g Q) ∧ (∀ (l1 : Int32) (l2 : Int32) (l3 : Int32) (l4 : Int32) (l5 : Int32) (g : qm_H), ((0 ≤ l5.toInt ∧ l5.toInt ≤ 5 ∧ l2.toInt ≤ 3 ∧ (l2.toInt = -4 ∨ 0 ≤ l2.toInt)) ∧ mi g ∧ sm g ∧ zs g ∧ rw_ g ∧ am g ∧ ∀ k, (k < 41 ∨ 41 < k) → g k = h k) → (5 - l5.toInt).toNat < n → qm_PA X 211 90 [(0, .ref 39), (1, .int l1), (2, .int l2), (3, .int l3), (4, .int l4), (5, .int l5)] [] g Q) := by
  have hmmi : mi h := hp.1
  have ⟨⟨_, _⟩, ⟨_, _⟩, ⟨_, _⟩, ⟨_, _⟩, _, _⟩ := hmmi
  have hmsm : sm h := hp.2.1
  have ⟨⟨⟨_, _⟩, _, _⟩, _, _, _⟩ := hmsm
  have hmzs : zs h := hp.2.2.1
  have hmrw : rw_ h := hp.2.2.2
  intro n
  induction n with
  | zero => exact ⟨fun _ _ _ _ _ h0 => absurd h0 (Nat.not_lt_zero _), fun _ _ _ _ _ _ _ h0 => absurd h0 (Nat.not_lt_zero _)⟩
  | succ n ih =>
    refine ⟨?_, ?_⟩
    · intro l1 l2 l3 g hi hr
      obtain ⟨hi0, hgmi, hgsm, hgzs, hgrw, hgam, hgf⟩ := hi
      have ⟨⟨_, _⟩, ⟨_, _⟩, ⟨_, _⟩, ⟨_, _⟩, _, _⟩ := hgmi
      have ⟨⟨⟨_, _⟩, _, _⟩, _, _, _⟩ := hgsm
      have ⟨⟨_, _⟩, ⟨_, _⟩, _, _, _⟩ := hgam
      refine qm_seg_ok (C := qc_211) (rt := some .int) rfl rfl (cuts := [(12, [0, 1, 2, 3]), (90, [0, 1, 2, 3, 4, 5])]) 400 _ _ _ _ ?_
      show ((g 39 3).toInt ≤ l3.toInt → (qm_PA X 211 90 [(0, .ref 39), (1, .int l1), (2, .int l2), (3, .int 0), (4, .int (-4 : Int32)), (5, .int 0)] [] g Q)) ∧ (l3.toInt < (g 39 3).toInt → (qm_PW X 175 [.ref 39, .int l3] g _))
      refine ⟨fun c1 => ?_, fun c2 => ?_⟩
      · exact ih.2 l1 l2 (0 : Int32) (-4 : Int32) (0 : Int32) g ⟨(by have : (0 : Int32).toInt = 0 := rfl; show 0 ≤ (0 : Int32).toInt ∧ (0 : Int32).toInt ≤ 5 ∧ l2.toInt ≤ 3 ∧ (l2.toInt = -4 ∨ 0 ≤ l2.toInt); omega), hgmi, hgsm, hgzs, hgrw, hgam, (fun k hk => hgf k hk)⟩ (by have : (0 : Int32).toInt = 0 := rfl; show (5 - (0 : Int32).toInt).toNat < n; omega)
      · refine sf_175_39 X g l3 hgam _ (fun r3 p4 => ?_)
        show qm_PW X 176 [.ref 39, .int l3] g _
        refine sf_176_39 X g l3 ⟨hgam, (by omega)⟩ _ (fun r5 p6 => ?_)
        show (r5.toInt ≤ r3.toInt → (((0 : Int32) = 0 → (((0 : Int32) = 0 → (qm_PA X 211 12 [(0, .ref 39), (1, .int l1), (2, .int l2), (3, .int (l3 + 1))] [] g Q)) ∧ (¬ (0 : Int32) = 0 → (qm_PW X 175 [.ref 39, .int l3] g _)))) ∧ (¬ (0 : Int32) = 0 → (((0 : Int32) = 0 → (qm_PA X 211 12 [(0, .ref 39), (1, .int l1), (2, .int l3), (3, .int (l3 + 1))] [] g Q)) ∧ (¬ (0 : Int32) = 0 → (qm_PW X 175 [.ref 39, .int l3] g _)))))) ∧ (r3.toInt < r5.toInt → (qm_PW X 175 [.ref 39, .int l3] g _))
        refine ⟨fun c7 => ?_, fun c8 => ?_⟩
        · refine ⟨fun c9 => ?_, fun c10 => ?_⟩
          · refine ⟨fun c11 => ?_, fun c12 => ?_⟩
            · exact ih.1 l1 l2 (l3 + 1) g ⟨(by have := ti_addK l3 (1 : Int32) 1 rfl; show 0 ≤ (l3 + 1).toInt ∧ (l3 + 1).toInt ≤ 4 ∧ l2.toInt ≤ 3 ∧ (l2.toInt = -4 ∨ 0 ≤ l2.toInt); omega), hgmi, hgsm, hgzs, hgrw, hgam, (fun k hk => hgf k hk)⟩ (by have := ti_addK l3 (1 : Int32) 1 rfl; show (104 - (l3 + 1).toInt).toNat < n; omega)
            · exact absurd c12 (by decide)
          · exact absurd c10 (by decide)
        · refine sf_175_39 X g l3 hgam _ (fun r19 p20 => ?_)
          show (l1.toInt ≤ r19.toInt → (((0 : Int32) = 0 → (((0 : Int32) = 0 → (qm_PA X 211 12 [(0, .ref 39), (1, .int l1), (2, .int l2), (3, .int (l3 + 1))] [] g Q)) ∧ (¬ (0 : Int32) = 0 → (qm_PW X 175 [.ref 39, .int l3] g _)))) ∧ (¬ (0 : Int32) = 0 → (((0 : Int32) = 0 → (qm_PA X 211 12 [(0, .ref 39), (1, .int l1), (2, .int l3), (3, .int (l3 + 1))] [] g Q)) ∧ (¬ (0 : Int32) = 0 → (qm_PW X 175 [.ref 39, .int l3] g _)))))) ∧ (r19.toInt < l1.toInt → (((1 : Int32) = 0 → (((1 : Int32) = 0 → (qm_PA X 211 12 [(0, .ref 39), (1, .int l1), (2, .int l2), (3, .int (l3 + 1))] [] g Q)) ∧ (¬ (1 : Int32) = 0 → (qm_PW X 175 [.ref 39, .int l3] g _)))) ∧ (¬ (1 : Int32) = 0 → (((1 : Int32) = 0 → (qm_PA X 211 12 [(0, .ref 39), (1, .int l1), (2, .int l3), (3, .int (l3 + 1))] [] g Q)) ∧ (¬ (1 : Int32) = 0 → (qm_PW X 175 [.ref 39, .int l3] g _))))))
          refine ⟨fun c21 => ?_, fun c22 => ?_⟩
          · refine ⟨fun c23 => ?_, fun c24 => ?_⟩
            · refine ⟨fun c25 => ?_, fun c26 => ?_⟩
              · exact ih.1 l1 l2 (l3 + 1) g ⟨(by have := ti_addK l3 (1 : Int32) 1 rfl; show 0 ≤ (l3 + 1).toInt ∧ (l3 + 1).toInt ≤ 4 ∧ l2.toInt ≤ 3 ∧ (l2.toInt = -4 ∨ 0 ≤ l2.toInt); omega), hgmi, hgsm, hgzs, hgrw, hgam, (fun k hk => hgf k hk)⟩ (by have := ti_addK l3 (1 : Int32) 1 rfl; show (104 - (l3 + 1).toInt).toNat < n; omega)
              · exact absurd c26 (by decide)
            · exact absurd c24 (by decide)
          · refine ⟨fun c33 => ?_, fun c34 => ?_⟩
            · exact absurd c33 (by decide)
            · refine ⟨fun c39 => ?_, fun c40 => ?_⟩
              · exact absurd c39 (by decide)
              · refine sf_175_39 X g l3 hgam _ (fun r41 p42 => ?_)
                show qm_PA X 211 12 [(0, .ref 39), (1, .int r41), (2, .int l3), (3, .int (l3 + 1))] [] g Q
                exact ih.1 r41 l3 (l3 + 1) g ⟨(by have := ti_addK l3 (1 : Int32) 1 rfl; show 0 ≤ (l3 + 1).toInt ∧ (l3 + 1).toInt ≤ 4 ∧ l3.toInt ≤ 3 ∧ (l3.toInt = -4 ∨ 0 ≤ l3.toInt); omega), hgmi, hgsm, hgzs, hgrw, hgam, (fun k hk => hgf k hk)⟩ (by have := ti_addK l3 (1 : Int32) 1 rfl; show (104 - (l3 + 1).toInt).toNat < n; omega)
    · intro l1 l2 l3 l4 l5 g hi hr
      obtain ⟨hi0, hgmi, hgsm, hgzs, hgrw, hgam, hgf⟩ := hi
      have ⟨⟨_, _⟩, ⟨_, _⟩, ⟨_, _⟩, ⟨_, _⟩, _, _⟩ := hgmi
      have ⟨⟨⟨_, _⟩, _, _⟩, _, _, _⟩ := hgsm
      have ⟨⟨_, _⟩, ⟨_, _⟩, _, _, _⟩ := hgam
      refine qm_seg_ok (C := qc_211) (rt := some .int) rfl rfl (cuts := [(12, [0, 1, 2, 3]), (90, [0, 1, 2, 3, 4, 5])]) 400 _ _ _ _ ?_
      show (5 ≤ l5.toInt → (Q (some (.int l4)) g)) ∧ (l5.toInt < 5 → ((l2 = (-4 : Int32) → (Q (some (.int l4)) g)) ∧ (¬ l2 = (-4 : Int32) → (qm_PW X 173 [.ref 39, .int ((10 * l2) + l5)] g _))))
      refine ⟨fun c1 => ?_, fun c2 => ?_⟩
      · exact hq l4 g ⟨hgmi, hgsm, hgzs, hgrw, (fun k hk => hgf k hk)⟩
      · refine ⟨fun c3 => ?_, fun c4 => ?_⟩
        · have := ti_eqK (-4) ti_n4 c3
          exact hq l4 g ⟨hgmi, hgsm, hgzs, hgrw, (fun k hk => hgf k hk)⟩
        · have := ti_neK (-4) ti_n4 c4
          refine sf_173_39 X g ((10 * l2) + l5) ⟨hgam, (by have := ti_mulL (10 : Int32) 10 rfl l2; have := ti_add (10 * l2) l5; omega)⟩ _ (fun r5 p6 => ?_)
          show qm_PW X 174 [.ref 39, .int ((10 * l2) + l5)] g _
          refine sf_174_39 X g ((10 * l2) + l5) hgam _ (fun r7 p8 => ?_)
          show ((r5 - r7).toInt ≤ l3.toInt → (((r5 - r7).toInt ≤ l3.toInt → (qm_PA X 211 90 [(0, .ref 39), (1, .int l1), (2, .int l2), (3, .int l3), (4, .int l4), (5, .int (l5 + 1))] [] g Q)) ∧ (l3.toInt < (r5 - r7).toInt → (qm_PA X 211 90 [(0, .ref 39), (1, .int l1), (2, .int l2), (3, .int (r5 - r7)), (4, .int l4), (5, .int (l5 + 1))] [] g Q)))) ∧ (l3.toInt < (r5 - r7).toInt → (((r5 - r7).toInt ≤ l3.toInt → (qm_PA X 211 90 [(0, .ref 39), (1, .int l1), (2, .int l2), (3, .int l3), (4, .int ((10 * l2) + l5)), (5, .int (l5 + 1))] [] g Q)) ∧ (l3.toInt < (r5 - r7).toInt → (qm_PA X 211 90 [(0, .ref 39), (1, .int l1), (2, .int l2), (3, .int (r5 - r7)), (4, .int ((10 * l2) + l5)), (5, .int (l5 + 1))] [] g Q))))
          refine ⟨fun c9 => ?_, fun c10 => ?_⟩
          · refine ⟨fun c11 => ?_, fun c12 => ?_⟩
            · exact ih.2 l1 l2 l3 l4 (l5 + 1) g ⟨(by have := ti_addK l5 (1 : Int32) 1 rfl; have := ti_sub r5 r7; show 0 ≤ (l5 + 1).toInt ∧ (l5 + 1).toInt ≤ 5 ∧ l2.toInt ≤ 3 ∧ (l2.toInt = -4 ∨ 0 ≤ l2.toInt); omega), hgmi, hgsm, hgzs, hgrw, hgam, (fun k hk => hgf k hk)⟩ (by have := ti_addK l5 (1 : Int32) 1 rfl; have := ti_sub r5 r7; show (5 - (l5 + 1).toInt).toNat < n; omega)
            · exact ih.2 l1 l2 (r5 - r7) l4 (l5 + 1) g ⟨(by have := ti_addK l5 (1 : Int32) 1 rfl; have := ti_sub r5 r7; show 0 ≤ (l5 + 1).toInt ∧ (l5 + 1).toInt ≤ 5 ∧ l2.toInt ≤ 3 ∧ (l2.toInt = -4 ∨ 0 ≤ l2.toInt); omega), hgmi, hgsm, hgzs, hgrw, hgam, (fun k hk => hgf k hk)⟩ (by have := ti_addK l5 (1 : Int32) 1 rfl; have := ti_sub r5 r7; show (5 - (l5 + 1).toInt).toNat < n; omega)
          · refine ⟨fun c13 => ?_, fun c14 => ?_⟩
            · exact ih.2 l1 l2 l3 ((10 * l2) + l5) (l5 + 1) g ⟨(by have := ti_addK l5 (1 : Int32) 1 rfl; have := ti_sub r5 r7; show 0 ≤ (l5 + 1).toInt ∧ (l5 + 1).toInt ≤ 5 ∧ l2.toInt ≤ 3 ∧ (l2.toInt = -4 ∨ 0 ≤ l2.toInt); omega), hgmi, hgsm, hgzs, hgrw, hgam, (fun k hk => hgf k hk)⟩ (by have := ti_addK l5 (1 : Int32) 1 rfl; have := ti_sub r5 r7; show (5 - (l5 + 1).toInt).toNat < n; omega)
            · exact ih.2 l1 l2 (r5 - r7) ((10 * l2) + l5) (l5 + 1) g ⟨(by have := ti_addK l5 (1 : Int32) 1 rfl; have := ti_sub r5 r7; show 0 ≤ (l5 + 1).toInt ∧ (l5 + 1).toInt ≤ 5 ∧ l2.toInt ≤ 3 ∧ (l2.toInt = -4 ∨ 0 ≤ l2.toInt); omega), hgmi, hgsm, hgzs, hgrw, hgam, (fun k hk => hgf k hk)⟩ (by have := ti_addK l5 (1 : Int32) 1 rfl; have := ti_sub r5 r7; show (5 - (l5 + 1).toInt).toNat < n; omega)
set_option maxRecDepth 100000 in
set_option maxHeartbeats 4000000 in
theorem sf_211_39 (X : qm_X) (h : qm_H) (hp : mi h ∧ sm h ∧ zs h ∧ rw_ h) (Q : qm_Q) (hq : ∀ r : Int32, ∀ h' : qm_H, (mi h' ∧ sm h' ∧ zs h' ∧ rw_ h' ∧ (∀ k, (k < 41 ∨ 41 < k) → h' k = h k)) → Q (some (.int r)) h') : qm_PW X 211 [.ref 39] h Q := by
  have hmmi : mi h := hp.1
  have ⟨⟨_, _⟩, ⟨_, _⟩, ⟨_, _⟩, ⟨_, _⟩, _, _⟩ := hmmi
  have hmsm : sm h := hp.2.1
  have ⟨⟨⟨_, _⟩, _, _⟩, _, _, _⟩ := hmsm
  have hmzs : zs h := hp.2.2.1
  have hmrw : rw_ h := hp.2.2.2
  refine qm_seg_ok (C := qc_211) (rt := some .int) rfl rfl (cuts := [(12, [0, 1, 2, 3]), (90, [0, 1, 2, 3, 4, 5])]) 400 _ _ _ _ ?_
  show qm_PW X 169 [.ref 39] h _
  refine sf_169_39 X h  hmsm _ (fun g1 p2 => ?_)
  have f3 : ∀ k, (k < 41 ∨ 41 < k) → g1 k = h k := fun k hk => (p2.2.1 k (by omega)).trans (rfl)
  have k4 : mi g1 := by unfold mi; rw [p2.2.1 39 (by omega)]; exact hmmi
  have k5 : sm g1 := by unfold sm; rw [p2.2.1 40 (by omega)]; exact hmsm
  have k6 : zs g1 := by unfold zs; rw [p2.2.1 49 (by omega)]; exact hmzs
  have k7 : rw_ g1 := by unfold rw_; rw [p2.2.1 46 (by omega)]; exact hmrw
  show qm_PA X 211 12 [(0, .ref 39), (1, .int 1000000), (2, .int (-4 : Int32)), (3, .int 0)] [] g1 Q
  exact (sf_211_39_c X h hp Q hq _).1 (1000000 : Int32) (-4 : Int32) (0 : Int32) g1 ⟨(by have : (0 : Int32).toInt = 0 := rfl; show 0 ≤ (0 : Int32).toInt ∧ (0 : Int32).toInt ≤ 4 ∧ (-4 : Int32).toInt ≤ 3 ∧ ((-4 : Int32).toInt = -4 ∨ 0 ≤ (-4 : Int32).toInt); rw [ti_n4]; omega), k4, k5, k6, k7, p2.1, (fun k hk => f3 k hk)⟩ (Nat.lt_succ_self _)
-- ThreadBankModel.isSo(I)Z
set_option maxRecDepth 100000 in
set_option maxHeartbeats 4000000 in
theorem sf_227_39_c (X : qm_X) (h : qm_H) (a : Int32) (hp : mi h ∧ sm h ∧ zs h ∧ rw_ h) (Q : qm_Q) (hq : ∀ r : Int32, ∀ h' : qm_H, (mi h' ∧ sm h' ∧ zs h' ∧ rw_ h' ∧ (∀ k, (k < 41 ∨ 45 < k ∨ k = 42 ∨ k = 43 ∨ k = 44) → h' k = h k) ∧ (r = 0 ∨ r = 1)) → Q (some (.int r)) h') : ∀ n : Nat, (∀ (l2 : Int32) (l3 : Int32) (g : qm_H), ((0 ≤ l3.toInt ∧ l3.toInt ≤ 6) ∧ (l2 = 0 ∨ l2 = 1) ∧ mi g ∧ sm g ∧ zs g ∧ rw_ g ∧ ∀ k, (k < 41 ∨ 45 < k ∨ k = 42 ∨ k = 43 ∨ k = 44) → g k = h k) → (6 - l3.toInt).toNat < n → qm_PA X 227 19 [(0, .ref 39), (1, .int a), (2, .int l2), (3, .int l3)] [] g Q) := by
  have hmmi : mi h := hp.1
  have ⟨⟨_, _⟩, ⟨_, _⟩, ⟨_, _⟩, ⟨_, _⟩, _, _⟩ := hmmi
  have hmsm : sm h := hp.2.1
  have ⟨⟨⟨_, _⟩, _, _⟩, _, _, _⟩ := hmsm
  have hmzs : zs h := hp.2.2.1
  have hmrw : rw_ h := hp.2.2.2
  intro n
  induction n with
  | zero => exact fun _ _ _ _ h0 => absurd h0 (Nat.not_lt_zero _)
  | succ n ih =>
    intro l2 l3 g hi hr
    obtain ⟨hi0, hb2, hgmi, hgsm, hgzs, hgrw, hgf⟩ := hi
    have ⟨⟨_, _⟩, ⟨_, _⟩, ⟨_, _⟩, ⟨_, _⟩, _, _⟩ := hgmi
    have ⟨⟨⟨_, _⟩, _, _⟩, _, _, _⟩ := hgsm
    have hsw := sm_saw hgsm l3
    refine qm_seg_ok (C := qc_227) (rt := some .boolean) rfl rfl (cuts := [(19, [0, 1, 2, 3])]) 400 _ _ _ _ ?_
    show (0 ≤ (36 : Int) ∧ (36 : Int) < 147) ∧ (((g 40 36).toInt ≤ l3.toInt → ((l2 = 0 ∨ l2 = 1) ∧ Q (some (.int l2)) g)) ∧ (l3.toInt < (g 40 36).toInt → ((l2 = 0 → (qm_PA X 227 19 [(0, .ref 39), (1, .int a), (2, .int 0), (3, .int (l3 + 1))] [] g Q)) ∧ (¬ l2 = 0 → ((0 ≤ (37 + (2 * l3)).toInt ∧ (37 + (2 * l3)).toInt < 147) ∧ (qm_PW X 181 [.ref 39, .int (g 40 (37 + (2 * l3)).toInt.toNat)] g _))))))
    refine ⟨by decide, ?_⟩
    refine ⟨fun c1 => ?_, fun c2 => ?_⟩
    · exact ⟨hb2, hq l2 g ⟨hgmi, hgsm, hgzs, hgrw, (fun k hk => hgf k hk), hb2⟩⟩
    · refine ⟨fun c3 => ?_, fun c4 => ?_⟩
      · exact ih (0 : Int32) (l3 + 1) g ⟨(by have := ti_addK l3 (1 : Int32) 1 rfl; show 0 ≤ (l3 + 1).toInt ∧ (l3 + 1).toInt ≤ 6; omega), (Or.inl rfl), hgmi, hgsm, hgzs, hgrw, (fun k hk => hgf k hk)⟩ (by have := ti_addK l3 (1 : Int32) 1 rfl; show (6 - (l3 + 1).toInt).toNat < n; omega)
      · refine ⟨(by have := ti_mulL (2 : Int32) 2 rfl l3; have := ti_addL (2 * l3) (37 : Int32) 37 rfl; omega), ?_⟩
        refine sf_181_39 X g (g 40 (37 + (2 * l3)).toInt.toNat) (by have := ti_mulL (2 : Int32) 2 rfl l3; have := ti_addL (2 * l3) (37 : Int32) 37 rfl; omega) _ (fun r5 p6 => ?_)
        show (0 ≤ ((37 + (2 * l3)) + 1).toInt ∧ ((37 + (2 * l3)) + 1).toInt < 147) ∧ ((¬ r5 = (g 40 ((37 + (2 * l3)) + 1).toInt.toNat) → (qm_PA X 227 19 [(0, .ref 39), (1, .int a), (2, .int 0), (3, .int (l3 + 1))] [] g Q)) ∧ (r5 = (g 40 ((37 + (2 * l3)) + 1).toInt.toNat) → (qm_PA X 227 19 [(0, .ref 39), (1, .int a), (2, .int 1), (3, .int (l3 + 1))] [] g Q)))
        refine ⟨(by have := ti_mulL (2 : Int32) 2 rfl l3; have := ti_addL (2 * l3) (37 : Int32) 37 rfl; have := ti_addK (37 + (2 * l3)) (1 : Int32) 1 rfl; omega), ?_⟩
        refine ⟨fun c7 => ?_, fun c8 => ?_⟩
        · exact ih (0 : Int32) (l3 + 1) g ⟨(by have := ti_addK l3 (1 : Int32) 1 rfl; have := ti_mulL (2 : Int32) 2 rfl l3; have := ti_addL (2 * l3) (37 : Int32) 37 rfl; have := ti_addK (37 + (2 * l3)) (1 : Int32) 1 rfl; show 0 ≤ (l3 + 1).toInt ∧ (l3 + 1).toInt ≤ 6; omega), (Or.inl rfl), hgmi, hgsm, hgzs, hgrw, (fun k hk => hgf k hk)⟩ (by have := ti_addK l3 (1 : Int32) 1 rfl; have := ti_mulL (2 : Int32) 2 rfl l3; have := ti_addL (2 * l3) (37 : Int32) 37 rfl; have := ti_addK (37 + (2 * l3)) (1 : Int32) 1 rfl; show (6 - (l3 + 1).toInt).toNat < n; omega)
        · exact ih (1 : Int32) (l3 + 1) g ⟨(by have := ti_addK l3 (1 : Int32) 1 rfl; have := ti_mulL (2 : Int32) 2 rfl l3; have := ti_addL (2 * l3) (37 : Int32) 37 rfl; have := ti_addK (37 + (2 * l3)) (1 : Int32) 1 rfl; show 0 ≤ (l3 + 1).toInt ∧ (l3 + 1).toInt ≤ 6; omega), (Or.inr rfl), hgmi, hgsm, hgzs, hgrw, (fun k hk => hgf k hk)⟩ (by have := ti_addK l3 (1 : Int32) 1 rfl; have := ti_mulL (2 : Int32) 2 rfl l3; have := ti_addL (2 * l3) (37 : Int32) 37 rfl; have := ti_addK (37 + (2 * l3)) (1 : Int32) 1 rfl; show (6 - (l3 + 1).toInt).toNat < n; omega)
set_option maxRecDepth 100000 in
set_option maxHeartbeats 4000000 in
theorem sf_227_39 (X : qm_X) (h : qm_H) (a : Int32) (hp : mi h ∧ sm h ∧ zs h ∧ rw_ h) (Q : qm_Q) (hq : ∀ r : Int32, ∀ h' : qm_H, (mi h' ∧ sm h' ∧ zs h' ∧ rw_ h' ∧ (∀ k, (k < 41 ∨ 45 < k ∨ k = 42 ∨ k = 43 ∨ k = 44) → h' k = h k) ∧ (r = 0 ∨ r = 1)) → Q (some (.int r)) h') : qm_PW X 227 [.ref 39, .int a] h Q := by
  have hmmi : mi h := hp.1
  have ⟨⟨_, _⟩, ⟨_, _⟩, ⟨_, _⟩, ⟨_, _⟩, _, _⟩ := hmmi
  have hmsm : sm h := hp.2.1
  have ⟨⟨⟨_, _⟩, _, _⟩, _, _, _⟩ := hmsm
  have hmzs : zs h := hp.2.2.1
  have hmrw : rw_ h := hp.2.2.2
  refine qm_seg_ok (C := qc_227) (rt := some .boolean) rfl rfl (cuts := [(19, [0, 1, 2, 3])]) 400 _ _ _ _ ?_
  show qm_PW X 169 [.ref 39] h _
  refine sf_169_39 X h  hmsm _ (fun g1 p2 => ?_)
  have f3 : ∀ k, (k < 41 ∨ 45 < k ∨ k = 42 ∨ k = 43 ∨ k = 44) → g1 k = h k := fun k hk => (p2.2.1 k (by omega)).trans (rfl)
  have k4 : mi g1 := by unfold mi; rw [p2.2.1 39 (by omega)]; exact hmmi
  have k5 : sm g1 := by unfold sm; rw [p2.2.1 40 (by omega)]; exact hmsm
  have k6 : zs g1 := by unfold zs; rw [p2.2.1 49 (by omega)]; exact hmzs
  have k7 : rw_ g1 := by unfold rw_; rw [p2.2.1 46 (by omega)]; exact hmrw
  show qm_PW X 177 [.ref 39, .int a] g1 _
  refine sf_177_39 X g1 a p2.1 _ (fun g8 p9 => ?_)
  have f10 : ∀ k, (k < 41 ∨ 45 < k ∨ k = 42 ∨ k = 43 ∨ k = 44) → g8 k = h k := fun k hk => (p9.2 k (by omega)).trans (f3 k hk)
  have k11 : mi g8 := by unfold mi; rw [p9.2 39 (by omega)]; exact k4
  have k12 : sm g8 := by unfold sm; rw [p9.2 40 (by omega)]; exact k5
  have k13 : zs g8 := by unfold zs; rw [p9.2 49 (by omega)]; exact k6
  have k14 : rw_ g8 := by unfold rw_; rw [p9.2 46 (by omega)]; exact k7
  show qm_PW X 180 [.ref 39, .int 9] g8 _
  refine sf_180_39 X g8 (9 : Int32) p9.1 _ (fun g15 p16 => ?_)
  have f17 : ∀ k, (k < 41 ∨ 45 < k ∨ k = 42 ∨ k = 43 ∨ k = 44) → g15 k = h k := fun k hk => (p16 k (by omega)).trans (f10 k hk)
  have k18 : mi g15 := by unfold mi; rw [p16 39 (by omega)]; exact k11
  have k19 : sm g15 := by unfold sm; rw [p16 40 (by omega)]; exact k12
  have k20 : zs g15 := by unfold zs; rw [p16 49 (by omega)]; exact k13
  have k21 : rw_ g15 := by unfold rw_; rw [p16 46 (by omega)]; exact k14
  have k22 : am g15 := by unfold am; rw [p16 41 (by omega)]; exact p9.1
  show qm_PA X 227 19 [(0, .ref 39), (1, .int a), (2, .int 1), (3, .int 0)] [] g15 Q
  exact (sf_227_39_c X h a hp Q hq _) (1 : Int32) (0 : Int32) g15 ⟨(by have : (0 : Int32).toInt = 0 := rfl; show 0 ≤ (0 : Int32).toInt ∧ (0 : Int32).toInt ≤ 6; omega), (Or.inr rfl), k18, k19, k20, k21, (fun k hk => f17 k hk)⟩ (Nat.lt_succ_self _)
-- ThreadBankModel.fits(I)I
set_option maxRecDepth 100000 in
set_option maxHeartbeats 4000000 in
theorem sf_228_39_c (X : qm_X) (h : qm_H) (a : Int32) (hp : mi h ∧ sm h ∧ zs h ∧ rw_ h) (Q : qm_Q) (hq : ∀ r : Int32, ∀ h' : qm_H, (mi h' ∧ sm h' ∧ zs h' ∧ rw_ h' ∧ (∀ k, (k < 41 ∨ 45 < k ∨ k = 42 ∨ k = 43 ∨ k = 44) → h' k = h k)) → Q (some (.int r)) h') : ∀ n : Nat, (∀ (l2 : Int32) (l3 : Int32) (l4 : Int32) (l5 : Int32) (l6 : Int32) (l7 : Int32) (l8 : Int32) (g : qm_H), ((0 ≤ l8.toInt ∧ l8.toInt ≤ 1024 ∧ 0 ≤ l2.toInt ∧ l2.toInt ≤ 1023) ∧ mi g ∧ sm g ∧ zs g ∧ rw_ g ∧ ∀ k, (k < 41 ∨ 45 < k ∨ k = 42 ∨ k = 43 ∨ k = 44) → g k = h k) → (1024 - l8.toInt).toNat < n → qm_PA X 228 44 [(0, .ref 39), (1, .int a), (2, .int l2), (3, .int l3), (4, .int l4), (5, .int l5), (6, .int l6), (7, .int l7), (8, .int l8)] [] g Q) := by
  have hmmi : mi h := hp.1
  have ⟨⟨_, _⟩, ⟨_, _⟩, ⟨_, _⟩, ⟨_, _⟩, _, _⟩ := hmmi
  have hmsm : sm h := hp.2.1
  have ⟨⟨⟨_, _⟩, _, _⟩, _, _, _⟩ := hmsm
  have hmzs : zs h := hp.2.2.1
  have hmrw : rw_ h := hp.2.2.2
  have := bits_le (h 40 4) (by omega) (by omega)
  intro n
  induction n with
  | zero => exact fun _ _ _ _ _ _ _ _ _ h0 => absurd h0 (Nat.not_lt_zero _)
  | succ n ih =>
    intro l2 l3 l4 l5 l6 l7 l8 g hi hr
    obtain ⟨hi0, hgmi, hgsm, hgzs, hgrw, hgf⟩ := hi
    have ⟨⟨_, _⟩, ⟨_, _⟩, ⟨_, _⟩, ⟨_, _⟩, _, _⟩ := hgmi
    have ⟨⟨⟨_, _⟩, _, _⟩, _, _, _⟩ := hgsm
    refine qm_seg_ok (C := qc_228) (rt := some .int) rfl rfl (cuts := [(44, [0, 1, 2, 3, 4, 5, 6, 7, 8])]) 400 _ _ _ _ ?_
    show (l2.toInt < l8.toInt → ((a = 0 → ((¬ a = 0 → (Q (some (.int (-4 : Int32))) g)) ∧ (a = 0 → (Q (some (.int l3)) g)))) ∧ (¬ a = 0 → ((¬ l3 = 0 → ((¬ a = 1 → ((¬ a = 2 → ((¬ a = 3 → (Q (some (.int l7)) g)) ∧ (a = 3 → (Q (some (.int (l2 &&& (l6 ^^^ (-1 : Int32))))) g)))) ∧ (a = 2 → (Q (some (.int l5)) g)))) ∧ (a = 1 → (Q (some (.int l4)) g)))) ∧ (l3 = 0 → ((¬ a = 0 → (Q (some (.int (-4 : Int32))) g)) ∧ (a = 0 → (Q (some (.int l3)) g)))))))) ∧ (l8.toInt ≤ l2.toInt → (qm_PW X 227 [.ref 39, .int l8] g _))
    refine ⟨fun c1 => ?_, fun c2 => ?_⟩
    · refine ⟨fun c3 => ?_, fun c4 => ?_⟩
      · refine ⟨fun c5 => ?_, fun c6 => ?_⟩
        · exact hq (-4 : Int32) g ⟨hgmi, hgsm, hgzs, hgrw, (fun k hk => hgf k hk)⟩
        · exact hq l3 g ⟨hgmi, hgsm, hgzs, hgrw, (fun k hk => hgf k hk)⟩
      · refine ⟨fun c7 => ?_, fun c8 => ?_⟩
        · refine ⟨fun c9 => ?_, fun c10 => ?_⟩
          · refine ⟨fun c11 => ?_, fun c12 => ?_⟩
            · refine ⟨fun c13 => ?_, fun c14 => ?_⟩
              · exact hq l7 g ⟨hgmi, hgsm, hgzs, hgrw, (fun k hk => hgf k hk)⟩
              · exact hq (l2 &&& (l6 ^^^ (-1 : Int32))) g ⟨hgmi, hgsm, hgzs, hgrw, (fun k hk => hgf k hk)⟩
            · exact hq l5 g ⟨hgmi, hgsm, hgzs, hgrw, (fun k hk => hgf k hk)⟩
          · exact hq l4 g ⟨hgmi, hgsm, hgzs, hgrw, (fun k hk => hgf k hk)⟩
        · refine ⟨fun c15 => ?_, fun c16 => ?_⟩
          · exact hq (-4 : Int32) g ⟨hgmi, hgsm, hgzs, hgrw, (fun k hk => hgf k hk)⟩
          · exact hq l3 g ⟨hgmi, hgsm, hgzs, hgrw, (fun k hk => hgf k hk)⟩
    · refine sf_227_39 X g l8 ⟨hgmi, hgsm, hgzs, hgrw⟩ _ (fun r17 g18 p19 => ?_)
      have f20 : ∀ k, (k < 41 ∨ 45 < k ∨ k = 42 ∨ k = 43 ∨ k = 44) → g18 k = h k := fun k hk => (p19.2.2.2.2.1 k (by omega)).trans (hgf k hk)
      show (r17 = 0 → (qm_PA X 228 44 [(0, .ref 39), (1, .int a), (2, .int l2), (3, .int l3), (4, .int l4), (5, .int l5), (6, .int l6), (7, .int l7), (8, .int (l8 + 1))] [] g18 Q)) ∧ (¬ r17 = 0 → ((¬ l3 = 0 → (qm_PW X 207 [.int l8] g18 _)) ∧ (l3 = 0 → (qm_PW X 207 [.int l8] g18 _))))
      refine ⟨fun c21 => ?_, fun c22 => ?_⟩
      · exact ih l2 l3 l4 l5 l6 l7 (l8 + 1) g18 ⟨(by have := ti_addK l8 (1 : Int32) 1 rfl; show 0 ≤ (l8 + 1).toInt ∧ (l8 + 1).toInt ≤ 1024 ∧ 0 ≤ l2.toInt ∧ l2.toInt ≤ 1023; omega), p19.1, p19.2.1, p19.2.2.1, p19.2.2.2.1, (fun k hk => f20 k hk)⟩ (by have := ti_addK l8 (1 : Int32) 1 rfl; show (1024 - (l8 + 1).toInt).toNat < n; omega)
      · refine ⟨fun c23 => ?_, fun c24 => ?_⟩
        · refine sf_207 X g18 l8 trivial _ (fun r25 p26 => ?_)
          show (l7.toInt ≤ r25.toInt → (qm_PA X 228 44 [(0, .ref 39), (1, .int a), (2, .int l2), (3, .int (l3 + 1)), (4, .int l4), (5, .int (l5 &&& l8)), (6, .int (l6 ||| l8)), (7, .int l7), (8, .int (l8 + 1))] [] g18 Q)) ∧ (r25.toInt < l7.toInt → (qm_PW X 207 [.int l8] g18 _))
          refine ⟨fun c27 => ?_, fun c28 => ?_⟩
          · exact ih l2 (l3 + 1) l4 (l5 &&& l8) (l6 ||| l8) l7 (l8 + 1) g18 ⟨(by have := ti_addK l8 (1 : Int32) 1 rfl; show 0 ≤ (l8 + 1).toInt ∧ (l8 + 1).toInt ≤ 1024 ∧ 0 ≤ l2.toInt ∧ l2.toInt ≤ 1023; omega), p19.1, p19.2.1, p19.2.2.1, p19.2.2.2.1, (fun k hk => f20 k hk)⟩ (by have := ti_addK l8 (1 : Int32) 1 rfl; show (1024 - (l8 + 1).toInt).toNat < n; omega)
          · refine sf_207 X g18 l8 trivial _ (fun r29 p30 => ?_)
            show qm_PA X 228 44 [(0, .ref 39), (1, .int a), (2, .int l2), (3, .int (l3 + 1)), (4, .int l4), (5, .int (l5 &&& l8)), (6, .int (l6 ||| l8)), (7, .int r29), (8, .int (l8 + 1))] [] g18 Q
            exact ih l2 (l3 + 1) l4 (l5 &&& l8) (l6 ||| l8) r29 (l8 + 1) g18 ⟨(by have := ti_addK l8 (1 : Int32) 1 rfl; show 0 ≤ (l8 + 1).toInt ∧ (l8 + 1).toInt ≤ 1024 ∧ 0 ≤ l2.toInt ∧ l2.toInt ≤ 1023; omega), p19.1, p19.2.1, p19.2.2.1, p19.2.2.2.1, (fun k hk => f20 k hk)⟩ (by have := ti_addK l8 (1 : Int32) 1 rfl; show (1024 - (l8 + 1).toInt).toNat < n; omega)
        · refine sf_207 X g18 l8 trivial _ (fun r31 p32 => ?_)
          show (l7.toInt ≤ r31.toInt → (qm_PA X 228 44 [(0, .ref 39), (1, .int a), (2, .int l2), (3, .int (l3 + 1)), (4, .int l8), (5, .int (l5 &&& l8)), (6, .int (l6 ||| l8)), (7, .int l7), (8, .int (l8 + 1))] [] g18 Q)) ∧ (r31.toInt < l7.toInt → (qm_PW X 207 [.int l8] g18 _))
          refine ⟨fun c33 => ?_, fun c34 => ?_⟩
          · exact ih l2 (l3 + 1) l8 (l5 &&& l8) (l6 ||| l8) l7 (l8 + 1) g18 ⟨(by have := ti_addK l8 (1 : Int32) 1 rfl; show 0 ≤ (l8 + 1).toInt ∧ (l8 + 1).toInt ≤ 1024 ∧ 0 ≤ l2.toInt ∧ l2.toInt ≤ 1023; omega), p19.1, p19.2.1, p19.2.2.1, p19.2.2.2.1, (fun k hk => f20 k hk)⟩ (by have := ti_addK l8 (1 : Int32) 1 rfl; show (1024 - (l8 + 1).toInt).toNat < n; omega)
          · refine sf_207 X g18 l8 trivial _ (fun r35 p36 => ?_)
            show qm_PA X 228 44 [(0, .ref 39), (1, .int a), (2, .int l2), (3, .int (l3 + 1)), (4, .int l8), (5, .int (l5 &&& l8)), (6, .int (l6 ||| l8)), (7, .int r35), (8, .int (l8 + 1))] [] g18 Q
            exact ih l2 (l3 + 1) l8 (l5 &&& l8) (l6 ||| l8) r35 (l8 + 1) g18 ⟨(by have := ti_addK l8 (1 : Int32) 1 rfl; show 0 ≤ (l8 + 1).toInt ∧ (l8 + 1).toInt ≤ 1024 ∧ 0 ≤ l2.toInt ∧ l2.toInt ≤ 1023; omega), p19.1, p19.2.1, p19.2.2.1, p19.2.2.2.1, (fun k hk => f20 k hk)⟩ (by have := ti_addK l8 (1 : Int32) 1 rfl; show (1024 - (l8 + 1).toInt).toNat < n; omega)
set_option maxRecDepth 100000 in
set_option maxHeartbeats 4000000 in
theorem sf_228_39 (X : qm_X) (h : qm_H) (a : Int32) (hp : mi h ∧ sm h ∧ zs h ∧ rw_ h) (Q : qm_Q) (hq : ∀ r : Int32, ∀ h' : qm_H, (mi h' ∧ sm h' ∧ zs h' ∧ rw_ h' ∧ (∀ k, (k < 41 ∨ 45 < k ∨ k = 42 ∨ k = 43 ∨ k = 44) → h' k = h k)) → Q (some (.int r)) h') : qm_PW X 228 [.ref 39, .int a] h Q := by
  have hmmi : mi h := hp.1
  have ⟨⟨_, _⟩, ⟨_, _⟩, ⟨_, _⟩, ⟨_, _⟩, _, _⟩ := hmmi
  have hmsm : sm h := hp.2.1
  have ⟨⟨⟨_, _⟩, _, _⟩, _, _, _⟩ := hmsm
  have hmzs : zs h := hp.2.2.1
  have hmrw : rw_ h := hp.2.2.2
  have := bits_le (h 40 4) (by omega) (by omega)
  refine qm_seg_ok (C := qc_228) (rt := some .int) rfl rfl (cuts := [(44, [0, 1, 2, 3, 4, 5, 6, 7, 8])]) 400 _ _ _ _ ?_
  show qm_PW X 141 [.long (Int32.toInt64 a), .long 0, .long 4] h _
  refine sf_141 X h ((Int32.toInt64 a) : Int64) (0 : Int64) (4 : Int64) trivial _ (fun r1 p2 => ?_)
  show (¬ r1 = 0 → ((0 ≤ (4 : Int) ∧ (4 : Int) < 147) ∧ (qm_PA X 228 44 [(0, .ref 39), (1, .int a), (2, .int ((1 <<< ((h 40 4) &&& 31)) - 1)), (3, .int 0), (4, .int (-4 : Int32)), (5, .int ((1 <<< ((h 40 4) &&& 31)) - 1)), (6, .int 0), (7, .int 1000000), (8, .int 0)] [] h Q))) ∧ (r1 = 0 → (Q (some (.int (-1 : Int32))) h))
  refine ⟨fun c3 => ?_, fun c4 => ?_⟩
  · have := p2.2.1 c3
    refine ⟨by decide, ?_⟩
    exact (sf_228_39_c X h a hp Q hq _) ((1 <<< ((h 40 4) &&& 31)) - 1) (0 : Int32) (-4 : Int32) ((1 <<< ((h 40 4) &&& 31)) - 1) (0 : Int32) (1000000 : Int32) (0 : Int32) h ⟨(by have : (0 : Int32).toInt = 0 := rfl; have : (0 : Int64).toInt = 0 := rfl; have : (4 : Int64).toInt = 4 := rfl; have := i64 a; show 0 ≤ (0 : Int32).toInt ∧ (0 : Int32).toInt ≤ 1024 ∧ 0 ≤ ((1 <<< ((h 40 4) &&& 31)) - 1).toInt ∧ ((1 <<< ((h 40 4) &&& 31)) - 1).toInt ≤ 1023; omega), hmmi, hmsm, hmzs, hmrw, (fun k hk => rfl)⟩ (Nat.lt_succ_self _)
  · have := p2.2.2 c4
    exact hq (-1 : Int32) h ⟨hmmi, hmsm, hmzs, hmrw, (fun k hk => rfl)⟩
