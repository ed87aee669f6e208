-- ThreadBankModel.spare(I)I
set_option maxRecDepth 100000 in
set_option maxHeartbeats 4000000 in
theorem sf_217_39_c (X : qm_X) (h : qm_H) (a : Int32) (hp : mi h ∧ sm h ∧ zs h ∧ rw_ h) (Q : qm_Q) (hq : ∀ r : Int32, ∀ h' : qm_H, (mi h' ∧ sm h' ∧ zs h' ∧ rw_ h' ∧ (∀ k, (k < 41 ∨ 41 < k) → h' k = h k)) → Q (some (.int r)) h') : ∀ n : Nat, (∀ (l2 : Int32) (l3 : Int32) (l4 : Int32) (g : qm_H), ((0 ≤ l4.toInt ∧ l4.toInt ≤ 16) ∧ mi g ∧ sm g ∧ zs g ∧ rw_ g ∧ am g ∧ ∀ k, (k < 41 ∨ 41 < k) → g k = h k) → ((16 - l4.toInt) * 100 + 50).toNat < n → qm_PA X 217 20 [(0, .ref 39), (1, .int a), (2, .int l2), (3, .int l3), (4, .int l4)] [] g Q) ∧ (∀ (l2 : Int32) (l3 : Int32) (l4 : Int32) (l5 : Int32) (l6 : Int32) (g : qm_H), ((0 ≤ l4.toInt ∧ l4.toInt ≤ 15 ∧ 0 ≤ l6.toInt ∧ l6.toInt ≤ 10) ∧ (l5 = 0 ∨ l5 = 1) ∧ mi g ∧ sm g ∧ zs g ∧ rw_ g ∧ am g ∧ ∀ k, (k < 41 ∨ 41 < k) → g k = h k) → ((16 - l4.toInt) * 100 + 40 - l6.toInt).toNat < n → qm_PA X 217 50 [(0, .ref 39), (1, .int a), (2, .int l2), (3, .int l3), (4, .int l4), (5, .int l5), (6, .int l6)] [] g Q) := by
  have hmmi : mi h := hp.1
  have ⟨⟨_, _⟩, ⟨_, _⟩, ⟨_, _⟩, ⟨_, _⟩, _, _⟩ := hmmi
  have hmsm : sm h := hp.2.1
  have ⟨⟨⟨_, _⟩, _, _⟩, _, _, _⟩ := hmsm
  have hmzs : zs h := hp.2.2.1
  have hmrw : rw_ h := hp.2.2.2
  intro n
  induction n with
  | zero => exact ⟨fun _ _ _ _ _ h0 => absurd h0 (Nat.not_lt_zero _), fun _ _ _ _ _ _ _ h0 => absurd h0 (Nat.not_lt_zero _)⟩
  | succ n ih =>
    refine ⟨?_, ?_⟩
    · intro l2 l3 l4 g hi hr
      obtain ⟨hi0, hgmi, hgsm, hgzs, hgrw, hgam, hgf⟩ := hi
      have ⟨⟨_, _⟩, ⟨_, _⟩, ⟨_, _⟩, ⟨_, _⟩, _, _⟩ := hgmi
      have ⟨⟨⟨_, _⟩, _, _⟩, _, _, _⟩ := hgsm
      have ⟨⟨_, _⟩, ⟨_, _⟩, _, _, _⟩ := hgam
      have := sh_le (g 39 3) (by omega) (by omega)
      refine qm_seg_ok (C := qc_217) (rt := some .int) rfl rfl (cuts := [(20, [0, 1, 2, 3, 4]), (50, [0, 1, 2, 3, 4, 5, 6])]) 400 _ _ _ _ ?_
      show ((1 <<< ((g 39 3) &&& 31)).toInt ≤ l4.toInt → ((¬ a = 0 → (Q (some (.int l3)) g)) ∧ (a = 0 → (Q (some (.int l2)) g)))) ∧ (l4.toInt < (1 <<< ((g 39 3) &&& 31)).toInt → (qm_PW X 207 [.int l4] g _))
      refine ⟨fun c1 => ?_, fun c2 => ?_⟩
      · refine ⟨fun c3 => ?_, fun c4 => ?_⟩
        · exact hq l3 g ⟨hgmi, hgsm, hgzs, hgrw, (fun k hk => hgf k hk)⟩
        · exact hq l2 g ⟨hgmi, hgsm, hgzs, hgrw, (fun k hk => hgf k hk)⟩
      · refine sf_207 X g l4 trivial _ (fun r5 p6 => ?_)
        show (r5.toInt ≤ l2.toInt → (qm_PA X 217 50 [(0, .ref 39), (1, .int a), (2, .int l2), (3, .int l3), (4, .int l4), (5, .int 0), (6, .int 0)] [] g Q)) ∧ (l2.toInt < r5.toInt → (qm_PA X 217 50 [(0, .ref 39), (1, .int a), (2, .int l2), (3, .int l3), (4, .int l4), (5, .int 1), (6, .int 0)] [] g Q))
        refine ⟨fun c7 => ?_, fun c8 => ?_⟩
        · exact ih.2 l2 l3 l4 (0 : Int32) (0 : Int32) g ⟨(by have : (0 : Int32).toInt = 0 := rfl; show 0 ≤ l4.toInt ∧ l4.toInt ≤ 15 ∧ 0 ≤ (0 : Int32).toInt ∧ (0 : Int32).toInt ≤ 10; omega), (Or.inl rfl), hgmi, hgsm, hgzs, hgrw, hgam, (fun k hk => hgf k hk)⟩ (by have : (0 : Int32).toInt = 0 := rfl; show ((16 - l4.toInt) * 100 + 40 - (0 : Int32).toInt).toNat < n; omega)
        · exact ih.2 l2 l3 l4 (1 : Int32) (0 : Int32) g ⟨(by have : (0 : Int32).toInt = 0 := rfl; show 0 ≤ l4.toInt ∧ l4.toInt ≤ 15 ∧ 0 ≤ (0 : Int32).toInt ∧ (0 : Int32).toInt ≤ 10; omega), (Or.inr rfl), hgmi, hgsm, hgzs, hgrw, hgam, (fun k hk => hgf k hk)⟩ (by have : (0 : Int32).toInt = 0 := rfl; show ((16 - l4.toInt) * 100 + 40 - (0 : Int32).toInt).toNat < n; omega)
    · intro l2 l3 l4 l5 l6 g hi hr
      obtain ⟨hi0, hb5, hgmi, hgsm, hgzs, hgrw, hgam, hgf⟩ := hi
      have ⟨⟨_, _⟩, ⟨_, _⟩, ⟨_, _⟩, ⟨_, _⟩, _, _⟩ := hgmi
      have ⟨⟨⟨_, _⟩, _, _⟩, _, _, _⟩ := hgsm
      have ⟨⟨_, _⟩, ⟨_, _⟩, _, _, _⟩ := hgam
      refine qm_seg_ok (C := qc_217) (rt := some .int) rfl rfl (cuts := [(20, [0, 1, 2, 3, 4]), (50, [0, 1, 2, 3, 4, 5, 6])]) 400 _ _ _ _ ?_
      show (0 ≤ (4 : Int) ∧ (4 : Int) < 49) ∧ (((g 41 4).toInt ≤ l6.toInt → ((l5 = 0 → ((l5 = 0 → (qm_PA X 217 20 [(0, .ref 39), (1, .int a), (2, .int l2), (3, .int l3), (4, .int (l4 + 1))] [] g Q)) ∧ (¬ l5 = 0 → (qm_PW X 207 [.int l4] g _)))) ∧ (¬ l5 = 0 → ((l5 = 0 → (qm_PA X 217 20 [(0, .ref 39), (1, .int a), (2, .int l2), (3, .int l4), (4, .int (l4 + 1))] [] g Q)) ∧ (¬ l5 = 0 → (qm_PW X 207 [.int l4] g _)))))) ∧ (l6.toInt < (g 41 4).toInt → ((l5 = 0 → (qm_PA X 217 50 [(0, .ref 39), (1, .int a), (2, .int l2), (3, .int l3), (4, .int l4), (5, .int 0), (6, .int (l6 + 1))] [] g Q)) ∧ (¬ l5 = 0 → (qm_PW X 212 [.ref 39, .int l6] g _)))))
      refine ⟨by decide, ?_⟩
      refine ⟨fun c1 => ?_, fun c2 => ?_⟩
      · refine ⟨fun c3 => ?_, fun c4 => ?_⟩
        · refine ⟨fun c5 => ?_, fun c6 => ?_⟩
          · exact ih.1 l2 l3 (l4 + 1) g ⟨(by have := ti_addK l4 (1 : Int32) 1 rfl; show 0 ≤ (l4 + 1).toInt ∧ (l4 + 1).toInt ≤ 16; omega), hgmi, hgsm, hgzs, hgrw, hgam, (fun k hk => hgf k hk)⟩ (by have := ti_addK l4 (1 : Int32) 1 rfl; show ((16 - (l4 + 1).toInt) * 100 + 50).toNat < n; omega)
          · refine sf_207 X g l4 trivial _ (fun r7 p8 => ?_)
            show qm_PA X 217 20 [(0, .ref 39), (1, .int a), (2, .int r7), (3, .int l3), (4, .int (l4 + 1))] [] g Q
            exact ih.1 r7 l3 (l4 + 1) g ⟨(by have := ti_addK l4 (1 : Int32) 1 rfl; show 0 ≤ (l4 + 1).toInt ∧ (l4 + 1).toInt ≤ 16; omega), hgmi, hgsm, hgzs, hgrw, hgam, (fun k hk => hgf k hk)⟩ (by have := ti_addK l4 (1 : Int32) 1 rfl; show ((16 - (l4 + 1).toInt) * 100 + 50).toNat < n; omega)
        · refine ⟨fun c9 => ?_, fun c10 => ?_⟩
          · exact ih.1 l2 l4 (l4 + 1) g ⟨(by have := ti_addK l4 (1 : Int32) 1 rfl; show 0 ≤ (l4 + 1).toInt ∧ (l4 + 1).toInt ≤ 16; omega), hgmi, hgsm, hgzs, hgrw, hgam, (fun k hk => hgf k hk)⟩ (by have := ti_addK l4 (1 : Int32) 1 rfl; show ((16 - (l4 + 1).toInt) * 100 + 50).toNat < n; omega)
          · refine sf_207 X g l4 trivial _ (fun r11 p12 => ?_)
            show qm_PA X 217 20 [(0, .ref 39), (1, .int a), (2, .int r11), (3, .int l4), (4, .int (l4 + 1))] [] g Q
            exact ih.1 r11 l4 (l4 + 1) g ⟨(by have := ti_addK l4 (1 : Int32) 1 rfl; show 0 ≤ (l4 + 1).toInt ∧ (l4 + 1).toInt ≤ 16; omega), hgmi, hgsm, hgzs, hgrw, hgam, (fun k hk => hgf k hk)⟩ (by have := ti_addK l4 (1 : Int32) 1 rfl; show ((16 - (l4 + 1).toInt) * 100 + 50).toNat < n; omega)
      · refine ⟨fun c13 => ?_, fun c14 => ?_⟩
        · exact ih.2 l2 l3 l4 (0 : Int32) (l6 + 1) g ⟨(by have := ti_addK l6 (1 : Int32) 1 rfl; show 0 ≤ l4.toInt ∧ l4.toInt ≤ 15 ∧ 0 ≤ (l6 + 1).toInt ∧ (l6 + 1).toInt ≤ 10; omega), (Or.inl rfl), hgmi, hgsm, hgzs, hgrw, hgam, (fun k hk => hgf k hk)⟩ (by have := ti_addK l6 (1 : Int32) 1 rfl; show ((16 - l4.toInt) * 100 + 40 - (l6 + 1).toInt).toNat < n; omega)
        · refine sf_212_39 X g l6 ⟨hgam, (by omega)⟩ _ (fun r15 p16 => ?_)
          show ((r15 &&& (l4 ^^^ (-1 : Int32))) = 0 → (qm_PA X 217 50 [(0, .ref 39), (1, .int a), (2, .int l2), (3, .int l3), (4, .int l4), (5, .int 0), (6, .int (l6 + 1))] [] g Q)) ∧ (¬ (r15 &&& (l4 ^^^ (-1 : Int32))) = 0 → (qm_PA X 217 50 [(0, .ref 39), (1, .int a), (2, .int l2), (3, .int l3), (4, .int l4), (5, .int 1), (6, .int (l6 + 1))] [] g Q))
          refine ⟨fun c17 => ?_, fun c18 => ?_⟩
          · exact ih.2 l2 l3 l4 (0 : Int32) (l6 + 1) g ⟨(by have := ti_addK l6 (1 : Int32) 1 rfl; show 0 ≤ l4.toInt ∧ l4.toInt ≤ 15 ∧ 0 ≤ (l6 + 1).toInt ∧ (l6 + 1).toInt ≤ 10; omega), (Or.inl rfl), hgmi, hgsm, hgzs, hgrw, hgam, (fun k hk => hgf k hk)⟩ (by have := ti_addK l6 (1 : Int32) 1 rfl; show ((16 - l4.toInt) * 100 + 40 - (l6 + 1).toInt).toNat < n; omega)
          · exact ih.2 l2 l3 l4 (1 : Int32) (l6 + 1) g ⟨(by have := ti_addK l6 (1 : Int32) 1 rfl; show 0 ≤ l4.toInt ∧ l4.toInt ≤ 15 ∧ 0 ≤ (l6 + 1).toInt ∧ (l6 + 1).toInt ≤ 10; omega), (Or.inr rfl), hgmi, hgsm, hgzs, hgrw, hgam, (fun k hk => hgf k hk)⟩ (by have := ti_addK l6 (1 : Int32) 1 rfl; show ((16 - l4.toInt) * 100 + 40 - (l6 + 1).toInt).toNat < n; omega)
set_option maxRecDepth 100000 in
set_option maxHeartbeats 4000000 in
theorem sf_217_39 (X : qm_X) (h : qm_H) (a : Int32) (hp : mi h ∧ sm h ∧ zs h ∧ rw_ h) (Q : qm_Q) (hq : ∀ r : Int32, ∀ h' : qm_H, (mi h' ∧ sm h' ∧ zs h' ∧ rw_ h' ∧ (∀ k, (k < 41 ∨ 41 < k) → h' k = h k)) → Q (some (.int r)) h') : qm_PW X 217 [.ref 39, .int a] h Q := by
  have hmmi : mi h := hp.1
  have ⟨⟨_, _⟩, ⟨_, _⟩, ⟨_, _⟩, ⟨_, _⟩, _, _⟩ := hmmi
  have hmsm : sm h := hp.2.1
  have ⟨⟨⟨_, _⟩, _, _⟩, _, _, _⟩ := hmsm
  have hmzs : zs h := hp.2.2.1
  have hmrw : rw_ h := hp.2.2.2
  refine qm_seg_ok (C := qc_217) (rt := some .int) rfl rfl (cuts := [(20, [0, 1, 2, 3, 4]), (50, [0, 1, 2, 3, 4, 5, 6])]) 400 _ _ _ _ ?_
  show qm_PW X 168 [.int a] h _
  refine sf_168 X h a trivial _ (fun r1 p2 => ?_)
  show (¬ r1 = 0 → (qm_PW X 169 [.ref 39] h _)) ∧ (r1 = 0 → (Q (some (.int (-1 : Int32))) h))
  refine ⟨fun c3 => ?_, fun c4 => ?_⟩
  · have := p2.2 c3
    refine sf_169_39 X h  hmsm _ (fun g5 p6 => ?_)
    have f7 : ∀ k, (k < 41 ∨ 41 < k) → g5 k = h k := fun k hk => (p6.2.1 k (by omega)).trans (rfl)
    have k8 : mi g5 := by unfold mi; rw [p6.2.1 39 (by omega)]; exact hmmi
    have k9 : sm g5 := by unfold sm; rw [p6.2.1 40 (by omega)]; exact hmsm
    have k10 : zs g5 := by unfold zs; rw [p6.2.1 49 (by omega)]; exact hmzs
    have k11 : rw_ g5 := by unfold rw_; rw [p6.2.1 46 (by omega)]; exact hmrw
    show qm_PA X 217 20 [(0, .ref 39), (1, .int a), (2, .int (-1 : Int32)), (3, .int 0), (4, .int 0)] [] g5 Q
    exact (sf_217_39_c X h a hp Q hq _).1 (-1 : Int32) (0 : Int32) (0 : Int32) g5 ⟨(by have : (0 : Int32).toInt = 0 := rfl; show 0 ≤ (0 : Int32).toInt ∧ (0 : Int32).toInt ≤ 16; omega), k8, k9, k10, k11, p6.1, (fun k hk => f7 k hk)⟩ (Nat.lt_succ_self _)
  · exact hq (-1 : Int32) h ⟨hmmi, hmsm, hmzs, hmrw, (fun k hk => rfl)⟩
