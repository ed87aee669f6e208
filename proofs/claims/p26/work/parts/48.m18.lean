-- ThreadBankModel.slips(II)J
set_option maxRecDepth 100000 in
set_option maxHeartbeats 4000000 in
theorem sf_223_39_c (X : qm_X) (h : qm_H) (a : Int32) (b : Int32) (hp : mi h ∧ sm h ∧ zs h ∧ rw_ h) (Q : qm_Q) (hq : ∀ r : Int64, ∀ h' : qm_H, (mi h' ∧ sm h' ∧ zs h' ∧ rw_ h' ∧ (∀ k, (k < 41 ∨ 41 < k) → h' k = h k)) → Q (some (.long r)) h') : ∀ n : Nat, (∀ (l3 : Int64) (l5 : Int32) (g : qm_H), ((0 ≤ l5.toInt ∧ l5.toInt ≤ 10) ∧ mi g ∧ sm g ∧ zs g ∧ rw_ g ∧ am g ∧ ∀ k, (k < 41 ∨ 41 < k) → g k = h k) → (10 - l5.toInt).toNat < n → qm_PA X 223 32 [(0, .ref 39), (1, .int a), (2, .int b), (3, .long l3), (5, .int l5)] [] g Q) := by
  have hmmi : mi h := hp.1
  have ⟨⟨_, _⟩, ⟨_, _⟩, ⟨_, _⟩, ⟨_, _⟩, _, _⟩ := hmmi
  have hmsm : sm h := hp.2.1
  have ⟨⟨⟨_, _⟩, _, _⟩, _, _, _⟩ := hmsm
  have hmzs : zs h := hp.2.2.1
  have hmrw : rw_ h := hp.2.2.2
  intro n
  induction n with
  | zero => exact fun _ _ _ _ h0 => absurd h0 (Nat.not_lt_zero _)
  | succ n ih =>
    intro l3 l5 g hi hr
    obtain ⟨hi0, hgmi, hgsm, hgzs, hgrw, hgam, hgf⟩ := hi
    have ⟨⟨_, _⟩, ⟨_, _⟩, ⟨_, _⟩, ⟨_, _⟩, _, _⟩ := hgmi
    have ⟨⟨⟨_, _⟩, _, _⟩, _, _, _⟩ := hgsm
    have ⟨⟨_, _⟩, ⟨_, _⟩, _, _, _⟩ := hgam
    refine qm_seg_ok (C := qc_223) (rt := some .long) rfl rfl (cuts := [(32, [0, 1, 2, 3, 5])]) 400 _ _ _ _ ?_
    show (0 ≤ (4 : Int) ∧ (4 : Int) < 49) ∧ (((g 41 4).toInt ≤ l5.toInt → (qm_PW X 220 [.long l3, .long 20, .int b] g _)) ∧ (l5.toInt < (g 41 4).toInt → (qm_PW X 221 [.ref 39, .int l5, .int a] g _)))
    refine ⟨by decide, ?_⟩
    refine ⟨fun c1 => ?_, fun c2 => ?_⟩
    · refine sf_220 X g (l3 : Int64) (20 : Int64) b (by decide) _ (fun r3 p4 => ?_)
      show Q (some (.long r3)) g
      exact hq r3 g ⟨hgmi, hgsm, hgzs, hgrw, (fun k hk => hgf k hk)⟩
    · refine sf_221_39 X g l5 a ⟨hgam, (by omega)⟩ _ (fun r5 p6 => ?_)
      show qm_PA X 223 32 [(0, .ref 39), (1, .int a), (2, .int b), (3, .long (l3 + (Int32.toInt64 r5))), (5, .int (l5 + 1))] [] g Q
      exact ih (l3 + (Int32.toInt64 r5)) (l5 + 1) g ⟨(by have := ti_addK l5 (1 : Int32) 1 rfl; show 0 ≤ (l5 + 1).toInt ∧ (l5 + 1).toInt ≤ 10; omega), hgmi, hgsm, hgzs, hgrw, hgam, (fun k hk => hgf k hk)⟩ (by have := ti_addK l5 (1 : Int32) 1 rfl; show (10 - (l5 + 1).toInt).toNat < n; omega)
set_option maxRecDepth 100000 in
set_option maxHeartbeats 4000000 in
theorem sf_223_39 (X : qm_X) (h : qm_H) (a : Int32) (b : Int32) (hp : mi h ∧ sm h ∧ zs h ∧ rw_ h) (Q : qm_Q) (hq : ∀ r : Int64, ∀ h' : qm_H, (mi h' ∧ sm h' ∧ zs h' ∧ rw_ h' ∧ (∀ k, (k < 41 ∨ 41 < k) → h' k = h k)) → Q (some (.long r)) h') : qm_PW X 223 [.ref 39, .int a, .int b] h Q := by
  have hmmi : mi h := hp.1
  have ⟨⟨_, _⟩, ⟨_, _⟩, ⟨_, _⟩, ⟨_, _⟩, _, _⟩ := hmmi
  have hmsm : sm h := hp.2.1
  have ⟨⟨⟨_, _⟩, _, _⟩, _, _, _⟩ := hmsm
  have hmzs : zs h := hp.2.2.1
  have hmrw : rw_ h := hp.2.2.2
  refine qm_seg_ok (C := qc_223) (rt := some .long) rfl rfl (cuts := [(32, [0, 1, 2, 3, 5])]) 400 _ _ _ _ ?_
  show qm_PW X 141 [.long (Int32.toInt64 a), .long 0, .long 10] h _
  refine sf_141 X h ((Int32.toInt64 a) : Int64) (0 : Int64) (10 : Int64) trivial _ (fun r1 p2 => ?_)
  show (r1 = 0 → (Q (some (.long (-1 : Int64))) h)) ∧ (¬ r1 = 0 → (qm_PW X 168 [.int b] h _))
  refine ⟨fun c3 => ?_, fun c4 => ?_⟩
  · have := p2.2.2 c3
    exact hq (-1 : Int64) h ⟨hmmi, hmsm, hmzs, hmrw, (fun k hk => rfl)⟩
  · have := p2.2.1 c4
    refine sf_168 X h b trivial _ (fun r5 p6 => ?_)
    show (¬ r5 = 0 → (qm_PW X 169 [.ref 39] h _)) ∧ (r5 = 0 → (Q (some (.long (-1 : Int64))) h))
    refine ⟨fun c7 => ?_, fun c8 => ?_⟩
    · have := p6.2 c7
      refine sf_169_39 X h  hmsm _ (fun g9 p10 => ?_)
      have f11 : ∀ k, (k < 41 ∨ 41 < k) → g9 k = h k := fun k hk => (p10.2.1 k (by omega)).trans (rfl)
      have k12 : mi g9 := by unfold mi; rw [p10.2.1 39 (by omega)]; exact hmmi
      have k13 : sm g9 := by unfold sm; rw [p10.2.1 40 (by omega)]; exact hmsm
      have k14 : zs g9 := by unfold zs; rw [p10.2.1 49 (by omega)]; exact hmzs
      have k15 : rw_ g9 := by unfold rw_; rw [p10.2.1 46 (by omega)]; exact hmrw
      show qm_PA X 223 32 [(0, .ref 39), (1, .int a), (2, .int b), (3, .long 0), (5, .int 0)] [] g9 Q
      exact (sf_223_39_c X h a b hp Q hq _) (0 : Int64) (0 : Int32) g9 ⟨(by have : (0 : Int32).toInt = 0 := rfl; have : (0 : Int64).toInt = 0 := rfl; have : (10 : Int64).toInt = 10 := rfl; have := i64 a; show 0 ≤ (0 : Int32).toInt ∧ (0 : Int32).toInt ≤ 10; omega), k12, k13, k14, k15, p10.1, (fun k hk => f11 k hk)⟩ (Nat.lt_succ_self _)
    · exact hq (-1 : Int64) h ⟨hmmi, hmsm, hmzs, hmrw, (fun k hk => rfl)⟩
