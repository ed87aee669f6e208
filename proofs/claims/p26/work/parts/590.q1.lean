-- ThreadBankModel.none(II)J
set_option maxRecDepth 100000 in
set_option maxHeartbeats 4000000 in
theorem sf_224_39_c (X : qm_X) (h : qm_H) (a : Int32) (b : Int32) (hp : mi h ∧ sm h ∧ zs h ∧ rw_ h) (Q : qm_Q) (hq : ∀ r : Int64, ∀ h' : qm_H, (mi h' ∧ sm h' ∧ zs h' ∧ rw_ h' ∧ (∀ k, (k < 41 ∨ 41 < k) → h' k = h k)) → Q (some (.long r)) h') : ∀ n : Nat, (∀ (l3 : Int64) (l5 : Int64) (l7 : Int32) (g : qm_H), ((k20 l5 l7) ∧ mi g ∧ sm g ∧ zs g ∧ rw_ g ∧ am g ∧ ∀ k, (k < 41 ∨ 41 < k) → g k = h k) → (10 - l7.toInt).toNat < n → qm_PA X 224 35 [(0, .ref 39), (1, .int a), (2, .int b), (3, .long l3), (5, .long l5), (7, .int l7)] [] g Q) := by
  have hmmi : mi h := hp.1
  have ⟨⟨_, _⟩, ⟨_, _⟩, ⟨_, _⟩, ⟨_, _⟩, _, _⟩ := hmmi
  have hmsm : sm h := hp.2.1
  have ⟨⟨⟨_, _⟩, _, _⟩, _, _, _⟩ := hmsm
  have hmzs : zs h := hp.2.2.1
  have hmrw : rw_ h := hp.2.2.2
  intro n
  induction n with
  | zero => exact fun _ _ _ _ _ h0 => absurd h0 (Nat.not_lt_zero _)
  | succ n ih =>
    intro l3 l5 l7 g hi hr
    obtain ⟨hi0, hgmi, hgsm, hgzs, hgrw, hgam, hgf⟩ := hi
    have ⟨⟨_, _⟩, ⟨_, _⟩, ⟨_, _⟩, ⟨_, _⟩, _, _⟩ := hgmi
    have ⟨⟨⟨_, _⟩, _, _⟩, _, _, _⟩ := hgsm
    have ⟨⟨_, _⟩, ⟨_, _⟩, _, _, _⟩ := hgam
    have := hi0.1
    have := hi0.2.1
    refine qm_seg_ok (C := qc_224) (rt := some .long) rfl rfl (cuts := [(35, [0, 1, 2, 3, 5, 7])]) 400 _ _ _ _ ?_
    show (0 ≤ (4 : Int) ∧ (4 : Int) < 49) ∧ (((g 41 4).toInt ≤ l7.toInt → (qm_PW X 220 [.long l3, .long l5, .int b] g _)) ∧ (l7.toInt < (g 41 4).toInt → (qm_PW X 221 [.ref 39, .int l7, .int a] g _)))
    refine ⟨by decide, ?_⟩
    refine ⟨fun c1 => ?_, fun c2 => ?_⟩
    · refine sf_220 X g (l3 : Int64) (l5 : Int64) b (k20_ne hi0) _ (fun r3 p4 => ?_)
      show Q (some (.long r3)) g
      exact hq r3 g ⟨hgmi, hgsm, hgzs, hgrw, (fun k hk => hgf k hk)⟩
    · refine sf_221_39 X g l7 a ⟨hgam, (by omega)⟩ _ (fun r5 p6 => ?_)
      show qm_PA X 224 35 [(0, .ref 39), (1, .int a), (2, .int b), (3, .long (l3 * (Int32.toInt64 (20 - r5)))), (5, .long (l5 * 20)), (7, .int (l7 + 1))] [] g Q
      exact ih (l3 * (Int32.toInt64 (20 - r5))) (l5 * 20) (l7 + 1) g ⟨(by show k20 (l5 * 20) (l7 + 1); exact k20_mul hi0 (by omega)), hgmi, hgsm, hgzs, hgrw, hgam, (fun k hk => hgf k hk)⟩ (by have := ti_addK l7 (1 : Int32) 1 rfl; show (10 - (l7 + 1).toInt).toNat < n; omega)
set_option maxRecDepth 100000 in
set_option maxHeartbeats 4000000 in
theorem sf_224_39 (X : qm_X) (h : qm_H) (a : Int32) (b : Int32) (hp : mi h ∧ sm h ∧ zs h ∧ rw_ h) (Q : qm_Q) (hq : ∀ r : Int64, ∀ h' : qm_H, (mi h' ∧ sm h' ∧ zs h' ∧ rw_ h' ∧ (∀ k, (k < 41 ∨ 41 < k) → h' k = h k)) → Q (some (.long r)) h') : qm_PW X 224 [.ref 39, .int a, .int b] h Q := by
  have hmmi : mi h := hp.1
  have ⟨⟨_, _⟩, ⟨_, _⟩, ⟨_, _⟩, ⟨_, _⟩, _, _⟩ := hmmi
  have hmsm : sm h := hp.2.1
  have ⟨⟨⟨_, _⟩, _, _⟩, _, _, _⟩ := hmsm
  have hmzs : zs h := hp.2.2.1
  have hmrw : rw_ h := hp.2.2.2
  refine qm_seg_ok (C := qc_224) (rt := some .long) rfl rfl (cuts := [(35, [0, 1, 2, 3, 5, 7])]) 400 _ _ _ _ ?_
  show qm_PW X 141 [.long (Int32.toInt64 a), .long 0, .long 10] h _
  refine sf_141 X h ((Int32.toInt64 a) : Int64) (0 : Int64) (10 : Int64) trivial _ (fun r1 p2 => ?_)
  show (r1 = 0 → (Q (some (.long (-1 : Int64))) h)) ∧ (¬ r1 = 0 → (qm_PW X 168 [.int b] h _))
  refine ⟨fun c3 => ?_, fun c4 => ?_⟩
  · have := p2.2.2 c3
    exact hq (-1 : Int64) h ⟨hmmi, hmsm, hmzs, hmrw, (fun k hk => rfl)⟩
  · have := p2.2.1 c4
    refine sf_168 X h b trivial _ (fun r5 p6 => ?_)
    show (¬ r5 = 0 → (qm_PW X 169 [.ref 39] h _)) ∧ (r5 = 0 → (Q (some (.long (-1 : Int64))) h))
    refine ⟨fun c7 => ?_, fun c8 => ?_⟩
    · have := p6.2 c7
      refine sf_169_39 X h  hmsm _ (fun g9 p10 => ?_)
      have f11 : ∀ k, (k < 41 ∨ 41 < k) → g9 k = h k := fun k hk => (p10.2.1 k (by omega)).trans (rfl)
      have k12 : mi g9 := by unfold mi; rw [p10.2.1 39 (by omega)]; exact hmmi
      have k13 : sm g9 := by unfold sm; rw [p10.2.1 40 (by omega)]; exact hmsm
      have k14 : zs g9 := by unfold zs; rw [p10.2.1 49 (by omega)]; exact hmzs
      have k15 : rw_ g9 := by unfold rw_; rw [p10.2.1 46 (by omega)]; exact hmrw
      show qm_PA X 224 35 [(0, .ref 39), (1, .int a), (2, .int b), (3, .long 1), (5, .long 1), (7, .int 0)] [] g9 Q
      exact (sf_224_39_c X h a b hp Q hq _) (1 : Int64) (1 : Int64) (0 : Int32) g9 ⟨(by have : (0 : Int64).toInt = 0 := rfl; have : (10 : Int64).toInt = 10 := rfl; have := i64 a; show k20 (1 : Int64) (0 : Int32); exact k20_0), k12, k13, k14, k15, p10.1, (fun k hk => f11 k hk)⟩ (Nat.lt_succ_self _)
    · exact hq (-1 : Int64) h ⟨hmmi, hmsm, hmzs, hmrw, (fun k hk => rfl)⟩
-- ThreadBankModel.kept(III)J
set_option maxRecDepth 100000 in
set_option maxHeartbeats 4000000 in
theorem sf_222_39_c (X : qm_X) (h : qm_H) (a : Int32) (b : Int32) (c : Int32) (hp : mi h ∧ sm h ∧ zs h ∧ rw_ h) (Q : qm_Q) (hq : ∀ r : Int64, ∀ h' : qm_H, (mi h' ∧ sm h' ∧ zs h' ∧ rw_ h' ∧ (∀ k, (k < 41 ∨ 41 < k) → h' k = h k)) → Q (some (.long r)) h') : ∀ n : Nat, (∀ (l4 : Int64) (l6 : Int64) (l8 : Int32) (g : qm_H), ((k20 l6 l8 ∧ 0 ≤ b.toInt ∧ b.toInt ≤ 9) ∧ mi g ∧ sm g ∧ zs g ∧ rw_ g ∧ am g ∧ ∀ k, (k < 41 ∨ 41 < k) → g k = h k) → (10 - l8.toInt).toNat < n → qm_PA X 222 44 [(0, .ref 39), (1, .int a), (2, .int b), (3, .int c), (4, .long l4), (6, .long l6), (8, .int l8)] [] g Q) := by
  have hmmi : mi h := hp.1
  have ⟨⟨_, _⟩, ⟨_, _⟩, ⟨_, _⟩, ⟨_, _⟩, _, _⟩ := hmmi
  have hmsm : sm h := hp.2.1
  have ⟨⟨⟨_, _⟩, _, _⟩, _, _, _⟩ := hmsm
  have hmzs : zs h := hp.2.2.1
  have hmrw : rw_ h := hp.2.2.2
  intro n
  induction n with
  | zero => exact fun _ _ _ _ _ h0 => absurd h0 (Nat.not_lt_zero _)
  | succ n ih =>
    intro l4 l6 l8 g hi hr
    obtain ⟨hi0, hgmi, hgsm, hgzs, hgrw, hgam, hgf⟩ := hi
    have ⟨⟨_, _⟩, ⟨_, _⟩, ⟨_, _⟩, ⟨_, _⟩, _, _⟩ := hgmi
    have ⟨⟨⟨_, _⟩, _, _⟩, _, _, _⟩ := hgsm
    have ⟨⟨_, _⟩, ⟨_, _⟩, _, _, _⟩ := hgam
    have := hi0.1.1
    have := hi0.1.2.1
    refine qm_seg_ok (C := qc_222) (rt := some .long) rfl rfl (cuts := [(44, [0, 1, 2, 3, 4, 6, 8])]) 400 _ _ _ _ ?_
    show (0 ≤ (4 : Int) ∧ (4 : Int) < 49) ∧ (((g 41 4).toInt ≤ l8.toInt → (qm_PW X 220 [.long (l6 - l4), .long l6, .int c] g _)) ∧ (l8.toInt < (g 41 4).toInt → (qm_PW X 178 [.ref 39, .int b, .int l8] g _)))
    refine ⟨by decide, ?_⟩
    refine ⟨fun c1 => ?_, fun c2 => ?_⟩
    · refine sf_220 X g ((l6 - l4) : Int64) (l6 : Int64) c (k20_ne hi0.1) _ (fun r3 p4 => ?_)
      show Q (some (.long r3)) g
      exact hq r3 g ⟨hgmi, hgsm, hgzs, hgrw, (fun k hk => hgf k hk)⟩
    · refine sf_178_39 X g b l8 ⟨hgam, (by omega)⟩ _ (fun r5 p6 => ?_)
      show (r5 = 0 → (qm_PW X 178 [.ref 39, .int b, .int l8] g _)) ∧ (¬ r5 = 0 → (qm_PW X 221 [.ref 39, .int l8, .int a] g _))
      refine ⟨fun c7 => ?_, fun c8 => ?_⟩
      · refine sf_178_39 X g b l8 ⟨hgam, (by omega)⟩ _ (fun r9 p10 => ?_)
        show (r9 = 0 → (qm_PA X 222 44 [(0, .ref 39), (1, .int a), (2, .int b), (3, .int c), (4, .long (l4 * 1)), (6, .long (l6 * 1)), (8, .int (l8 + 1))] [] g Q)) ∧ (¬ r9 = 0 → (qm_PA X 222 44 [(0, .ref 39), (1, .int a), (2, .int b), (3, .int c), (4, .long (l4 * 1)), (6, .long (l6 * 20)), (8, .int (l8 + 1))] [] g Q))
        refine ⟨fun c11 => ?_, fun c12 => ?_⟩
        · exact ih (l4 * 1) (l6 * 1) (l8 + 1) g ⟨(by show k20 (l6 * 1) (l8 + 1) ∧ 0 ≤ b.toInt ∧ b.toInt ≤ 9; exact ⟨k20_one hi0.1 (by omega), by omega, by omega⟩), hgmi, hgsm, hgzs, hgrw, hgam, (fun k hk => hgf k hk)⟩ (by have := ti_addK l8 (1 : Int32) 1 rfl; show (10 - (l8 + 1).toInt).toNat < n; omega)
        · exact ih (l4 * 1) (l6 * 20) (l8 + 1) g ⟨(by show k20 (l6 * 20) (l8 + 1) ∧ 0 ≤ b.toInt ∧ b.toInt ≤ 9; exact ⟨k20_mul hi0.1 (by omega), by omega, by omega⟩), hgmi, hgsm, hgzs, hgrw, hgam, (fun k hk => hgf k hk)⟩ (by have := ti_addK l8 (1 : Int32) 1 rfl; show (10 - (l8 + 1).toInt).toNat < n; omega)
      · refine sf_221_39 X g l8 a ⟨hgam, (by omega)⟩ _ (fun r13 p14 => ?_)
        show qm_PW X 178 [.ref 39, .int b, .int l8] g _
        refine sf_178_39 X g b l8 ⟨hgam, (by omega)⟩ _ (fun r15 p16 => ?_)
        show (r15 = 0 → (qm_PA X 222 44 [(0, .ref 39), (1, .int a), (2, .int b), (3, .int c), (4, .long (l4 * (Int32.toInt64 r13))), (6, .long (l6 * 1)), (8, .int (l8 + 1))] [] g Q)) ∧ (¬ r15 = 0 → (qm_PA X 222 44 [(0, .ref 39), (1, .int a), (2, .int b), (3, .int c), (4, .long (l4 * (Int32.toInt64 r13))), (6, .long (l6 * 20)), (8, .int (l8 + 1))] [] g Q))
        refine ⟨fun c17 => ?_, fun c18 => ?_⟩
        · exact ih (l4 * (Int32.toInt64 r13)) (l6 * 1) (l8 + 1) g ⟨(by show k20 (l6 * 1) (l8 + 1) ∧ 0 ≤ b.toInt ∧ b.toInt ≤ 9; exact ⟨k20_one hi0.1 (by omega), by omega, by omega⟩), hgmi, hgsm, hgzs, hgrw, hgam, (fun k hk => hgf k hk)⟩ (by have := ti_addK l8 (1 : Int32) 1 rfl; show (10 - (l8 + 1).toInt).toNat < n; omega)
        · exact ih (l4 * (Int32.toInt64 r13)) (l6 * 20) (l8 + 1) g ⟨(by show k20 (l6 * 20) (l8 + 1) ∧ 0 ≤ b.toInt ∧ b.toInt ≤ 9; exact ⟨k20_mul hi0.1 (by omega), by omega, by omega⟩), hgmi, hgsm, hgzs, hgrw, hgam, (fun k hk => hgf k hk)⟩ (by have := ti_addK l8 (1 : Int32) 1 rfl; show (10 - (l8 + 1).toInt).toNat < n; omega)
set_option maxRecDepth 100000 in
set_option maxHeartbeats 4000000 in
theorem sf_222_39 (X : qm_X) (h : qm_H) (a : Int32) (b : Int32) (c : Int32) (hp : mi h ∧ sm h ∧ zs h ∧ rw_ h) (Q : qm_Q) (hq : ∀ r : Int64, ∀ h' : qm_H, (mi h' ∧ sm h' ∧ zs h' ∧ rw_ h' ∧ (∀ k, (k < 41 ∨ 41 < k) → h' k = h k)) → Q (some (.long r)) h') : qm_PW X 222 [.ref 39, .int a, .int b, .int c] h Q := by
  have hmmi : mi h := hp.1
  have ⟨⟨_, _⟩, ⟨_, _⟩, ⟨_, _⟩, ⟨_, _⟩, _, _⟩ := hmmi
  have hmsm : sm h := hp.2.1
  have ⟨⟨⟨_, _⟩, _, _⟩, _, _, _⟩ := hmsm
  have hmzs : zs h := hp.2.2.1
  have hmrw : rw_ h := hp.2.2.2
  refine qm_seg_ok (C := qc_222) (rt := some .long) rfl rfl (cuts := [(44, [0, 1, 2, 3, 4, 6, 8])]) 400 _ _ _ _ ?_
  show qm_PW X 141 [.long (Int32.toInt64 a), .long 0, .long 10] h _
  refine sf_141 X h ((Int32.toInt64 a) : Int64) (0 : Int64) (10 : Int64) trivial _ (fun r1 p2 => ?_)
  show (r1 = 0 → (Q (some (.long (-1 : Int64))) h)) ∧ (¬ r1 = 0 → (qm_PW X 167 [.ref 39, .int b] h _))
  refine ⟨fun c3 => ?_, fun c4 => ?_⟩
  · have := p2.2.2 c3
    exact hq (-1 : Int64) h ⟨hmmi, hmsm, hmzs, hmrw, (fun k hk => rfl)⟩
  · have := p2.2.1 c4
    refine sf_167_39 X h b hmsm _ (fun r5 p6 => ?_)
    show (r5 = 0 → (Q (some (.long (-1 : Int64))) h)) ∧ (¬ r5 = 0 → (qm_PW X 168 [.int c] h _))
    refine ⟨fun c7 => ?_, fun c8 => ?_⟩
    · exact hq (-1 : Int64) h ⟨hmmi, hmsm, hmzs, hmrw, (fun k hk => rfl)⟩
    · have := p6.2 c8
      refine sf_168 X h c trivial _ (fun r9 p10 => ?_)
      show (¬ r9 = 0 → (qm_PW X 169 [.ref 39] h _)) ∧ (r9 = 0 → (Q (some (.long (-1 : Int64))) h))
      refine ⟨fun c11 => ?_, fun c12 => ?_⟩
      · have := p10.2 c11
        refine sf_169_39 X h  hmsm _ (fun g13 p14 => ?_)
        have f15 : ∀ k, (k < 41 ∨ 41 < k) → g13 k = h k := fun k hk => (p14.2.1 k (by omega)).trans (rfl)
        have k16 : mi g13 := by unfold mi; rw [p14.2.1 39 (by omega)]; exact hmmi
        have k17 : sm g13 := by unfold sm; rw [p14.2.1 40 (by omega)]; exact hmsm
        have k18 : zs g13 := by unfold zs; rw [p14.2.1 49 (by omega)]; exact hmzs
        have k19 : rw_ g13 := by unfold rw_; rw [p14.2.1 46 (by omega)]; exact hmrw
        show qm_PA X 222 44 [(0, .ref 39), (1, .int a), (2, .int b), (3, .int c), (4, .long 1), (6, .long 1), (8, .int 0)] [] g13 Q
        exact (sf_222_39_c X h a b c hp Q hq _) (1 : Int64) (1 : Int64) (0 : Int32) g13 ⟨(by have : (0 : Int64).toInt = 0 := rfl; have : (10 : Int64).toInt = 10 := rfl; have := i64 a; show k20 (1 : Int64) (0 : Int32) ∧ 0 ≤ b.toInt ∧ b.toInt ≤ 9; exact ⟨k20_0, by omega, by omega⟩), k16, k17, k18, k19, p14.1, (fun k hk => f15 k hk)⟩ (Nat.lt_succ_self _)
      · exact hq (-1 : Int64) h ⟨hmmi, hmsm, hmzs, hmrw, (fun k hk => rfl)⟩
