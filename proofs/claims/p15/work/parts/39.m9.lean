-- ThreadBankModel.sheet(III)I
set_option maxRecDepth 100000 in
set_option maxHeartbeats 4000000 in
theorem sf_234_39_c (X : qm_X) (h : qm_H) (a : Int32) (b : Int32) (c : Int32) (hp : mi h ∧ sm h ∧ zs h ∧ rw_ h) (Q : qm_Q) (hq : ∀ r : Int32, ∀ h' : qm_H, (mi h' ∧ sm h' ∧ zs h' ∧ rw_ h' ∧ (∀ k, (k < 48 ∨ 50 < k) → h' k = h k)) → Q (some (.int r)) h') : ∀ n : Nat, (∀ (l4 : Int32) (g : qm_H), ((0 ≤ l4.toInt ∧ l4.toInt ≤ 40 ∧ 0 ≤ a.toInt ∧ a.toInt ≤ 3) ∧ mi g ∧ sm g ∧ zs g ∧ rw_ g ∧ ∀ k, (k < 48 ∨ 50 < k) → g k = h k) → (40 - l4.toInt).toNat < n → qm_PA X 234 40 [(0, .ref 39), (1, .int a), (2, .int b), (3, .int c), (4, .int l4)] [] g Q) := by
  have hmmi : mi h := hp.1
  have ⟨⟨_, _⟩, ⟨_, _⟩, ⟨_, _⟩, ⟨_, _⟩, _, _⟩ := hmmi
  have hmsm : sm h := hp.2.1
  have ⟨⟨⟨_, _⟩, _, _⟩, _, _, _⟩ := hmsm
  have hmzs : zs h := hp.2.2.1
  have hmrw : rw_ h := hp.2.2.2
  intro n
  induction n with
  | zero => exact fun _ _ _ h0 => absurd h0 (Nat.not_lt_zero _)
  | succ n ih =>
    intro l4 g hi hr
    obtain ⟨hi0, hgmi, hgsm, hgzs, hgrw, hgf⟩ := hi
    have ⟨⟨_, _⟩, ⟨_, _⟩, ⟨_, _⟩, ⟨_, _⟩, _, _⟩ := hgmi
    have ⟨⟨⟨_, _⟩, _, _⟩, _, _, _⟩ := hgsm
    refine qm_seg_ok (C := qc_234) (rt := some .int) rfl rfl (cuts := [(40, [0, 1, 2, 3, 4])]) 400 _ _ _ _ ?_
    show (40 ≤ l4.toInt → (Q (some (.int 1)) g)) ∧ (l4.toInt < 40 → ((0 ≤ ((40 * a) + l4).toInt ∧ ((40 * a) + l4).toInt < 160) ∧ (qm_PA X 234 40 [(0, .ref 39), (1, .int a), (2, .int b), (3, .int c), (4, .int (l4 + 1))] [] (qm_row g 50 (upd (g 50) ((40 * a) + l4).toInt.toNat 0)) Q)))
    refine ⟨fun c1 => ?_, fun c2 => ?_⟩
    · exact hq 1 g ⟨hgmi, hgsm, hgzs, hgrw, (fun k hk => hgf k hk)⟩
    · refine ⟨(by have := ti_mulL (40 : Int32) 40 rfl a; have := ti_add (40 * a) l4; omega), ?_⟩
      exact ih (l4 + 1) (qm_row g 50 (upd (g 50) ((40 * a) + l4).toInt.toNat 0)) ⟨(by have := ti_addK l4 (1 : Int32) 1 rfl; show 0 ≤ (l4 + 1).toInt ∧ (l4 + 1).toInt ≤ 40 ∧ 0 ≤ a.toInt ∧ a.toInt ≤ 3; omega), (by exact hgmi), (by exact hgsm), (by exact hgzs), (by exact hgrw), (fun k hk => by simp only [qm_row]; rw [if_neg (by omega)]; exact hgf k hk)⟩ (by have := ti_addK l4 (1 : Int32) 1 rfl; show (40 - (l4 + 1).toInt).toNat < n; omega)
set_option maxRecDepth 100000 in
set_option maxHeartbeats 4000000 in
theorem sf_234_39 (X : qm_X) (h : qm_H) (a : Int32) (b : Int32) (c : Int32) (hp : mi h ∧ sm h ∧ zs h ∧ rw_ h) (Q : qm_Q) (hq : ∀ r : Int32, ∀ h' : qm_H, (mi h' ∧ sm h' ∧ zs h' ∧ rw_ h' ∧ (∀ k, (k < 48 ∨ 50 < k) → h' k = h k)) → Q (some (.int r)) h') : qm_PW X 234 [.ref 39, .int a, .int b, .int c] h Q := by
  have hmmi : mi h := hp.1
  have ⟨⟨_, _⟩, ⟨_, _⟩, ⟨_, _⟩, ⟨_, _⟩, _, _⟩ := hmmi
  have hmsm : sm h := hp.2.1
  have ⟨⟨⟨_, _⟩, _, _⟩, _, _, _⟩ := hmsm
  have hmzs : zs h := hp.2.2.1
  have hmrw : rw_ h := hp.2.2.2
  refine qm_seg_ok (C := qc_234) (rt := some .int) rfl rfl (cuts := [(40, [0, 1, 2, 3, 4])]) 400 _ _ _ _ ?_
  show qm_PW X 233 [.int a, .int b] h _
  refine sf_233 X h a b trivial _ (fun r1 p2 => ?_)
  show (r1 = 0 → (Q (some (.int (-1 : Int32))) h)) ∧ (¬ r1 = 0 → ((c.toInt ≤ 40 → ((0 ≤ c.toInt → ((0 ≤ a.toInt ∧ a.toInt < 4) ∧ ((0 ≤ a.toInt ∧ a.toInt < 4) ∧ (qm_PA X 234 40 [(0, .ref 39), (1, .int a), (2, .int b), (3, .int c), (4, .int 0)] [] (qm_row (qm_row h 48 (upd (h 48) a.toInt.toNat b)) 49 (upd (h 49) a.toInt.toNat c)) Q)))) ∧ (c.toInt < 0 → (Q (some (.int (-14 : Int32))) h)))) ∧ (40 < c.toInt → (Q (some (.int (-1 : Int32))) h))))
  refine ⟨fun c3 => ?_, fun c4 => ?_⟩
  · exact hq (-1 : Int32) h ⟨hmmi, hmsm, hmzs, hmrw, (fun k hk => rfl)⟩
  · have := p2.2 c4
    refine ⟨fun c5 => ?_, fun c6 => ?_⟩
    · refine ⟨fun c7 => ?_, fun c8 => ?_⟩
      · refine ⟨(by omega), ?_⟩
        refine ⟨(by omega), ?_⟩
        exact (sf_234_39_c X h a b c hp Q hq _) (0 : Int32) (qm_row (qm_row h 48 (upd (h 48) a.toInt.toNat b)) 49 (upd (h 49) a.toInt.toNat c)) ⟨(by have : (0 : Int32).toInt = 0 := rfl; show 0 ≤ (0 : Int32).toInt ∧ (0 : Int32).toInt ≤ 40 ∧ 0 ≤ a.toInt ∧ a.toInt ≤ 3; omega), (by exact hmmi), (by exact hmsm), (by intro j; show 0 ≤ (upd _ _ _ j).toInt ∧ (upd _ _ _ j).toInt ≤ 40; unfold upd; (split <;> first | omega | exact hmzs j)), (by exact hmrw), (fun k hk => by simp only [qm_row]; rw [if_neg (by omega)]; rw [if_neg (by omega)])⟩ (Nat.lt_succ_self _)
      · exact hq (-14 : Int32) h ⟨hmmi, hmsm, hmzs, hmrw, (fun k hk => rfl)⟩
    · exact hq (-1 : Int32) h ⟨hmmi, hmsm, hmzs, hmrw, (fun k hk => rfl)⟩
-- ThreadBankModel.lay(III)I
set_option maxRecDepth 100000 in
set_option maxHeartbeats 4000000 in
theorem sf_235_39 (X : qm_X) (h : qm_H) (a : Int32) (b : Int32) (c : Int32) (hp : mi h ∧ sm h ∧ zs h ∧ rw_ h) (Q : qm_Q) (hq : ∀ r : Int32, ∀ h' : qm_H, (mi h' ∧ sm h' ∧ zs h' ∧ rw_ h' ∧ (∀ k, (k < 50 ∨ 50 < k) → h' k = h k)) → Q (some (.int r)) h') : qm_PW X 235 [.ref 39, .int a, .int b, .int c] h Q := by
  have hmmi : mi h := hp.1
  have ⟨⟨_, _⟩, ⟨_, _⟩, ⟨_, _⟩, ⟨_, _⟩, _, _⟩ := hmmi
  have hmsm : sm h := hp.2.1
  have ⟨⟨⟨_, _⟩, _, _⟩, _, _, _⟩ := hmsm
  have hmzs : zs h := hp.2.2.1
  have hmrw : rw_ h := hp.2.2.2
  refine qm_seg_ok (C := qc_235) (rt := some .int) rfl rfl (cuts := []) 400 _ _ _ _ ?_
  show qm_PW X 233 [.int a, .int 0] h _
  refine sf_233 X h a (0 : Int32) trivial _ (fun r1 p2 => ?_)
  show (¬ r1 = 0 → ((0 ≤ a.toInt ∧ a.toInt < 4) ∧ ((¬ (h 48 a.toInt.toNat) = (-4 : Int32) → ((0 ≤ a.toInt ∧ a.toInt < 4) ∧ (qm_PW X 141 [.long (Int32.toInt64 b), .long 0, .long (Int32.toInt64 ((h 49 a.toInt.toNat) - 1))] h _))) ∧ ((h 48 a.toInt.toNat) = (-4 : Int32) → (Q (some (.int (-11 : Int32))) h))))) ∧ (r1 = 0 → (Q (some (.int (-1 : Int32))) h))
  refine ⟨fun c3 => ?_, fun c4 => ?_⟩
  · have := p2.2 c3
    refine ⟨(by have : (0 : Int32).toInt = 0 := rfl; omega), ?_⟩
    refine ⟨fun c5 => ?_, fun c6 => ?_⟩
    · refine ⟨(by have : (0 : Int32).toInt = 0 := rfl; omega), ?_⟩
      refine sf_141 X h ((Int32.toInt64 b) : Int64) (0 : Int64) ((Int32.toInt64 ((h 49 a.toInt.toNat) - 1)) : Int64) trivial _ (fun r7 p8 => ?_)
      show (¬ r7 = 0 → ((0 ≤ a.toInt ∧ a.toInt < 4) ∧ ((¬ (h 48 a.toInt.toNat) = 0 → ((0 ≤ a.toInt ∧ a.toInt < 4) ∧ ((¬ (h 48 a.toInt.toNat) = 1 → ((0 ≤ ((40 * a) + b).toInt ∧ ((40 * a) + b).toInt < 160) ∧ (Q (some (.int 1)) (qm_row h 50 (upd (h 50) ((40 * a) + b).toInt.toNat c))))) ∧ ((h 48 a.toInt.toNat) = 1 → ((0 ≤ ((40 * a) + b).toInt ∧ ((40 * a) + b).toInt < 160) ∧ (Q (some (.int 1)) (qm_row h 50 (upd (h 50) ((40 * a) + b).toInt.toNat ((Int32.toInt16 c).toInt32))))))))) ∧ ((h 48 a.toInt.toNat) = 0 → ((0 ≤ ((40 * a) + b).toInt ∧ ((40 * a) + b).toInt < 160) ∧ (Q (some (.int 1)) (qm_row h 50 (upd (h 50) ((40 * a) + b).toInt.toNat ((Int32.toInt8 c).toInt32))))))))) ∧ (r7 = 0 → (Q (some (.int (-12 : Int32))) h))
      refine ⟨fun c9 => ?_, fun c10 => ?_⟩
      · have := p8.2.1 c9
        refine ⟨(by have := hmzs (a.toInt.toNat); have : (0 : Int32).toInt = 0 := rfl; have := ti_subK (h 49 a.toInt.toNat) (1 : Int32) 1 rfl; have : (0 : Int64).toInt = 0 := rfl; have := i64 b; have := i64 ((h 49 a.toInt.toNat) - 1); omega), ?_⟩
        refine ⟨fun c11 => ?_, fun c12 => ?_⟩
        · refine ⟨(by have := hmzs (a.toInt.toNat); have : (0 : Int32).toInt = 0 := rfl; have := ti_subK (h 49 a.toInt.toNat) (1 : Int32) 1 rfl; have : (0 : Int64).toInt = 0 := rfl; have := i64 b; have := i64 ((h 49 a.toInt.toNat) - 1); omega), ?_⟩
          refine ⟨fun c13 => ?_, fun c14 => ?_⟩
          · refine ⟨(by have := hmzs (a.toInt.toNat); have : (0 : Int32).toInt = 0 := rfl; have := ti_mulL (40 : Int32) 40 rfl a; have := ti_add (40 * a) b; have := ti_subK (h 49 a.toInt.toNat) (1 : Int32) 1 rfl; have : (0 : Int64).toInt = 0 := rfl; have := i64 b; have := i64 ((h 49 a.toInt.toNat) - 1); omega), ?_⟩
            exact hq 1 (qm_row h 50 (upd (h 50) ((40 * a) + b).toInt.toNat c)) ⟨(by exact hmmi), (by exact hmsm), (by exact hmzs), (by exact hmrw), (fun k hk => by simp only [qm_row]; rw [if_neg (by omega)])⟩
          · refine ⟨(by have := hmzs (a.toInt.toNat); have : (0 : Int32).toInt = 0 := rfl; have := ti_mulL (40 : Int32) 40 rfl a; have := ti_add (40 * a) b; have := ti_subK (h 49 a.toInt.toNat) (1 : Int32) 1 rfl; have : (0 : Int64).toInt = 0 := rfl; have := i64 b; have := i64 ((h 49 a.toInt.toNat) - 1); omega), ?_⟩
            exact hq 1 (qm_row h 50 (upd (h 50) ((40 * a) + b).toInt.toNat ((Int32.toInt16 c).toInt32))) ⟨(by exact hmmi), (by exact hmsm), (by exact hmzs), (by exact hmrw), (fun k hk => by simp only [qm_row]; rw [if_neg (by omega)])⟩
        · refine ⟨(by have := hmzs (a.toInt.toNat); have : (0 : Int32).toInt = 0 := rfl; have := ti_mulL (40 : Int32) 40 rfl a; have := ti_add (40 * a) b; have := ti_subK (h 49 a.toInt.toNat) (1 : Int32) 1 rfl; have : (0 : Int64).toInt = 0 := rfl; have := i64 b; have := i64 ((h 49 a.toInt.toNat) - 1); omega), ?_⟩
          exact hq 1 (qm_row h 50 (upd (h 50) ((40 * a) + b).toInt.toNat ((Int32.toInt8 c).toInt32))) ⟨(by exact hmmi), (by exact hmsm), (by exact hmzs), (by exact hmrw), (fun k hk => by simp only [qm_row]; rw [if_neg (by omega)])⟩
      · have := p8.2.2 c10
        exact hq (-12 : Int32) h ⟨hmmi, hmsm, hmzs, hmrw, (fun k hk => rfl)⟩
    · exact hq (-11 : Int32) h ⟨hmmi, hmsm, hmzs, hmrw, (fun k hk => rfl)⟩
  · exact hq (-1 : Int32) h ⟨hmmi, hmsm, hmzs, hmrw, (fun k hk => rfl)⟩
-- ThreadBankModel.keep(I)I
set_option maxRecDepth 100000 in
set_option maxHeartbeats 4000000 in
theorem sf_231_39 (X : qm_X) (h : qm_H) (a : Int32) (hp : mi h ∧ sm h ∧ zs h ∧ rw_ h) (Q : qm_Q) (hq : ∀ r : Int32, ∀ h' : qm_H, (mi h' ∧ sm h' ∧ zs h' ∧ rw_ h' ∧ (∀ k, (k < 40 ∨ 42 < k) → h' k = h k)) → Q (some (.int r)) h') : qm_PW X 231 [.ref 39, .int a] h Q := by
  have hmmi : mi h := hp.1
  have ⟨⟨_, _⟩, ⟨_, _⟩, ⟨_, _⟩, ⟨_, _⟩, _, _⟩ := hmmi
  have hmsm : sm h := hp.2.1
  have ⟨⟨⟨_, _⟩, _, _⟩, _, _, _⟩ := hmsm
  have hmzs : zs h := hp.2.2.1
  have hmrw : rw_ h := hp.2.2.2
  refine qm_seg_ok (C := qc_231) (rt := some .int) rfl rfl (cuts := []) 400 _ _ _ _ ?_
  show qm_PW X 141 [.long (Int32.toInt64 a), .long 0, .long 1] h _
  refine sf_141 X h ((Int32.toInt64 a) : Int64) (0 : Int64) (1 : Int64) trivial _ (fun r1 p2 => ?_)
  show (¬ r1 = 0 → ((0 ≤ a.toInt ∧ a.toInt < 2) ∧ (qm_PW X 142 [.int (h 42 a.toInt.toNat)] h _))) ∧ (r1 = 0 → (Q (some (.int (-1 : Int32))) h))
  refine ⟨fun c3 => ?_, fun c4 => ?_⟩
  · have := p2.2.1 c3
    refine ⟨(by have : (0 : Int64).toInt = 0 := rfl; have : (1 : Int64).toInt = 1 := rfl; have := i64 a; omega), ?_⟩
    refine sf_142 X h (h 42 a.toInt.toNat) trivial _ (fun r5 p6 => ?_)
    show (0 ≤ a.toInt ∧ a.toInt < 2) ∧ (qm_PW X 230 [.ref 39, .int (49 * (a + 1)), .int 0] (qm_row h 42 (upd (h 42) a.toInt.toNat (vp_nar .boolean 1))) _)
    refine ⟨(by have : (0 : Int64).toInt = 0 := rfl; have : (1 : Int64).toInt = 1 := rfl; have := i64 a; omega), ?_⟩
    refine sf_230_39 X (qm_row h 42 (upd (h 42) a.toInt.toNat (vp_nar .boolean 1))) (49 * (a + 1)) (0 : Int32) ⟨(by exact hmsm), (by have : (0 : Int32).toInt = 0 := rfl; have := ti_addK a (1 : Int32) 1 rfl; have := ti_mulL (49 : Int32) 49 rfl (a + 1); have : (0 : Int64).toInt = 0 := rfl; have : (1 : Int64).toInt = 1 := rfl; have := i64 a; omega)⟩ _ (fun g7 p8 => ?_)
    have f9 : ∀ k, (k < 40 ∨ 42 < k) → g7 k = h k := fun k hk => (p8.2.1 k (by omega)).trans (by simp only [qm_row]; rw [if_neg (by omega)])
    have k10 : mi g7 := by unfold mi; rw [p8.2.1 39 (by omega)]; exact hmmi
    have k11 : zs g7 := by unfold zs; rw [p8.2.1 49 (by omega)]; exact hmzs
    have k12 : rw_ g7 := by unfold rw_; rw [p8.2.1 46 (by omega)]; exact hmrw
    show Q (some (.int r5)) g7
    exact hq r5 g7 ⟨k10, p8.1, k11, k12, (fun k hk => f9 k hk)⟩
  · have := p2.2.2 c4
    exact hq (-1 : Int32) h ⟨hmmi, hmsm, hmzs, hmrw, (fun k hk => rfl)⟩
-- ThreadBankModel.back(I)I
set_option maxRecDepth 100000 in
set_option maxHeartbeats 4000000 in
theorem sf_232_39 (X : qm_X) (h : qm_H) (a : Int32) (hp : mi h ∧ sm h ∧ zs h ∧ rw_ h) (Q : qm_Q) (hq : ∀ r : Int32, ∀ h' : qm_H, (mi h' ∧ sm h' ∧ zs h' ∧ rw_ h' ∧ (∀ k, (k < 40 ∨ 40 < k) → h' k = h k)) → Q (some (.int r)) h') : qm_PW X 232 [.ref 39, .int a] h Q := by
  have hmmi : mi h := hp.1
  have ⟨⟨_, _⟩, ⟨_, _⟩, ⟨_, _⟩, ⟨_, _⟩, _, _⟩ := hmmi
  have hmsm : sm h := hp.2.1
  have ⟨⟨⟨_, _⟩, _, _⟩, _, _, _⟩ := hmsm
  have hmzs : zs h := hp.2.2.1
  have hmrw : rw_ h := hp.2.2.2
  refine qm_seg_ok (C := qc_232) (rt := some .int) rfl rfl (cuts := []) 400 _ _ _ _ ?_
  show qm_PW X 141 [.long (Int32.toInt64 a), .long 0, .long 1] h _
  refine sf_141 X h ((Int32.toInt64 a) : Int64) (0 : Int64) (1 : Int64) trivial _ (fun r1 p2 => ?_)
  show (¬ r1 = 0 → ((0 ≤ a.toInt ∧ a.toInt < 2) ∧ ((¬ (h 42 a.toInt.toNat) = 0 → (qm_PW X 230 [.ref 39, .int 0, .int (49 * (a + 1))] h _)) ∧ ((h 42 a.toInt.toNat) = 0 → (Q (some (.int (-2 : Int32))) h))))) ∧ (r1 = 0 → (Q (some (.int (-1 : Int32))) h))
  refine ⟨fun c3 => ?_, fun c4 => ?_⟩
  · have := p2.2.1 c3
    refine ⟨(by have : (0 : Int64).toInt = 0 := rfl; have : (1 : Int64).toInt = 1 := rfl; have := i64 a; omega), ?_⟩
    refine ⟨fun c5 => ?_, fun c6 => ?_⟩
    · refine sf_230_39 X h (0 : Int32) (49 * (a + 1)) ⟨hmsm, (by have : (0 : Int32).toInt = 0 := rfl; have := ti_addK a (1 : Int32) 1 rfl; have := ti_mulL (49 : Int32) 49 rfl (a + 1); have : (0 : Int64).toInt = 0 := rfl; have : (1 : Int64).toInt = 1 := rfl; have := i64 a; omega)⟩ _ (fun g7 p8 => ?_)
      have f9 : ∀ k, (k < 40 ∨ 40 < k) → g7 k = h k := fun k hk => (p8.2.1 k (by omega)).trans (rfl)
      have k10 : mi g7 := by unfold mi; rw [p8.2.1 39 (by omega)]; exact hmmi
      have k11 : zs g7 := by unfold zs; rw [p8.2.1 49 (by omega)]; exact hmzs
      have k12 : rw_ g7 := by unfold rw_; rw [p8.2.1 46 (by omega)]; exact hmrw
      show (0 ≤ (4 : Int) ∧ (4 : Int) < 147) ∧ (Q (some (.int (g7 40 4))) g7)
      refine ⟨by decide, ?_⟩
      exact hq (g7 40 4) g7 ⟨k10, p8.1, k11, k12, (fun k hk => f9 k hk)⟩
    · exact hq (-2 : Int32) h ⟨hmmi, hmsm, hmzs, hmrw, (fun k hk => rfl)⟩
  · have := p2.2.2 c4
    exact hq (-1 : Int32) h ⟨hmmi, hmsm, hmzs, hmrw, (fun k hk => rfl)⟩
-- ThreadBankModel.spare(I)I
set_option maxRecDepth 100000 in
set_option maxHeartbeats 4000000 in
theorem sf_217_39_c (X : qm_X) (h : qm_H) (a : Int32) (hp : mi h ∧ sm h ∧ zs h ∧ rw_ h) (Q : qm_Q) (hq : ∀ r : Int32, ∀ h' : qm_H, (mi h' ∧ sm h' ∧ zs h' ∧ rw_ h' ∧ (∀ k, (k < 41 ∨ 41 < k) → h' k = h k)) → Q (some (.int r)) h') : ∀ n : Nat, (∀ (l2 : Int32) (l3 : Int32) (l4 : Int32) (g : qm_H), ((0 ≤ l4.toInt ∧ l4.toInt ≤ 16) ∧ mi g ∧ sm g ∧ zs g ∧ rw_ g ∧ am g ∧ ∀ k, (k < 41 ∨ 41 < k) → g k = h k) → ((16 - l4.toInt) * 100 + 50).toNat < n → qm_PA X 217 20 [(0, .ref 39), (1, .int a), (2, .int l2), (3, .int l3), (4, .int l4)] [] g Q) ∧ (∀ (l2 : Int32) (l3 : Int32) (l4 : Int32) (l5 : Int32) (l6 : Int32) (g : qm_H), ((0 ≤ l4.toInt ∧ l4.toInt ≤ 15 ∧ 0 ≤ l6.toInt ∧ l6.toInt ≤ 10) ∧ (l5 = 0 ∨ l5 = 1) ∧ mi g ∧ sm g ∧ zs g ∧ rw_ g ∧ am g ∧ ∀ k, (k < 41 ∨ 41 < k) → g k = h k) → ((16 - l4.toInt) * 100 + 40 - l6.toInt).toNat < n → qm_PA X 217 50 [(0, .ref 39), (1, .int a), (2, .int l2), (3, .int l3), (4, .int l4), (5, .int l5), (6, .int l6)] [] g Q) := by
  have hmmi : mi h := hp.1
  have ⟨⟨_, _⟩, ⟨_, _⟩, ⟨_, _⟩, ⟨_, _⟩, _, _⟩ := hmmi
  have hmsm : sm h := hp.2.1
  have ⟨⟨⟨_, _⟩, _, _⟩, _, _, _⟩ := hmsm
  have hmzs : zs h := hp.2.2.1
  have hmrw : rw_ h := hp.2.2.2
  intro n
  induction n with
  | zero => exact ⟨fun _ _ _ _ _ h0 => absurd h0 (Nat.not_lt_zero _), fun _ _ _ _ _ _ _ h0 => absurd h0 (Nat.not_lt_zero _)⟩
  | succ n ih =>
    refine ⟨?_, ?_⟩
    · intro l2 l3 l4 g hi hr
      obtain ⟨hi0, hgmi, hgsm, hgzs, hgrw, hgam, hgf⟩ := hi
      have ⟨⟨_, _⟩, ⟨_, _⟩, ⟨_, _⟩, ⟨_, _⟩, _, _⟩ := hgmi
      have ⟨⟨⟨_, _⟩, _, _⟩, _, _, _⟩ := hgsm
      have ⟨⟨_, _⟩, ⟨_, _⟩, _, _, _⟩ := hgam
      have := sh_le (g 39 3) (by omega) (by omega)
      refine qm_seg_ok (C := qc_217) (rt := some .int) rfl rfl (cuts := [(20, [0, 1, 2, 3, 4]), (50, [0, 1, 2, 3, 4, 5, 6])]) 400 _ _ _ _ ?_
      show ((1 <<< ((g 39 3) &&& 31)).toInt ≤ l4.toInt → ((¬ a = 0 → (Q (some (.int l3)) g)) ∧ (a = 0 → (Q (some (.int l2)) g)))) ∧ (l4.toInt < (1 <<< ((g 39 3) &&& 31)).toInt → (qm_PW X 207 [.int l4] g _))
      refine ⟨fun c1 => ?_, fun c2 => ?_⟩
      · refine ⟨fun c3 => ?_, fun c4 => ?_⟩
        · exact hq l3 g ⟨hgmi, hgsm, hgzs, hgrw, (fun k hk => hgf k hk)⟩
        · exact hq l2 g ⟨hgmi, hgsm, hgzs, hgrw, (fun k hk => hgf k hk)⟩
      · refine sf_207 X g l4 trivial _ (fun r5 p6 => ?_)
        show (r5.toInt ≤ l2.toInt → (qm_PA X 217 50 [(0, .ref 39), (1, .int a), (2, .int l2), (3, .int l3), (4, .int l4), (5, .int 0), (6, .int 0)] [] g Q)) ∧ (l2.toInt < r5.toInt → (qm_PA X 217 50 [(0, .ref 39), (1, .int a), (2, .int l2), (3, .int l3), (4, .int l4), (5, .int 1), (6, .int 0)] [] g Q))
        refine ⟨fun c7 => ?_, fun c8 => ?_⟩
        · exact ih.2 l2 l3 l4 (0 : Int32) (0 : Int32) g ⟨(by have : (0 : Int32).toInt = 0 := rfl; show 0 ≤ l4.toInt ∧ l4.toInt ≤ 15 ∧ 0 ≤ (0 : Int32).toInt ∧ (0 : Int32).toInt ≤ 10; omega), (Or.inl rfl), hgmi, hgsm, hgzs, hgrw, hgam, (fun k hk => hgf k hk)⟩ (by have : (0 : Int32).toInt = 0 := rfl; show ((16 - l4.toInt) * 100 + 40 - (0 : Int32).toInt).toNat < n; omega)
        · exact ih.2 l2 l3 l4 (1 : Int32) (0 : Int32) g ⟨(by have : (0 : Int32).toInt = 0 := rfl; show 0 ≤ l4.toInt ∧ l4.toInt ≤ 15 ∧ 0 ≤ (0 : Int32).toInt ∧ (0 : Int32).toInt ≤ 10; omega), (Or.inr rfl), hgmi, hgsm, hgzs, hgrw, hgam, (fun k hk => hgf k hk)⟩ (by have : (0 : Int32).toInt = 0 := rfl; show ((16 - l4.toInt) * 100 + 40 - (0 : Int32).toInt).toNat < n; omega)
    · intro l2 l3 l4 l5 l6 g hi hr
      obtain ⟨hi0, hb5, hgmi, hgsm, hgzs, hgrw, hgam, hgf⟩ := hi
      have ⟨⟨_, _⟩, ⟨_, _⟩, ⟨_, _⟩, ⟨_, _⟩, _, _⟩ := hgmi
      have ⟨⟨⟨_, _⟩, _, _⟩, _, _, _⟩ := hgsm
      have ⟨⟨_, _⟩, ⟨_, _⟩, _, _, _⟩ := hgam
      refine qm_seg_ok (C := qc_217) (rt := some .int) rfl rfl (cuts := [(20, [0, 1, 2, 3, 4]), (50, [0, 1, 2, 3, 4, 5, 6])]) 400 _ _ _ _ ?_
      show (0 ≤ (4 : Int) ∧ (4 : Int) < 49) ∧ (((g 41 4).toInt ≤ l6.toInt → ((l5 = 0 → ((l5 = 0 → (qm_PA X 217 20 [(0, .ref 39), (1, .int a), (2, .int l2), (3, .int l3), (4, .int (l4 + 1))] [] g Q)) ∧ (¬ l5 = 0 → (qm_PW X 207 [.int l4] g _)))) ∧ (¬ l5 = 0 → ((l5 = 0 → (qm_PA X 217 20 [(0, .ref 39), (1, .int a), (2, .int l2), (3, .int l4), (4, .int (l4 + 1))] [] g Q)) ∧ (¬ l5 = 0 → (qm_PW X 207 [.int l4] g _)))))) ∧ (l6.toInt < (g 41 4).toInt → ((l5 = 0 → (qm_PA X 217 50 [(0, .ref 39), (1, .int a), (2, .int l2), (3, .int l3), (4, .int l4), (5, .int 0), (6, .int (l6 + 1))] [] g Q)) ∧ (¬ l5 = 0 → (qm_PW X 212 [.ref 39, .int l6] g _)))))
      refine ⟨by decide, ?_⟩
      refine ⟨fun c1 => ?_, fun c2 => ?_⟩
      · refine ⟨fun c3 => ?_, fun c4 => ?_⟩
        · refine ⟨fun c5 => ?_, fun c6 => ?_⟩
          · exact ih.1 l2 l3 (l4 + 1) g ⟨(by have := ti_addK l4 (1 : Int32) 1 rfl; show 0 ≤ (l4 + 1).toInt ∧ (l4 + 1).toInt ≤ 16; omega), hgmi, hgsm, hgzs, hgrw, hgam, (fun k hk => hgf k hk)⟩ (by have := ti_addK l4 (1 : Int32) 1 rfl; show ((16 - (l4 + 1).toInt) * 100 + 50).toNat < n; omega)
          · refine sf_207 X g l4 trivial _ (fun r7 p8 => ?_)
            show qm_PA X 217 20 [(0, .ref 39), (1, .int a), (2, .int r7), (3, .int l3), (4, .int (l4 + 1))] [] g Q
            exact ih.1 r7 l3 (l4 + 1) g ⟨(by have := ti_addK l4 (1 : Int32) 1 rfl; show 0 ≤ (l4 + 1).toInt ∧ (l4 + 1).toInt ≤ 16; omega), hgmi, hgsm, hgzs, hgrw, hgam, (fun k hk => hgf k hk)⟩ (by have := ti_addK l4 (1 : Int32) 1 rfl; show ((16 - (l4 + 1).toInt) * 100 + 50).toNat < n; omega)
        · refine ⟨fun c9 => ?_, fun c10 => ?_⟩
          · exact ih.1 l2 l4 (l4 + 1) g ⟨(by have := ti_addK l4 (1 : Int32) 1 rfl; show 0 ≤ (l4 + 1).toInt ∧ (l4 + 1).toInt ≤ 16; omega), hgmi, hgsm, hgzs, hgrw, hgam, (fun k hk => hgf k hk)⟩ (by have := ti_addK l4 (1 : Int32) 1 rfl; show ((16 - (l4 + 1).toInt) * 100 + 50).toNat < n; omega)
          · refine sf_207 X g l4 trivial _ (fun r11 p12 => ?_)
            show qm_PA X 217 20 [(0, .ref 39), (1, .int a), (2, .int r11), (3, .int l4), (4, .int (l4 + 1))] [] g Q
            exact ih.1 r11 l4 (l4 + 1) g ⟨(by have := ti_addK l4 (1 : Int32) 1 rfl; show 0 ≤ (l4 + 1).toInt ∧ (l4 + 1).toInt ≤ 16; omega), hgmi, hgsm, hgzs, hgrw, hgam, (fun k hk => hgf k hk)⟩ (by have := ti_addK l4 (1 : Int32) 1 rfl; show ((16 - (l4 + 1).toInt) * 100 + 50).toNat < n; omega)
      · refine ⟨fun c13 => ?_, fun c14 => ?_⟩
        · exact ih.2 l2 l3 l4 (0 : Int32) (l6 + 1) g ⟨(by have := ti_addK l6 (1 : Int32) 1 rfl; show 0 ≤ l4.toInt ∧ l4.toInt ≤ 15 ∧ 0 ≤ (l6 + 1).toInt ∧ (l6 + 1).toInt ≤ 10; omega), (Or.inl rfl), hgmi, hgsm, hgzs, hgrw, hgam, (fun k hk => hgf k hk)⟩ (by have := ti_addK l6 (1 : Int32) 1 rfl; show ((16 - l4.toInt) * 100 + 40 - (l6 + 1).toInt).toNat < n; omega)
        · refine sf_212_39 X g l6 ⟨hgam, (by omega)⟩ _ (fun r15 p16 => ?_)
          show ((r15 &&& (l4 ^^^ (-1 : Int32))) = 0 → (qm_PA X 217 50 [(0, .ref 39), (1, .int a), (2, .int l2), (3, .int l3), (4, .int l4), (5, .int 0), (6, .int (l6 + 1))] [] g Q)) ∧ (¬ (r15 &&& (l4 ^^^ (-1 : Int32))) = 0 → (qm_PA X 217 50 [(0, .ref 39), (1, .int a), (2, .int l2), (3, .int l3), (4, .int l4), (5, .int 1), (6, .int (l6 + 1))] [] g Q))
          refine ⟨fun c17 => ?_, fun c18 => ?_⟩
          · exact ih.2 l2 l3 l4 (0 : Int32) (l6 + 1) g ⟨(by have := ti_addK l6 (1 : Int32) 1 rfl; show 0 ≤ l4.toInt ∧ l4.toInt ≤ 15 ∧ 0 ≤ (l6 + 1).toInt ∧ (l6 + 1).toInt ≤ 10; omega), (Or.inl rfl), hgmi, hgsm, hgzs, hgrw, hgam, (fun k hk => hgf k hk)⟩ (by have := ti_addK l6 (1 : Int32) 1 rfl; show ((16 - l4.toInt) * 100 + 40 - (l6 + 1).toInt).toNat < n; omega)
          · exact ih.2 l2 l3 l4 (1 : Int32) (l6 + 1) g ⟨(by have := ti_addK l6 (1 : Int32) 1 rfl; show 0 ≤ l4.toInt ∧ l4.toInt ≤ 15 ∧ 0 ≤ (l6 + 1).toInt ∧ (l6 + 1).toInt ≤ 10; omega), (Or.inr rfl), hgmi, hgsm, hgzs, hgrw, hgam, (fun k hk => hgf k hk)⟩ (by have := ti_addK l6 (1 : Int32) 1 rfl; show ((16 - l4.toInt) * 100 + 40 - (l6 + 1).toInt).toNat < n; omega)
set_option maxRecDepth 100000 in
set_option maxHeartbeats 4000000 in
theorem sf_217_39 (X : qm_X) (h : qm_H) (a : Int32) (hp : mi h ∧ sm h ∧ zs h ∧ rw_ h) (Q : qm_Q) (hq : ∀ r : Int32, ∀ h' : qm_H, (mi h' ∧ sm h' ∧ zs h' ∧ rw_ h' ∧ (∀ k, (k < 41 ∨ 41 < k) → h' k = h k)) → Q (some (.int r)) h') : qm_PW X 217 [.ref 39, .int a] h Q := by
  have hmmi : mi h := hp.1
  have ⟨⟨_, _⟩, ⟨_, _⟩, ⟨_, _⟩, ⟨_, _⟩, _, _⟩ := hmmi
  have hmsm : sm h := hp.2.1
  have ⟨⟨⟨_, _⟩, _, _⟩, _, _, _⟩ := hmsm
  have hmzs : zs h := hp.2.2.1
  have hmrw : rw_ h := hp.2.2.2
  refine qm_seg_ok (C := qc_217) (rt := some .int) rfl rfl (cuts := [(20, [0, 1, 2, 3, 4]), (50, [0, 1, 2, 3, 4, 5, 6])]) 400 _ _ _ _ ?_
  show qm_PW X 168 [.int a] h _
  refine sf_168 X h a trivial _ (fun r1 p2 => ?_)
  show (¬ r1 = 0 → (qm_PW X 169 [.ref 39] h _)) ∧ (r1 = 0 → (Q (some (.int (-1 : Int32))) h))
  refine ⟨fun c3 => ?_, fun c4 => ?_⟩
  · have := p2.2 c3
    refine sf_169_39 X h  hmsm _ (fun g5 p6 => ?_)
    have f7 : ∀ k, (k < 41 ∨ 41 < k) → g5 k = h k := fun k hk => (p6.2.1 k (by omega)).trans (rfl)
    have k8 : mi g5 := by unfold mi; rw [p6.2.1 39 (by omega)]; exact hmmi
    have k9 : sm g5 := by unfold sm; rw [p6.2.1 40 (by omega)]; exact hmsm
    have k10 : zs g5 := by unfold zs; rw [p6.2.1 49 (by omega)]; exact hmzs
    have k11 : rw_ g5 := by unfold rw_; rw [p6.2.1 46 (by omega)]; exact hmrw
    show qm_PA X 217 20 [(0, .ref 39), (1, .int a), (2, .int (-1 : Int32)), (3, .int 0), (4, .int 0)] [] g5 Q
    exact (sf_217_39_c X h a hp Q hq _).1 (-1 : Int32) (0 : Int32) (0 : Int32) g5 ⟨(by have : (0 : Int32).toInt = 0 := rfl; show 0 ≤ (0 : Int32).toInt ∧ (0 : Int32).toInt ≤ 16; omega), k8, k9, k10, k11, p6.1, (fun k hk => f7 k hk)⟩ (Nat.lt_succ_self _)
  · exact hq (-1 : Int32) h ⟨hmmi, hmsm, hmzs, hmrw, (fun k hk => rfl)⟩
