-- ThreadBankModel.tie(III)I
set_option maxRecDepth 100000 in
set_option maxHeartbeats 4000000 in
theorem sf_189_39 (X : qm_X) (h : qm_H) (a : Int32) (b : Int32) (c : Int32) (hp : mi h ∧ sm h ∧ zs h ∧ rw_ h) (Q : qm_Q) (hq : ∀ r : Int32, ∀ h' : qm_H, (mi h' ∧ sm h' ∧ zs h' ∧ rw_ h' ∧ (∀ k, (k < 40 ∨ 41 < k) → h' k = h k)) → Q (some (.int r)) h') : qm_PW X 189 [.ref 39, .int a, .int b, .int c] h Q := by
  have hmmi : mi h := hp.1
  have ⟨⟨_, _⟩, ⟨_, _⟩, ⟨_, _⟩, ⟨_, _⟩, _, _⟩ := hmmi
  have hmsm : sm h := hp.2.1
  have ⟨⟨⟨_, _⟩, _, _⟩, _, _, _⟩ := hmsm
  have hmzs : zs h := hp.2.2.1
  have hmrw : rw_ h := hp.2.2.2
  refine qm_seg_ok (C := qc_189) (rt := some .int) rfl rfl (cuts := []) 400 _ _ _ _ ?_
  show qm_PW X 165 [.ref 39, .int a] h _
  refine sf_165_39 X h a hmmi _ (fun r1 p2 => ?_)
  show (r1 = 0 → (Q (some (.int (-1 : Int32))) h)) ∧ (¬ r1 = 0 → (qm_PW X 166 [.ref 39, .int b] h _))
  refine ⟨fun c3 => ?_, fun c4 => ?_⟩
  · have := ti_eqK 0 rfl c3
    exact hq (-1 : Int32) h ⟨hmmi, hmsm, hmzs, hmrw, (fun k hk => rfl)⟩
  · have := p2.2 c4
    have := ti_neK 0 rfl c4
    refine sf_166_39 X h b hmmi _ (fun r5 p6 => ?_)
    show (r5 = 0 → (Q (some (.int (-1 : Int32))) h)) ∧ (¬ r5 = 0 → (qm_PW X 141 [.long (Int32.toInt64 c), .long 10, .long 99] h _))
    refine ⟨fun c7 => ?_, fun c8 => ?_⟩
    · have := ti_eqK 0 rfl c7
      exact hq (-1 : Int32) h ⟨hmmi, hmsm, hmzs, hmrw, (fun k hk => rfl)⟩
    · have := p6.2 c8
      have := ti_neK 0 rfl c8
      refine sf_141 X h ((Int32.toInt64 c) : Int64) (10 : Int64) (99 : Int64) trivial _ (fun r9 p10 => ?_)
      show (¬ r9 = 0 → (qm_PW X 169 [.ref 39] h _)) ∧ (r9 = 0 → (Q (some (.int (-1 : Int32))) h))
      refine ⟨fun c11 => ?_, fun c12 => ?_⟩
      · have := p10.2.1 c11
        have := ti_neK 0 rfl c11
        refine sf_169_39 X h  hmsm _ (fun g13 p14 => ?_)
        have f15 : ∀ k, (k < 40 ∨ 41 < k) → g13 k = h k := fun k hk => (p14.2.1 k (by omega)).trans (rfl)
        have k16 : mi g13 := by unfold mi; rw [p14.2.1 39 (by omega)]; exact hmmi
        have k17 : sm g13 := by unfold sm; rw [p14.2.1 40 (by omega)]; exact hmsm
        have k18 : zs g13 := by unfold zs; rw [p14.2.1 49 (by omega)]; exact hmzs
        have k19 : rw_ g13 := by unfold rw_; rw [p14.2.1 46 (by omega)]; exact hmrw
        show (0 ≤ (4 : Int) ∧ (4 : Int) < 147) ∧ (((g13 40 4) = 10 → (Q (some (.int (-3 : Int32))) g13)) ∧ (¬ (g13 40 4) = 10 → (qm_PW X 174 [.ref 39, .int a] g13 _)))
        refine ⟨by decide, ?_⟩
        refine ⟨fun c20 => ?_, fun c21 => ?_⟩
        · have := ti_eqK 10 rfl c20
          exact hq (-3 : Int32) g13 ⟨k16, k17, k18, k19, (fun k hk => f15 k hk)⟩
        · have := ti_neK 10 rfl c21
          refine sf_174_39 X g13 a p14.1 _ (fun r22 p23 => ?_)
          show qm_PW X 173 [.ref 39, .int a] g13 _
          refine sf_173_39 X g13 a ⟨p14.1, (by have : (10 : Int64).toInt = 10 := rfl; have : (99 : Int64).toInt = 99 := rfl; have := i64 c; have := k17.1; omega)⟩ _ (fun r24 p25 => ?_)
          show (r22.toInt < r24.toInt → ((0 ≤ (4 : Int) ∧ (4 : Int) < 147) ∧ ((0 ≤ ((6 + (3 * (g13 40 4))) + 0).toInt ∧ ((6 + (3 * (g13 40 4))) + 0).toInt < 147) ∧ ((0 ≤ ((6 + (3 * (g13 40 4))) + 1).toInt ∧ ((6 + (3 * (g13 40 4))) + 1).toInt < 147) ∧ ((0 ≤ ((6 + (3 * (g13 40 4))) + 2).toInt ∧ ((6 + (3 * (g13 40 4))) + 2).toInt < 147) ∧ ((0 ≤ (4 : Int) ∧ (4 : Int) < 147) ∧ (qm_PW X 188 [.ref 39, .int 4, .int (((upd (upd (upd (g13 40) ((6 + (3 * (g13 40 4))) + 0).toInt.toNat a) ((6 + (3 * (g13 40 4))) + 1).toInt.toNat b) ((6 + (3 * (g13 40 4))) + 2).toInt.toNat c) 4) + 1)] (qm_row (qm_row (qm_row g13 40 (upd (g13 40) ((6 + (3 * (g13 40 4))) + 0).toInt.toNat a)) 40 (upd (upd (g13 40) ((6 + (3 * (g13 40 4))) + 0).toInt.toNat a) ((6 + (3 * (g13 40 4))) + 1).toInt.toNat b)) 40 (upd (upd (upd (g13 40) ((6 + (3 * (g13 40 4))) + 0).toInt.toNat a) ((6 + (3 * (g13 40 4))) + 1).toInt.toNat b) ((6 + (3 * (g13 40 4))) + 2).toInt.toNat c)) _))))))) ∧ (r24.toInt ≤ r22.toInt → (Q (some (.int (-3 : Int32))) g13))
          refine ⟨fun c26 => ?_, fun c27 => ?_⟩
          · refine ⟨by decide, ?_⟩
            refine ⟨(by have := ti_mulL (3 : Int32) 3 rfl (g13 40 4); have := ti_addL (3 * (g13 40 4)) (6 : Int32) 6 rfl; have := ti_addK (6 + (3 * (g13 40 4))) (0 : Int32) 0 rfl; have : (10 : Int64).toInt = 10 := rfl; have : (99 : Int64).toInt = 99 := rfl; have := i64 c; have := k17.1; omega), ?_⟩
            refine ⟨(by have := ti_mulL (3 : Int32) 3 rfl (g13 40 4); have := ti_addL (3 * (g13 40 4)) (6 : Int32) 6 rfl; have := ti_addK (6 + (3 * (g13 40 4))) (1 : Int32) 1 rfl; have : (10 : Int64).toInt = 10 := rfl; have : (99 : Int64).toInt = 99 := rfl; have := i64 c; have := k17.1; omega), ?_⟩
            refine ⟨(by have := ti_mulL (3 : Int32) 3 rfl (g13 40 4); have := ti_addL (3 * (g13 40 4)) (6 : Int32) 6 rfl; have := ti_addK (6 + (3 * (g13 40 4))) (2 : Int32) 2 rfl; have : (10 : Int64).toInt = 10 := rfl; have : (99 : Int64).toInt = 99 := rfl; have := i64 c; have := k17.1; omega), ?_⟩
            refine ⟨by decide, ?_⟩
            refine sf_188_39 X (qm_row (qm_row (qm_row g13 40 (upd (g13 40) ((6 + (3 * (g13 40 4))) + 0).toInt.toNat a)) 40 (upd (upd (g13 40) ((6 + (3 * (g13 40 4))) + 0).toInt.toNat a) ((6 + (3 * (g13 40 4))) + 1).toInt.toNat b)) 40 (upd (upd (upd (g13 40) ((6 + (3 * (g13 40 4))) + 0).toInt.toNat a) ((6 + (3 * (g13 40 4))) + 1).toInt.toNat b) ((6 + (3 * (g13 40 4))) + 2).toInt.toNat c)) (4 : Int32) (((upd (upd (upd (g13 40) ((6 + (3 * (g13 40 4))) + 0).toInt.toNat a) ((6 + (3 * (g13 40 4))) + 1).toInt.toNat b) ((6 + (3 * (g13 40 4))) + 2).toInt.toNat c) 4) + 1) ⟨(by exact sm_tie k17 (by have := k17.1; omega) (by omega) (by unfold pr; omega) (by have := i64 c; have : (10 : Int64).toInt = 10 := rfl; have : (99 : Int64).toInt = 99 := rfl; omega)), ⟨by decide, by decide, pv_many (tie_many (by have := k17.1; omega) (by have := k17.1; omega))⟩⟩ _ (fun r28 g29 p30 => ?_)
            have f31 : ∀ k, (k < 40 ∨ 41 < k) → g29 k = h k := fun k hk => (p30.2 k (by omega)).trans (by simp only [qm_row]; rw [if_neg (by omega)]; rw [if_neg (by omega)]; rw [if_neg (by omega)]; exact f15 k hk)
            have k32 : mi g29 := by unfold mi; rw [p30.2 39 (by omega)]; exact k16
            have k33 : zs g29 := by unfold zs; rw [p30.2 49 (by omega)]; exact k18
            have k34 : rw_ g29 := by unfold rw_; rw [p30.2 46 (by omega)]; exact k19
            have k35 : am g29 := by unfold am; rw [p30.2 41 (by omega)]; exact p14.1
            show Q (some (.int r28)) g29
            exact hq r28 g29 ⟨k32, p30.1, k33, k34, (fun k hk => f31 k hk)⟩
          · exact hq (-3 : Int32) g13 ⟨k16, k17, k18, k19, (fun k hk => f15 k hk)⟩
      · have := p10.2.2 c12
        have := ti_eqK 0 rfl c12
        exact hq (-1 : Int32) h ⟨hmmi, hmsm, hmzs, hmrw, (fun k hk => rfl)⟩
