-- ThreadBankModel.see(II)I
set_option maxRecDepth 100000 in
set_option maxHeartbeats 4000000 in
theorem sf_225_39 (X : qm_X) (h : qm_H) (a : Int32) (b : Int32) (hp : mi h ∧ sm h ∧ zs h ∧ rw_ h) (Q : qm_Q) (hq : ∀ r : Int32, ∀ h' : qm_H, (mi h' ∧ sm h' ∧ zs h' ∧ rw_ h' ∧ (∀ k, (k < 40 ∨ 40 < k) → h' k = h k)) → Q (some (.int r)) h') : qm_PW X 225 [.ref 39, .int a, .int b] h Q := by
  have hmmi : mi h := hp.1
  have ⟨⟨_, _⟩, ⟨_, _⟩, ⟨_, _⟩, ⟨_, _⟩, _, _⟩ := hmmi
  have hmsm : sm h := hp.2.1
  have ⟨⟨⟨_, _⟩, _, _⟩, _, _, _⟩ := hmsm
  have hmzs : zs h := hp.2.2.1
  have hmrw : rw_ h := hp.2.2.2
  have hsx := see_ix (f := h 40) (a := a)
  refine qm_seg_ok (C := qc_225) (rt := some .int) rfl rfl (cuts := []) 400 _ _ _ _ ?_
  show qm_PW X 166 [.ref 39, .int a] h _
  refine sf_166_39 X h a hmmi _ (fun r1 p2 => ?_)
  show (r1 = 0 → (Q (some (.int (-1 : Int32))) h)) ∧ (¬ r1 = 0 → (qm_PW X 141 [.long (Int32.toInt64 b), .long 0, .long 99] h _))
  refine ⟨fun c3 => ?_, fun c4 => ?_⟩
  · have := ti_eqK 0 rfl c3
    exact hq (-1 : Int32) h ⟨hmmi, hmsm, hmzs, hmrw, (fun k hk => rfl)⟩
  · have := p2.2 c4
    have := ti_neK 0 rfl c4
    refine sf_141 X h ((Int32.toInt64 b) : Int64) (0 : Int64) (99 : Int64) trivial _ (fun r5 p6 => ?_)
    show (¬ r5 = 0 → ((0 ≤ (36 : Int) ∧ (36 : Int) < 147) ∧ ((¬ (h 40 36) = 6 → ((0 ≤ (36 : Int) ∧ (36 : Int) < 147) ∧ ((0 ≤ (37 + (2 * (h 40 36))).toInt ∧ (37 + (2 * (h 40 36))).toInt < 147) ∧ ((0 ≤ (36 : Int) ∧ (36 : Int) < 147) ∧ ((0 ≤ ((37 + (2 * ((upd (h 40) (37 + (2 * (h 40 36))).toInt.toNat a) 36))) + 1).toInt ∧ ((37 + (2 * ((upd (h 40) (37 + (2 * (h 40 36))).toInt.toNat a) 36))) + 1).toInt < 147) ∧ ((0 ≤ (36 : Int) ∧ (36 : Int) < 147) ∧ ((0 ≤ (36 : Int) ∧ (36 : Int) < 147) ∧ ((0 ≤ (36 : Int) ∧ (36 : Int) < 147) ∧ (Q (some (.int ((upd (upd (upd (h 40) (37 + (2 * (h 40 36))).toInt.toNat a) ((37 + (2 * ((upd (h 40) (37 + (2 * (h 40 36))).toInt.toNat a) 36))) + 1).toInt.toNat b) 36 (((upd (upd (h 40) (37 + (2 * (h 40 36))).toInt.toNat a) ((37 + (2 * ((upd (h 40) (37 + (2 * (h 40 36))).toInt.toNat a) 36))) + 1).toInt.toNat b) 36) + 1)) 36))) (qm_row (qm_row (qm_row h 40 (upd (h 40) (37 + (2 * (h 40 36))).toInt.toNat a)) 40 (upd (upd (h 40) (37 + (2 * (h 40 36))).toInt.toNat a) ((37 + (2 * ((upd (h 40) (37 + (2 * (h 40 36))).toInt.toNat a) 36))) + 1).toInt.toNat b)) 40 (upd (upd (upd (h 40) (37 + (2 * (h 40 36))).toInt.toNat a) ((37 + (2 * ((upd (h 40) (37 + (2 * (h 40 36))).toInt.toNat a) 36))) + 1).toInt.toNat b) 36 (((upd (upd (h 40) (37 + (2 * (h 40 36))).toInt.toNat a) ((37 + (2 * ((upd (h 40) (37 + (2 * (h 40 36))).toInt.toNat a) 36))) + 1).toInt.toNat b) 36) + 1)))))))))))) ∧ ((h 40 36) = 6 → (Q (some (.int (-3 : Int32))) h))))) ∧ (r5 = 0 → (Q (some (.int (-1 : Int32))) h))
    refine ⟨fun c7 => ?_, fun c8 => ?_⟩
    · have := p6.2.1 c7
      have := ti_neK 0 rfl c7
      refine ⟨by decide, ?_⟩
      refine ⟨fun c9 => ?_, fun c10 => ?_⟩
      · have := ti_neK 6 rfl c9
        refine ⟨by decide, ?_⟩
        refine ⟨(by have := ti_mulL (2 : Int32) 2 rfl (h 40 36); have := ti_addL (2 * (h 40 36)) (37 : Int32) 37 rfl; have : (0 : Int64).toInt = 0 := rfl; have : (99 : Int64).toInt = 99 := rfl; have := i64 b; have := hmsm.1; omega), ?_⟩
        refine ⟨by decide, ?_⟩
        refine ⟨(by have := ti_mulL (2 : Int32) 2 rfl ((upd (h 40) (37 + (2 * (h 40 36))).toInt.toNat a) 36); have := ti_addL (2 * ((upd (h 40) (37 + (2 * (h 40 36))).toInt.toNat a) 36)) (37 : Int32) 37 rfl; have := ti_addK (37 + (2 * ((upd (h 40) (37 + (2 * (h 40 36))).toInt.toNat a) 36))) (1 : Int32) 1 rfl; have := ti_mulL (2 : Int32) 2 rfl (h 40 36); have := ti_addL (2 * (h 40 36)) (37 : Int32) 37 rfl; have : (0 : Int64).toInt = 0 := rfl; have : (99 : Int64).toInt = 99 := rfl; have := i64 b; have := hmsm.1; omega), ?_⟩
        refine ⟨by decide, ?_⟩
        refine ⟨by decide, ?_⟩
        refine ⟨by decide, ?_⟩
        exact hq ((upd (upd (upd (h 40) (37 + (2 * (h 40 36))).toInt.toNat a) ((37 + (2 * ((upd (h 40) (37 + (2 * (h 40 36))).toInt.toNat a) 36))) + 1).toInt.toNat b) 36 (((upd (upd (h 40) (37 + (2 * (h 40 36))).toInt.toNat a) ((37 + (2 * ((upd (h 40) (37 + (2 * (h 40 36))).toInt.toNat a) 36))) + 1).toInt.toNat b) 36) + 1)) 36) (qm_row (qm_row (qm_row h 40 (upd (h 40) (37 + (2 * (h 40 36))).toInt.toNat a)) 40 (upd (upd (h 40) (37 + (2 * (h 40 36))).toInt.toNat a) ((37 + (2 * ((upd (h 40) (37 + (2 * (h 40 36))).toInt.toNat a) 36))) + 1).toInt.toNat b)) 40 (upd (upd (upd (h 40) (37 + (2 * (h 40 36))).toInt.toNat a) ((37 + (2 * ((upd (h 40) (37 + (2 * (h 40 36))).toInt.toNat a) 36))) + 1).toInt.toNat b) 36 (((upd (upd (h 40) (37 + (2 * (h 40 36))).toInt.toNat a) ((37 + (2 * ((upd (h 40) (37 + (2 * (h 40 36))).toInt.toNat a) 36))) + 1).toInt.toNat b) 36) + 1))) ⟨(by exact hmmi), (by exact sm_see hmsm (by omega) (by unfold pr; omega)), (by exact hmzs), (by exact hmrw), (fun k hk => by simp only [qm_row]; rw [if_neg (by omega)]; rw [if_neg (by omega)]; rw [if_neg (by omega)])⟩
      · have := ti_eqK 6 rfl c10
        exact hq (-3 : Int32) h ⟨hmmi, hmsm, hmzs, hmrw, (fun k hk => rfl)⟩
    · have := p6.2.2 c8
      have := ti_eqK 0 rfl c8
      exact hq (-1 : Int32) h ⟨hmmi, hmsm, hmzs, hmrw, (fun k hk => rfl)⟩
