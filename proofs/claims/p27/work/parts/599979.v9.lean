-- ThreadBankModel.day(I)I
set_option maxRecDepth 100000 in
set_option maxHeartbeats 4000000 in
theorem ty_195 (X : qm_X) (h : qm_H) (a : Int32) (hp : mi h ∧ sm h ∧ zs h ∧ rw_ h) (Q : qm_Q) (hq : ∀ r : Int32, ∀ h' : qm_H, (mi h' ∧ sm h' ∧ zs h' ∧ rw_ h' ∧ (∀ k, (k < 40 ∨ 40 < k) → h' k = h k) ∧ ((wfM (mR h) → r.toInt = (opDay a (mR h)).1 ∧ mR h' = (opDay a (mR h)).2) ∧ (∀ j : Nat, 49 ≤ j → (h' 40) j = (h 40) j))) → Q (some (.int r)) h') : qm_PW X 195 [.ref 39, .int a] h Q := by
  have hmmi : mi h := hp.1
  have ⟨⟨_, _⟩, ⟨_, _⟩, ⟨_, _⟩, ⟨_, _⟩, _, _⟩ := hmmi
  have hmsm : sm h := hp.2.1
  have ⟨⟨⟨_, _⟩, _, _⟩, _, _, _⟩ := hmsm
  have hmzs : zs h := hp.2.2.1
  have hmrw : rw_ h := hp.2.2.2
  refine qm_seg_ok (C := qc_195) (rt := some .int) rfl rfl (cuts := []) 400 _ _ _ _ ?_
  show qm_PW X 141 [.long (Int32.toInt64 a), .long 0, .long 9] h _
  refine sf_141 X h ((Int32.toInt64 a) : Int64) (0 : Int64) (9 : Int64) trivial _ (fun r1 p2 => ?_)
  have o3 : ¬ r1.toInt = 0 → (0 : Int64).toInt ≤ (Int32.toInt64 a).toInt ∧ (Int32.toInt64 a).toInt ≤ (9 : Int64).toInt := fun hc => p2.2.1 (fun e => hc (ti_eqK 0 rfl e))
  have o4 : r1.toInt = 0 → (Int32.toInt64 a).toInt < (0 : Int64).toInt ∨ (9 : Int64).toInt < (Int32.toInt64 a).toInt := fun hc => p2.2.2 (Int32.toInt_inj.mp hc)
  show (r1 = 0 → (Q (some (.int (-1 : Int32))) h)) ∧ (¬ r1 = 0 → (qm_PW X 188 [.ref 39, .int 5, .int a] h _))
  refine ⟨fun c5 => ?_, fun c6 => ?_⟩
  · have := p2.2.2 c5
    exact hq (-1 : Int32) h ⟨hmmi, hmsm, hmzs, hmrw, (fun k hk => rfl), (by have : (0 : Int64).toInt = 0 := rfl; have : (9 : Int64).toInt = 9 := rfl; have := i64 a; show (wfM (mR h) → (-1 : Int32).toInt = (opDay a (mR h)).1 ∧ mR h = (opDay a (mR h)).2) ∧ (∀ j : Nat, 49 ≤ j → (h 40) j = (h 40) j); rw [ti_n1]; have := i64 a; have : (0 : Int64).toInt = 0 := rfl; have : (9 : Int64).toInt = 9 := rfl; have : (3 : Int64).toInt = 3 := rfl; have : (99 : Int64).toInt = 99 := rfl; exact ⟨fun hw => by rw [show opDay a (mR h) = _ from day_bad (by omega)]; exact ⟨rfl, rfl⟩, fun j hj => rfl⟩)⟩
  · have := p2.2.1 c6
    refine ty_188 X h (5 : Int32) a ⟨hmsm, ⟨by decide, by decide, pv_kind (by decide)⟩⟩ _ (fun r7 g8 p9 => ?_)
    obtain ⟨p9_0, p9_1, p9_2⟩ := p9
    have f10 : ∀ k, (k < 40 ∨ 40 < k) → g8 k = h k := fun k hk => (p9_1 k (by omega)).trans (rfl)
    have k11 : mi g8 := by unfold mi; rw [p9_1 39 (by omega)]; exact hmmi
    have k12 : zs g8 := by unfold zs; rw [p9_1 49 (by omega)]; exact hmzs
    have k13 : rw_ g8 := by unfold rw_; rw [p9_1 46 (by omega)]; exact hmrw
    have o14 : r7.toInt = (h 40 (5 : Int32).toInt.toNat).toInt ∧ (g8 40) = upd (h 40) (5 : Int32).toInt.toNat a := p9_2
    clear p9_2
    have w39_g8 : g8 39 = h 39 := (p9_1 39 (by omega))
    show Q (some (.int r7)) g8
    exact hq r7 g8 ⟨k11, p9_0, k12, k13, (fun k hk => f10 k hk), (by have : (5 : Int32).toInt = 5 := rfl; have : (0 : Int64).toInt = 0 := rfl; have : (9 : Int64).toInt = 9 := rfl; have := i64 a; show (wfM (mR h) → r7.toInt = (opDay a (mR h)).1 ∧ mR g8 = (opDay a (mR h)).2) ∧ (∀ j : Nat, 49 ≤ j → (g8 40) j = (h 40) j); have := i64 a; have : (0 : Int64).toInt = 0 := rfl; have : (9 : Int64).toInt = 9 := rfl; have : (3 : Int64).toInt = 3 := rfl; have : (99 : Int64).toInt = 99 := rfl; have e39 : g8 39 = h 39 := (p9_1 39 (by omega)); have e40 : g8 40 = upd (h 40) 5 a := o14.2; exact ⟨fun hw => by rw [show opDay a (mR h) = _ from day_ok (by omega)]; exact ⟨o14.1, (mR_row e39 e40).trans (mG_day (by omega))⟩, hi_upd e40 (by decide)⟩)⟩
-- ThreadBankModel.forget(I)I
set_option maxRecDepth 100000 in
set_option maxHeartbeats 4000000 in
theorem ty_226 (X : qm_X) (h : qm_H) (a : Int32) (hp : mi h ∧ sm h ∧ zs h ∧ rw_ h) (Q : qm_Q) (hq : ∀ r : Int32, ∀ h' : qm_H, (mi h' ∧ sm h' ∧ zs h' ∧ rw_ h' ∧ (∀ k, (k < 40 ∨ 40 < k) → h' k = h k) ∧ ((wfM (mR h) → r.toInt = (opForget a (mR h)).1 ∧ mR h' = (opForget a (mR h)).2) ∧ (∀ j : Nat, 49 ≤ j → (h' 40) j = (h 40) j))) → Q (some (.int r)) h') : qm_PW X 226 [.ref 39, .int a] h Q := by
  have hmmi : mi h := hp.1
  have ⟨⟨_, _⟩, ⟨_, _⟩, ⟨_, _⟩, ⟨_, _⟩, _, _⟩ := hmmi
  have hmsm : sm h := hp.2.1
  have ⟨⟨⟨_, _⟩, _, _⟩, _, _, _⟩ := hmsm
  have hmzs : zs h := hp.2.2.1
  have hmrw : rw_ h := hp.2.2.2
  refine qm_seg_ok (C := qc_226) (rt := some .int) rfl rfl (cuts := []) 400 _ _ _ _ ?_
  show (0 ≤ (36 : Int) ∧ (36 : Int) < 147) ∧ (qm_PW X 141 [.long (Int32.toInt64 a), .long 0, .long (Int32.toInt64 (h 40 36))] h _)
  refine ⟨by decide, ?_⟩
  refine sf_141 X h ((Int32.toInt64 a) : Int64) (0 : Int64) ((Int32.toInt64 (h 40 36)) : Int64) trivial _ (fun r1 p2 => ?_)
  have o3 : ¬ r1.toInt = 0 → (0 : Int64).toInt ≤ (Int32.toInt64 a).toInt ∧ (Int32.toInt64 a).toInt ≤ (Int32.toInt64 (h 40 36)).toInt := fun hc => p2.2.1 (fun e => hc (ti_eqK 0 rfl e))
  have o4 : r1.toInt = 0 → (Int32.toInt64 a).toInt < (0 : Int64).toInt ∨ (Int32.toInt64 (h 40 36)).toInt < (Int32.toInt64 a).toInt := fun hc => p2.2.2 (Int32.toInt_inj.mp hc)
  show (r1 = 0 → (Q (some (.int (-1 : Int32))) h)) ∧ (¬ r1 = 0 → (qm_PW X 188 [.ref 39, .int 36, .int a] h _))
  refine ⟨fun c5 => ?_, fun c6 => ?_⟩
  · have := p2.2.2 c5
    exact hq (-1 : Int32) h ⟨hmmi, hmsm, hmzs, hmrw, (fun k hk => rfl), (by have : (0 : Int64).toInt = 0 := rfl; have := i64 a; have := i64 (h 40 36); show (wfM (mR h) → (-1 : Int32).toInt = (opForget a (mR h)).1 ∧ mR h = (opForget a (mR h)).2) ∧ (∀ j : Nat, 49 ≤ j → (h 40) j = (h 40) j); rw [ti_n1]; have := i64 a; have := i64 (h 40 36); have : (0 : Int64).toInt = 0 := rfl; have : (9 : Int64).toInt = 9 := rfl; have : (3 : Int64).toInt = 3 := rfl; have : (99 : Int64).toInt = 99 := rfl; exact ⟨fun hw => by rw [show opForget a (mR h) = _ from forget_bad (by omega)]; exact ⟨rfl, rfl⟩, fun j hj => rfl⟩)⟩
  · have := p2.2.1 c6
    refine ty_188 X h (36 : Int32) a ⟨hmsm, ⟨by decide, by decide, pv_seen (by have : (0 : Int64).toInt = 0 := rfl; have := i64 a; have := i64 (h 40 36); omega)⟩⟩ _ (fun r7 g8 p9 => ?_)
    obtain ⟨p9_0, p9_1, p9_2⟩ := p9
    have f10 : ∀ k, (k < 40 ∨ 40 < k) → g8 k = h k := fun k hk => (p9_1 k (by omega)).trans (rfl)
    have k11 : mi g8 := by unfold mi; rw [p9_1 39 (by omega)]; exact hmmi
    have k12 : zs g8 := by unfold zs; rw [p9_1 49 (by omega)]; exact hmzs
    have k13 : rw_ g8 := by unfold rw_; rw [p9_1 46 (by omega)]; exact hmrw
    have o14 : r7.toInt = (h 40 (36 : Int32).toInt.toNat).toInt ∧ (g8 40) = upd (h 40) (36 : Int32).toInt.toNat a := p9_2
    clear p9_2
    have w39_g8 : g8 39 = h 39 := (p9_1 39 (by omega))
    show Q (some (.int r7)) g8
    exact hq r7 g8 ⟨k11, p9_0, k12, k13, (fun k hk => f10 k hk), (by have : (36 : Int32).toInt = 36 := rfl; have : (0 : Int64).toInt = 0 := rfl; have := i64 a; have := i64 (h 40 36); show (wfM (mR h) → r7.toInt = (opForget a (mR h)).1 ∧ mR g8 = (opForget a (mR h)).2) ∧ (∀ j : Nat, 49 ≤ j → (g8 40) j = (h 40) j); have := i64 a; have := i64 (h 40 36); have : (0 : Int64).toInt = 0 := rfl; have : (9 : Int64).toInt = 9 := rfl; have : (3 : Int64).toInt = 3 := rfl; have : (99 : Int64).toInt = 99 := rfl; have e39 : g8 39 = h 39 := (p9_1 39 (by omega)); have e40 : g8 40 = upd (h 40) 36 a := o14.2; exact ⟨fun hw => by rw [show opForget a (mR h) = _ from forget_ok (by omega)]; exact ⟨o14.1, (mR_row e39 e40).trans (mG_sn (by omega) (by omega))⟩, hi_upd e40 (by decide)⟩)⟩
-- ThreadBankModel.see(II)I
set_option maxRecDepth 100000 in
set_option maxHeartbeats 4000000 in
theorem ty_225 (X : qm_X) (h : qm_H) (a : Int32) (b : Int32) (hp : mi h ∧ sm h ∧ zs h ∧ rw_ h) (Q : qm_Q) (hq : ∀ r : Int32, ∀ h' : qm_H, (mi h' ∧ sm h' ∧ zs h' ∧ rw_ h' ∧ (∀ k, (k < 40 ∨ 40 < k) → h' k = h k) ∧ ((wfM (mR h) → r.toInt = (opSee a b (mR h)).1 ∧ mR h' = (opSee a b (mR h)).2) ∧ (∀ j : Nat, 49 ≤ j → (h' 40) j = (h 40) j))) → Q (some (.int r)) h') : qm_PW X 225 [.ref 39, .int a, .int b] h Q := by
  have hmmi : mi h := hp.1
  have ⟨⟨_, _⟩, ⟨_, _⟩, ⟨_, _⟩, ⟨_, _⟩, _, _⟩ := hmmi
  have hmsm : sm h := hp.2.1
  have ⟨⟨⟨_, _⟩, _, _⟩, _, _, _⟩ := hmsm
  have hmzs : zs h := hp.2.2.1
  have hmrw : rw_ h := hp.2.2.2
  have hsx := see_ix (f := h 40) (a := a)
  refine qm_seg_ok (C := qc_225) (rt := some .int) rfl rfl (cuts := []) 400 _ _ _ _ ?_
  show qm_PW X 166 [.ref 39, .int a] h _
  refine ty_166 X h a hmmi _ (fun r1 p2 => ?_)
  have o3 : (r1 = 0 ∨ r1 = 1) ∧ ((r1.toInt = 1 ∧ 0 ≤ a.toInt ∧ a.toInt / 10 < (h 39 3).toInt ∧ a.toInt % 10 < (h 39 3).toInt ∧ ¬ a.toInt / 10 = a.toInt % 10) ∨ (r1.toInt = 0 ∧ ¬ (0 ≤ a.toInt ∧ a.toInt / 10 < (h 39 3).toInt ∧ a.toInt % 10 < (h 39 3).toInt ∧ ¬ a.toInt / 10 = a.toInt % 10))) := p2
  clear p2
  show (r1 = 0 → (Q (some (.int (-1 : Int32))) h)) ∧ (¬ r1 = 0 → (qm_PW X 141 [.long (Int32.toInt64 b), .long 0, .long 99] h _))
  refine ⟨fun c4 => ?_, fun c5 => ?_⟩
  · have := ti_eqK 0 rfl c4
    exact hq (-1 : Int32) h ⟨hmmi, hmsm, hmzs, hmrw, (fun k hk => rfl), (by show (wfM (mR h) → (-1 : Int32).toInt = (opSee a b (mR h)).1 ∧ mR h = (opSee a b (mR h)).2) ∧ (∀ j : Nat, 49 ≤ j → (h 40) j = (h 40) j); rw [ti_n1]; have := i64 a; have := i64 b; have : (0 : Int64).toInt = 0 := rfl; have : (9 : Int64).toInt = 9 := rfl; have : (3 : Int64).toInt = 3 := rfl; have : (99 : Int64).toInt = 99 := rfl; exact ⟨fun hw => by rw [show opSee a b (mR h) = _ from see_bad (by omega)]; exact ⟨rfl, rfl⟩, fun j hj => rfl⟩)⟩
  · have := ti_neK 0 rfl c5
    refine sf_141 X h ((Int32.toInt64 b) : Int64) (0 : Int64) (99 : Int64) trivial _ (fun r6 p7 => ?_)
    have o8 : ¬ r6.toInt = 0 → (0 : Int64).toInt ≤ (Int32.toInt64 b).toInt ∧ (Int32.toInt64 b).toInt ≤ (99 : Int64).toInt := fun hc => p7.2.1 (fun e => hc (ti_eqK 0 rfl e))
    have o9 : r6.toInt = 0 → (Int32.toInt64 b).toInt < (0 : Int64).toInt ∨ (99 : Int64).toInt < (Int32.toInt64 b).toInt := fun hc => p7.2.2 (Int32.toInt_inj.mp hc)
    show (¬ r6 = 0 → ((0 ≤ (36 : Int) ∧ (36 : Int) < 147) ∧ ((¬ (h 40 36) = 6 → ((0 ≤ (36 : Int) ∧ (36 : Int) < 147) ∧ ((0 ≤ (37 + (2 * (h 40 36))).toInt ∧ (37 + (2 * (h 40 36))).toInt < 147) ∧ ((0 ≤ (36 : Int) ∧ (36 : Int) < 147) ∧ ((0 ≤ ((37 + (2 * ((upd (h 40) (37 + (2 * (h 40 36))).toInt.toNat a) 36))) + 1).toInt ∧ ((37 + (2 * ((upd (h 40) (37 + (2 * (h 40 36))).toInt.toNat a) 36))) + 1).toInt < 147) ∧ ((0 ≤ (36 : Int) ∧ (36 : Int) < 147) ∧ ((0 ≤ (36 : Int) ∧ (36 : Int) < 147) ∧ ((0 ≤ (36 : Int) ∧ (36 : Int) < 147) ∧ (Q (some (.int ((upd (upd (upd (h 40) (37 + (2 * (h 40 36))).toInt.toNat a) ((37 + (2 * ((upd (h 40) (37 + (2 * (h 40 36))).toInt.toNat a) 36))) + 1).toInt.toNat b) 36 (((upd (upd (h 40) (37 + (2 * (h 40 36))).toInt.toNat a) ((37 + (2 * ((upd (h 40) (37 + (2 * (h 40 36))).toInt.toNat a) 36))) + 1).toInt.toNat b) 36) + 1)) 36))) (qm_row (qm_row (qm_row h 40 (upd (h 40) (37 + (2 * (h 40 36))).toInt.toNat a)) 40 (upd (upd (h 40) (37 + (2 * (h 40 36))).toInt.toNat a) ((37 + (2 * ((upd (h 40) (37 + (2 * (h 40 36))).toInt.toNat a) 36))) + 1).toInt.toNat b)) 40 (upd (upd (upd (h 40) (37 + (2 * (h 40 36))).toInt.toNat a) ((37 + (2 * ((upd (h 40) (37 + (2 * (h 40 36))).toInt.toNat a) 36))) + 1).toInt.toNat b) 36 (((upd (upd (h 40) (37 + (2 * (h 40 36))).toInt.toNat a) ((37 + (2 * ((upd (h 40) (37 + (2 * (h 40 36))).toInt.toNat a) 36))) + 1).toInt.toNat b) 36) + 1)))))))))))) ∧ ((h 40 36) = 6 → (Q (some (.int (-3 : Int32))) h))))) ∧ (r6 = 0 → (Q (some (.int (-1 : Int32))) h))
    refine ⟨fun c10 => ?_, fun c11 => ?_⟩
    · have := p7.2.1 c10
      have := ti_neK 0 rfl c10
      refine ⟨by decide, ?_⟩
      refine ⟨fun c12 => ?_, fun c13 => ?_⟩
      · have := ti_neK 6 rfl c12
        refine ⟨by decide, ?_⟩
        refine ⟨(by have := ti_mulL (2 : Int32) 2 rfl (h 40 36); have := ti_addL (2 * (h 40 36)) (37 : Int32) 37 rfl; have : (0 : Int64).toInt = 0 := rfl; have : (99 : Int64).toInt = 99 := rfl; have := i64 b; have ⟨⟨_, _⟩, ⟨_, _⟩, ⟨_, _⟩, ⟨_, _⟩, _, _⟩ := hmmi; have := hmsm.1; omega), ?_⟩
        refine ⟨by decide, ?_⟩
        refine ⟨(by have := ti_mulL (2 : Int32) 2 rfl ((upd (h 40) (37 + (2 * (h 40 36))).toInt.toNat a) 36); have := ti_addL (2 * ((upd (h 40) (37 + (2 * (h 40 36))).toInt.toNat a) 36)) (37 : Int32) 37 rfl; have := ti_addK (37 + (2 * ((upd (h 40) (37 + (2 * (h 40 36))).toInt.toNat a) 36))) (1 : Int32) 1 rfl; have := ti_mulL (2 : Int32) 2 rfl (h 40 36); have := ti_addL (2 * (h 40 36)) (37 : Int32) 37 rfl; have : (0 : Int64).toInt = 0 := rfl; have : (99 : Int64).toInt = 99 := rfl; have := i64 b; have ⟨⟨_, _⟩, ⟨_, _⟩, ⟨_, _⟩, ⟨_, _⟩, _, _⟩ := hmmi; have := hmsm.1; omega), ?_⟩
        refine ⟨by decide, ?_⟩
        refine ⟨by decide, ?_⟩
        refine ⟨by decide, ?_⟩
        exact hq ((upd (upd (upd (h 40) (37 + (2 * (h 40 36))).toInt.toNat a) ((37 + (2 * ((upd (h 40) (37 + (2 * (h 40 36))).toInt.toNat a) 36))) + 1).toInt.toNat b) 36 (((upd (upd (h 40) (37 + (2 * (h 40 36))).toInt.toNat a) ((37 + (2 * ((upd (h 40) (37 + (2 * (h 40 36))).toInt.toNat a) 36))) + 1).toInt.toNat b) 36) + 1)) 36) (qm_row (qm_row (qm_row h 40 (upd (h 40) (37 + (2 * (h 40 36))).toInt.toNat a)) 40 (upd (upd (h 40) (37 + (2 * (h 40 36))).toInt.toNat a) ((37 + (2 * ((upd (h 40) (37 + (2 * (h 40 36))).toInt.toNat a) 36))) + 1).toInt.toNat b)) 40 (upd (upd (upd (h 40) (37 + (2 * (h 40 36))).toInt.toNat a) ((37 + (2 * ((upd (h 40) (37 + (2 * (h 40 36))).toInt.toNat a) 36))) + 1).toInt.toNat b) 36 (((upd (upd (h 40) (37 + (2 * (h 40 36))).toInt.toNat a) ((37 + (2 * ((upd (h 40) (37 + (2 * (h 40 36))).toInt.toNat a) 36))) + 1).toInt.toNat b) 36) + 1))) ⟨(by exact hmmi), (by exact sm_see hmsm (by omega) (by unfold pr; omega)), (by exact hmzs), (by exact hmrw), (fun k hk => by simp only [qm_row]; rw [if_neg (by omega)]; rw [if_neg (by omega)]; rw [if_neg (by omega)]), (by show (wfM (mR h) → ((upd (upd (upd (h 40) (37 + (2 * (h 40 36))).toInt.toNat a) ((37 + (2 * ((upd (h 40) (37 + (2 * (h 40 36))).toInt.toNat a) 36))) + 1).toInt.toNat b) 36 (((upd (upd (h 40) (37 + (2 * (h 40 36))).toInt.toNat a) ((37 + (2 * ((upd (h 40) (37 + (2 * (h 40 36))).toInt.toNat a) 36))) + 1).toInt.toNat b) 36) + 1)) 36).toInt = (opSee a b (mR h)).1 ∧ mR (qm_row (qm_row (qm_row h 40 (upd (h 40) (37 + (2 * (h 40 36))).toInt.toNat a)) 40 (upd (upd (h 40) (37 + (2 * (h 40 36))).toInt.toNat a) ((37 + (2 * ((upd (h 40) (37 + (2 * (h 40 36))).toInt.toNat a) 36))) + 1).toInt.toNat b)) 40 (upd (upd (upd (h 40) (37 + (2 * (h 40 36))).toInt.toNat a) ((37 + (2 * ((upd (h 40) (37 + (2 * (h 40 36))).toInt.toNat a) 36))) + 1).toInt.toNat b) 36 (((upd (upd (h 40) (37 + (2 * (h 40 36))).toInt.toNat a) ((37 + (2 * ((upd (h 40) (37 + (2 * (h 40 36))).toInt.toNat a) 36))) + 1).toInt.toNat b) 36) + 1))) = (opSee a b (mR h)).2) ∧ (∀ j : Nat, 49 ≤ j → (upd (upd (upd (h 40) (37 + (2 * (h 40 36))).toInt.toNat a) ((37 + (2 * ((upd (h 40) (37 + (2 * (h 40 36))).toInt.toNat a) 36))) + 1).toInt.toNat b) 36 (((upd (upd (h 40) (37 + (2 * (h 40 36))).toInt.toNat a) ((37 + (2 * ((upd (h 40) (37 + (2 * (h 40 36))).toInt.toNat a) 36))) + 1).toInt.toNat b) 36) + 1)) j = (h 40) j); have := i64 a; have := i64 b; have : (0 : Int64).toInt = 0 := rfl; have : (9 : Int64).toInt = 9 := rfl; have : (3 : Int64).toInt = 3 := rfl; have : (99 : Int64).toInt = 99 := rfl; have hsix : ¬ (h 40 36).toInt = 6 := (fun w => absurd (Int32.toInt_inj.mp w) (show ¬ (h 40 36) = 6 from by assumption)); have e40 := see_row (f := h 40) (a := a) (b := b) (by omega) (by omega) rfl; have e1 := ti_addK (h 40 36) (1 : Int32) 1 rfl (by omega); have e36 := congrFun e40 36; rw [upd_same] at e36; exact ⟨fun hw => by rw [show opSee a b (mR h) = _ from see_ok ⟨by omega, by omega, by omega⟩ (by omega) (by omega)]; exact ⟨(congrArg Int32.toInt e36).trans e1, (mR_row (h := h) (g := (qm_row (qm_row (qm_row h 40 (upd (h 40) (37 + (2 * (h 40 36))).toInt.toNat a)) 40 (upd (upd (h 40) (37 + (2 * (h 40 36))).toInt.toNat a) ((37 + (2 * ((upd (h 40) (37 + (2 * (h 40 36))).toInt.toNat a) 36))) + 1).toInt.toNat b)) 40 (upd (upd (upd (h 40) (37 + (2 * (h 40 36))).toInt.toNat a) ((37 + (2 * ((upd (h 40) (37 + (2 * (h 40 36))).toInt.toNat a) 36))) + 1).toInt.toNat b) 36 (((upd (upd (h 40) (37 + (2 * (h 40 36))).toInt.toNat a) ((37 + (2 * ((upd (h 40) (37 + (2 * (h 40 36))).toInt.toNat a) 36))) + 1).toInt.toNat b) 36) + 1)))) rfl e40).trans (mG_see (by omega) (by omega) (by omega) (by omega) rfl)⟩, see_hi e40 (by omega)⟩)⟩
      · have := ti_eqK 6 rfl c13
        exact hq (-3 : Int32) h ⟨hmmi, hmsm, hmzs, hmrw, (fun k hk => rfl), (by show (wfM (mR h) → (-3 : Int32).toInt = (opSee a b (mR h)).1 ∧ mR h = (opSee a b (mR h)).2) ∧ (∀ j : Nat, 49 ≤ j → (h 40) j = (h 40) j); rw [ti_n3]; have := i64 a; have := i64 b; have : (0 : Int64).toInt = 0 := rfl; have : (9 : Int64).toInt = 9 := rfl; have : (3 : Int64).toInt = 3 := rfl; have : (99 : Int64).toInt = 99 := rfl; have hsix := congrArg Int32.toInt (show (h 40 36) = 6 from by assumption); have h66 : (6 : Int32).toInt = 6 := rfl; exact ⟨fun hw => by rw [show opSee a b (mR h) = _ from see_full ⟨by omega, by omega, by omega⟩ (by omega)]; exact ⟨rfl, rfl⟩, fun j hj => rfl⟩)⟩
    · have := p7.2.2 c11
      have := ti_eqK 0 rfl c11
      exact hq (-1 : Int32) h ⟨hmmi, hmsm, hmzs, hmrw, (fun k hk => rfl), (by show (wfM (mR h) → (-1 : Int32).toInt = (opSee a b (mR h)).1 ∧ mR h = (opSee a b (mR h)).2) ∧ (∀ j : Nat, 49 ≤ j → (h 40) j = (h 40) j); rw [ti_n1]; have := i64 a; have := i64 b; have : (0 : Int64).toInt = 0 := rfl; have : (9 : Int64).toInt = 9 := rfl; have : (3 : Int64).toInt = 3 := rfl; have : (99 : Int64).toInt = 99 := rfl; exact ⟨fun hw => by rw [show opSee a b (mR h) = _ from see_bad (by omega)]; exact ⟨rfl, rfl⟩, fun j hj => rfl⟩)⟩
-- ThreadBankModel.move(II)I
set_option maxRecDepth 100000 in
set_option maxHeartbeats 4000000 in
theorem ty_191 (X : qm_X) (h : qm_H) (a : Int32) (b : Int32) (hp : mi h ∧ sm h ∧ zs h ∧ rw_ h) (Q : qm_Q) (hq : ∀ r : Int32, ∀ h' : qm_H, (mi h' ∧ sm h' ∧ zs h' ∧ rw_ h' ∧ (∀ k, (k < 40 ∨ 41 < k) → h' k = h k) ∧ ((wfM (mR h) → r.toInt = (opMove a b (mR h)).1 ∧ mR h' = (opMove a b (mR h)).2) ∧ (∀ j : Nat, 49 ≤ j → (h' 40) j = (h 40) j))) → Q (some (.int r)) h') : qm_PW X 191 [.ref 39, .int a, .int b] h Q := by
  have hmmi : mi h := hp.1
  have ⟨⟨_, _⟩, ⟨_, _⟩, ⟨_, _⟩, ⟨_, _⟩, _, _⟩ := hmmi
  have hmsm : sm h := hp.2.1
  have ⟨⟨⟨_, _⟩, _, _⟩, _, _, _⟩ := hmsm
  have hmzs : zs h := hp.2.2.1
  have hmrw : rw_ h := hp.2.2.2
  refine qm_seg_ok (C := qc_191) (rt := some .int) rfl rfl (cuts := []) 400 _ _ _ _ ?_
  show qm_PW X 167 [.ref 39, .int a] h _
  refine ty_167 X h a hmsm _ (fun r1 p2 => ?_)
  have o3 : (r1 = 0 ∨ r1 = 1) ∧ ((r1.toInt = 1 ∧ 0 ≤ a.toInt ∧ a.toInt < (h 40 4).toInt) ∨ (r1.toInt = 0 ∧ ¬ (0 ≤ a.toInt ∧ a.toInt < (h 40 4).toInt))) := p2
  clear p2
  show (r1 = 0 → (Q (some (.int (-1 : Int32))) h)) ∧ (¬ r1 = 0 → (qm_PW X 165 [.ref 39, .int b] h _))
  refine ⟨fun c4 => ?_, fun c5 => ?_⟩
  · have := ti_eqK 0 rfl c4
    exact hq (-1 : Int32) h ⟨hmmi, hmsm, hmzs, hmrw, (fun k hk => rfl), (by show (wfM (mR h) → (-1 : Int32).toInt = (opMove a b (mR h)).1 ∧ mR h = (opMove a b (mR h)).2) ∧ (∀ j : Nat, 49 ≤ j → (h 40) j = (h 40) j); rw [ti_n1]; exact ⟨fun hw => by rw [show opMove a b (mR h) = _ from move_bad (by omega)]; exact ⟨rfl, rfl⟩, fun j hj => rfl⟩)⟩
  · have := ti_neK 0 rfl c5
    refine ty_165 X h b hmmi _ (fun r6 p7 => ?_)
    have o8 : (r6 = 0 ∨ r6 = 1) ∧ ((r6.toInt = 1 ∧ 0 ≤ b.toInt ∧ b.toInt / 10 < (h 39 3).toInt ∧ b.toInt % 10 < 5) ∨ (r6.toInt = 0 ∧ ¬ (0 ≤ b.toInt ∧ b.toInt / 10 < (h 39 3).toInt ∧ b.toInt % 10 < 5))) := p7
    clear p7
    show (¬ r6 = 0 → (qm_PW X 169 [.ref 39] h _)) ∧ (r6 = 0 → (Q (some (.int (-1 : Int32))) h))
    refine ⟨fun c9 => ?_, fun c10 => ?_⟩
    · have := ti_neK 0 rfl c9
      refine sf_169_39 X h  hmsm _ (fun g11 p12 => ?_)
      obtain ⟨p12_0, p12_1, p12_2⟩ := p12
      have f13 : ∀ k, (k < 40 ∨ 41 < k) → g11 k = h k := fun k hk => (p12_1 k (by omega)).trans (rfl)
      have k14 : mi g11 := by unfold mi; rw [p12_1 39 (by omega)]; exact hmmi
      have k15 : sm g11 := by unfold sm; rw [p12_1 40 (by omega)]; exact hmsm
      have k16 : zs g11 := by unfold zs; rw [p12_1 49 (by omega)]; exact hmzs
      have k17 : rw_ g11 := by unfold rw_; rw [p12_1 46 (by omega)]; exact hmrw
      have o18 : (∀ j : Nat, j < 49 → g11 41 j = h 40 j) := p12_2
      clear p12_2
      have w39_g11 : g11 39 = h 39 := (p12_1 39 (by omega))
      have w40_g11 : g11 40 = h 40 := (p12_1 40 (by omega))
      have sA_g11 : ∀ j : Nat, j < 49 → g11 41 j = h 40 j := o18
      have s4_g11 : (g11 41 4).toInt = (h 40 4).toInt := congrArg Int32.toInt (sA_g11 4 (by decide))
      show qm_PW X 171 [.ref 39, .int a, .int 0] g11 _
      refine ty_171 X g11 a (0 : Int32) ⟨p12_0, (by have : (0 : Int32).toInt = 0 := rfl; have ⟨⟨_, _⟩, ⟨_, _⟩, ⟨_, _⟩, ⟨_, _⟩, _, _⟩ := hmmi; have := hmsm.1; omega)⟩ _ (fun r19 p20 => ?_)
      have o21 : (r19.toInt = (g11 41 (6 + 3 * a.toInt.toNat)).toInt ∧ 0 ≤ r19.toInt ∧ r19.toInt ≤ 39) := p20.1 rfl
      clear p20
      show (¬ r19 = b → (qm_PW X 174 [.ref 39, .int b] g11 _)) ∧ (r19 = b → (Q (some (.int (-2 : Int32))) g11))
      refine ⟨fun c22 => ?_, fun c23 => ?_⟩
      · refine ty_174 X g11 b p12_0 _ (fun r24 p25 => ?_)
        have o26 : r24.toInt = cntD (g11 41) (g11 41 4).toInt.toNat b.toInt ∧ (0 ≤ r24.toInt ∧ r24.toInt ≤ 10) := p25
        clear p25
        show qm_PW X 173 [.ref 39, .int b] g11 _
        refine ty_173 X g11 b ⟨p12_0, (by have ⟨⟨_, _⟩, ⟨_, _⟩, ⟨_, _⟩, ⟨_, _⟩, _, _⟩ := hmmi; have := hmsm.1; omega)⟩ _ (fun r27 p28 => ?_)
        have o29 : r27.toInt = rmF (g11 41 (b.toInt / 10).toNat).toInt (b.toInt % 10) := p28
        clear p28
        show (r24.toInt < r27.toInt → (qm_PW X 188 [.ref 39, .int ((6 + (3 * a)) + 0), .int b] g11 _)) ∧ (r27.toInt ≤ r24.toInt → (Q (some (.int (-3 : Int32))) g11))
        refine ⟨fun c30 => ?_, fun c31 => ?_⟩
        · refine ty_188 X g11 ((6 + (3 * a)) + 0) b ⟨k15, ⟨(by have := ti_mulL (3 : Int32) 3 rfl a; have := ti_addL (3 * a) (6 : Int32) 6 rfl; have := ti_addK (6 + (3 * a)) (0 : Int32) 0 rfl; have ⟨⟨_, _⟩, ⟨_, _⟩, ⟨_, _⟩, ⟨_, _⟩, _, _⟩ := hmmi; have := hmsm.1; omega), (by have := ti_mulL (3 : Int32) 3 rfl a; have := ti_addL (3 * a) (6 : Int32) 6 rfl; have := ti_addK (6 + (3 * a)) (0 : Int32) 0 rfl; have ⟨⟨_, _⟩, ⟨_, _⟩, ⟨_, _⟩, ⟨_, _⟩, _, _⟩ := hmmi; have := hmsm.1; omega), (by have := ti_mulL (3 : Int32) 3 rfl a; have := ti_addL (3 * a) (6 : Int32) 6 rfl; have := ti_addK (6 + (3 * a)) (0 : Int32) 0 rfl; have ⟨⟨_, _⟩, ⟨_, _⟩, ⟨_, _⟩, ⟨_, _⟩, _, _⟩ := hmmi; have := hmsm.1; rw [show ((6 + (3 * a)) + 0).toInt.toNat = 6 + 3 * a.toInt.toNat from by omega]; exact pv_place (by omega) (by omega))⟩⟩ _ (fun r32 g33 p34 => ?_)
          obtain ⟨p34_0, p34_1, p34_2⟩ := p34
          have f35 : ∀ k, (k < 40 ∨ 41 < k) → g33 k = h k := fun k hk => (p34_1 k (by omega)).trans (f13 k hk)
          have k36 : mi g33 := by unfold mi; rw [p34_1 39 (by omega)]; exact k14
          have k37 : zs g33 := by unfold zs; rw [p34_1 49 (by omega)]; exact k16
          have k38 : rw_ g33 := by unfold rw_; rw [p34_1 46 (by omega)]; exact k17
          have k39 : am g33 := by unfold am; rw [p34_1 41 (by omega)]; exact p12_0
          have o40 : r32.toInt = (g11 40 ((6 + (3 * a)) + 0).toInt.toNat).toInt ∧ (g33 40) = upd (g11 40) ((6 + (3 * a)) + 0).toInt.toNat b := p34_2
          clear p34_2
          have w39_g33 : g33 39 = h 39 := (p34_1 39 (by omega)).trans w39_g11
          show Q (some (.int r32)) g33
          exact hq r32 g33 ⟨k36, p34_0, k37, k38, (fun k hk => f35 k hk), (by show (wfM (mR h) → r32.toInt = (opMove a b (mR h)).1 ∧ mR g33 = (opMove a b (mR h)).2) ∧ (∀ j : Nat, 49 ≤ j → (g33 40) j = (h 40) j); rw [sA_g11 _ (by omega)] at o21; have hst : ¬ (h 40 (6 + 3 * a.toInt.toNat)).toInt = b.toInt := (fun w => absurd (Int32.toInt_inj.mp (show r19.toInt = b.toInt by omega)) (by assumption)); rw [cnt_41 sA_g11 (by omega)] at o26; rw [sA_g11 _ (by omega)] at o29; have hix := (tie_ix (m := a) (by omega)).1; have e39 : g33 39 = h 39 := (p34_1 39 (by omega)).trans w39_g11; have e40 := o40.2; have e41 := o40.1; rw [hix, w40_g11] at e40 e41; exact ⟨fun hw => by have hk := (wf_raw hw).2.1 (b.toInt / 10).toNat (by omega); rw [rmF_C (by omega) (by omega)] at o29; rw [show opMove a b (mR h) = _ from move_ok ⟨by omega, by omega⟩ hst (by omega)]; exact ⟨e41, (mR_row e39 e40).trans (mG_place (by omega) (by omega) (by omega))⟩, hi_upd e40 (by omega)⟩)⟩
        · exact hq (-3 : Int32) g11 ⟨k14, k15, k16, k17, (fun k hk => f13 k hk), (by show (wfM (mR h) → (-3 : Int32).toInt = (opMove a b (mR h)).1 ∧ mR g11 = (opMove a b (mR h)).2) ∧ (∀ j : Nat, 49 ≤ j → (g11 40) j = (h 40) j); rw [ti_n3]; rw [sA_g11 _ (by omega)] at o21; have hst : ¬ (h 40 (6 + 3 * a.toInt.toNat)).toInt = b.toInt := (fun w => absurd (Int32.toInt_inj.mp (show r19.toInt = b.toInt by omega)) (by assumption)); rw [cnt_41 sA_g11 (by omega)] at o26; rw [sA_g11 _ (by omega)] at o29; exact ⟨fun hw => by have hk := (wf_raw hw).2.1 (b.toInt / 10).toNat (by omega); rw [rmF_C (by omega) (by omega)] at o29; rw [show opMove a b (mR h) = _ from move_full ⟨by omega, by omega⟩ hst (by omega)]; exact ⟨rfl, mR_of (congrFun w39_g11 3) w40_g11⟩, fun j hj => congrFun w40_g11 j⟩)⟩
      · exact hq (-2 : Int32) g11 ⟨k14, k15, k16, k17, (fun k hk => f13 k hk), (by show (wfM (mR h) → (-2 : Int32).toInt = (opMove a b (mR h)).1 ∧ mR g11 = (opMove a b (mR h)).2) ∧ (∀ j : Nat, 49 ≤ j → (g11 40) j = (h 40) j); rw [ti_n2]; rw [sA_g11 _ (by omega)] at o21; have hst := congrArg Int32.toInt (show r19 = b from by assumption); exact ⟨fun hw => by rw [show opMove a b (mR h) = _ from move_st ⟨by omega, by omega⟩ (by omega)]; exact ⟨rfl, mR_of (congrFun w39_g11 3) w40_g11⟩, fun j hj => congrFun w40_g11 j⟩)⟩
    · have := ti_eqK 0 rfl c10
      exact hq (-1 : Int32) h ⟨hmmi, hmsm, hmzs, hmrw, (fun k hk => rfl), (by show (wfM (mR h) → (-1 : Int32).toInt = (opMove a b (mR h)).1 ∧ mR h = (opMove a b (mR h)).2) ∧ (∀ j : Nat, 49 ≤ j → (h 40) j = (h 40) j); rw [ti_n1]; exact ⟨fun hw => by rw [show opMove a b (mR h) = _ from move_bad (by omega)]; exact ⟨rfl, rfl⟩, fun j hj => rfl⟩)⟩
-- ThreadBankModel.teach(II)I
set_option maxRecDepth 100000 in
set_option maxHeartbeats 4000000 in
theorem ty_194_c (X : qm_X) (h : qm_H) (a : Int32) (b : Int32) (hp : mi h ∧ sm h ∧ zs h ∧ rw_ h) (Q : qm_Q) (hq : ∀ r : Int32, ∀ h' : qm_H, (mi h' ∧ sm h' ∧ zs h' ∧ rw_ h' ∧ (∀ k, (k < 40 ∨ 41 < k) → h' k = h k) ∧ ((wfM (mR h) → r.toInt = (opTeach a b (mR h)).1 ∧ mR h' = (opTeach a b (mR h)).2) ∧ (∀ j : Nat, 49 ≤ j → (h' 40) j = (h 40) j))) → Q (some (.int r)) h') : ∀ n : Nat, (∀ (l3 : Int32) (g : qm_H), (((0 ≤ l3.toInt ∧ l3.toInt ≤ 5) ∧ ((0 ≤ a.toInt ∧ a.toInt < (h 39 3).toInt) ∧ (0 ≤ b.toInt ∧ b.toInt ≤ 3)) ∧ (∀ j : Nat, j < 49 → g 41 j = h 40 j) ∧ (∀ f : Nat, (f : Int) < l3.toInt → cntR (fun t => h 40 (6 + 3 * t)) (h 40 4).toInt.toNat (10 * a.toInt + (f : Int)) ≤ rmC b.toInt (f : Int)) ∧ g 40 = h 40) ∧ mi g ∧ sm g ∧ zs g ∧ rw_ g ∧ am g ∧ ∀ k, (k < 40 ∨ 41 < k) → g k = h k) → (5 - l3.toInt).toNat < n → qm_PA X 194 28 [(0, .ref 39), (1, .int a), (2, .int b), (3, .int l3)] [] g Q) := by
  have hmmi : mi h := hp.1
  have ⟨⟨_, _⟩, ⟨_, _⟩, ⟨_, _⟩, ⟨_, _⟩, _, _⟩ := hmmi
  have hmsm : sm h := hp.2.1
  have ⟨⟨⟨_, _⟩, _, _⟩, _, _, _⟩ := hmsm
  have hmzs : zs h := hp.2.2.1
  have hmrw : rw_ h := hp.2.2.2
  intro n
  induction n with
  | zero => exact fun _ _ _ h0 => absurd h0 (Nat.not_lt_zero _)
  | succ n ih =>
    intro l3 g hi hr
    obtain ⟨hi0, hgmi, hgsm, hgzs, hgrw, hgam, hgf⟩ := hi
    have ⟨⟨_, _⟩, ⟨_, _⟩, ⟨_, _⟩, ⟨_, _⟩, _, _⟩ := hgmi
    have ⟨⟨⟨_, _⟩, _, _⟩, _, _, _⟩ := hgsm
    have ⟨⟨_, _⟩, ⟨_, _⟩, _, _, _⟩ := hgam
    have ti_l3 := ti_rng l3
    have w39_g : g 39 = h 39 := hgf 39 (by omega)
    have w40_g : g 40 = h 40 := hi0.2.2.2.2
    refine qm_seg_ok (C := qc_194) (rt := some .int) rfl rfl (cuts := [(28, [0, 1, 2, 3])]) 400 _ _ _ _ ?_
    show (5 ≤ l3.toInt → (qm_PW X 188 [.ref 39, .int (0 + a), .int b] g _)) ∧ (l3.toInt < 5 → (qm_PW X 174 [.ref 39, .int ((10 * a) + l3)] g _))
    refine ⟨fun c1 => ?_, fun c2 => ?_⟩
    · refine ty_188 X g (0 + a) b ⟨hgsm, ⟨(by have := ti_addL a (0 : Int32) 0 rfl; have ⟨⟨_, _⟩, ⟨_, _⟩, ⟨_, _⟩, ⟨_, _⟩, _, _⟩ := hmmi; have := hmsm.1; omega), (by have := ti_addL a (0 : Int32) 0 rfl; have ⟨⟨_, _⟩, ⟨_, _⟩, ⟨_, _⟩, ⟨_, _⟩, _, _⟩ := hmmi; have := hmsm.1; omega), pv_kind (Or.inl (by have := ti_addL a (0 : Int32) 0 rfl; have ⟨⟨_, _⟩, ⟨_, _⟩, ⟨_, _⟩, ⟨_, _⟩, _, _⟩ := hmmi; have := hmsm.1; omega))⟩⟩ _ (fun r3 g4 p5 => ?_)
      obtain ⟨p5_0, p5_1, p5_2⟩ := p5
      have f6 : ∀ k, (k < 40 ∨ 41 < k) → g4 k = h k := fun k hk => (p5_1 k (by omega)).trans (hgf k hk)
      have k7 : mi g4 := by unfold mi; rw [p5_1 39 (by omega)]; exact hgmi
      have k8 : zs g4 := by unfold zs; rw [p5_1 49 (by omega)]; exact hgzs
      have k9 : rw_ g4 := by unfold rw_; rw [p5_1 46 (by omega)]; exact hgrw
      have k10 : am g4 := by unfold am; rw [p5_1 41 (by omega)]; exact hgam
      have o11 : r3.toInt = (g 40 (0 + a).toInt.toNat).toInt ∧ (g4 40) = upd (g 40) (0 + a).toInt.toNat b := p5_2
      clear p5_2
      have w39_g4 : g4 39 = h 39 := (p5_1 39 (by omega)).trans w39_g
      show Q (some (.int r3)) g4
      exact hq r3 g4 ⟨k7, p5_0, k8, k9, (fun k hk => f6 k hk), (by have := ti_addL a (0 : Int32) 0 rfl; have ⟨⟨_, _⟩, ⟨_, _⟩, ⟨_, _⟩, ⟨_, _⟩, _, _⟩ := hmmi; have := hmsm.1; have := hgsm.1; show (wfM (mR h) → r3.toInt = (opTeach a b (mR h)).1 ∧ mR g4 = (opTeach a b (mR h)).2) ∧ (∀ j : Nat, 49 ≤ j → (g4 40) j = (h 40) j); have q0 := ti_addL a (0 : Int32) 0 rfl; have hix : (0 + a).toInt.toNat = a.toInt.toNat := (by omega); have e39 : g4 39 = h 39 := (p5_1 39 (by omega)).trans w39_g; have e40 := o11.2; have e41 := o11.1; rw [hix, w40_g] at e40 e41; exact ⟨fun hw => by rw [show opTeach a b (mR h) = _ from teach_ok ⟨by omega, by omega⟩ (fun f hf => hi0.2.2.2.1 f (by omega))]; exact ⟨e41, (mR_row e39 e40).trans (mG_kind (by omega) (by omega))⟩, hi_upd e40 (by omega)⟩)⟩
    · refine ty_174 X g ((10 * a) + l3) hgam _ (fun r12 p13 => ?_)
      have o14 : r12.toInt = cntD (g 41) (g 41 4).toInt.toNat ((10 * a) + l3).toInt ∧ (0 ≤ r12.toInt ∧ r12.toInt ≤ 10) := p13
      clear p13
      show qm_PW X 160 [.int b, .int l3] g _
      refine tx_160 X g b l3 trivial _ (fun r15 p16 => ?_)
      have o17 : r15.toInt = rmF b.toInt l3.toInt := p16
      clear p16
      show (r12.toInt ≤ r15.toInt → (qm_PA X 194 28 [(0, .ref 39), (1, .int a), (2, .int b), (3, .int (l3 + 1))] [] g Q)) ∧ (r15.toInt < r12.toInt → (Q (some (.int (-3 : Int32))) g))
      refine ⟨fun c18 => ?_, fun c19 => ?_⟩
      · exact ih (l3 + 1) g ⟨(by have := ti_addK l3 (1 : Int32) 1 rfl; have := ti_mulL (10 : Int32) 10 rfl a; have := ti_add (10 * a) l3; have ⟨⟨_, _⟩, ⟨_, _⟩, ⟨_, _⟩, ⟨_, _⟩, _, _⟩ := hmmi; have := hmsm.1; show (0 ≤ (l3 + 1).toInt ∧ (l3 + 1).toInt ≤ 5) ∧ ((0 ≤ a.toInt ∧ a.toInt < (h 39 3).toInt) ∧ (0 ≤ b.toInt ∧ b.toInt ≤ 3)) ∧ (∀ j : Nat, j < 49 → g 41 j = h 40 j) ∧ (∀ f : Nat, (f : Int) < (l3 + 1).toInt → cntR (fun t => h 40 (6 + 3 * t)) (h 40 4).toInt.toNat (10 * a.toInt + (f : Int)) ≤ rmC b.toInt (f : Int)) ∧ g 40 = h 40; have q1 := ti_mulL (10 : Int32) 10 rfl a; have q2 := ti_add (10 * a) l3; have q3 : ((10 * a) + l3).toInt = 10 * a.toInt + ((l3.toInt.toNat : Nat) : Int) := (by omega); have q4 : l3.toInt = ((l3.toInt.toNat : Nat) : Int) := (by omega); rw [q3, cnt_41 hi0.2.2.1 (by omega)] at o14; rw [q4, rmF_C (by omega) (by omega)] at o17; have q5 : cntR (fun t => h 40 (6 + 3 * t)) (h 40 4).toInt.toNat (10 * a.toInt + ((l3.toInt.toNat : Nat) : Int)) ≤ rmC b.toInt ((l3.toInt.toNat : Nat) : Int) := (by omega); exact ⟨by omega, hi0.2.1, hi0.2.2.1, fun f hf => if w : (f : Int) < l3.toInt then hi0.2.2.2.1 f w else (by rw [show f = l3.toInt.toNat by omega]; exact q5), hi0.2.2.2.2⟩), hgmi, hgsm, hgzs, hgrw, hgam, (fun k hk => hgf k hk)⟩ (by have := ti_addK l3 (1 : Int32) 1 rfl; have := ti_mulL (10 : Int32) 10 rfl a; have := ti_add (10 * a) l3; have ⟨⟨_, _⟩, ⟨_, _⟩, ⟨_, _⟩, ⟨_, _⟩, _, _⟩ := hmmi; have := hmsm.1; show (5 - (l3 + 1).toInt).toNat < n; omega)
      · exact hq (-3 : Int32) g ⟨hgmi, hgsm, hgzs, hgrw, (fun k hk => hgf k hk), (by have := ti_mulL (10 : Int32) 10 rfl a; have := ti_add (10 * a) l3; have ⟨⟨_, _⟩, ⟨_, _⟩, ⟨_, _⟩, ⟨_, _⟩, _, _⟩ := hmmi; have := hmsm.1; show (wfM (mR h) → (-3 : Int32).toInt = (opTeach a b (mR h)).1 ∧ mR g = (opTeach a b (mR h)).2) ∧ (∀ j : Nat, 49 ≤ j → (g 40) j = (h 40) j); rw [ti_n3]; have q1 := ti_mulL (10 : Int32) 10 rfl a; have q2 := ti_add (10 * a) l3; have q3 : ((10 * a) + l3).toInt = 10 * a.toInt + ((l3.toInt.toNat : Nat) : Int) := (by omega); have q4 : l3.toInt = ((l3.toInt.toNat : Nat) : Int) := (by omega); rw [q3, cnt_41 hi0.2.2.1 (by omega)] at o14; rw [q4, rmF_C (by omega) (by omega)] at o17; exact ⟨fun hw => by rw [show opTeach a b (mR h) = _ from teach_full (f := l3.toInt.toNat) ⟨by omega, by omega⟩ (by omega) (by omega)]; exact ⟨rfl, mR_of (congrFun w39_g 3) w40_g⟩, fun j hj => congrFun w40_g j⟩)⟩
set_option maxRecDepth 100000 in
set_option maxHeartbeats 4000000 in
theorem ty_194 (X : qm_X) (h : qm_H) (a : Int32) (b : Int32) (hp : mi h ∧ sm h ∧ zs h ∧ rw_ h) (Q : qm_Q) (hq : ∀ r : Int32, ∀ h' : qm_H, (mi h' ∧ sm h' ∧ zs h' ∧ rw_ h' ∧ (∀ k, (k < 40 ∨ 41 < k) → h' k = h k) ∧ ((wfM (mR h) → r.toInt = (opTeach a b (mR h)).1 ∧ mR h' = (opTeach a b (mR h)).2) ∧ (∀ j : Nat, 49 ≤ j → (h' 40) j = (h 40) j))) → Q (some (.int r)) h') : qm_PW X 194 [.ref 39, .int a, .int b] h Q := by
  have hmmi : mi h := hp.1
  have ⟨⟨_, _⟩, ⟨_, _⟩, ⟨_, _⟩, ⟨_, _⟩, _, _⟩ := hmmi
  have hmsm : sm h := hp.2.1
  have ⟨⟨⟨_, _⟩, _, _⟩, _, _, _⟩ := hmsm
  have hmzs : zs h := hp.2.2.1
  have hmrw : rw_ h := hp.2.2.2
  refine qm_seg_ok (C := qc_194) (rt := some .int) rfl rfl (cuts := [(28, [0, 1, 2, 3])]) 400 _ _ _ _ ?_
  show qm_PW X 164 [.ref 39, .int a] h _
  refine ty_164 X h a hmmi _ (fun r1 p2 => ?_)
  have o3 : (r1 = 0 ∨ r1 = 1) ∧ ((r1.toInt = 1 ∧ 0 ≤ a.toInt ∧ a.toInt < (h 39 3).toInt) ∨ (r1.toInt = 0 ∧ ¬ (0 ≤ a.toInt ∧ a.toInt < (h 39 3).toInt))) := p2
  clear p2
  show (r1 = 0 → (Q (some (.int (-1 : Int32))) h)) ∧ (¬ r1 = 0 → (qm_PW X 141 [.long (Int32.toInt64 b), .long 0, .long 3] h _))
  refine ⟨fun c4 => ?_, fun c5 => ?_⟩
  · have := ti_eqK 0 rfl c4
    exact hq (-1 : Int32) h ⟨hmmi, hmsm, hmzs, hmrw, (fun k hk => rfl), (by have ⟨⟨_, _⟩, ⟨_, _⟩, ⟨_, _⟩, ⟨_, _⟩, _, _⟩ := hmmi; show (wfM (mR h) → (-1 : Int32).toInt = (opTeach a b (mR h)).1 ∧ mR h = (opTeach a b (mR h)).2) ∧ (∀ j : Nat, 49 ≤ j → (h 40) j = (h 40) j); rw [ti_n1]; have := i64 a; have := i64 b; have : (0 : Int64).toInt = 0 := rfl; have : (9 : Int64).toInt = 9 := rfl; have : (3 : Int64).toInt = 3 := rfl; have : (99 : Int64).toInt = 99 := rfl; exact ⟨fun hw => by rw [show opTeach a b (mR h) = _ from teach_bad (by omega)]; exact ⟨rfl, rfl⟩, fun j hj => rfl⟩)⟩
  · have := ti_neK 0 rfl c5
    refine sf_141 X h ((Int32.toInt64 b) : Int64) (0 : Int64) (3 : Int64) trivial _ (fun r6 p7 => ?_)
    have o8 : ¬ r6.toInt = 0 → (0 : Int64).toInt ≤ (Int32.toInt64 b).toInt ∧ (Int32.toInt64 b).toInt ≤ (3 : Int64).toInt := fun hc => p7.2.1 (fun e => hc (ti_eqK 0 rfl e))
    have o9 : r6.toInt = 0 → (Int32.toInt64 b).toInt < (0 : Int64).toInt ∨ (3 : Int64).toInt < (Int32.toInt64 b).toInt := fun hc => p7.2.2 (Int32.toInt_inj.mp hc)
    show (¬ r6 = 0 → (qm_PW X 169 [.ref 39] h _)) ∧ (r6 = 0 → (Q (some (.int (-1 : Int32))) h))
    refine ⟨fun c10 => ?_, fun c11 => ?_⟩
    · have := p7.2.1 c10
      have := ti_neK 0 rfl c10
      refine sf_169_39 X h  hmsm _ (fun g12 p13 => ?_)
      obtain ⟨p13_0, p13_1, p13_2⟩ := p13
      have f14 : ∀ k, (k < 40 ∨ 41 < k) → g12 k = h k := fun k hk => (p13_1 k (by omega)).trans (rfl)
      have k15 : mi g12 := by unfold mi; rw [p13_1 39 (by omega)]; exact hmmi
      have k16 : sm g12 := by unfold sm; rw [p13_1 40 (by omega)]; exact hmsm
      have k17 : zs g12 := by unfold zs; rw [p13_1 49 (by omega)]; exact hmzs
      have k18 : rw_ g12 := by unfold rw_; rw [p13_1 46 (by omega)]; exact hmrw
      have o19 : (∀ j : Nat, j < 49 → g12 41 j = h 40 j) := p13_2
      clear p13_2
      have w39_g12 : g12 39 = h 39 := (p13_1 39 (by omega))
      have w40_g12 : g12 40 = h 40 := (p13_1 40 (by omega))
      have sA_g12 : ∀ j : Nat, j < 49 → g12 41 j = h 40 j := o19
      have s4_g12 : (g12 41 4).toInt = (h 40 4).toInt := congrArg Int32.toInt (sA_g12 4 (by decide))
      show qm_PA X 194 28 [(0, .ref 39), (1, .int a), (2, .int b), (3, .int 0)] [] g12 Q
      exact (ty_194_c X h a b hp Q hq _) (0 : Int32) g12 ⟨(by have : (0 : Int32).toInt = 0 := rfl; have : (0 : Int64).toInt = 0 := rfl; have : (3 : Int64).toInt = 3 := rfl; have := i64 b; have ⟨⟨_, _⟩, ⟨_, _⟩, ⟨_, _⟩, ⟨_, _⟩, _, _⟩ := hmmi; have := hmsm.1; show (0 ≤ (0 : Int32).toInt ∧ (0 : Int32).toInt ≤ 5) ∧ ((0 ≤ a.toInt ∧ a.toInt < (h 39 3).toInt) ∧ (0 ≤ b.toInt ∧ b.toInt ≤ 3)) ∧ (∀ j : Nat, j < 49 → g12 41 j = h 40 j) ∧ (∀ f : Nat, (f : Int) < (0 : Int32).toInt → cntR (fun t => h 40 (6 + 3 * t)) (h 40 4).toInt.toNat (10 * a.toInt + (f : Int)) ≤ rmC b.toInt (f : Int)) ∧ g12 40 = h 40; have := i64 a; have := i64 b; have : (0 : Int64).toInt = 0 := rfl; have : (9 : Int64).toInt = 9 := rfl; have : (3 : Int64).toInt = 3 := rfl; have : (99 : Int64).toInt = 99 := rfl; exact ⟨by have : (0 : Int32).toInt = 0 := rfl; omega, by omega, sA_g12, fun f hf => absurd hf (by have : (0 : Int32).toInt = 0 := rfl; omega), w40_g12⟩), k15, k16, k17, k18, p13_0, (fun k hk => f14 k hk)⟩ (Nat.lt_succ_self _)
    · have := p7.2.2 c11
      have := ti_eqK 0 rfl c11
      exact hq (-1 : Int32) h ⟨hmmi, hmsm, hmzs, hmrw, (fun k hk => rfl), (by have : (0 : Int64).toInt = 0 := rfl; have : (3 : Int64).toInt = 3 := rfl; have := i64 b; have ⟨⟨_, _⟩, ⟨_, _⟩, ⟨_, _⟩, ⟨_, _⟩, _, _⟩ := hmmi; show (wfM (mR h) → (-1 : Int32).toInt = (opTeach a b (mR h)).1 ∧ mR h = (opTeach a b (mR h)).2) ∧ (∀ j : Nat, 49 ≤ j → (h 40) j = (h 40) j); rw [ti_n1]; have := i64 a; have := i64 b; have : (0 : Int64).toInt = 0 := rfl; have : (9 : Int64).toInt = 9 := rfl; have : (3 : Int64).toInt = 3 := rfl; have : (99 : Int64).toInt = 99 := rfl; exact ⟨fun hw => by rw [show opTeach a b (mR h) = _ from teach_bad (by omega)]; exact ⟨rfl, rfl⟩, fun j hj => rfl⟩)⟩
