-- ThreadBankModel.tie(III)I
set_option maxRecDepth 100000 in
set_option maxHeartbeats 4000000 in
theorem ty_189 (X : qm_X) (h : qm_H) (a : Int32) (b : Int32) (c : Int32) (hp : mi h ∧ sm h ∧ zs h ∧ rw_ h) (Q : qm_Q) (hq : ∀ r : Int32, ∀ h' : qm_H, (mi h' ∧ sm h' ∧ zs h' ∧ rw_ h' ∧ (∀ k, (k < 40 ∨ 41 < k) → h' k = h k) ∧ ((wfM (mR h) → r.toInt = (opTie a b c (mR h)).1 ∧ mR h' = (opTie a b c (mR h)).2) ∧ (∀ j : Nat, 49 ≤ j → (h' 40) j = (h 40) j))) → Q (some (.int r)) h') : qm_PW X 189 [.ref 39, .int a, .int b, .int c] h Q := by
  have hmmi : mi h := hp.1
  have ⟨⟨_, _⟩, ⟨_, _⟩, ⟨_, _⟩, ⟨_, _⟩, _, _⟩ := hmmi
  have hmsm : sm h := hp.2.1
  have ⟨⟨⟨_, _⟩, _, _⟩, _, _, _⟩ := hmsm
  have hmzs : zs h := hp.2.2.1
  have hmrw : rw_ h := hp.2.2.2
  refine qm_seg_ok (C := qc_189) (rt := some .int) rfl rfl (cuts := []) 400 _ _ _ _ ?_
  show qm_PW X 165 [.ref 39, .int a] h _
  refine ty_165 X h a hmmi _ (fun r1 p2 => ?_)
  have o3 : (r1 = 0 ∨ r1 = 1) ∧ ((r1.toInt = 1 ∧ 0 ≤ a.toInt ∧ a.toInt / 10 < (h 39 3).toInt ∧ a.toInt % 10 < 5) ∨ (r1.toInt = 0 ∧ ¬ (0 ≤ a.toInt ∧ a.toInt / 10 < (h 39 3).toInt ∧ a.toInt % 10 < 5))) := p2
  clear p2
  show (r1 = 0 → (Q (some (.int (-1 : Int32))) h)) ∧ (¬ r1 = 0 → (qm_PW X 166 [.ref 39, .int b] h _))
  refine ⟨fun c4 => ?_, fun c5 => ?_⟩
  · have := ti_eqK 0 rfl c4
    exact hq (-1 : Int32) h ⟨hmmi, hmsm, hmzs, hmrw, (fun k hk => rfl), (by show (wfM (mR h) → (-1 : Int32).toInt = (opTie a b c (mR h)).1 ∧ mR h = (opTie a b c (mR h)).2) ∧ (∀ j : Nat, 49 ≤ j → (h 40) j = (h 40) j); rw [ti_n1]; have := i64 c; have : (10 : Int64).toInt = 10 := rfl; have : (99 : Int64).toInt = 99 := rfl; exact ⟨fun hw => by rw [show opTie a b c (mR h) = _ from tie_bad (by omega)]; exact ⟨rfl, rfl⟩, fun j hj => rfl⟩)⟩
  · have := ti_neK 0 rfl c5
    refine ty_166 X h b hmmi _ (fun r6 p7 => ?_)
    have o8 : (r6 = 0 ∨ r6 = 1) ∧ ((r6.toInt = 1 ∧ 0 ≤ b.toInt ∧ b.toInt / 10 < (h 39 3).toInt ∧ b.toInt % 10 < (h 39 3).toInt ∧ ¬ b.toInt / 10 = b.toInt % 10) ∨ (r6.toInt = 0 ∧ ¬ (0 ≤ b.toInt ∧ b.toInt / 10 < (h 39 3).toInt ∧ b.toInt % 10 < (h 39 3).toInt ∧ ¬ b.toInt / 10 = b.toInt % 10))) := p7
    clear p7
    show (r6 = 0 → (Q (some (.int (-1 : Int32))) h)) ∧ (¬ r6 = 0 → (qm_PW X 141 [.long (Int32.toInt64 c), .long 10, .long 99] h _))
    refine ⟨fun c9 => ?_, fun c10 => ?_⟩
    · have := ti_eqK 0 rfl c9
      exact hq (-1 : Int32) h ⟨hmmi, hmsm, hmzs, hmrw, (fun k hk => rfl), (by show (wfM (mR h) → (-1 : Int32).toInt = (opTie a b c (mR h)).1 ∧ mR h = (opTie a b c (mR h)).2) ∧ (∀ j : Nat, 49 ≤ j → (h 40) j = (h 40) j); rw [ti_n1]; have := i64 c; have : (10 : Int64).toInt = 10 := rfl; have : (99 : Int64).toInt = 99 := rfl; exact ⟨fun hw => by rw [show opTie a b c (mR h) = _ from tie_bad (by omega)]; exact ⟨rfl, rfl⟩, fun j hj => rfl⟩)⟩
    · have := ti_neK 0 rfl c10
      refine sf_141 X h ((Int32.toInt64 c) : Int64) (10 : Int64) (99 : Int64) trivial _ (fun r11 p12 => ?_)
      have o13 : ¬ r11.toInt = 0 → (10 : Int64).toInt ≤ (Int32.toInt64 c).toInt ∧ (Int32.toInt64 c).toInt ≤ (99 : Int64).toInt := fun hc => p12.2.1 (fun e => hc (ti_eqK 0 rfl e))
      have o14 : r11.toInt = 0 → (Int32.toInt64 c).toInt < (10 : Int64).toInt ∨ (99 : Int64).toInt < (Int32.toInt64 c).toInt := fun hc => p12.2.2 (Int32.toInt_inj.mp hc)
      show (¬ r11 = 0 → (qm_PW X 169 [.ref 39] h _)) ∧ (r11 = 0 → (Q (some (.int (-1 : Int32))) h))
      refine ⟨fun c15 => ?_, fun c16 => ?_⟩
      · have := p12.2.1 c15
        have := ti_neK 0 rfl c15
        refine sf_169_39 X h  hmsm _ (fun g17 p18 => ?_)
        obtain ⟨p18_0, p18_1, p18_2⟩ := p18
        have f19 : ∀ k, (k < 40 ∨ 41 < k) → g17 k = h k := fun k hk => (p18_1 k (by omega)).trans (rfl)
        have k20 : mi g17 := by unfold mi; rw [p18_1 39 (by omega)]; exact hmmi
        have k21 : sm g17 := by unfold sm; rw [p18_1 40 (by omega)]; exact hmsm
        have k22 : zs g17 := by unfold zs; rw [p18_1 49 (by omega)]; exact hmzs
        have k23 : rw_ g17 := by unfold rw_; rw [p18_1 46 (by omega)]; exact hmrw
        have o24 : (∀ j : Nat, j < 49 → g17 41 j = h 40 j) := p18_2
        clear p18_2
        have w39_g17 : g17 39 = h 39 := (p18_1 39 (by omega))
        have w40_g17 : g17 40 = h 40 := (p18_1 40 (by omega))
        have sA_g17 : ∀ j : Nat, j < 49 → g17 41 j = h 40 j := o24
        have s4_g17 : (g17 41 4).toInt = (h 40 4).toInt := congrArg Int32.toInt (sA_g17 4 (by decide))
        show (0 ≤ (4 : Int) ∧ (4 : Int) < 147) ∧ (((g17 40 4) = 10 → (Q (some (.int (-3 : Int32))) g17)) ∧ (¬ (g17 40 4) = 10 → (qm_PW X 174 [.ref 39, .int a] g17 _)))
        refine ⟨by decide, ?_⟩
        refine ⟨fun c25 => ?_, fun c26 => ?_⟩
        · have := ti_eqK 10 rfl c25
          exact hq (-3 : Int32) g17 ⟨k20, k21, k22, k23, (fun k hk => f19 k hk), (by show (wfM (mR h) → (-3 : Int32).toInt = (opTie a b c (mR h)).1 ∧ mR g17 = (opTie a b c (mR h)).2) ∧ (∀ j : Nat, 49 ≤ j → (g17 40) j = (h 40) j); rw [ti_n3]; have := i64 c; have : (10 : Int64).toInt = 10 := rfl; have : (99 : Int64).toInt = 99 := rfl; have hten := congrArg Int32.toInt (show (g17 40 4) = 10 from by assumption); have h10 : (10 : Int32).toInt = 10 := rfl; have e4 := congrArg (fun f : Nat → Int32 => (f 4).toInt) w40_g17; exact ⟨fun hw => by rw [show opTie a b c (mR h) = _ from tie_full ⟨by omega, by omega, by omega⟩ (Or.inr (by omega))]; exact ⟨rfl, mR_of (congrFun w39_g17 3) w40_g17⟩, fun j hj => congrFun w40_g17 j⟩)⟩
        · have := ti_neK 10 rfl c26
          refine ty_174 X g17 a p18_0 _ (fun r27 p28 => ?_)
          have o29 : r27.toInt = cntD (g17 41) (g17 41 4).toInt.toNat a.toInt ∧ (0 ≤ r27.toInt ∧ r27.toInt ≤ 10) := p28
          clear p28
          show qm_PW X 173 [.ref 39, .int a] g17 _
          refine ty_173 X g17 a ⟨p18_0, (by have : (10 : Int64).toInt = 10 := rfl; have : (99 : Int64).toInt = 99 := rfl; have := i64 c; have ⟨⟨_, _⟩, ⟨_, _⟩, ⟨_, _⟩, ⟨_, _⟩, _, _⟩ := hmmi; have := k21.1; omega)⟩ _ (fun r30 p31 => ?_)
          have o32 : r30.toInt = rmF (g17 41 (a.toInt / 10).toNat).toInt (a.toInt % 10) := p31
          clear p31
          show (r27.toInt < r30.toInt → ((0 ≤ (4 : Int) ∧ (4 : Int) < 147) ∧ ((0 ≤ ((6 + (3 * (g17 40 4))) + 0).toInt ∧ ((6 + (3 * (g17 40 4))) + 0).toInt < 147) ∧ ((0 ≤ ((6 + (3 * (g17 40 4))) + 1).toInt ∧ ((6 + (3 * (g17 40 4))) + 1).toInt < 147) ∧ ((0 ≤ ((6 + (3 * (g17 40 4))) + 2).toInt ∧ ((6 + (3 * (g17 40 4))) + 2).toInt < 147) ∧ ((0 ≤ (4 : Int) ∧ (4 : Int) < 147) ∧ (qm_PW X 188 [.ref 39, .int 4, .int (((upd (upd (upd (g17 40) ((6 + (3 * (g17 40 4))) + 0).toInt.toNat a) ((6 + (3 * (g17 40 4))) + 1).toInt.toNat b) ((6 + (3 * (g17 40 4))) + 2).toInt.toNat c) 4) + 1)] (qm_row (qm_row (qm_row g17 40 (upd (g17 40) ((6 + (3 * (g17 40 4))) + 0).toInt.toNat a)) 40 (upd (upd (g17 40) ((6 + (3 * (g17 40 4))) + 0).toInt.toNat a) ((6 + (3 * (g17 40 4))) + 1).toInt.toNat b)) 40 (upd (upd (upd (g17 40) ((6 + (3 * (g17 40 4))) + 0).toInt.toNat a) ((6 + (3 * (g17 40 4))) + 1).toInt.toNat b) ((6 + (3 * (g17 40 4))) + 2).toInt.toNat c)) _))))))) ∧ (r30.toInt ≤ r27.toInt → (Q (some (.int (-3 : Int32))) g17))
          refine ⟨fun c33 => ?_, fun c34 => ?_⟩
          · refine ⟨by decide, ?_⟩
            refine ⟨(by have := ti_mulL (3 : Int32) 3 rfl (g17 40 4); have := ti_addL (3 * (g17 40 4)) (6 : Int32) 6 rfl; have := ti_addK (6 + (3 * (g17 40 4))) (0 : Int32) 0 rfl; have : (10 : Int64).toInt = 10 := rfl; have : (99 : Int64).toInt = 99 := rfl; have := i64 c; have ⟨⟨_, _⟩, ⟨_, _⟩, ⟨_, _⟩, ⟨_, _⟩, _, _⟩ := hmmi; have := k21.1; omega), ?_⟩
            refine ⟨(by have := ti_mulL (3 : Int32) 3 rfl (g17 40 4); have := ti_addL (3 * (g17 40 4)) (6 : Int32) 6 rfl; have := ti_addK (6 + (3 * (g17 40 4))) (1 : Int32) 1 rfl; have : (10 : Int64).toInt = 10 := rfl; have : (99 : Int64).toInt = 99 := rfl; have := i64 c; have ⟨⟨_, _⟩, ⟨_, _⟩, ⟨_, _⟩, ⟨_, _⟩, _, _⟩ := hmmi; have := k21.1; omega), ?_⟩
            refine ⟨(by have := ti_mulL (3 : Int32) 3 rfl (g17 40 4); have := ti_addL (3 * (g17 40 4)) (6 : Int32) 6 rfl; have := ti_addK (6 + (3 * (g17 40 4))) (2 : Int32) 2 rfl; have : (10 : Int64).toInt = 10 := rfl; have : (99 : Int64).toInt = 99 := rfl; have := i64 c; have ⟨⟨_, _⟩, ⟨_, _⟩, ⟨_, _⟩, ⟨_, _⟩, _, _⟩ := hmmi; have := k21.1; omega), ?_⟩
            refine ⟨by decide, ?_⟩
            refine ty_188 X (qm_row (qm_row (qm_row g17 40 (upd (g17 40) ((6 + (3 * (g17 40 4))) + 0).toInt.toNat a)) 40 (upd (upd (g17 40) ((6 + (3 * (g17 40 4))) + 0).toInt.toNat a) ((6 + (3 * (g17 40 4))) + 1).toInt.toNat b)) 40 (upd (upd (upd (g17 40) ((6 + (3 * (g17 40 4))) + 0).toInt.toNat a) ((6 + (3 * (g17 40 4))) + 1).toInt.toNat b) ((6 + (3 * (g17 40 4))) + 2).toInt.toNat c)) (4 : Int32) (((upd (upd (upd (g17 40) ((6 + (3 * (g17 40 4))) + 0).toInt.toNat a) ((6 + (3 * (g17 40 4))) + 1).toInt.toNat b) ((6 + (3 * (g17 40 4))) + 2).toInt.toNat c) 4) + 1) ⟨(by exact sm_tie k21 (by have := k21.1; omega) (by omega) (by unfold pr; omega) (by have := i64 c; have : (10 : Int64).toInt = 10 := rfl; have : (99 : Int64).toInt = 99 := rfl; omega)), ⟨by decide, by decide, pv_many (tie_many (by have := k21.1; omega) (by have := k21.1; omega))⟩⟩ _ (fun r35 g36 p37 => ?_)
            obtain ⟨p37_0, p37_1, p37_2⟩ := p37
            have f38 : ∀ k, (k < 40 ∨ 41 < k) → g36 k = h k := fun k hk => (p37_1 k (by omega)).trans (by simp only [qm_row]; rw [if_neg (by omega)]; rw [if_neg (by omega)]; rw [if_neg (by omega)]; exact f19 k hk)
            have k39 : mi g36 := by unfold mi; rw [p37_1 39 (by omega)]; exact k20
            have k40 : zs g36 := by unfold zs; rw [p37_1 49 (by omega)]; exact k22
            have k41 : rw_ g36 := by unfold rw_; rw [p37_1 46 (by omega)]; exact k23
            have k42 : am g36 := by unfold am; rw [p37_1 41 (by omega)]; exact p18_0
            have o43 : r35.toInt = ((upd (upd (upd (g17 40) ((6 + (3 * (g17 40 4))) + 0).toInt.toNat a) ((6 + (3 * (g17 40 4))) + 1).toInt.toNat b) ((6 + (3 * (g17 40 4))) + 2).toInt.toNat c) (4 : Int32).toInt.toNat).toInt ∧ (g36 40) = upd (upd (upd (upd (g17 40) ((6 + (3 * (g17 40 4))) + 0).toInt.toNat a) ((6 + (3 * (g17 40 4))) + 1).toInt.toNat b) ((6 + (3 * (g17 40 4))) + 2).toInt.toNat c) (4 : Int32).toInt.toNat (((upd (upd (upd (g17 40) ((6 + (3 * (g17 40 4))) + 0).toInt.toNat a) ((6 + (3 * (g17 40 4))) + 1).toInt.toNat b) ((6 + (3 * (g17 40 4))) + 2).toInt.toNat c) 4) + 1) := p37_2
            clear p37_2
            have w39_g36 : g36 39 = h 39 := (p37_1 39 (by omega)).trans w39_g17
            show Q (some (.int r35)) g36
            exact hq r35 g36 ⟨k39, p37_0, k40, k41, (fun k hk => f38 k hk), (by show (wfM (mR h) → r35.toInt = (opTie a b c (mR h)).1 ∧ mR g36 = (opTie a b c (mR h)).2) ∧ (∀ j : Nat, 49 ≤ j → (g36 40) j = (h 40) j); have := i64 c; have : (10 : Int64).toInt = 10 := rfl; have : (99 : Int64).toInt = 99 := rfl; rw [cnt_41 sA_g17 (by omega)] at o29; rw [sA_g17 _ (by omega)] at o32; have hten : ¬ (h 40 4).toInt = 10 := (fun w => absurd (Int32.toInt_inj.mp (show (g17 40 4).toInt = (10 : Int32).toInt by rw [w40_g17]; exact w)) (by assumption)); have hix := tie_ix (m := g17 40 4) (by rw [w40_g17]; omega); have e40 := o43.2; have e41 := o43.1; rw [hix.1, hix.2.1, hix.2.2] at e40 e41; have e9 := tieR_row e40 w40_g17; have e39 := (p37_1 39 (by omega)).trans w39_g17; exact ⟨fun hw => by have hk := (wf_raw hw).2.1 (a.toInt / 10).toNat (by omega); rw [rmF_C (by omega) (by omega)] at o32; rw [show opTie a b c (mR h) = _ from tie_ok ⟨by omega, by omega, by omega⟩ (by omega) (by omega) (by omega)]; exact ⟨tieR_r e41 w40_g17, tieR_m e9 e39 (by omega) (by omega) (by omega) (by omega)⟩, tieR_hi e9 (by omega)⟩)⟩
          · exact hq (-3 : Int32) g17 ⟨k20, k21, k22, k23, (fun k hk => f19 k hk), (by show (wfM (mR h) → (-3 : Int32).toInt = (opTie a b c (mR h)).1 ∧ mR g17 = (opTie a b c (mR h)).2) ∧ (∀ j : Nat, 49 ≤ j → (g17 40) j = (h 40) j); rw [ti_n3]; have := i64 c; have : (10 : Int64).toInt = 10 := rfl; have : (99 : Int64).toInt = 99 := rfl; rw [cnt_41 sA_g17 (by omega)] at o29; rw [sA_g17 _ (by omega)] at o32; exact ⟨fun hw => by have hk := (wf_raw hw).2.1 (a.toInt / 10).toNat (by omega); rw [rmF_C (by omega) (by omega)] at o32; rw [show opTie a b c (mR h) = _ from tie_full ⟨by omega, by omega, by omega⟩ (Or.inl (by omega))]; exact ⟨rfl, mR_of (congrFun w39_g17 3) w40_g17⟩, fun j hj => congrFun w40_g17 j⟩)⟩
      · have := p12.2.2 c16
        have := ti_eqK 0 rfl c16
        exact hq (-1 : Int32) h ⟨hmmi, hmsm, hmzs, hmrw, (fun k hk => rfl), (by show (wfM (mR h) → (-1 : Int32).toInt = (opTie a b c (mR h)).1 ∧ mR h = (opTie a b c (mR h)).2) ∧ (∀ j : Nat, 49 ≤ j → (h 40) j = (h 40) j); rw [ti_n1]; have := i64 c; have : (10 : Int64).toInt = 10 := rfl; have : (99 : Int64).toInt = 99 := rfl; exact ⟨fun hw => by rw [show opTie a b c (mR h) = _ from tie_bad (by omega)]; exact ⟨rfl, rfl⟩, fun j hj => rfl⟩)⟩
