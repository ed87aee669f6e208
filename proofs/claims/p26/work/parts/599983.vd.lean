-- ThreadBankModel.keep(I)I
set_option maxRecDepth 100000 in
set_option maxHeartbeats 4000000 in
theorem ty_231 (X : qm_X) (h : qm_H) (a : Int32) (hp : mi h ∧ sm h ∧ zs h ∧ rw_ h) (Q : qm_Q) (hq : ∀ r : Int32, ∀ h' : qm_H, (mi h' ∧ sm h' ∧ zs h' ∧ rw_ h' ∧ (∀ k, (k < 40 ∨ 42 < k) → h' k = h k) ∧ (kpQ a r.toInt (h 42) (h' 42) ∧ kmR a h h' ∧ mR h' = mR h)) → Q (some (.int r)) h') : qm_PW X 231 [.ref 39, .int a] h Q := by
  have hmmi : mi h := hp.1
  have ⟨⟨_, _⟩, ⟨_, _⟩, ⟨_, _⟩, ⟨_, _⟩, _, _⟩ := hmmi
  have hmsm : sm h := hp.2.1
  have ⟨⟨⟨_, _⟩, _, _⟩, _, _, _⟩ := hmsm
  have hmzs : zs h := hp.2.2.1
  have hmrw : rw_ h := hp.2.2.2
  refine qm_seg_ok (C := qc_231) (rt := some .int) rfl rfl (cuts := []) 400 _ _ _ _ ?_
  show qm_PW X 141 [.long (Int32.toInt64 a), .long 0, .long 1] h _
  refine sf_141 X h ((Int32.toInt64 a) : Int64) (0 : Int64) (1 : Int64) trivial _ (fun r1 p2 => ?_)
  have o3 : ¬ r1.toInt = 0 → (0 : Int64).toInt ≤ (Int32.toInt64 a).toInt ∧ (Int32.toInt64 a).toInt ≤ (1 : Int64).toInt := fun hc => p2.2.1 (fun e => hc (ti_eqK 0 rfl e))
  have o4 : r1.toInt = 0 → (Int32.toInt64 a).toInt < (0 : Int64).toInt ∨ (1 : Int64).toInt < (Int32.toInt64 a).toInt := fun hc => p2.2.2 (Int32.toInt_inj.mp hc)
  show (¬ r1 = 0 → ((0 ≤ a.toInt ∧ a.toInt < 2) ∧ (qm_PW X 142 [.int (h 42 a.toInt.toNat)] h _))) ∧ (r1 = 0 → (Q (some (.int (-1 : Int32))) h))
  refine ⟨fun c5 => ?_, fun c6 => ?_⟩
  · have := p2.2.1 c5
    have := ti_neK 0 rfl c5
    refine ⟨(by have : (0 : Int64).toInt = 0 := rfl; have : (1 : Int64).toInt = 1 := rfl; have := i64 a; omega), ?_⟩
    refine tx_142 X h (h 42 a.toInt.toNat) trivial _ (fun r7 p8 => ?_)
    have o9 : ((h 42 a.toInt.toNat).toInt = 0 ∧ r7.toInt = 0) ∨ (¬ (h 42 a.toInt.toNat).toInt = 0 ∧ r7.toInt = 1) := p8
    clear p8
    show (0 ≤ a.toInt ∧ a.toInt < 2) ∧ (qm_PW X 230 [.ref 39, .int (49 * (a + 1)), .int 0] (qm_row h 42 (upd (h 42) a.toInt.toNat (vp_nar .boolean 1))) _)
    refine ⟨(by have : (0 : Int64).toInt = 0 := rfl; have : (1 : Int64).toInt = 1 := rfl; have := i64 a; omega), ?_⟩
    refine sf_230_39 X (qm_row h 42 (upd (h 42) a.toInt.toNat (vp_nar .boolean 1))) (49 * (a + 1)) (0 : Int32) ⟨(by exact hmsm), (by have : (0 : Int32).toInt = 0 := rfl; have := ti_addK a (1 : Int32) 1 rfl; have := ti_mulL (49 : Int32) 49 rfl (a + 1); have : (0 : Int64).toInt = 0 := rfl; have : (1 : Int64).toInt = 1 := rfl; have := i64 a; omega)⟩ _ (fun g10 p11 => ?_)
    obtain ⟨p11_0, p11_1, p11_2⟩ := p11
    have f12 : ∀ k, (k < 40 ∨ 42 < k) → g10 k = h k := fun k hk => (p11_1 k (by omega)).trans (by simp only [qm_row]; rw [if_neg (by omega)])
    have k13 : mi g10 := by unfold mi; rw [p11_1 39 (by omega)]; exact hmmi
    have k14 : zs g10 := by unfold zs; rw [p11_1 49 (by omega)]; exact hmzs
    have k15 : rw_ g10 := by unfold rw_; rw [p11_1 46 (by omega)]; exact hmrw
    have o16 : ((∀ j : Nat, j < 49 → (g10 40) ((49 * (a + 1)).toInt.toNat + j) = (h 40) ((0 : Int32).toInt.toNat + j)) ∧ ∀ j : Nat, (j < (49 * (a + 1)).toInt.toNat ∨ (49 * (a + 1)).toInt.toNat + 49 ≤ j) → (g10 40) j = (h 40) j) := p11_2
    clear p11_2
    have w39_g10 : g10 39 = h 39 := p11_1 39 (by omega)
    have w42_g10 : g10 42 = (upd (h 42) a.toInt.toNat (vp_nar .boolean 1)) := p11_1 42 (by omega)
    show Q (some (.int r7)) g10
    exact hq r7 g10 ⟨k13, p11_0, k14, k15, (fun k hk => f12 k hk), (by have : (0 : Int32).toInt = 0 := rfl; have := ti_addK a (1 : Int32) 1 rfl; have := ti_mulL (49 : Int32) 49 rfl (a + 1); have : (0 : Int64).toInt = 0 := rfl; have : (1 : Int64).toInt = 1 := rfl; have := i64 a; show kpQ a r7.toInt (h 42) (g10 42) ∧ kmR a h g10 ∧ mR g10 = mR h; have := i64 a; have : (0 : Int64).toInt = 0 := rfl; have : (1 : Int64).toInt = 1 := rfl; have q1 := ti_addK a (1 : Int32) 1 rfl; have q2 := ti_mulL (49 : Int32) 49 rfl (a + 1); have h00 : (0 : Int32).toInt = 0 := rfl; exact ⟨Or.inl ⟨by omega, (if hz : h 42 a.toInt.toNat = 0 then Or.inl ⟨hz, by have := congrArg Int32.toInt hz; omega⟩ else Or.inr ⟨hz, by have := ti_neK 0 rfl hz; omega⟩), w42_g10⟩, km_of w39_g10 o16 (by omega) (by omega) (by omega) (by omega) (by omega) (by omega) hmsm.2.2.1⟩)⟩
  · have := p2.2.2 c6
    have := ti_eqK 0 rfl c6
    exact hq (-1 : Int32) h ⟨hmmi, hmsm, hmzs, hmrw, (fun k hk => rfl), (by have : (0 : Int64).toInt = 0 := rfl; have : (1 : Int64).toInt = 1 := rfl; have := i64 a; show kpQ a (-1 : Int32).toInt (h 42) (h 42) ∧ kmR a h h ∧ mR h = mR h; rw [ti_n1]; have := i64 a; have : (0 : Int64).toInt = 0 := rfl; have : (1 : Int64).toInt = 1 := rfl; have q1 := ti_addK a (1 : Int32) 1 rfl; have q2 := ti_mulL (49 : Int32) 49 rfl (a + 1); have h00 : (0 : Int32).toInt = 0 := rfl; exact ⟨Or.inr ⟨by omega, rfl, rfl⟩, Or.inr (Or.inr ⟨by omega, rfl, rfl⟩), rfl⟩)⟩
-- ThreadBankModel.back(I)I
set_option maxRecDepth 100000 in
set_option maxHeartbeats 4000000 in
theorem ty_232 (X : qm_X) (h : qm_H) (a : Int32) (hp : mi h ∧ sm h ∧ zs h ∧ rw_ h) (Q : qm_Q) (hq : ∀ r : Int32, ∀ h' : qm_H, (mi h' ∧ sm h' ∧ zs h' ∧ rw_ h' ∧ (∀ k, (k < 40 ∨ 40 < k) → h' k = h k) ∧ (bkR a r.toInt h h' ∧ (∀ j : Nat, 49 ≤ j → (h' 40) j = (h 40) j))) → Q (some (.int r)) h') : qm_PW X 232 [.ref 39, .int a] h Q := by
  have hmmi : mi h := hp.1
  have ⟨⟨_, _⟩, ⟨_, _⟩, ⟨_, _⟩, ⟨_, _⟩, _, _⟩ := hmmi
  have hmsm : sm h := hp.2.1
  have ⟨⟨⟨_, _⟩, _, _⟩, _, _, _⟩ := hmsm
  have hmzs : zs h := hp.2.2.1
  have hmrw : rw_ h := hp.2.2.2
  refine qm_seg_ok (C := qc_232) (rt := some .int) rfl rfl (cuts := []) 400 _ _ _ _ ?_
  show qm_PW X 141 [.long (Int32.toInt64 a), .long 0, .long 1] h _
  refine sf_141 X h ((Int32.toInt64 a) : Int64) (0 : Int64) (1 : Int64) trivial _ (fun r1 p2 => ?_)
  have o3 : ¬ r1.toInt = 0 → (0 : Int64).toInt ≤ (Int32.toInt64 a).toInt ∧ (Int32.toInt64 a).toInt ≤ (1 : Int64).toInt := fun hc => p2.2.1 (fun e => hc (ti_eqK 0 rfl e))
  have o4 : r1.toInt = 0 → (Int32.toInt64 a).toInt < (0 : Int64).toInt ∨ (1 : Int64).toInt < (Int32.toInt64 a).toInt := fun hc => p2.2.2 (Int32.toInt_inj.mp hc)
  show (¬ r1 = 0 → ((0 ≤ a.toInt ∧ a.toInt < 2) ∧ ((¬ (h 42 a.toInt.toNat) = 0 → (qm_PW X 230 [.ref 39, .int 0, .int (49 * (a + 1))] h _)) ∧ ((h 42 a.toInt.toNat) = 0 → (Q (some (.int (-2 : Int32))) h))))) ∧ (r1 = 0 → (Q (some (.int (-1 : Int32))) h))
  refine ⟨fun c5 => ?_, fun c6 => ?_⟩
  · have := p2.2.1 c5
    have := ti_neK 0 rfl c5
    refine ⟨(by have : (0 : Int64).toInt = 0 := rfl; have : (1 : Int64).toInt = 1 := rfl; have := i64 a; omega), ?_⟩
    refine ⟨fun c7 => ?_, fun c8 => ?_⟩
    · have := ti_neK 0 rfl c7
      refine sf_230_39 X h (0 : Int32) (49 * (a + 1)) ⟨hmsm, (by have : (0 : Int32).toInt = 0 := rfl; have := ti_addK a (1 : Int32) 1 rfl; have := ti_mulL (49 : Int32) 49 rfl (a + 1); have : (0 : Int64).toInt = 0 := rfl; have : (1 : Int64).toInt = 1 := rfl; have := i64 a; omega)⟩ _ (fun g9 p10 => ?_)
      obtain ⟨p10_0, p10_1, p10_2⟩ := p10
      have f11 : ∀ k, (k < 40 ∨ 40 < k) → g9 k = h k := fun k hk => (p10_1 k (by omega)).trans (rfl)
      have k12 : mi g9 := by unfold mi; rw [p10_1 39 (by omega)]; exact hmmi
      have k13 : zs g9 := by unfold zs; rw [p10_1 49 (by omega)]; exact hmzs
      have k14 : rw_ g9 := by unfold rw_; rw [p10_1 46 (by omega)]; exact hmrw
      have o15 : ((∀ j : Nat, j < 49 → (g9 40) ((0 : Int32).toInt.toNat + j) = (h 40) ((49 * (a + 1)).toInt.toNat + j)) ∧ ∀ j : Nat, (j < (0 : Int32).toInt.toNat ∨ (0 : Int32).toInt.toNat + 49 ≤ j) → (g9 40) j = (h 40) j) := p10_2
      clear p10_2
      have w39_g9 : g9 39 = h 39 := p10_1 39 (by omega)
      have w42_g9 : g9 42 = (h 42) := p10_1 42 (by omega)
      show (0 ≤ (4 : Int) ∧ (4 : Int) < 147) ∧ (Q (some (.int (g9 40 4))) g9)
      refine ⟨by decide, ?_⟩
      exact hq (g9 40 4) g9 ⟨k12, p10_0, k13, k14, (fun k hk => f11 k hk), (by have : (0 : Int32).toInt = 0 := rfl; have := ti_addK a (1 : Int32) 1 rfl; have := ti_mulL (49 : Int32) 49 rfl (a + 1); have : (0 : Int64).toInt = 0 := rfl; have : (1 : Int64).toInt = 1 := rfl; have := i64 a; show bkR a (g9 40 4).toInt h g9 ∧ (∀ j : Nat, 49 ≤ j → (g9 40) j = (h 40) j); have := i64 a; have : (0 : Int64).toInt = 0 := rfl; have : (1 : Int64).toInt = 1 := rfl; have q1 := ti_addK a (1 : Int32) 1 rfl; have q2 := ti_mulL (49 : Int32) 49 rfl (a + 1); have h00 : (0 : Int32).toInt = 0 := rfl; exact bk_of w39_g9 o15 (by omega) (by omega) (by omega) (by omega) hmsm (by assumption))⟩
    · have := ti_eqK 0 rfl c8
      exact hq (-2 : Int32) h ⟨hmmi, hmsm, hmzs, hmrw, (fun k hk => rfl), (by have : (0 : Int64).toInt = 0 := rfl; have : (1 : Int64).toInt = 1 := rfl; have := i64 a; show bkR a (-2 : Int32).toInt h h ∧ (∀ j : Nat, 49 ≤ j → (h 40) j = (h 40) j); rw [ti_n2]; have := i64 a; have : (0 : Int64).toInt = 0 := rfl; have : (1 : Int64).toInt = 1 := rfl; have q1 := ti_addK a (1 : Int32) 1 rfl; have q2 := ti_mulL (49 : Int32) 49 rfl (a + 1); have h00 : (0 : Int32).toInt = 0 := rfl; exact ⟨Or.inr (Or.inl ⟨by omega, by assumption, rfl, rfl⟩), fun j hj => rfl⟩)⟩
  · have := p2.2.2 c6
    have := ti_eqK 0 rfl c6
    exact hq (-1 : Int32) h ⟨hmmi, hmsm, hmzs, hmrw, (fun k hk => rfl), (by have : (0 : Int64).toInt = 0 := rfl; have : (1 : Int64).toInt = 1 := rfl; have := i64 a; show bkR a (-1 : Int32).toInt h h ∧ (∀ j : Nat, 49 ≤ j → (h 40) j = (h 40) j); rw [ti_n1]; have := i64 a; have : (0 : Int64).toInt = 0 := rfl; have : (1 : Int64).toInt = 1 := rfl; have q1 := ti_addK a (1 : Int32) 1 rfl; have q2 := ti_mulL (49 : Int32) 49 rfl (a + 1); have h00 : (0 : Int32).toInt = 0 := rfl; exact ⟨Or.inl ⟨by omega, rfl, rfl⟩, fun j hj => rfl⟩)⟩
