-- ThreadBankModel.looked(II)I
set_option maxRecDepth 100000 in
set_option maxHeartbeats 4000000 in
theorem sf_153_39 (X : qm_X) (h : qm_H) (a : Int32) (b : Int32) (hp : mi h ∧ pp h ∧ (0 ≤ a.toInt ∧ 0 ≤ b.toInt)) (Q : qm_Q) (hq : ∀ r : Int32, ∀ h' : qm_H, (mi h' ∧ pp h' ∧ (∀ k, (k < 39 ∨ 39 < k) → h' k = h k) ∧ ((0 ≤ r.toInt ∧ r.toInt ≤ b.toInt) ∧ ((h 39 14).toInt ≤ (h' 39 14).toInt) ∧ ((h' 39 5).toInt = (h 39 5).toInt) ∧ ((h' 39 10).toInt = (h 39 10).toInt))) → Q (some (.int r)) h') : qm_PW X 153 [.ref 39, .int a, .int b] h Q := by
  have hmmi : mi h := hp.1
  have ⟨⟨_, _⟩, ⟨_, _⟩, ⟨_, _⟩, ⟨_, _⟩, _, _⟩ := hmmi
  have hmpp : pp h := hp.2.1
  have ⟨⟨_, _⟩, ⟨_, _⟩, _, _⟩ := hmpp
  have hp0 : 0 ≤ a.toInt ∧ 0 ≤ b.toInt := hp.2.2
  refine qm_seg_ok (C := qc_153) (rt := some .int) rfl rfl (cuts := []) 400 _ _ _ _ ?_
  show (¬ (h 39 14) = 0 → ((¬ (h 39 14) = 0 → ((¬ (h 39 14) = 0 → (Q (some (.int 0)) h)) ∧ ((h 39 14) = 0 → (Q (some (.int (h 39 13))) h)))) ∧ ((h 39 14) = 0 → (qm_PW X 141 [.long (Int32.toInt64 (h 39 13)), .long (Int32.toInt64 a), .long (Int32.toInt64 b)] h _)))) ∧ ((h 39 14) = 0 → ((¬ (h 39 12) = 2 → (qm_PW X 147 [.ref 39, .int 0, .int 2] h _)) ∧ ((h 39 12) = 2 → (qm_PW X 147 [.ref 39, .int 1, .int 2] h _))))
  refine ⟨fun c1 => ?_, fun c2 => ?_⟩
  · have := ti_neK 0 rfl c1
    refine ⟨fun c3 => ?_, fun c4 => ?_⟩
    · have := ti_neK 0 rfl c3
      refine ⟨fun c5 => ?_, fun c6 => ?_⟩
      · have := ti_neK 0 rfl c5
        exact hq 0 h ⟨hmmi, hmpp, (fun k hk => rfl), (by have : (0 : Int32).toInt = 0 := rfl; show (0 ≤ (0 : Int32).toInt ∧ (0 : Int32).toInt ≤ b.toInt) ∧ ((h 39 14).toInt ≤ (h 39 14).toInt) ∧ ((h 39 5).toInt = (h 39 5).toInt) ∧ ((h 39 10).toInt = (h 39 10).toInt); omega)⟩
      · have := ti_eqK 0 rfl c6
        exact hq (h 39 13) h ⟨hmmi, hmpp, (fun k hk => rfl), (by show (0 ≤ (h 39 13).toInt ∧ (h 39 13).toInt ≤ b.toInt) ∧ ((h 39 14).toInt ≤ (h 39 14).toInt) ∧ ((h 39 5).toInt = (h 39 5).toInt) ∧ ((h 39 10).toInt = (h 39 10).toInt); omega)⟩
    · have := ti_eqK 0 rfl c4
      refine sf_141 X h ((Int32.toInt64 (h 39 13)) : Int64) ((Int32.toInt64 a) : Int64) ((Int32.toInt64 b) : Int64) trivial _ (fun r7 p8 => ?_)
      have o9 : ¬ r7.toInt = 0 → (Int32.toInt64 a).toInt ≤ (Int32.toInt64 (h 39 13)).toInt ∧ (Int32.toInt64 (h 39 13)).toInt ≤ (Int32.toInt64 b).toInt := fun hc => p8.2.1 (fun e => hc (ti_eqK 0 rfl e))
      show qm_PW X 147 [.ref 39, .int r7, .int 3] h _
      refine sf_147_39 X h r7 (3 : Int32) ⟨hmmi, hmpp, (by have : (3 : Int32).toInt = 3 := rfl; have := i64 a; have := i64 (h 39 13); have := i64 b; omega)⟩ _ (fun g10 p11 => ?_)
      have f12 : ∀ k, (k < 39 ∨ 39 < k) → g10 k = h k := fun k hk => (p11.2.2.1 k (by omega)).trans (rfl)
      have o13 : ((h 39 14).toInt ≤ (g10 39 14).toInt) ∧ (r7.toInt = 0 → 1 ≤ (g10 39 14).toInt) ∧ ((g10 39 10).toInt = (h 39 10).toInt) ∧ ((g10 39 12).toInt = (h 39 12).toInt) ∧ ((g10 39 13).toInt = (h 39 13).toInt) ∧ ((g10 39 5).toInt = (h 39 5).toInt) := p11.2.2.2
      show (¬ (g10 39 14) = 0 → (Q (some (.int 0)) g10)) ∧ ((g10 39 14) = 0 → (Q (some (.int (g10 39 13))) g10))
      refine ⟨fun c14 => ?_, fun c15 => ?_⟩
      · have := ti_neK 0 rfl c14
        exact hq 0 g10 ⟨p11.1, p11.2.1, (fun k hk => f12 k hk), (by have : (0 : Int32).toInt = 0 := rfl; have := i64 a; have := i64 (h 39 13); have := i64 b; show (0 ≤ (0 : Int32).toInt ∧ (0 : Int32).toInt ≤ b.toInt) ∧ ((h 39 14).toInt ≤ (g10 39 14).toInt) ∧ ((g10 39 5).toInt = (h 39 5).toInt) ∧ ((g10 39 10).toInt = (h 39 10).toInt); omega)⟩
      · have := ti_eqK 0 rfl c15
        exact hq (g10 39 13) g10 ⟨p11.1, p11.2.1, (fun k hk => f12 k hk), (by have := i64 a; have := i64 (h 39 13); have := i64 b; show (0 ≤ (g10 39 13).toInt ∧ (g10 39 13).toInt ≤ b.toInt) ∧ ((h 39 14).toInt ≤ (g10 39 14).toInt) ∧ ((g10 39 5).toInt = (h 39 5).toInt) ∧ ((g10 39 10).toInt = (h 39 10).toInt); omega)⟩
  · have := ti_eqK 0 rfl c2
    refine ⟨fun c16 => ?_, fun c17 => ?_⟩
    · have := ti_neK 2 rfl c16
      refine sf_147_39 X h (0 : Int32) (2 : Int32) ⟨hmmi, hmpp, (by have : (2 : Int32).toInt = 2 := rfl; omega)⟩ _ (fun g18 p19 => ?_)
      have f20 : ∀ k, (k < 39 ∨ 39 < k) → g18 k = h k := fun k hk => (p19.2.2.1 k (by omega)).trans (rfl)
      have o21 : ((h 39 14).toInt ≤ (g18 39 14).toInt) ∧ ((0 : Int32).toInt = 0 → 1 ≤ (g18 39 14).toInt) ∧ ((g18 39 10).toInt = (h 39 10).toInt) ∧ ((g18 39 12).toInt = (h 39 12).toInt) ∧ ((g18 39 13).toInt = (h 39 13).toInt) ∧ ((g18 39 5).toInt = (h 39 5).toInt) := p19.2.2.2
      show (¬ (g18 39 14) = 0 → ((¬ (g18 39 14) = 0 → (Q (some (.int 0)) g18)) ∧ ((g18 39 14) = 0 → (Q (some (.int (g18 39 13))) g18)))) ∧ ((g18 39 14) = 0 → (qm_PW X 141 [.long (Int32.toInt64 (g18 39 13)), .long (Int32.toInt64 a), .long (Int32.toInt64 b)] g18 _))
      refine ⟨fun c22 => ?_, fun c23 => ?_⟩
      · have := ti_neK 0 rfl c22
        refine ⟨fun c24 => ?_, fun c25 => ?_⟩
        · have := ti_neK 0 rfl c24
          exact hq 0 g18 ⟨p19.1, p19.2.1, (fun k hk => f20 k hk), (by have : (0 : Int32).toInt = 0 := rfl; show (0 ≤ (0 : Int32).toInt ∧ (0 : Int32).toInt ≤ b.toInt) ∧ ((h 39 14).toInt ≤ (g18 39 14).toInt) ∧ ((g18 39 5).toInt = (h 39 5).toInt) ∧ ((g18 39 10).toInt = (h 39 10).toInt); omega)⟩
        · have := ti_eqK 0 rfl c25
          exact hq (g18 39 13) g18 ⟨p19.1, p19.2.1, (fun k hk => f20 k hk), (by have : (0 : Int32).toInt = 0 := rfl; show (0 ≤ (g18 39 13).toInt ∧ (g18 39 13).toInt ≤ b.toInt) ∧ ((h 39 14).toInt ≤ (g18 39 14).toInt) ∧ ((g18 39 5).toInt = (h 39 5).toInt) ∧ ((g18 39 10).toInt = (h 39 10).toInt); omega)⟩
      · have := ti_eqK 0 rfl c23
        refine sf_141 X g18 ((Int32.toInt64 (g18 39 13)) : Int64) ((Int32.toInt64 a) : Int64) ((Int32.toInt64 b) : Int64) trivial _ (fun r26 p27 => ?_)
        have o28 : ¬ r26.toInt = 0 → (Int32.toInt64 a).toInt ≤ (Int32.toInt64 (g18 39 13)).toInt ∧ (Int32.toInt64 (g18 39 13)).toInt ≤ (Int32.toInt64 b).toInt := fun hc => p27.2.1 (fun e => hc (ti_eqK 0 rfl e))
        show qm_PW X 147 [.ref 39, .int r26, .int 3] g18 _
        refine sf_147_39 X g18 r26 (3 : Int32) ⟨p19.1, p19.2.1, (by have : (3 : Int32).toInt = 3 := rfl; have : (0 : Int32).toInt = 0 := rfl; have := i64 a; have := i64 (g18 39 13); have := i64 b; omega)⟩ _ (fun g29 p30 => ?_)
        have f31 : ∀ k, (k < 39 ∨ 39 < k) → g29 k = h k := fun k hk => (p30.2.2.1 k (by omega)).trans (f20 k hk)
        have o32 : ((g18 39 14).toInt ≤ (g29 39 14).toInt) ∧ (r26.toInt = 0 → 1 ≤ (g29 39 14).toInt) ∧ ((g29 39 10).toInt = (g18 39 10).toInt) ∧ ((g29 39 12).toInt = (g18 39 12).toInt) ∧ ((g29 39 13).toInt = (g18 39 13).toInt) ∧ ((g29 39 5).toInt = (g18 39 5).toInt) := p30.2.2.2
        show (¬ (g29 39 14) = 0 → (Q (some (.int 0)) g29)) ∧ ((g29 39 14) = 0 → (Q (some (.int (g29 39 13))) g29))
        refine ⟨fun c33 => ?_, fun c34 => ?_⟩
        · have := ti_neK 0 rfl c33
          exact hq 0 g29 ⟨p30.1, p30.2.1, (fun k hk => f31 k hk), (by have : (0 : Int32).toInt = 0 := rfl; have := i64 a; have := i64 (g18 39 13); have := i64 b; show (0 ≤ (0 : Int32).toInt ∧ (0 : Int32).toInt ≤ b.toInt) ∧ ((h 39 14).toInt ≤ (g29 39 14).toInt) ∧ ((g29 39 5).toInt = (h 39 5).toInt) ∧ ((g29 39 10).toInt = (h 39 10).toInt); omega)⟩
        · have := ti_eqK 0 rfl c34
          exact hq (g29 39 13) g29 ⟨p30.1, p30.2.1, (fun k hk => f31 k hk), (by have : (0 : Int32).toInt = 0 := rfl; have := i64 a; have := i64 (g18 39 13); have := i64 b; show (0 ≤ (g29 39 13).toInt ∧ (g29 39 13).toInt ≤ b.toInt) ∧ ((h 39 14).toInt ≤ (g29 39 14).toInt) ∧ ((g29 39 5).toInt = (h 39 5).toInt) ∧ ((g29 39 10).toInt = (h 39 10).toInt); omega)⟩
    · have := ti_eqK 2 rfl c17
      refine sf_147_39 X h (1 : Int32) (2 : Int32) ⟨hmmi, hmpp, (by have : (2 : Int32).toInt = 2 := rfl; omega)⟩ _ (fun g35 p36 => ?_)
      have f37 : ∀ k, (k < 39 ∨ 39 < k) → g35 k = h k := fun k hk => (p36.2.2.1 k (by omega)).trans (rfl)
      have o38 : ((h 39 14).toInt ≤ (g35 39 14).toInt) ∧ ((1 : Int32).toInt = 0 → 1 ≤ (g35 39 14).toInt) ∧ ((g35 39 10).toInt = (h 39 10).toInt) ∧ ((g35 39 12).toInt = (h 39 12).toInt) ∧ ((g35 39 13).toInt = (h 39 13).toInt) ∧ ((g35 39 5).toInt = (h 39 5).toInt) := p36.2.2.2
      show (¬ (g35 39 14) = 0 → ((¬ (g35 39 14) = 0 → (Q (some (.int 0)) g35)) ∧ ((g35 39 14) = 0 → (Q (some (.int (g35 39 13))) g35)))) ∧ ((g35 39 14) = 0 → (qm_PW X 141 [.long (Int32.toInt64 (g35 39 13)), .long (Int32.toInt64 a), .long (Int32.toInt64 b)] g35 _))
      refine ⟨fun c39 => ?_, fun c40 => ?_⟩
      · have := ti_neK 0 rfl c39
        refine ⟨fun c41 => ?_, fun c42 => ?_⟩
        · have := ti_neK 0 rfl c41
          exact hq 0 g35 ⟨p36.1, p36.2.1, (fun k hk => f37 k hk), (by have : (1 : Int32).toInt = 1 := rfl; have : (0 : Int32).toInt = 0 := rfl; show (0 ≤ (0 : Int32).toInt ∧ (0 : Int32).toInt ≤ b.toInt) ∧ ((h 39 14).toInt ≤ (g35 39 14).toInt) ∧ ((g35 39 5).toInt = (h 39 5).toInt) ∧ ((g35 39 10).toInt = (h 39 10).toInt); omega)⟩
        · have := ti_eqK 0 rfl c42
          exact hq (g35 39 13) g35 ⟨p36.1, p36.2.1, (fun k hk => f37 k hk), (by have : (1 : Int32).toInt = 1 := rfl; show (0 ≤ (g35 39 13).toInt ∧ (g35 39 13).toInt ≤ b.toInt) ∧ ((h 39 14).toInt ≤ (g35 39 14).toInt) ∧ ((g35 39 5).toInt = (h 39 5).toInt) ∧ ((g35 39 10).toInt = (h 39 10).toInt); omega)⟩
      · have := ti_eqK 0 rfl c40
        refine sf_141 X g35 ((Int32.toInt64 (g35 39 13)) : Int64) ((Int32.toInt64 a) : Int64) ((Int32.toInt64 b) : Int64) trivial _ (fun r43 p44 => ?_)
        have o45 : ¬ r43.toInt = 0 → (Int32.toInt64 a).toInt ≤ (Int32.toInt64 (g35 39 13)).toInt ∧ (Int32.toInt64 (g35 39 13)).toInt ≤ (Int32.toInt64 b).toInt := fun hc => p44.2.1 (fun e => hc (ti_eqK 0 rfl e))
        show qm_PW X 147 [.ref 39, .int r43, .int 3] g35 _
        refine sf_147_39 X g35 r43 (3 : Int32) ⟨p36.1, p36.2.1, (by have : (3 : Int32).toInt = 3 := rfl; have : (1 : Int32).toInt = 1 := rfl; have := i64 a; have := i64 (g35 39 13); have := i64 b; omega)⟩ _ (fun g46 p47 => ?_)
        have f48 : ∀ k, (k < 39 ∨ 39 < k) → g46 k = h k := fun k hk => (p47.2.2.1 k (by omega)).trans (f37 k hk)
        have o49 : ((g35 39 14).toInt ≤ (g46 39 14).toInt) ∧ (r43.toInt = 0 → 1 ≤ (g46 39 14).toInt) ∧ ((g46 39 10).toInt = (g35 39 10).toInt) ∧ ((g46 39 12).toInt = (g35 39 12).toInt) ∧ ((g46 39 13).toInt = (g35 39 13).toInt) ∧ ((g46 39 5).toInt = (g35 39 5).toInt) := p47.2.2.2
        show (¬ (g46 39 14) = 0 → (Q (some (.int 0)) g46)) ∧ ((g46 39 14) = 0 → (Q (some (.int (g46 39 13))) g46))
        refine ⟨fun c50 => ?_, fun c51 => ?_⟩
        · have := ti_neK 0 rfl c50
          exact hq 0 g46 ⟨p47.1, p47.2.1, (fun k hk => f48 k hk), (by have : (1 : Int32).toInt = 1 := rfl; have : (0 : Int32).toInt = 0 := rfl; have := i64 a; have := i64 (g35 39 13); have := i64 b; show (0 ≤ (0 : Int32).toInt ∧ (0 : Int32).toInt ≤ b.toInt) ∧ ((h 39 14).toInt ≤ (g46 39 14).toInt) ∧ ((g46 39 5).toInt = (h 39 5).toInt) ∧ ((g46 39 10).toInt = (h 39 10).toInt); omega)⟩
        · have := ti_eqK 0 rfl c51
          exact hq (g46 39 13) g46 ⟨p47.1, p47.2.1, (fun k hk => f48 k hk), (by have : (1 : Int32).toInt = 1 := rfl; have := i64 a; have := i64 (g35 39 13); have := i64 b; show (0 ≤ (g46 39 13).toInt ∧ (g46 39 13).toInt ≤ b.toInt) ∧ ((h 39 14).toInt ≤ (g46 39 14).toInt) ∧ ((g46 39 5).toInt = (h 39 5).toInt) ∧ ((g46 39 10).toInt = (h 39 10).toInt); omega)⟩
-- ThreadBankModel.readNumber(II)I
set_option maxRecDepth 100000 in
set_option maxHeartbeats 4000000 in
theorem sf_154_39 (X : qm_X) (h : qm_H) (a : Int32) (b : Int32) (hp : mi h ∧ pp h ∧ (0 ≤ a.toInt ∧ 0 ≤ b.toInt)) (Q : qm_Q) (hq : ∀ r : Int32, ∀ h' : qm_H, (mi h' ∧ pp h' ∧ (∀ k, (k < 39 ∨ 39 < k) → h' k = h k) ∧ ((0 ≤ r.toInt ∧ r.toInt ≤ b.toInt) ∧ ((h 39 14).toInt ≤ (h' 39 14).toInt) ∧ ((h' 39 5).toInt = (h 39 5).toInt) ∧ ((h 39 10).toInt ≤ (h' 39 10).toInt) ∧ (((h' 39 14).toInt = 0 ∧ ¬ (h' 39 12).toInt = 0) → (h 39 10).toInt < (h' 39 10).toInt))) → Q (some (.int r)) h') : qm_PW X 154 [.ref 39, .int a, .int b] h Q := by
  have hmmi : mi h := hp.1
  have ⟨⟨_, _⟩, ⟨_, _⟩, ⟨_, _⟩, ⟨_, _⟩, _, _⟩ := hmmi
  have hmpp : pp h := hp.2.1
  have ⟨⟨_, _⟩, ⟨_, _⟩, _, _⟩ := hmpp
  have hp0 : 0 ≤ a.toInt ∧ 0 ≤ b.toInt := hp.2.2
  refine qm_seg_ok (C := qc_154) (rt := some .int) rfl rfl (cuts := []) 400 _ _ _ _ ?_
  show qm_PW X 153 [.ref 39, .int a, .int b] h _
  refine sf_153_39 X h a b ⟨hmmi, hmpp, (by omega)⟩ _ (fun r1 g2 p3 => ?_)
  have f4 : ∀ k, (k < 39 ∨ 39 < k) → g2 k = h k := fun k hk => (p3.2.2.1 k (by omega)).trans (rfl)
  have o5 : (0 ≤ r1.toInt ∧ r1.toInt ≤ b.toInt) ∧ ((h 39 14).toInt ≤ (g2 39 14).toInt) ∧ ((g2 39 5).toInt = (h 39 5).toInt) ∧ ((g2 39 10).toInt = (h 39 10).toInt) := p3.2.2.2
  show qm_PW X 152 [.ref 39] g2 _
  refine sf_152_39 X g2  ⟨p3.1, p3.2.1⟩ _ (fun g6 p7 => ?_)
  have f8 : ∀ k, (k < 39 ∨ 39 < k) → g6 k = h k := fun k hk => (p7.2.2.1 k (by omega)).trans (f4 k hk)
  have o9 : ((g2 39 14).toInt ≤ (g6 39 14).toInt) ∧ ((g6 39 5).toInt = (g2 39 5).toInt) ∧ ((g2 39 10).toInt ≤ (g6 39 10).toInt) ∧ (((g6 39 14).toInt = 0 ∧ ¬ (g6 39 12).toInt = 0) → (g2 39 10).toInt < (g6 39 10).toInt) := p7.2.2.2
  show Q (some (.int r1)) g6
  exact hq r1 g6 ⟨p7.1, p7.2.1, (fun k hk => f8 k hk), (by show (0 ≤ r1.toInt ∧ r1.toInt ≤ b.toInt) ∧ ((h 39 14).toInt ≤ (g6 39 14).toInt) ∧ ((g6 39 5).toInt = (h 39 5).toInt) ∧ ((h 39 10).toInt ≤ (g6 39 10).toInt) ∧ (((g6 39 14).toInt = 0 ∧ ¬ (g6 39 12).toInt = 0) → (h 39 10).toInt < (g6 39 10).toInt); omega)⟩
-- ThreadBankModel.readPlace()I
set_option maxRecDepth 100000 in
set_option maxHeartbeats 4000000 in
theorem sf_156_39 (X : qm_X) (h : qm_H) (hp : mi h ∧ pp h) (Q : qm_Q) (hq : ∀ r : Int32, ∀ h' : qm_H, (mi h' ∧ pp h' ∧ (∀ k, (k < 39 ∨ 39 < k) → h' k = h k) ∧ ((0 ≤ r.toInt ∧ r.toInt ≤ 39) ∧ ((h 39 14).toInt ≤ (h' 39 14).toInt) ∧ ((h' 39 5).toInt = (h 39 5).toInt) ∧ ((h 39 10).toInt ≤ (h' 39 10).toInt) ∧ (((h' 39 14).toInt = 0 ∧ ¬ (h' 39 12).toInt = 0) → (h 39 10).toInt < (h' 39 10).toInt))) → Q (some (.int r)) h') : qm_PW X 156 [.ref 39] h Q := by
  have hmmi : mi h := hp.1
  have ⟨⟨_, _⟩, ⟨_, _⟩, ⟨_, _⟩, ⟨_, _⟩, _, _⟩ := hmmi
  have hmpp : pp h := hp.2
  have ⟨⟨_, _⟩, ⟨_, _⟩, _, _⟩ := hmpp
  refine qm_seg_ok (C := qc_156) (rt := some .int) rfl rfl (cuts := []) 400 _ _ _ _ ?_
  show qm_PW X 153 [.ref 39, .int 0, .int 39] h _
  refine sf_153_39 X h (0 : Int32) (39 : Int32) ⟨hmmi, hmpp, (by have : (39 : Int32).toInt = 39 := rfl; have : (0 : Int32).toInt = 0 := rfl; omega)⟩ _ (fun r1 g2 p3 => ?_)
  have f4 : ∀ k, (k < 39 ∨ 39 < k) → g2 k = h k := fun k hk => (p3.2.2.1 k (by omega)).trans (rfl)
  have o5 : (0 ≤ r1.toInt ∧ r1.toInt ≤ (39 : Int32).toInt) ∧ ((h 39 14).toInt ≤ (g2 39 14).toInt) ∧ ((g2 39 5).toInt = (h 39 5).toInt) ∧ ((g2 39 10).toInt = (h 39 10).toInt) := p3.2.2.2
  show (¬ (g2 39 14) = 0 → (¬ (10 : Int32) = 0 ∧ (qm_PW X 155 [.ref 39, .int (r1 / 10)] g2 _))) ∧ ((g2 39 14) = 0 → (¬ (10 : Int32) = 0 ∧ ((5 ≤ (r1 - r1 / 10 * 10).toInt → (qm_PW X 147 [.ref 39, .int 0, .int 3] g2 _)) ∧ ((r1 - r1 / 10 * 10).toInt < 5 → (qm_PW X 147 [.ref 39, .int 1, .int 3] g2 _)))))
  refine ⟨fun c6 => ?_, fun c7 => ?_⟩
  · have := ti_neK 0 rfl c6
    refine ⟨by decide, ?_⟩
    refine sf_155_39 X g2 (r1 / 10) ⟨p3.1, p3.2.1⟩ _ (fun g8 p9 => ?_)
    have f10 : ∀ k, (k < 39 ∨ 39 < k) → g8 k = h k := fun k hk => (p9.2.2.1 k (by omega)).trans (f4 k hk)
    have o11 : ((g8 39 14).toInt = (g2 39 14).toInt) ∧ ((g8 39 10).toInt = (g2 39 10).toInt) ∧ ((g8 39 12).toInt = (g2 39 12).toInt) ∧ ((g8 39 13).toInt = (g2 39 13).toInt) ∧ ((g8 39 5).toInt = (g2 39 5).toInt) := p9.2.2.2
    show qm_PW X 152 [.ref 39] g8 _
    refine sf_152_39 X g8  ⟨p9.1, p9.2.1⟩ _ (fun g12 p13 => ?_)
    have f14 : ∀ k, (k < 39 ∨ 39 < k) → g12 k = h k := fun k hk => (p13.2.2.1 k (by omega)).trans (f10 k hk)
    have o15 : ((g8 39 14).toInt ≤ (g12 39 14).toInt) ∧ ((g12 39 5).toInt = (g8 39 5).toInt) ∧ ((g8 39 10).toInt ≤ (g12 39 10).toInt) ∧ (((g12 39 14).toInt = 0 ∧ ¬ (g12 39 12).toInt = 0) → (g8 39 10).toInt < (g12 39 10).toInt) := p13.2.2.2
    show Q (some (.int r1)) g12
    exact hq r1 g12 ⟨p13.1, p13.2.1, (fun k hk => f14 k hk), (by have : (39 : Int32).toInt = 39 := rfl; show (0 ≤ r1.toInt ∧ r1.toInt ≤ 39) ∧ ((h 39 14).toInt ≤ (g12 39 14).toInt) ∧ ((g12 39 5).toInt = (h 39 5).toInt) ∧ ((h 39 10).toInt ≤ (g12 39 10).toInt) ∧ (((g12 39 14).toInt = 0 ∧ ¬ (g12 39 12).toInt = 0) → (h 39 10).toInt < (g12 39 10).toInt); omega)⟩
  · have := ti_eqK 0 rfl c7
    refine ⟨by decide, ?_⟩
    refine ⟨fun c16 => ?_, fun c17 => ?_⟩
    · refine sf_147_39 X g2 (0 : Int32) (3 : Int32) ⟨p3.1, p3.2.1, (by have : (39 : Int32).toInt = 39 := rfl; have : (3 : Int32).toInt = 3 := rfl; have := ti_rem (10 : Int32) 10 rfl r1 (by decide); omega)⟩ _ (fun g18 p19 => ?_)
      have f20 : ∀ k, (k < 39 ∨ 39 < k) → g18 k = h k := fun k hk => (p19.2.2.1 k (by omega)).trans (f4 k hk)
      have o21 : ((g2 39 14).toInt ≤ (g18 39 14).toInt) ∧ ((0 : Int32).toInt = 0 → 1 ≤ (g18 39 14).toInt) ∧ ((g18 39 10).toInt = (g2 39 10).toInt) ∧ ((g18 39 12).toInt = (g2 39 12).toInt) ∧ ((g18 39 13).toInt = (g2 39 13).toInt) ∧ ((g18 39 5).toInt = (g2 39 5).toInt) := p19.2.2.2
      show ¬ (10 : Int32) = 0 ∧ (qm_PW X 155 [.ref 39, .int (r1 / 10)] g18 _)
      refine ⟨by decide, ?_⟩
      refine sf_155_39 X g18 (r1 / 10) ⟨p19.1, p19.2.1⟩ _ (fun g22 p23 => ?_)
      have f24 : ∀ k, (k < 39 ∨ 39 < k) → g22 k = h k := fun k hk => (p23.2.2.1 k (by omega)).trans (f20 k hk)
      have o25 : ((g22 39 14).toInt = (g18 39 14).toInt) ∧ ((g22 39 10).toInt = (g18 39 10).toInt) ∧ ((g22 39 12).toInt = (g18 39 12).toInt) ∧ ((g22 39 13).toInt = (g18 39 13).toInt) ∧ ((g22 39 5).toInt = (g18 39 5).toInt) := p23.2.2.2
      show qm_PW X 152 [.ref 39] g22 _
      refine sf_152_39 X g22  ⟨p23.1, p23.2.1⟩ _ (fun g26 p27 => ?_)
      have f28 : ∀ k, (k < 39 ∨ 39 < k) → g26 k = h k := fun k hk => (p27.2.2.1 k (by omega)).trans (f24 k hk)
      have o29 : ((g22 39 14).toInt ≤ (g26 39 14).toInt) ∧ ((g26 39 5).toInt = (g22 39 5).toInt) ∧ ((g22 39 10).toInt ≤ (g26 39 10).toInt) ∧ (((g26 39 14).toInt = 0 ∧ ¬ (g26 39 12).toInt = 0) → (g22 39 10).toInt < (g26 39 10).toInt) := p27.2.2.2
      show Q (some (.int r1)) g26
      exact hq r1 g26 ⟨p27.1, p27.2.1, (fun k hk => f28 k hk), (by have : (39 : Int32).toInt = 39 := rfl; have : (0 : Int32).toInt = 0 := rfl; have := ti_rem (10 : Int32) 10 rfl r1 (by decide); show (0 ≤ r1.toInt ∧ r1.toInt ≤ 39) ∧ ((h 39 14).toInt ≤ (g26 39 14).toInt) ∧ ((g26 39 5).toInt = (h 39 5).toInt) ∧ ((h 39 10).toInt ≤ (g26 39 10).toInt) ∧ (((g26 39 14).toInt = 0 ∧ ¬ (g26 39 12).toInt = 0) → (h 39 10).toInt < (g26 39 10).toInt); omega)⟩
    · refine sf_147_39 X g2 (1 : Int32) (3 : Int32) ⟨p3.1, p3.2.1, (by have : (39 : Int32).toInt = 39 := rfl; have : (3 : Int32).toInt = 3 := rfl; have := ti_rem (10 : Int32) 10 rfl r1 (by decide); omega)⟩ _ (fun g30 p31 => ?_)
      have f32 : ∀ k, (k < 39 ∨ 39 < k) → g30 k = h k := fun k hk => (p31.2.2.1 k (by omega)).trans (f4 k hk)
      have o33 : ((g2 39 14).toInt ≤ (g30 39 14).toInt) ∧ ((1 : Int32).toInt = 0 → 1 ≤ (g30 39 14).toInt) ∧ ((g30 39 10).toInt = (g2 39 10).toInt) ∧ ((g30 39 12).toInt = (g2 39 12).toInt) ∧ ((g30 39 13).toInt = (g2 39 13).toInt) ∧ ((g30 39 5).toInt = (g2 39 5).toInt) := p31.2.2.2
      show ¬ (10 : Int32) = 0 ∧ (qm_PW X 155 [.ref 39, .int (r1 / 10)] g30 _)
      refine ⟨by decide, ?_⟩
      refine sf_155_39 X g30 (r1 / 10) ⟨p31.1, p31.2.1⟩ _ (fun g34 p35 => ?_)
      have f36 : ∀ k, (k < 39 ∨ 39 < k) → g34 k = h k := fun k hk => (p35.2.2.1 k (by omega)).trans (f32 k hk)
      have o37 : ((g34 39 14).toInt = (g30 39 14).toInt) ∧ ((g34 39 10).toInt = (g30 39 10).toInt) ∧ ((g34 39 12).toInt = (g30 39 12).toInt) ∧ ((g34 39 13).toInt = (g30 39 13).toInt) ∧ ((g34 39 5).toInt = (g30 39 5).toInt) := p35.2.2.2
      show qm_PW X 152 [.ref 39] g34 _
      refine sf_152_39 X g34  ⟨p35.1, p35.2.1⟩ _ (fun g38 p39 => ?_)
      have f40 : ∀ k, (k < 39 ∨ 39 < k) → g38 k = h k := fun k hk => (p39.2.2.1 k (by omega)).trans (f36 k hk)
      have o41 : ((g34 39 14).toInt ≤ (g38 39 14).toInt) ∧ ((g38 39 5).toInt = (g34 39 5).toInt) ∧ ((g34 39 10).toInt ≤ (g38 39 10).toInt) ∧ (((g38 39 14).toInt = 0 ∧ ¬ (g38 39 12).toInt = 0) → (g34 39 10).toInt < (g38 39 10).toInt) := p39.2.2.2
      show Q (some (.int r1)) g38
      exact hq r1 g38 ⟨p39.1, p39.2.1, (fun k hk => f40 k hk), (by have : (39 : Int32).toInt = 39 := rfl; have : (1 : Int32).toInt = 1 := rfl; have := ti_rem (10 : Int32) 10 rfl r1 (by decide); show (0 ≤ r1.toInt ∧ r1.toInt ≤ 39) ∧ ((h 39 14).toInt ≤ (g38 39 14).toInt) ∧ ((g38 39 5).toInt = (h 39 5).toInt) ∧ ((h 39 10).toInt ≤ (g38 39 10).toInt) ∧ (((g38 39 14).toInt = 0 ∧ ¬ (g38 39 12).toInt = 0) → (h 39 10).toInt < (g38 39 10).toInt); omega)⟩
-- ThreadBankModel.readPair()I
set_option maxRecDepth 100000 in
set_option maxHeartbeats 4000000 in
theorem sf_157_39 (X : qm_X) (h : qm_H) (hp : mi h ∧ pp h) (Q : qm_Q) (hq : ∀ r : Int32, ∀ h' : qm_H, (mi h' ∧ pp h' ∧ (∀ k, (k < 39 ∨ 39 < k) → h' k = h k) ∧ ((0 ≤ r.toInt ∧ r.toInt ≤ 39) ∧ (r.toInt % 10 ≤ 3 + 10 * (h' 39 14).toInt) ∧ ((h 39 14).toInt ≤ (h' 39 14).toInt) ∧ ((h' 39 5).toInt = (h 39 5).toInt) ∧ ((h 39 10).toInt ≤ (h' 39 10).toInt) ∧ (((h' 39 14).toInt = 0 ∧ ¬ (h' 39 12).toInt = 0) → (h 39 10).toInt < (h' 39 10).toInt))) → Q (some (.int r)) h') : qm_PW X 157 [.ref 39] h Q := by
  have hmmi : mi h := hp.1
  have ⟨⟨_, _⟩, ⟨_, _⟩, ⟨_, _⟩, ⟨_, _⟩, _, _⟩ := hmmi
  have hmpp : pp h := hp.2
  have ⟨⟨_, _⟩, ⟨_, _⟩, _, _⟩ := hmpp
  refine qm_seg_ok (C := qc_157) (rt := some .int) rfl rfl (cuts := []) 400 _ _ _ _ ?_
  show qm_PW X 153 [.ref 39, .int 0, .int 39] h _
  refine sf_153_39 X h (0 : Int32) (39 : Int32) ⟨hmmi, hmpp, (by have : (39 : Int32).toInt = 39 := rfl; have : (0 : Int32).toInt = 0 := rfl; omega)⟩ _ (fun r1 g2 p3 => ?_)
  have f4 : ∀ k, (k < 39 ∨ 39 < k) → g2 k = h k := fun k hk => (p3.2.2.1 k (by omega)).trans (rfl)
  have o5 : (0 ≤ r1.toInt ∧ r1.toInt ≤ (39 : Int32).toInt) ∧ ((h 39 14).toInt ≤ (g2 39 14).toInt) ∧ ((g2 39 5).toInt = (h 39 5).toInt) ∧ ((g2 39 10).toInt = (h 39 10).toInt) := p3.2.2.2
  show (¬ (g2 39 14) = 0 → (¬ (10 : Int32) = 0 ∧ (qm_PW X 155 [.ref 39, .int (r1 / 10)] g2 _))) ∧ ((g2 39 14) = 0 → (¬ (10 : Int32) = 0 ∧ ((4 ≤ (r1 - r1 / 10 * 10).toInt → (qm_PW X 147 [.ref 39, .int 0, .int 3] g2 _)) ∧ ((r1 - r1 / 10 * 10).toInt < 4 → (¬ (10 : Int32) = 0 ∧ (¬ (10 : Int32) = 0 ∧ (((r1 / 10) = (r1 - r1 / 10 * 10) → (qm_PW X 147 [.ref 39, .int 0, .int 3] g2 _)) ∧ (¬ (r1 / 10) = (r1 - r1 / 10 * 10) → (qm_PW X 147 [.ref 39, .int 1, .int 3] g2 _)))))))))
  refine ⟨fun c6 => ?_, fun c7 => ?_⟩
  · have := ti_neK 0 rfl c6
    refine ⟨by decide, ?_⟩
    refine sf_155_39 X g2 (r1 / 10) ⟨p3.1, p3.2.1⟩ _ (fun g8 p9 => ?_)
    have f10 : ∀ k, (k < 39 ∨ 39 < k) → g8 k = h k := fun k hk => (p9.2.2.1 k (by omega)).trans (f4 k hk)
    have o11 : ((g8 39 14).toInt = (g2 39 14).toInt) ∧ ((g8 39 10).toInt = (g2 39 10).toInt) ∧ ((g8 39 12).toInt = (g2 39 12).toInt) ∧ ((g8 39 13).toInt = (g2 39 13).toInt) ∧ ((g8 39 5).toInt = (g2 39 5).toInt) := p9.2.2.2
    show ¬ (10 : Int32) = 0 ∧ (qm_PW X 155 [.ref 39, .int (r1 - r1 / 10 * 10)] g8 _)
    refine ⟨by decide, ?_⟩
    refine sf_155_39 X g8 (r1 - r1 / 10 * 10) ⟨p9.1, p9.2.1⟩ _ (fun g12 p13 => ?_)
    have f14 : ∀ k, (k < 39 ∨ 39 < k) → g12 k = h k := fun k hk => (p13.2.2.1 k (by omega)).trans (f10 k hk)
    have o15 : ((g12 39 14).toInt = (g8 39 14).toInt) ∧ ((g12 39 10).toInt = (g8 39 10).toInt) ∧ ((g12 39 12).toInt = (g8 39 12).toInt) ∧ ((g12 39 13).toInt = (g8 39 13).toInt) ∧ ((g12 39 5).toInt = (g8 39 5).toInt) := p13.2.2.2
    show qm_PW X 152 [.ref 39] g12 _
    refine sf_152_39 X g12  ⟨p13.1, p13.2.1⟩ _ (fun g16 p17 => ?_)
    have f18 : ∀ k, (k < 39 ∨ 39 < k) → g16 k = h k := fun k hk => (p17.2.2.1 k (by omega)).trans (f14 k hk)
    have o19 : ((g12 39 14).toInt ≤ (g16 39 14).toInt) ∧ ((g16 39 5).toInt = (g12 39 5).toInt) ∧ ((g12 39 10).toInt ≤ (g16 39 10).toInt) ∧ (((g16 39 14).toInt = 0 ∧ ¬ (g16 39 12).toInt = 0) → (g12 39 10).toInt < (g16 39 10).toInt) := p17.2.2.2
    show Q (some (.int r1)) g16
    exact hq r1 g16 ⟨p17.1, p17.2.1, (fun k hk => f18 k hk), (by have : (39 : Int32).toInt = 39 := rfl; show (0 ≤ r1.toInt ∧ r1.toInt ≤ 39) ∧ (r1.toInt % 10 ≤ 3 + 10 * (g16 39 14).toInt) ∧ ((h 39 14).toInt ≤ (g16 39 14).toInt) ∧ ((g16 39 5).toInt = (h 39 5).toInt) ∧ ((h 39 10).toInt ≤ (g16 39 10).toInt) ∧ (((g16 39 14).toInt = 0 ∧ ¬ (g16 39 12).toInt = 0) → (h 39 10).toInt < (g16 39 10).toInt); omega)⟩
  · have := ti_eqK 0 rfl c7
    refine ⟨by decide, ?_⟩
    refine ⟨fun c20 => ?_, fun c21 => ?_⟩
    · refine sf_147_39 X g2 (0 : Int32) (3 : Int32) ⟨p3.1, p3.2.1, (by have : (39 : Int32).toInt = 39 := rfl; have : (3 : Int32).toInt = 3 := rfl; have := ti_rem (10 : Int32) 10 rfl r1 (by decide); omega)⟩ _ (fun g22 p23 => ?_)
      have f24 : ∀ k, (k < 39 ∨ 39 < k) → g22 k = h k := fun k hk => (p23.2.2.1 k (by omega)).trans (f4 k hk)
      have o25 : ((g2 39 14).toInt ≤ (g22 39 14).toInt) ∧ ((0 : Int32).toInt = 0 → 1 ≤ (g22 39 14).toInt) ∧ ((g22 39 10).toInt = (g2 39 10).toInt) ∧ ((g22 39 12).toInt = (g2 39 12).toInt) ∧ ((g22 39 13).toInt = (g2 39 13).toInt) ∧ ((g22 39 5).toInt = (g2 39 5).toInt) := p23.2.2.2
      show ¬ (10 : Int32) = 0 ∧ (qm_PW X 155 [.ref 39, .int (r1 / 10)] g22 _)
      refine ⟨by decide, ?_⟩
      refine sf_155_39 X g22 (r1 / 10) ⟨p23.1, p23.2.1⟩ _ (fun g26 p27 => ?_)
      have f28 : ∀ k, (k < 39 ∨ 39 < k) → g26 k = h k := fun k hk => (p27.2.2.1 k (by omega)).trans (f24 k hk)
      have o29 : ((g26 39 14).toInt = (g22 39 14).toInt) ∧ ((g26 39 10).toInt = (g22 39 10).toInt) ∧ ((g26 39 12).toInt = (g22 39 12).toInt) ∧ ((g26 39 13).toInt = (g22 39 13).toInt) ∧ ((g26 39 5).toInt = (g22 39 5).toInt) := p27.2.2.2
      show ¬ (10 : Int32) = 0 ∧ (qm_PW X 155 [.ref 39, .int (r1 - r1 / 10 * 10)] g26 _)
      refine ⟨by decide, ?_⟩
      refine sf_155_39 X g26 (r1 - r1 / 10 * 10) ⟨p27.1, p27.2.1⟩ _ (fun g30 p31 => ?_)
      have f32 : ∀ k, (k < 39 ∨ 39 < k) → g30 k = h k := fun k hk => (p31.2.2.1 k (by omega)).trans (f28 k hk)
      have o33 : ((g30 39 14).toInt = (g26 39 14).toInt) ∧ ((g30 39 10).toInt = (g26 39 10).toInt) ∧ ((g30 39 12).toInt = (g26 39 12).toInt) ∧ ((g30 39 13).toInt = (g26 39 13).toInt) ∧ ((g30 39 5).toInt = (g26 39 5).toInt) := p31.2.2.2
      show qm_PW X 152 [.ref 39] g30 _
      refine sf_152_39 X g30  ⟨p31.1, p31.2.1⟩ _ (fun g34 p35 => ?_)
      have f36 : ∀ k, (k < 39 ∨ 39 < k) → g34 k = h k := fun k hk => (p35.2.2.1 k (by omega)).trans (f32 k hk)
      have o37 : ((g30 39 14).toInt ≤ (g34 39 14).toInt) ∧ ((g34 39 5).toInt = (g30 39 5).toInt) ∧ ((g30 39 10).toInt ≤ (g34 39 10).toInt) ∧ (((g34 39 14).toInt = 0 ∧ ¬ (g34 39 12).toInt = 0) → (g30 39 10).toInt < (g34 39 10).toInt) := p35.2.2.2
      show Q (some (.int r1)) g34
      exact hq r1 g34 ⟨p35.1, p35.2.1, (fun k hk => f36 k hk), (by have : (39 : Int32).toInt = 39 := rfl; have : (0 : Int32).toInt = 0 := rfl; have := ti_rem (10 : Int32) 10 rfl r1 (by decide); show (0 ≤ r1.toInt ∧ r1.toInt ≤ 39) ∧ (r1.toInt % 10 ≤ 3 + 10 * (g34 39 14).toInt) ∧ ((h 39 14).toInt ≤ (g34 39 14).toInt) ∧ ((g34 39 5).toInt = (h 39 5).toInt) ∧ ((h 39 10).toInt ≤ (g34 39 10).toInt) ∧ (((g34 39 14).toInt = 0 ∧ ¬ (g34 39 12).toInt = 0) → (h 39 10).toInt < (g34 39 10).toInt); omega)⟩
    · refine ⟨by decide, ?_⟩
      refine ⟨by decide, ?_⟩
      refine ⟨fun c38 => ?_, fun c39 => ?_⟩
      · refine sf_147_39 X g2 (0 : Int32) (3 : Int32) ⟨p3.1, p3.2.1, (by have : (39 : Int32).toInt = 39 := rfl; have : (3 : Int32).toInt = 3 := rfl; have := ti_rem (10 : Int32) 10 rfl r1 (by decide); omega)⟩ _ (fun g40 p41 => ?_)
        have f42 : ∀ k, (k < 39 ∨ 39 < k) → g40 k = h k := fun k hk => (p41.2.2.1 k (by omega)).trans (f4 k hk)
        have o43 : ((g2 39 14).toInt ≤ (g40 39 14).toInt) ∧ ((0 : Int32).toInt = 0 → 1 ≤ (g40 39 14).toInt) ∧ ((g40 39 10).toInt = (g2 39 10).toInt) ∧ ((g40 39 12).toInt = (g2 39 12).toInt) ∧ ((g40 39 13).toInt = (g2 39 13).toInt) ∧ ((g40 39 5).toInt = (g2 39 5).toInt) := p41.2.2.2
        show ¬ (10 : Int32) = 0 ∧ (qm_PW X 155 [.ref 39, .int (r1 / 10)] g40 _)
        refine ⟨by decide, ?_⟩
        refine sf_155_39 X g40 (r1 / 10) ⟨p41.1, p41.2.1⟩ _ (fun g44 p45 => ?_)
        have f46 : ∀ k, (k < 39 ∨ 39 < k) → g44 k = h k := fun k hk => (p45.2.2.1 k (by omega)).trans (f42 k hk)
        have o47 : ((g44 39 14).toInt = (g40 39 14).toInt) ∧ ((g44 39 10).toInt = (g40 39 10).toInt) ∧ ((g44 39 12).toInt = (g40 39 12).toInt) ∧ ((g44 39 13).toInt = (g40 39 13).toInt) ∧ ((g44 39 5).toInt = (g40 39 5).toInt) := p45.2.2.2
        show ¬ (10 : Int32) = 0 ∧ (qm_PW X 155 [.ref 39, .int (r1 - r1 / 10 * 10)] g44 _)
        refine ⟨by decide, ?_⟩
        refine sf_155_39 X g44 (r1 - r1 / 10 * 10) ⟨p45.1, p45.2.1⟩ _ (fun g48 p49 => ?_)
        have f50 : ∀ k, (k < 39 ∨ 39 < k) → g48 k = h k := fun k hk => (p49.2.2.1 k (by omega)).trans (f46 k hk)
        have o51 : ((g48 39 14).toInt = (g44 39 14).toInt) ∧ ((g48 39 10).toInt = (g44 39 10).toInt) ∧ ((g48 39 12).toInt = (g44 39 12).toInt) ∧ ((g48 39 13).toInt = (g44 39 13).toInt) ∧ ((g48 39 5).toInt = (g44 39 5).toInt) := p49.2.2.2
        show qm_PW X 152 [.ref 39] g48 _
        refine sf_152_39 X g48  ⟨p49.1, p49.2.1⟩ _ (fun g52 p53 => ?_)
        have f54 : ∀ k, (k < 39 ∨ 39 < k) → g52 k = h k := fun k hk => (p53.2.2.1 k (by omega)).trans (f50 k hk)
        have o55 : ((g48 39 14).toInt ≤ (g52 39 14).toInt) ∧ ((g52 39 5).toInt = (g48 39 5).toInt) ∧ ((g48 39 10).toInt ≤ (g52 39 10).toInt) ∧ (((g52 39 14).toInt = 0 ∧ ¬ (g52 39 12).toInt = 0) → (g48 39 10).toInt < (g52 39 10).toInt) := p53.2.2.2
        show Q (some (.int r1)) g52
        exact hq r1 g52 ⟨p53.1, p53.2.1, (fun k hk => f54 k hk), (by have : (39 : Int32).toInt = 39 := rfl; have : (0 : Int32).toInt = 0 := rfl; have := ti_rem (10 : Int32) 10 rfl r1 (by decide); show (0 ≤ r1.toInt ∧ r1.toInt ≤ 39) ∧ (r1.toInt % 10 ≤ 3 + 10 * (g52 39 14).toInt) ∧ ((h 39 14).toInt ≤ (g52 39 14).toInt) ∧ ((g52 39 5).toInt = (h 39 5).toInt) ∧ ((h 39 10).toInt ≤ (g52 39 10).toInt) ∧ (((g52 39 14).toInt = 0 ∧ ¬ (g52 39 12).toInt = 0) → (h 39 10).toInt < (g52 39 10).toInt); omega)⟩
      · refine sf_147_39 X g2 (1 : Int32) (3 : Int32) ⟨p3.1, p3.2.1, (by have : (39 : Int32).toInt = 39 := rfl; have : (3 : Int32).toInt = 3 := rfl; have := ti_rem (10 : Int32) 10 rfl r1 (by decide); omega)⟩ _ (fun g56 p57 => ?_)
        have f58 : ∀ k, (k < 39 ∨ 39 < k) → g56 k = h k := fun k hk => (p57.2.2.1 k (by omega)).trans (f4 k hk)
        have o59 : ((g2 39 14).toInt ≤ (g56 39 14).toInt) ∧ ((1 : Int32).toInt = 0 → 1 ≤ (g56 39 14).toInt) ∧ ((g56 39 10).toInt = (g2 39 10).toInt) ∧ ((g56 39 12).toInt = (g2 39 12).toInt) ∧ ((g56 39 13).toInt = (g2 39 13).toInt) ∧ ((g56 39 5).toInt = (g2 39 5).toInt) := p57.2.2.2
        show ¬ (10 : Int32) = 0 ∧ (qm_PW X 155 [.ref 39, .int (r1 / 10)] g56 _)
        refine ⟨by decide, ?_⟩
        refine sf_155_39 X g56 (r1 / 10) ⟨p57.1, p57.2.1⟩ _ (fun g60 p61 => ?_)
        have f62 : ∀ k, (k < 39 ∨ 39 < k) → g60 k = h k := fun k hk => (p61.2.2.1 k (by omega)).trans (f58 k hk)
        have o63 : ((g60 39 14).toInt = (g56 39 14).toInt) ∧ ((g60 39 10).toInt = (g56 39 10).toInt) ∧ ((g60 39 12).toInt = (g56 39 12).toInt) ∧ ((g60 39 13).toInt = (g56 39 13).toInt) ∧ ((g60 39 5).toInt = (g56 39 5).toInt) := p61.2.2.2
        show ¬ (10 : Int32) = 0 ∧ (qm_PW X 155 [.ref 39, .int (r1 - r1 / 10 * 10)] g60 _)
        refine ⟨by decide, ?_⟩
        refine sf_155_39 X g60 (r1 - r1 / 10 * 10) ⟨p61.1, p61.2.1⟩ _ (fun g64 p65 => ?_)
        have f66 : ∀ k, (k < 39 ∨ 39 < k) → g64 k = h k := fun k hk => (p65.2.2.1 k (by omega)).trans (f62 k hk)
        have o67 : ((g64 39 14).toInt = (g60 39 14).toInt) ∧ ((g64 39 10).toInt = (g60 39 10).toInt) ∧ ((g64 39 12).toInt = (g60 39 12).toInt) ∧ ((g64 39 13).toInt = (g60 39 13).toInt) ∧ ((g64 39 5).toInt = (g60 39 5).toInt) := p65.2.2.2
        show qm_PW X 152 [.ref 39] g64 _
        refine sf_152_39 X g64  ⟨p65.1, p65.2.1⟩ _ (fun g68 p69 => ?_)
        have f70 : ∀ k, (k < 39 ∨ 39 < k) → g68 k = h k := fun k hk => (p69.2.2.1 k (by omega)).trans (f66 k hk)
        have o71 : ((g64 39 14).toInt ≤ (g68 39 14).toInt) ∧ ((g68 39 5).toInt = (g64 39 5).toInt) ∧ ((g64 39 10).toInt ≤ (g68 39 10).toInt) ∧ (((g68 39 14).toInt = 0 ∧ ¬ (g68 39 12).toInt = 0) → (g64 39 10).toInt < (g68 39 10).toInt) := p69.2.2.2
        show Q (some (.int r1)) g68
        exact hq r1 g68 ⟨p69.1, p69.2.1, (fun k hk => f70 k hk), (by have : (39 : Int32).toInt = 39 := rfl; have : (1 : Int32).toInt = 1 := rfl; have := ti_rem (10 : Int32) 10 rfl r1 (by decide); show (0 ≤ r1.toInt ∧ r1.toInt ≤ 39) ∧ (r1.toInt % 10 ≤ 3 + 10 * (g68 39 14).toInt) ∧ ((h 39 14).toInt ≤ (g68 39 14).toInt) ∧ ((g68 39 5).toInt = (h 39 5).toInt) ∧ ((h 39 10).toInt ≤ (g68 39 10).toInt) ∧ (((g68 39 14).toInt = 0 ∧ ¬ (g68 39 12).toInt = 0) → (h 39 10).toInt < (g68 39 10).toInt); omega)⟩
