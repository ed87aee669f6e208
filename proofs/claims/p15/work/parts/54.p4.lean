-- ThreadBankModel.readLineOf(I)V
set_option maxRecDepth 100000 in
set_option maxHeartbeats 4000000 in
theorem sf_158_39 (X : qm_X) (h : qm_H) (a : Int32) (hp : mi h ∧ pp h ∧ dd h ∧ dp h ∧ sm h ∧ (a.toInt = 4 ∨ (a.toInt = 5 ∧ (h 43 4).toInt < 10) ∨ (¬ a.toInt = 4 ∧ ¬ a.toInt = 5 ∧ (h 39 5).toInt < 4))) (Q : qm_Q) (hq : ∀ h' : qm_H, (mi h' ∧ pp h' ∧ dd h' ∧ dp h' ∧ sm h' ∧ (∀ k, (k < 39 ∨ 43 < k ∨ k = 40 ∨ k = 41 ∨ k = 42) → h' k = h k) ∧ (((h 39 14).toInt ≤ (h' 39 14).toInt) ∧ ((h 39 10).toInt ≤ (h' 39 10).toInt) ∧ (((h' 39 14).toInt = 0 ∧ ¬ (h' 39 12).toInt = 0) → ((h 39 10).toInt < (h' 39 10).toInt ∨ ((h' 39 12).toInt = (h 39 12).toInt ∧ (h' 39 10).toInt = (h 39 10).toInt))))) → Q none h') : qm_PW X 158 [.ref 39, .int a] h Q := by
  have hmmi : mi h := hp.1
  have ⟨⟨_, _⟩, ⟨_, _⟩, ⟨_, _⟩, ⟨_, _⟩, _, _⟩ := hmmi
  have hmpp : pp h := hp.2.1
  have ⟨⟨_, _⟩, ⟨_, _⟩, _, _⟩ := hmpp
  have hmdd : dd h := hp.2.2.1
  have ⟨⟨_, _⟩, _, _⟩ := hmdd
  have hmdp : dp h := hp.2.2.2.1
  have hmsm : sm h := hp.2.2.2.2.1
  have ⟨⟨⟨_, _⟩, _, _⟩, _, _, _⟩ := hmsm
  have hp0 : a.toInt = 4 ∨ (a.toInt = 5 ∧ (h 43 4).toInt < 10) ∨ (¬ a.toInt = 4 ∧ ¬ a.toInt = 5 ∧ (h 39 5).toInt < 4) := hp.2.2.2.2.2
  refine qm_seg_ok (C := qc_158) (rt := none) rfl rfl (cuts := []) 400 _ _ _ _ ?_
  show (¬ a = 4 → ((¬ a = 5 → ((0 ≤ (0 + (h 39 5)).toInt ∧ (0 + (h 39 5)).toInt < 49) ∧ (Q none (qm_row (qm_row h 43 (upd (h 43) (0 + (h 39 5)).toInt.toNat a)) 39 (upd (h 39) 5 ((h 39 5) + 1)))))) ∧ (a = 5 → ((0 ≤ (4 : Int) ∧ (4 : Int) < 49) ∧ (qm_PW X 156 [.ref 39] h _))))) ∧ (a = 4 → (qm_PW X 154 [.ref 39, .int 0, .int 9] h _))
  refine ⟨fun c1 => ?_, fun c2 => ?_⟩
  · have := ti_neK 4 rfl c1
    refine ⟨fun c3 => ?_, fun c4 => ?_⟩
    · have := ti_neK 5 rfl c3
      refine ⟨(by have := ti_addL (h 39 5) (0 : Int32) 0 rfl; omega), ?_⟩
      exact hq (qm_row (qm_row h 43 (upd (h 43) (0 + (h 39 5)).toInt.toNat a)) 39 (upd (h 39) 5 ((h 39 5) + 1))) ⟨(by have ⟨⟨_, _⟩, ⟨_, _⟩, ⟨_, _⟩, ⟨_, _⟩, _, _⟩ := hmmi; have ⟨⟨_, _⟩, ⟨_, _⟩, _, _⟩ := hmpp; have ⟨⟨_, _⟩, _, _⟩ := hmdd; have ⟨⟨⟨_, _⟩, _, _⟩, _, _, _⟩ := hmsm; show (0 ≤ (h 39 3).toInt ∧ (h 39 3).toInt ≤ 4) ∧ (0 ≤ (h 39 9).toInt ∧ (h 39 9).toInt ≤ 160) ∧ (0 ≤ (h 39 19).toInt ∧ (h 39 19).toInt ≤ 4) ∧ (0 ≤ (h 39 20).toInt ∧ (h 39 20).toInt ≤ 255) ∧ (0 ≤ (h 39 11).toInt ∧ (h 39 11).toInt ≤ 160); omega), (by have ⟨⟨_, _⟩, ⟨_, _⟩, ⟨_, _⟩, ⟨_, _⟩, _, _⟩ := hmmi; have ⟨⟨_, _⟩, ⟨_, _⟩, _, _⟩ := hmpp; have ⟨⟨_, _⟩, _, _⟩ := hmdd; have ⟨⟨⟨_, _⟩, _, _⟩, _, _, _⟩ := hmsm; show (0 ≤ ((h 39 5) + 1).toInt ∧ ((h 39 5) + 1).toInt ≤ 4) ∧ (0 ≤ (h 39 10).toInt ∧ (h 39 10).toInt ≤ 160) ∧ (0 ≤ (h 39 14).toInt ∧ (h 39 14).toInt ≤ 7); have := ti_addK (h 39 5) (1 : Int32) 1 rfl; omega), (by exact dd_low hmdd (n := (0 + (h 39 5)).toInt.toNat) (x := a) (by have := ti_addL (h 39 5) (0 : Int32) 0 rfl; omega) (fun hc => by have := ti_addL (h 39 5) (0 : Int32) 0 rfl; omega)), (by exact dp_low hmdp (n := (0 + (h 39 5)).toInt.toNat) (x := a) (by have := ti_addL (h 39 5) (0 : Int32) 0 rfl; omega)), (by exact hmsm), (fun k hk => by simp only [qm_row]; rw [if_neg (by omega)]; rw [if_neg (by omega)]), (by show ((h 39 14).toInt ≤ (h 39 14).toInt) ∧ ((h 39 10).toInt ≤ (h 39 10).toInt) ∧ (((h 39 14).toInt = 0 ∧ ¬ (h 39 12).toInt = 0) → ((h 39 10).toInt < (h 39 10).toInt ∨ ((h 39 12).toInt = (h 39 12).toInt ∧ (h 39 10).toInt = (h 39 10).toInt))); omega)⟩
    · have := ti_eqK 5 rfl c4
      refine ⟨by decide, ?_⟩
      refine sf_156_39 X h  ⟨hmmi, hmpp⟩ _ (fun r5 g6 p7 => ?_)
      have f8 : ∀ k, (k < 39 ∨ 43 < k ∨ k = 40 ∨ k = 41 ∨ k = 42) → g6 k = h k := fun k hk => (p7.2.2.1 k (by omega)).trans (rfl)
      have k9 : dd g6 := by unfold dd; rw [p7.2.2.1 43 (by omega)]; exact hmdd
      have k10 : sm g6 := by unfold sm; rw [p7.2.2.1 40 (by omega)]; exact hmsm
      have o11 : (0 ≤ r5.toInt ∧ r5.toInt ≤ 39) ∧ ((h 39 14).toInt ≤ (g6 39 14).toInt) ∧ ((g6 39 5).toInt = (h 39 5).toInt) ∧ ((h 39 10).toInt ≤ (g6 39 10).toInt) ∧ (((g6 39 14).toInt = 0 ∧ ¬ (g6 39 12).toInt = 0) → (h 39 10).toInt < (g6 39 10).toInt) := p7.2.2.2
      have e43_g6 : g6 43 = (h 43) := p7.2.2.1 43 (by omega)
      show (0 ≤ ((6 + (3 * (h 43 4))) + 0).toInt ∧ ((6 + (3 * (h 43 4))) + 0).toInt < 49) ∧ (qm_PW X 157 [.ref 39] (qm_row g6 43 (upd (g6 43) ((6 + (3 * (h 43 4))) + 0).toInt.toNat r5)) _)
      refine ⟨(by have := ti_mulL (3 : Int32) 3 rfl (h 43 4); have := ti_addL (3 * (h 43 4)) (6 : Int32) 6 rfl; have := ti_addK (6 + (3 * (h 43 4))) (0 : Int32) 0 rfl; omega), ?_⟩
      refine sf_157_39 X (qm_row g6 43 (upd (g6 43) ((6 + (3 * (h 43 4))) + 0).toInt.toNat r5))  ⟨(by exact p7.1), (by exact p7.2.1)⟩ _ (fun r12 g13 p14 => ?_)
      have f15 : ∀ k, (k < 39 ∨ 43 < k ∨ k = 40 ∨ k = 41 ∨ k = 42) → g13 k = h k := fun k hk => (p14.2.2.1 k (by omega)).trans (by simp only [qm_row]; rw [if_neg (by omega)]; exact f8 k hk)
      have k16 : sm g13 := by unfold sm; rw [p14.2.2.1 40 (by omega)]; exact k10
      have o17 : (0 ≤ r12.toInt ∧ r12.toInt ≤ 39) ∧ (r12.toInt % 10 ≤ 3 + 10 * (g13 39 14).toInt) ∧ ((g6 39 14).toInt ≤ (g13 39 14).toInt) ∧ ((g13 39 5).toInt = (g6 39 5).toInt) ∧ ((g6 39 10).toInt ≤ (g13 39 10).toInt) ∧ (((g13 39 14).toInt = 0 ∧ ¬ (g13 39 12).toInt = 0) → (g6 39 10).toInt < (g13 39 10).toInt) := p14.2.2.2
      have e43_g13 : g13 43 = (upd (g6 43) ((6 + (3 * (h 43 4))) + 0).toInt.toNat r5) := p14.2.2.1 43 (by omega)
      show (0 ≤ ((6 + (3 * (h 43 4))) + 1).toInt ∧ ((6 + (3 * (h 43 4))) + 1).toInt < 49) ∧ (qm_PW X 154 [.ref 39, .int 10, .int 99] (qm_row g13 43 (upd (g13 43) ((6 + (3 * (h 43 4))) + 1).toInt.toNat r12)) _)
      refine ⟨(by have := ti_mulL (3 : Int32) 3 rfl (h 43 4); have := ti_addL (3 * (h 43 4)) (6 : Int32) 6 rfl; have := ti_addK (6 + (3 * (h 43 4))) (1 : Int32) 1 rfl; omega), ?_⟩
      refine sf_154_39 X (qm_row g13 43 (upd (g13 43) ((6 + (3 * (h 43 4))) + 1).toInt.toNat r12)) (10 : Int32) (99 : Int32) ⟨(by exact p14.1), (by exact p14.2.1), (by have : (99 : Int32).toInt = 99 := rfl; have : (10 : Int32).toInt = 10 := rfl; omega)⟩ _ (fun r18 g19 p20 => ?_)
      have f21 : ∀ k, (k < 39 ∨ 43 < k ∨ k = 40 ∨ k = 41 ∨ k = 42) → g19 k = h k := fun k hk => (p20.2.2.1 k (by omega)).trans (by simp only [qm_row]; rw [if_neg (by omega)]; exact f15 k hk)
      have k22 : sm g19 := by unfold sm; rw [p20.2.2.1 40 (by omega)]; exact k16
      have o23 : (0 ≤ r18.toInt ∧ r18.toInt ≤ (99 : Int32).toInt) ∧ ((g13 39 14).toInt ≤ (g19 39 14).toInt) ∧ ((g19 39 5).toInt = (g13 39 5).toInt) ∧ ((g13 39 10).toInt ≤ (g19 39 10).toInt) ∧ (((g19 39 14).toInt = 0 ∧ ¬ (g19 39 12).toInt = 0) → (g13 39 10).toInt < (g19 39 10).toInt) := p20.2.2.2
      have e43_g19 : g19 43 = (upd (g13 43) ((6 + (3 * (h 43 4))) + 1).toInt.toNat r12) := p20.2.2.1 43 (by omega)
      show (0 ≤ ((6 + (3 * (h 43 4))) + 2).toInt ∧ ((6 + (3 * (h 43 4))) + 2).toInt < 49) ∧ ((0 ≤ (4 : Int) ∧ (4 : Int) < 49) ∧ ((0 ≤ (4 : Int) ∧ (4 : Int) < 49) ∧ (Q none (qm_row (qm_row g19 43 (upd (g19 43) ((6 + (3 * (h 43 4))) + 2).toInt.toNat r18)) 43 (upd (upd (g19 43) ((6 + (3 * (h 43 4))) + 2).toInt.toNat r18) 4 (((upd (g19 43) ((6 + (3 * (h 43 4))) + 2).toInt.toNat r18) 4) + 1))))))
      refine ⟨(by have : (99 : Int32).toInt = 99 := rfl; have := ti_mulL (3 : Int32) 3 rfl (h 43 4); have := ti_addL (3 * (h 43 4)) (6 : Int32) 6 rfl; have := ti_addK (6 + (3 * (h 43 4))) (2 : Int32) 2 rfl; omega), ?_⟩
      refine ⟨by decide, ?_⟩
      refine ⟨by decide, ?_⟩
      exact hq (qm_row (qm_row g19 43 (upd (g19 43) ((6 + (3 * (h 43 4))) + 2).toInt.toNat r18)) 43 (upd (upd (g19 43) ((6 + (3 * (h 43 4))) + 2).toInt.toNat r18) 4 (((upd (g19 43) ((6 + (3 * (h 43 4))) + 2).toInt.toNat r18) 4) + 1))) ⟨(by exact p20.1), (by exact p20.2.1), (by exact dd_tie2 e43_g6 e43_g13 e43_g19 hmdd (by omega) (by omega) (by have : (10 : Int32).toInt = 10 := rfl; have : (99 : Int32).toInt = 99 := rfl; omega)), (by exact dp_tie2 e43_g6 e43_g13 e43_g19 hmdd (by omega) hmdp (fun hf => ⟨by omega, by unfold pr; omega⟩)), (by exact k22), (fun k hk => by simp only [qm_row]; rw [if_neg (by omega)]; rw [if_neg (by omega)]; exact f21 k hk), (by have : (99 : Int32).toInt = 99 := rfl; show ((h 39 14).toInt ≤ (g19 39 14).toInt) ∧ ((h 39 10).toInt ≤ (g19 39 10).toInt) ∧ (((g19 39 14).toInt = 0 ∧ ¬ (g19 39 12).toInt = 0) → ((h 39 10).toInt < (g19 39 10).toInt ∨ ((g19 39 12).toInt = (h 39 12).toInt ∧ (g19 39 10).toInt = (h 39 10).toInt))); omega)⟩
  · have := ti_eqK 4 rfl c2
    refine sf_154_39 X h (0 : Int32) (9 : Int32) ⟨hmmi, hmpp, (by have : (9 : Int32).toInt = 9 := rfl; have : (0 : Int32).toInt = 0 := rfl; omega)⟩ _ (fun r24 g25 p26 => ?_)
    have f27 : ∀ k, (k < 39 ∨ 43 < k ∨ k = 40 ∨ k = 41 ∨ k = 42) → g25 k = h k := fun k hk => (p26.2.2.1 k (by omega)).trans (rfl)
    have k28 : dd g25 := by unfold dd; rw [p26.2.2.1 43 (by omega)]; exact hmdd
    have k29 : sm g25 := by unfold sm; rw [p26.2.2.1 40 (by omega)]; exact hmsm
    have o30 : (0 ≤ r24.toInt ∧ r24.toInt ≤ (9 : Int32).toInt) ∧ ((h 39 14).toInt ≤ (g25 39 14).toInt) ∧ ((g25 39 5).toInt = (h 39 5).toInt) ∧ ((h 39 10).toInt ≤ (g25 39 10).toInt) ∧ (((g25 39 14).toInt = 0 ∧ ¬ (g25 39 12).toInt = 0) → (h 39 10).toInt < (g25 39 10).toInt) := p26.2.2.2
    have e43_g25 : g25 43 = (h 43) := p26.2.2.1 43 (by omega)
    show (0 ≤ (5 : Int) ∧ (5 : Int) < 49) ∧ (Q none (qm_row g25 43 (upd (g25 43) 5 r24)))
    refine ⟨by decide, ?_⟩
    exact hq (qm_row g25 43 (upd (g25 43) 5 r24)) ⟨(by exact p26.1), (by exact p26.2.1), (by exact dd_low k28 (n := 5) (by decide) (fun hc => absurd hc (by decide))), (by exact dp_low (h := g25) (n := 5) (fun hf => by rw [e43_g25]; exact hmdp (by omega)) (by decide)), (by exact k29), (fun k hk => by simp only [qm_row]; rw [if_neg (by omega)]; exact f27 k hk), (by have : (9 : Int32).toInt = 9 := rfl; show ((h 39 14).toInt ≤ (g25 39 14).toInt) ∧ ((h 39 10).toInt ≤ (g25 39 10).toInt) ∧ (((g25 39 14).toInt = 0 ∧ ¬ (g25 39 12).toInt = 0) → ((h 39 10).toInt < (g25 39 10).toInt ∨ ((g25 39 12).toInt = (h 39 12).toInt ∧ (g25 39 10).toInt = (h 39 10).toInt))); omega)⟩
