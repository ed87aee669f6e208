-- ThreadBank$Memory.roomLeftOn(I)I
set_option maxRecDepth 100000 in
set_option maxHeartbeats 4000000 in
theorem ty_41 (X : qm_X) (h : qm_H) (a : Int32) (hp : mq 1 h ∧ (0 ≤ a.toInt ∧ a.toInt < (h 1 6).toInt)) (Q : qm_Q) (hq : ∀ r : Int32, (r.toInt = lfN (h 2) (h 3) (h 1 7).toInt.toNat a.toInt.toNat ∧ (-10 ≤ r.toInt ∧ r.toInt ≤ 15)) → Q (some (.int r)) h) : qm_PW X 41 [.ref 1, .int a] h Q := by
  have hm1 : mq 1 h := hp.1
  have ⟨⟨_, _⟩, ⟨_, _⟩, _, _⟩ := hm1
  have hp0 : 0 ≤ a.toInt ∧ a.toInt < (h 1 6).toInt := hp.2
  refine qm_seg_ok (C := qc_41) (rt := some .int) rfl rfl (cuts := []) 400 _ _ _ _ ?_
  show qm_PW X 38 [.ref 1, .int a] h _
  refine ty_38 X h a ⟨hm1, (by show 0 ≤ a.toInt ∧ a.toInt < (h 1 6).toInt; omega)⟩ _ (fun r1 p2 => ?_)
  have o3 : r1.toInt = rmH (h 2 a.toInt.toNat).toInt ∧ (0 ≤ r1.toInt ∧ r1.toInt ≤ 15) := p2
  clear p2
  show qm_PW X 36 [.ref 1, .int a] h _
  refine ty_36 X h a hm1 _ (fun r4 p5 => ?_)
  have o6 : r4.toInt = cntR (fun t => (h 3 t) / 10) (h 1 7).toInt.toNat a.toInt ∧ (0 ≤ r4.toInt ∧ r4.toInt ≤ 10) := p5
  clear p5
  show Q (some (.int (r1 - r4))) h
  exact hq (r1 - r4) (by have := ti_sub r1 r4; show (r1 - r4).toInt = lfN (h 2) (h 3) (h 1 7).toInt.toNat a.toInt.toNat ∧ (-10 ≤ (r1 - r4).toInt ∧ (r1 - r4).toInt ≤ 15); have q9 := lfN_rng (kd := h 2) (pl := h 3) (n := (h 1 7).toInt.toNat) (c := a.toInt.toNat) (by omega); have x8 := o3.1; have x7 := o6.1; have e9 : lfN (h 2) (h 3) (h 1 7).toInt.toNat a.toInt.toNat = rmH (h 2 a.toInt.toNat).toInt - cntR (fun t => (h 3 t) / 10) (h 1 7).toInt.toNat ((a.toInt.toNat : Nat) : Int) := rfl; rw [show ((a.toInt.toNat : Nat) : Int) = a.toInt by omega] at e9; exact ⟨by omega, by omega⟩)
