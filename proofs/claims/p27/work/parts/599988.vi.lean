-- ThreadBank$Sheets.faultAsOf(II)I
set_option maxRecDepth 100000 in
set_option maxHeartbeats 4000000 in
theorem ty_73 (X : qm_X) (h : qm_H) (a : Int32) (b : Int32) (hp : True) (Q : qm_Q) (hq : ∀ r : Int32, ((r.toInt = 0 ∧ ((a.toInt < 0 ∨ 4 ≤ a.toInt ∨ (h 37 a.toInt.toNat).toInt = -4) ∨ (h 36 a.toInt.toNat).toInt = b.toInt)) ∨ (r.toInt = 3 ∧ ¬ (a.toInt < 0 ∨ 4 ≤ a.toInt ∨ (h 37 a.toInt.toNat).toInt = -4) ∧ ¬ (h 36 a.toInt.toNat).toInt = b.toInt)) → Q (some (.int r)) h) : qm_PW X 73 [.ref 34, .int a, .int b] h Q := by
  refine qm_seg_ok (C := qc_73) (rt := some .int) rfl rfl (cuts := []) 400 _ _ _ _ ?_
  show qm_PW X 67 [.ref 34, .int a] h _
  refine ty_67 X h a trivial _ (fun r1 p2 => ?_)
  have o3 : (r1 = 0 ∨ r1 = 1) ∧ ((r1.toInt = 1 ∧ (a.toInt < 0 ∨ 4 ≤ a.toInt ∨ (h 37 a.toInt.toNat).toInt = -4)) ∨ (r1.toInt = 0 ∧ ¬ ((a.toInt < 0 ∨ 4 ≤ a.toInt ∨ (h 37 a.toInt.toNat).toInt = -4)))) := p2
  clear p2
  show (¬ r1 = 0 → (Q (some (.int 0)) h)) ∧ (r1 = 0 → ((0 ≤ a.toInt ∧ a.toInt < 4) ∧ ((¬ (h 36 a.toInt.toNat) = b → (Q (some (.int 3)) h)) ∧ ((h 36 a.toInt.toNat) = b → (Q (some (.int 0)) h)))))
  refine ⟨fun c4 => ?_, fun c5 => ?_⟩
  · have := ti_neK 0 rfl c4
    exact hq 0 (by have : (0 : Int32).toInt = 0 := rfl; show ((0 : Int32).toInt = 0 ∧ ((a.toInt < 0 ∨ 4 ≤ a.toInt ∨ (h 37 a.toInt.toNat).toInt = -4) ∨ (h 36 a.toInt.toNat).toInt = b.toInt)) ∨ ((0 : Int32).toInt = 3 ∧ ¬ (a.toInt < 0 ∨ 4 ≤ a.toInt ∨ (h 37 a.toInt.toNat).toInt = -4) ∧ ¬ (h 36 a.toInt.toNat).toInt = b.toInt); omega)
  · have := ti_eqK 0 rfl c5
    refine ⟨(by omega), ?_⟩
    refine ⟨fun c6 => ?_, fun c7 => ?_⟩
    · have : ¬ (h 36 a.toInt.toNat).toInt = b.toInt := fun q => c6 (Int32.toInt_inj.mp q)
      exact hq 3 (by have : (3 : Int32).toInt = 3 := rfl; show ((3 : Int32).toInt = 0 ∧ ((a.toInt < 0 ∨ 4 ≤ a.toInt ∨ (h 37 a.toInt.toNat).toInt = -4) ∨ (h 36 a.toInt.toNat).toInt = b.toInt)) ∨ ((3 : Int32).toInt = 3 ∧ ¬ (a.toInt < 0 ∨ 4 ≤ a.toInt ∨ (h 37 a.toInt.toNat).toInt = -4) ∧ ¬ (h 36 a.toInt.toNat).toInt = b.toInt); omega)
    · have : (h 36 a.toInt.toNat).toInt = b.toInt := congrArg Int32.toInt c7
      exact hq 0 (by have : (0 : Int32).toInt = 0 := rfl; show ((0 : Int32).toInt = 0 ∧ ((a.toInt < 0 ∨ 4 ≤ a.toInt ∨ (h 37 a.toInt.toNat).toInt = -4) ∨ (h 36 a.toInt.toNat).toInt = b.toInt)) ∨ ((0 : Int32).toInt = 3 ∧ ¬ (a.toInt < 0 ∨ 4 ≤ a.toInt ∨ (h 37 a.toInt.toNat).toInt = -4) ∧ ¬ (h 36 a.toInt.toNat).toInt = b.toInt); omega)
-- ThreadBank$Sheets.faultOfThree(II)I
set_option maxRecDepth 100000 in
set_option maxHeartbeats 4000000 in
theorem ty_74 (X : qm_X) (h : qm_H) (a : Int32) (b : Int32) (hp : sq h) (Q : qm_Q) (hq : ∀ r : Int32, ((r.toInt = 0 ∧ ((0 ≤ a.toInt ∧ a.toInt < 4) ∧ ¬ (h 37 a.toInt.toNat).toInt = -4 ∧ 0 ≤ b.toInt ∧ b.toInt + 2 < (h 37 a.toInt.toNat).toInt)) ∨ (¬ r.toInt = 0 ∧ ¬ ((0 ≤ a.toInt ∧ a.toInt < 4) ∧ ¬ (h 37 a.toInt.toNat).toInt = -4 ∧ 0 ≤ b.toInt ∧ b.toInt + 2 < (h 37 a.toInt.toNat).toInt))) → Q (some (.int r)) h) : qm_PW X 74 [.ref 34, .int a, .int b] h Q := by
  have hmsq : sq h := hp
  refine qm_seg_ok (C := qc_74) (rt := some .int) rfl rfl (cuts := []) 400 _ _ _ _ ?_
  show qm_PW X 67 [.ref 34, .int a] h _
  refine ty_67 X h a trivial _ (fun r1 p2 => ?_)
  have o3 : (r1 = 0 ∨ r1 = 1) ∧ ((r1.toInt = 1 ∧ (a.toInt < 0 ∨ 4 ≤ a.toInt ∨ (h 37 a.toInt.toNat).toInt = -4)) ∨ (r1.toInt = 0 ∧ ¬ ((a.toInt < 0 ∨ 4 ≤ a.toInt ∨ (h 37 a.toInt.toNat).toInt = -4)))) := p2
  clear p2
  show (r1 = 0 → (qm_PW X 68 [.ref 34, .int a, .int b] h _)) ∧ (¬ r1 = 0 → (Q (some (.int 1)) h))
  refine ⟨fun c4 => ?_, fun c5 => ?_⟩
  · have := ti_eqK 0 rfl c4
    refine ty_68 X h a b trivial _ (fun r6 p7 => ?_)
    have o8 : (r6 = 0 ∨ r6 = 1) ∧ ((r6.toInt = 1 ∧ (0 ≤ a.toInt ∧ a.toInt < 4) ∧ ¬ (h 37 a.toInt.toNat).toInt = -4 ∧ 0 ≤ b.toInt ∧ b.toInt < (h 37 a.toInt.toNat).toInt) ∨ (r6.toInt = 0 ∧ ¬ ((0 ≤ a.toInt ∧ a.toInt < 4) ∧ ¬ (h 37 a.toInt.toNat).toInt = -4 ∧ 0 ≤ b.toInt ∧ b.toInt < (h 37 a.toInt.toNat).toInt))) := p7
    clear p7
    show (r6 = 0 → (Q (some (.int 2)) h)) ∧ (¬ r6 = 0 → (qm_PW X 68 [.ref 34, .int a, .int (b + 1)] h _))
    refine ⟨fun c9 => ?_, fun c10 => ?_⟩
    · have := ti_eqK 0 rfl c9
      exact hq 2 (by have := hmsq (a.toInt.toNat); have : (2 : Int32).toInt = 2 := rfl; show ((2 : Int32).toInt = 0 ∧ ((0 ≤ a.toInt ∧ a.toInt < 4) ∧ ¬ (h 37 a.toInt.toNat).toInt = -4 ∧ 0 ≤ b.toInt ∧ b.toInt + 2 < (h 37 a.toInt.toNat).toInt)) ∨ (¬ (2 : Int32).toInt = 0 ∧ ¬ ((0 ≤ a.toInt ∧ a.toInt < 4) ∧ ¬ (h 37 a.toInt.toNat).toInt = -4 ∧ 0 ≤ b.toInt ∧ b.toInt + 2 < (h 37 a.toInt.toNat).toInt)); have hsq := hmsq a.toInt.toNat; first | exact Or.inl ⟨by omega, by omega⟩ | exact Or.inr ⟨by omega, by omega⟩)
    · have := ti_neK 0 rfl c10
      refine ty_68 X h a (b + 1) trivial _ (fun r11 p12 => ?_)
      have o13 : (r11 = 0 ∨ r11 = 1) ∧ ((r11.toInt = 1 ∧ (0 ≤ a.toInt ∧ a.toInt < 4) ∧ ¬ (h 37 a.toInt.toNat).toInt = -4 ∧ 0 ≤ (b + 1).toInt ∧ (b + 1).toInt < (h 37 a.toInt.toNat).toInt) ∨ (r11.toInt = 0 ∧ ¬ ((0 ≤ a.toInt ∧ a.toInt < 4) ∧ ¬ (h 37 a.toInt.toNat).toInt = -4 ∧ 0 ≤ (b + 1).toInt ∧ (b + 1).toInt < (h 37 a.toInt.toNat).toInt))) := p12
      clear p12
      show (r11 = 0 → (Q (some (.int 2)) h)) ∧ (¬ r11 = 0 → (qm_PW X 68 [.ref 34, .int a, .int (b + 2)] h _))
      refine ⟨fun c14 => ?_, fun c15 => ?_⟩
      · have := ti_eqK 0 rfl c14
        exact hq 2 (by have := hmsq (a.toInt.toNat); have : (2 : Int32).toInt = 2 := rfl; have := ti_addK b (1 : Int32) 1 rfl; show ((2 : Int32).toInt = 0 ∧ ((0 ≤ a.toInt ∧ a.toInt < 4) ∧ ¬ (h 37 a.toInt.toNat).toInt = -4 ∧ 0 ≤ b.toInt ∧ b.toInt + 2 < (h 37 a.toInt.toNat).toInt)) ∨ (¬ (2 : Int32).toInt = 0 ∧ ¬ ((0 ≤ a.toInt ∧ a.toInt < 4) ∧ ¬ (h 37 a.toInt.toNat).toInt = -4 ∧ 0 ≤ b.toInt ∧ b.toInt + 2 < (h 37 a.toInt.toNat).toInt)); have hsq := hmsq a.toInt.toNat; first | exact Or.inl ⟨by omega, by omega⟩ | exact Or.inr ⟨by omega, by omega⟩)
      · have := ti_neK 0 rfl c15
        refine ty_68 X h a (b + 2) trivial _ (fun r16 p17 => ?_)
        have o18 : (r16 = 0 ∨ r16 = 1) ∧ ((r16.toInt = 1 ∧ (0 ≤ a.toInt ∧ a.toInt < 4) ∧ ¬ (h 37 a.toInt.toNat).toInt = -4 ∧ 0 ≤ (b + 2).toInt ∧ (b + 2).toInt < (h 37 a.toInt.toNat).toInt) ∨ (r16.toInt = 0 ∧ ¬ ((0 ≤ a.toInt ∧ a.toInt < 4) ∧ ¬ (h 37 a.toInt.toNat).toInt = -4 ∧ 0 ≤ (b + 2).toInt ∧ (b + 2).toInt < (h 37 a.toInt.toNat).toInt))) := p17
        clear p17
        show (r16 = 0 → (Q (some (.int 2)) h)) ∧ (¬ r16 = 0 → (Q (some (.int 0)) h))
        refine ⟨fun c19 => ?_, fun c20 => ?_⟩
        · have := ti_eqK 0 rfl c19
          exact hq 2 (by have := hmsq (a.toInt.toNat); have : (2 : Int32).toInt = 2 := rfl; have := ti_addK b (1 : Int32) 1 rfl; have := ti_addK b (2 : Int32) 2 rfl; show ((2 : Int32).toInt = 0 ∧ ((0 ≤ a.toInt ∧ a.toInt < 4) ∧ ¬ (h 37 a.toInt.toNat).toInt = -4 ∧ 0 ≤ b.toInt ∧ b.toInt + 2 < (h 37 a.toInt.toNat).toInt)) ∨ (¬ (2 : Int32).toInt = 0 ∧ ¬ ((0 ≤ a.toInt ∧ a.toInt < 4) ∧ ¬ (h 37 a.toInt.toNat).toInt = -4 ∧ 0 ≤ b.toInt ∧ b.toInt + 2 < (h 37 a.toInt.toNat).toInt)); have hsq := hmsq a.toInt.toNat; first | exact Or.inl ⟨by omega, by omega⟩ | exact Or.inr ⟨by omega, by omega⟩)
        · have := ti_neK 0 rfl c20
          exact hq 0 (by have := hmsq (a.toInt.toNat); have : (0 : Int32).toInt = 0 := rfl; have := ti_addK b (1 : Int32) 1 rfl; have := ti_addK b (2 : Int32) 2 rfl; show ((0 : Int32).toInt = 0 ∧ ((0 ≤ a.toInt ∧ a.toInt < 4) ∧ ¬ (h 37 a.toInt.toNat).toInt = -4 ∧ 0 ≤ b.toInt ∧ b.toInt + 2 < (h 37 a.toInt.toNat).toInt)) ∨ (¬ (0 : Int32).toInt = 0 ∧ ¬ ((0 ≤ a.toInt ∧ a.toInt < 4) ∧ ¬ (h 37 a.toInt.toNat).toInt = -4 ∧ 0 ≤ b.toInt ∧ b.toInt + 2 < (h 37 a.toInt.toNat).toInt)); have hsq := hmsq a.toInt.toNat; first | exact Or.inl ⟨by omega, by omega⟩ | exact Or.inr ⟨by omega, by omega⟩)
  · have := ti_neK 0 rfl c5
    exact hq 1 (by have := hmsq (a.toInt.toNat); have : (1 : Int32).toInt = 1 := rfl; show ((1 : Int32).toInt = 0 ∧ ((0 ≤ a.toInt ∧ a.toInt < 4) ∧ ¬ (h 37 a.toInt.toNat).toInt = -4 ∧ 0 ≤ b.toInt ∧ b.toInt + 2 < (h 37 a.toInt.toNat).toInt)) ∨ (¬ (1 : Int32).toInt = 0 ∧ ¬ ((0 ≤ a.toInt ∧ a.toInt < 4) ∧ ¬ (h 37 a.toInt.toNat).toInt = -4 ∧ 0 ≤ b.toInt ∧ b.toInt + 2 < (h 37 a.toInt.toNat).toInt)); have hsq := hmsq a.toInt.toNat; first | exact Or.inl ⟨by omega, by omega⟩ | exact Or.inr ⟨by omega, by omega⟩)
-- ThreadBank.tieThreeCells(II)Z
set_option maxRecDepth 100000 in
set_option maxHeartbeats 4000000 in
theorem ty_130 (X : qm_X) (h : qm_H) (a : Int32) (b : Int32) (hp : mq 1 h ∧ sq h ∧ ((0 ≤ a.toInt ∧ a.toInt < 4) ∧ ¬ (h 37 a.toInt.toNat).toInt = -4 ∧ 0 ≤ b.toInt ∧ b.toInt + 2 < (h 37 a.toInt.toNat).toInt)) (Q : qm_Q) (hq : ∀ r : Int32, ∀ h' : qm_H, (mq 1 h' ∧ (∀ k, (k < 1 ∨ 7 < k) → h' k = h k) ∧ ((r = 0 ∨ r = 1) ∧ ((r.toInt = 1 ∧ 0 ≤ (opTie (h 35 (40 * a.toInt.toNat + (b.toInt.toNat + 0))) (h 35 (40 * a.toInt.toNat + (b.toInt.toNat + 1))) (h 35 (40 * a.toInt.toNat + (b.toInt.toNat + 2))) (mC h)).1) ∨ (r.toInt = 0 ∧ (opTie (h 35 (40 * a.toInt.toNat + (b.toInt.toNat + 0))) (h 35 (40 * a.toInt.toNat + (b.toInt.toNat + 1))) (h 35 (40 * a.toInt.toNat + (b.toInt.toNat + 2))) (mC h)).1 < 0)) ∧ mC h' = (opTie (h 35 (40 * a.toInt.toNat + (b.toInt.toNat + 0))) (h 35 (40 * a.toInt.toNat + (b.toInt.toNat + 1))) (h 35 (40 * a.toInt.toNat + (b.toInt.toNat + 2))) (mC h)).2)) → Q (some (.int r)) h') : qm_PW X 130 [.ref 0, .int a, .int b] h Q := by
  have hm1 : mq 1 h := hp.1
  have ⟨⟨_, _⟩, ⟨_, _⟩, _, _⟩ := hm1
  have hmsq : sq h := hp.2.1
  have hp0 : (0 ≤ a.toInt ∧ a.toInt < 4) ∧ ¬ (h 37 a.toInt.toNat).toInt = -4 ∧ 0 ≤ b.toInt ∧ b.toInt + 2 < (h 37 a.toInt.toNat).toInt := hp.2.2
  refine qm_seg_ok (C := qc_130) (rt := some .boolean) rfl rfl (cuts := []) 400 _ _ _ _ ?_
  show qm_PW X 69 [.ref 34, .int a, .int b] h _
  refine ty_69 X h a b hmsq _ (fun r1 p2 => ?_)
  have o3 : (((0 ≤ a.toInt ∧ a.toInt < 4) ∧ ¬ (h 37 a.toInt.toNat).toInt = -4 ∧ 0 ≤ b.toInt ∧ b.toInt < (h 37 a.toInt.toNat).toInt) ∧ r1.toInt = (h 35 (40 * a.toInt.toNat + b.toInt.toNat)).toInt) ∨ (¬ ((0 ≤ a.toInt ∧ a.toInt < 4) ∧ ¬ (h 37 a.toInt.toNat).toInt = -4 ∧ 0 ≤ b.toInt ∧ b.toInt < (h 37 a.toInt.toNat).toInt) ∧ r1.toInt = 0) := p2
  clear p2
  show qm_PW X 69 [.ref 34, .int a, .int (b + 1)] h _
  refine ty_69 X h a (b + 1) hmsq _ (fun r4 p5 => ?_)
  have o6 : (((0 ≤ a.toInt ∧ a.toInt < 4) ∧ ¬ (h 37 a.toInt.toNat).toInt = -4 ∧ 0 ≤ (b + 1).toInt ∧ (b + 1).toInt < (h 37 a.toInt.toNat).toInt) ∧ r4.toInt = (h 35 (40 * a.toInt.toNat + (b + 1).toInt.toNat)).toInt) ∨ (¬ ((0 ≤ a.toInt ∧ a.toInt < 4) ∧ ¬ (h 37 a.toInt.toNat).toInt = -4 ∧ 0 ≤ (b + 1).toInt ∧ (b + 1).toInt < (h 37 a.toInt.toNat).toInt) ∧ r4.toInt = 0) := p5
  clear p5
  show qm_PW X 69 [.ref 34, .int a, .int (b + 2)] h _
  refine ty_69 X h a (b + 2) hmsq _ (fun r7 p8 => ?_)
  have o9 : (((0 ≤ a.toInt ∧ a.toInt < 4) ∧ ¬ (h 37 a.toInt.toNat).toInt = -4 ∧ 0 ≤ (b + 2).toInt ∧ (b + 2).toInt < (h 37 a.toInt.toNat).toInt) ∧ r7.toInt = (h 35 (40 * a.toInt.toNat + (b + 2).toInt.toNat)).toInt) ∨ (¬ ((0 ≤ a.toInt ∧ a.toInt < 4) ∧ ¬ (h 37 a.toInt.toNat).toInt = -4 ∧ 0 ≤ (b + 2).toInt ∧ (b + 2).toInt < (h 37 a.toInt.toNat).toInt) ∧ r7.toInt = 0) := p8
  clear p8
  show qm_PW X 47 [.ref 1, .int r1, .int r4, .int r7] h _
  refine ty_47 X h r1 r4 r7 hm1 _ (fun r10 g11 p12 => ?_)
  obtain ⟨p12_0, p12_1, p12_2⟩ := p12
  have f13 : ∀ k, (k < 1 ∨ 7 < k) → g11 k = h k := fun k hk => (p12_1 k (by omega)).trans (rfl)
  have k14 : sq g11 := by unfold sq; rw [p12_1 37 (by omega)]; exact hmsq
  have o15 : r10.toInt = (opTie r1 r4 r7 (mC h)).1 ∧ mC g11 = (opTie r1 r4 r7 (mC h)).2 := p12_2
  clear p12_2
  show (r10.toInt < 0 → (((0 : Int32) = 0 ∨ (0 : Int32) = 1) ∧ Q (some (.int 0)) g11)) ∧ (0 ≤ r10.toInt → (((1 : Int32) = 0 ∨ (1 : Int32) = 1) ∧ Q (some (.int 1)) g11))
  refine ⟨fun c16 => ?_, fun c17 => ?_⟩
  · exact ⟨Or.inl rfl, hq 0 g11 ⟨p12_0, (fun k hk => f13 k hk), (by have := hmsq (a.toInt.toNat); have : (0 : Int32).toInt = 0 := rfl; have := ti_addK b (1 : Int32) 1 rfl; have := ti_addK b (2 : Int32) 2 rfl; show ((0 : Int32) = 0 ∨ (0 : Int32) = 1) ∧ (((0 : Int32).toInt = 1 ∧ 0 ≤ (opTie (h 35 (40 * a.toInt.toNat + (b.toInt.toNat + 0))) (h 35 (40 * a.toInt.toNat + (b.toInt.toNat + 1))) (h 35 (40 * a.toInt.toNat + (b.toInt.toNat + 2))) (mC h)).1) ∨ ((0 : Int32).toInt = 0 ∧ (opTie (h 35 (40 * a.toInt.toNat + (b.toInt.toNat + 0))) (h 35 (40 * a.toInt.toNat + (b.toInt.toNat + 1))) (h 35 (40 * a.toInt.toNat + (b.toInt.toNat + 2))) (mC h)).1 < 0)) ∧ mC g11 = (opTie (h 35 (40 * a.toInt.toNat + (b.toInt.toNat + 0))) (h 35 (40 * a.toInt.toNat + (b.toInt.toNat + 1))) (h 35 (40 * a.toInt.toNat + (b.toInt.toNat + 2))) (mC h)).2; have hsq := hmsq a.toInt.toNat; have q1 := ti_addK b (1 : Int32) 1 rfl; have q2 := ti_addK b (2 : Int32) 2 rfl; have e0 : r1 = (h 35 (40 * a.toInt.toNat + (b.toInt.toNat + 0))) := Int32.toInt_inj.mp (by rw [show 40 * a.toInt.toNat + (b.toInt.toNat + 0) = 40 * a.toInt.toNat + b.toInt.toNat by omega]; omega); have e1 : r4 = (h 35 (40 * a.toInt.toNat + (b.toInt.toNat + 1))) := Int32.toInt_inj.mp (by rw [show 40 * a.toInt.toNat + (b.toInt.toNat + 1) = 40 * a.toInt.toNat + (b + 1).toInt.toNat by omega]; omega); have e2 : r7 = (h 35 (40 * a.toInt.toNat + (b.toInt.toNat + 2))) := Int32.toInt_inj.mp (by rw [show 40 * a.toInt.toNat + (b.toInt.toNat + 2) = 40 * a.toInt.toNat + (b + 2).toInt.toNat by omega]; omega); rw [e0, e1, e2] at o15; exact ⟨Or.inl rfl, by omega, o15.2⟩)⟩⟩
  · exact ⟨Or.inr rfl, hq 1 g11 ⟨p12_0, (fun k hk => f13 k hk), (by have := hmsq (a.toInt.toNat); have : (1 : Int32).toInt = 1 := rfl; have := ti_addK b (1 : Int32) 1 rfl; have := ti_addK b (2 : Int32) 2 rfl; show ((1 : Int32) = 0 ∨ (1 : Int32) = 1) ∧ (((1 : Int32).toInt = 1 ∧ 0 ≤ (opTie (h 35 (40 * a.toInt.toNat + (b.toInt.toNat + 0))) (h 35 (40 * a.toInt.toNat + (b.toInt.toNat + 1))) (h 35 (40 * a.toInt.toNat + (b.toInt.toNat + 2))) (mC h)).1) ∨ ((1 : Int32).toInt = 0 ∧ (opTie (h 35 (40 * a.toInt.toNat + (b.toInt.toNat + 0))) (h 35 (40 * a.toInt.toNat + (b.toInt.toNat + 1))) (h 35 (40 * a.toInt.toNat + (b.toInt.toNat + 2))) (mC h)).1 < 0)) ∧ mC g11 = (opTie (h 35 (40 * a.toInt.toNat + (b.toInt.toNat + 0))) (h 35 (40 * a.toInt.toNat + (b.toInt.toNat + 1))) (h 35 (40 * a.toInt.toNat + (b.toInt.toNat + 2))) (mC h)).2; have hsq := hmsq a.toInt.toNat; have q1 := ti_addK b (1 : Int32) 1 rfl; have q2 := ti_addK b (2 : Int32) 2 rfl; have e0 : r1 = (h 35 (40 * a.toInt.toNat + (b.toInt.toNat + 0))) := Int32.toInt_inj.mp (by rw [show 40 * a.toInt.toNat + (b.toInt.toNat + 0) = 40 * a.toInt.toNat + b.toInt.toNat by omega]; omega); have e1 : r4 = (h 35 (40 * a.toInt.toNat + (b.toInt.toNat + 1))) := Int32.toInt_inj.mp (by rw [show 40 * a.toInt.toNat + (b.toInt.toNat + 1) = 40 * a.toInt.toNat + (b + 1).toInt.toNat by omega]; omega); have e2 : r7 = (h 35 (40 * a.toInt.toNat + (b.toInt.toNat + 2))) := Int32.toInt_inj.mp (by rw [show 40 * a.toInt.toNat + (b.toInt.toNat + 2) = 40 * a.toInt.toNat + (b + 2).toInt.toNat by omega]; omega); rw [e0, e1, e2] at o15; exact ⟨Or.inr rfl, by omega, o15.2⟩)⟩⟩
-- ThreadBank.read(IIII)I
set_option maxRecDepth 100000 in
set_option maxHeartbeats 4000000 in
theorem ty_127_c (X : qm_X) (h : qm_H) (a : Int32) (b : Int32) (c : Int32) (d : Int32) (hp : mq 1 h ∧ mq 8 h ∧ mq 15 h ∧ sq h) (Q : qm_Q) (hq : ∀ r : Int32, ∀ h' : qm_H, (mq 1 h' ∧ mq 8 h' ∧ mq 15 h' ∧ sq h' ∧ (∀ k, (k < 0 ∨ 7 < k) → h' k = h k) ∧ (r.toInt = (opRead a b c d (svC h) (mC h)).1 ∧ mC h' = (opRead a b c d (svC h) (mC h)).2)) → Q (some (.int r)) h') : ∀ n : Nat, (∀ (l5 : Int32) (l6 : Int32) (l7 : Int32) (g : qm_H), ((((0 ≤ l7.toInt ∧ l7.toInt ≤ 10 ∧ 0 ≤ l6.toInt ∧ l6.toInt ≤ 10) ∧ (0 ≤ a.toInt ∧ a.toInt ≤ 3) ∧ (0 ≤ b.toInt ∧ b.toInt ≤ 2) ∧ (0 ≤ d.toInt ∧ d.toInt ≤ 10) ∧ l6.toInt = (h 1 7).toInt ∧ (h 1 7).toInt ≤ (g 1 7).toInt ∧ (l5.toInt = 0 → (h 37 a.toInt.toNat).toInt = -4 ∨ (h 36 a.toInt.toNat).toInt = b.toInt)) ∧ rdJ (svC h a.toInt.toNat) b.toInt c.toInt d.toInt (h 1 7) (mC h) l5.toInt l7.toInt (mC g)) ∧ mq 1 g ∧ mq 8 g ∧ mq 15 g ∧ sq g ∧ ∀ k, (k < 0 ∨ 7 < k) → g k = h k) → (10 - l7.toInt).toNat < n → qm_PA X 127 51 [(0, .ref 0), (1, .int a), (2, .int b), (3, .int c), (4, .int d), (5, .int l5), (6, .int l6), (7, .int l7)] [] g Q) := by
  have hm1 : mq 1 h := hp.1
  have ⟨⟨_, _⟩, ⟨_, _⟩, _, _⟩ := hm1
  have hm8 : mq 8 h := hp.2.1
  have ⟨⟨_, _⟩, ⟨_, _⟩, _, _⟩ := hm8
  have hm15 : mq 15 h := hp.2.2.1
  have ⟨⟨_, _⟩, ⟨_, _⟩, _, _⟩ := hm15
  have hmsq : sq h := hp.2.2.2
  intro n
  induction n with
  | zero => exact fun _ _ _ _ _ h0 => absurd h0 (Nat.not_lt_zero _)
  | succ n ih =>
    intro l5 l6 l7 g hi hr
    obtain ⟨hi0, hg1, hg8, hg15, hgsq, hgf⟩ := hi
    have ⟨⟨_, _⟩, ⟨_, _⟩, _, _⟩ := hg1
    have ⟨⟨_, _⟩, ⟨_, _⟩, _, _⟩ := hg8
    have ⟨⟨_, _⟩, ⟨_, _⟩, _, _⟩ := hg15
    have v35_g : g 35 = h 35 := hgf 35 (by omega)
    have v36_g : g 36 = h 36 := hgf 36 (by omega)
    have v37_g : g 37 = h 37 := hgf 37 (by omega)
    refine qm_seg_ok (C := qc_127) (rt := some .int) rfl rfl (cuts := [(51, [0, 1, 2, 3, 4, 5, 6, 7])]) 400 _ _ _ _ ?_
    show (d.toInt ≤ l7.toInt → (Q (some (.int ((g 1 7) - l6))) (qm_row g 0 (upd (g 0) 8 l5)))) ∧ (l7.toInt < d.toInt → ((¬ l5 = 0 → (Q (some (.int ((g 1 7) - l6))) (qm_row g 0 (upd (g 0) 8 l5)))) ∧ (l5 = 0 → (qm_PW X 74 [.ref 34, .int a, .int (c + (3 * l7))] g _))))
    refine ⟨fun c1 => ?_, fun c2 => ?_⟩
    · exact hq ((g 1 7) - l6) (qm_row g 0 (upd (g 0) 8 l5)) ⟨(by exact hg1), (by exact hg8), (by exact hg15), (by exact hgsq), (fun k hk => by simp only [qm_row]; rw [if_neg (by omega)]; exact hgf k hk), (by have := hmsq (a.toInt.toNat); have := ti_sub (g 1 7) l6; show ((g 1 7) - l6).toInt = (opRead a b c d (svC h) (mC h)).1 ∧ mC (qm_row g 0 (upd (g 0) 8 l5)) = (opRead a b c d (svC h) (mC h)).2; rw [show opRead a b c d (svC h) (mC h) = _ from (read_ok (by omega)).trans (rdJ_e hi0.2 (by omega))]; exact ⟨(show ((g 1 7) - l6).toInt = (g 1 7).toInt - (h 1 7).toInt by omega), rfl⟩)⟩
    · refine ⟨fun c3 => ?_, fun c4 => ?_⟩
      · have := ti_neK 0 rfl c3
        exact hq ((g 1 7) - l6) (qm_row g 0 (upd (g 0) 8 l5)) ⟨(by exact hg1), (by exact hg8), (by exact hg15), (by exact hgsq), (fun k hk => by simp only [qm_row]; rw [if_neg (by omega)]; exact hgf k hk), (by have := hmsq (a.toInt.toNat); have := ti_sub (g 1 7) l6; show ((g 1 7) - l6).toInt = (opRead a b c d (svC h) (mC h)).1 ∧ mC (qm_row g 0 (upd (g 0) 8 l5)) = (opRead a b c d (svC h) (mC h)).2; rw [show opRead a b c d (svC h) (mC h) = _ from (read_ok (by omega)).trans (rdJ_e hi0.2 (by omega))]; exact ⟨(show ((g 1 7) - l6).toInt = (g 1 7).toInt - (h 1 7).toInt by omega), rfl⟩)⟩
      · have := ti_eqK 0 rfl c4
        refine ty_74 X g a (c + (3 * l7)) hgsq _ (fun r5 p6 => ?_)
        have o7 : (r5.toInt = 0 ∧ ((0 ≤ a.toInt ∧ a.toInt < 4) ∧ ¬ (g 37 a.toInt.toNat).toInt = -4 ∧ 0 ≤ (c + (3 * l7)).toInt ∧ (c + (3 * l7)).toInt + 2 < (g 37 a.toInt.toNat).toInt)) ∨ (¬ r5.toInt = 0 ∧ ¬ ((0 ≤ a.toInt ∧ a.toInt < 4) ∧ ¬ (g 37 a.toInt.toNat).toInt = -4 ∧ 0 ≤ (c + (3 * l7)).toInt ∧ (c + (3 * l7)).toInt + 2 < (g 37 a.toInt.toNat).toInt)) := p6
        clear p6
        show (¬ r5 = 0 → (qm_PA X 127 51 [(0, .ref 0), (1, .int a), (2, .int b), (3, .int c), (4, .int d), (5, .int r5), (6, .int l6), (7, .int (l7 + 1))] [] g Q)) ∧ (r5 = 0 → (qm_PW X 130 [.ref 0, .int a, .int (c + (3 * l7))] g _))
        refine ⟨fun c8 => ?_, fun c9 => ?_⟩
        · have := ti_neK 0 rfl c8
          exact ih r5 l6 (l7 + 1) g ⟨(by have := hmsq (a.toInt.toNat); have := hgsq (a.toInt.toNat); have := ti_addK l7 (1 : Int32) 1 rfl; have := ti_mulL (3 : Int32) 3 rfl l7; have := ti_add c (3 * l7); show ((0 ≤ (l7 + 1).toInt ∧ (l7 + 1).toInt ≤ 10 ∧ 0 ≤ l6.toInt ∧ l6.toInt ≤ 10) ∧ (0 ≤ a.toInt ∧ a.toInt ≤ 3) ∧ (0 ≤ b.toInt ∧ b.toInt ≤ 2) ∧ (0 ≤ d.toInt ∧ d.toInt ≤ 10) ∧ l6.toInt = (h 1 7).toInt ∧ (h 1 7).toInt ≤ (g 1 7).toInt ∧ (r5.toInt = 0 → (h 37 a.toInt.toNat).toInt = -4 ∨ (h 36 a.toInt.toNat).toInt = b.toInt)) ∧ rdJ (svC h a.toInt.toNat) b.toInt c.toInt d.toInt (h 1 7) (mC h) r5.toInt (l7 + 1).toInt (mC g); rw [v37_g] at o7; have qm := ti_mulL (3 : Int32) 3 rfl l7; have qw := ti_wrap c (3 * l7) (by omega); exact ⟨by omega, rdJ_f hi0.2 (by omega) (by omega) (fun w => by have w := trC.mp w; omega)⟩), hg1, hg8, hg15, hgsq, (fun k hk => hgf k hk)⟩ (by have := hmsq (a.toInt.toNat); have := hgsq (a.toInt.toNat); have := ti_addK l7 (1 : Int32) 1 rfl; have := ti_mulL (3 : Int32) 3 rfl l7; have := ti_add c (3 * l7); show (10 - (l7 + 1).toInt).toNat < n; omega)
        · have := ti_eqK 0 rfl c9
          refine ty_130 X g a (c + (3 * l7)) ⟨hg1, hgsq, (by have := hmsq (a.toInt.toNat); have := hgsq (a.toInt.toNat); have := ti_mulL (3 : Int32) 3 rfl l7; have := ti_add c (3 * l7); show (0 ≤ a.toInt ∧ a.toInt < 4) ∧ ¬ (g 37 a.toInt.toNat).toInt = -4 ∧ 0 ≤ (c + (3 * l7)).toInt ∧ (c + (3 * l7)).toInt + 2 < (g 37 a.toInt.toNat).toInt; omega)⟩ _ (fun r10 g11 p12 => ?_)
          obtain ⟨p12_0, p12_1, p12_2⟩ := p12
          have f13 : ∀ k, (k < 0 ∨ 7 < k) → g11 k = h k := fun k hk => (p12_1 k (by omega)).trans (hgf k hk)
          have k14 : mq 8 g11 := by unfold mq; rw [p12_1 8 (by omega)]; exact hg8
          have k15 : mq 15 g11 := by unfold mq; rw [p12_1 15 (by omega)]; exact hg15
          have k16 : sq g11 := by unfold sq; rw [p12_1 37 (by omega)]; exact hgsq
          have o17 : (r10 = 0 ∨ r10 = 1) ∧ ((r10.toInt = 1 ∧ 0 ≤ (opTie (g 35 (40 * a.toInt.toNat + ((c + (3 * l7)).toInt.toNat + 0))) (g 35 (40 * a.toInt.toNat + ((c + (3 * l7)).toInt.toNat + 1))) (g 35 (40 * a.toInt.toNat + ((c + (3 * l7)).toInt.toNat + 2))) (mC g)).1) ∨ (r10.toInt = 0 ∧ (opTie (g 35 (40 * a.toInt.toNat + ((c + (3 * l7)).toInt.toNat + 0))) (g 35 (40 * a.toInt.toNat + ((c + (3 * l7)).toInt.toNat + 1))) (g 35 (40 * a.toInt.toNat + ((c + (3 * l7)).toInt.toNat + 2))) (mC g)).1 < 0)) ∧ mC g11 = (opTie (g 35 (40 * a.toInt.toNat + ((c + (3 * l7)).toInt.toNat + 0))) (g 35 (40 * a.toInt.toNat + ((c + (3 * l7)).toInt.toNat + 1))) (g 35 (40 * a.toInt.toNat + ((c + (3 * l7)).toInt.toNat + 2))) (mC g)).2 := p12_2
          clear p12_2
          have v35_g11 : g11 35 = h 35 := (p12_1 35 (by omega)).trans v35_g
          have v36_g11 : g11 36 = h 36 := (p12_1 36 (by omega)).trans v36_g
          have v37_g11 : g11 37 = h 37 := (p12_1 37 (by omega)).trans v37_g
          show (¬ r10 = 0 → (qm_PA X 127 51 [(0, .ref 0), (1, .int a), (2, .int b), (3, .int c), (4, .int d), (5, .int r5), (6, .int l6), (7, .int (l7 + 1))] [] g11 Q)) ∧ (r10 = 0 → (Q (some (.int ((-20 : Int32) - l7))) (qm_row g11 1 (upd (g11 1) 7 l6))))
          refine ⟨fun c18 => ?_, fun c19 => ?_⟩
          · have := ti_neK 0 rfl c18
            exact ih r5 l6 (l7 + 1) g11 ⟨(by have := hmsq (a.toInt.toNat); have := hgsq (a.toInt.toNat); have := ti_addK l7 (1 : Int32) 1 rfl; have := ti_mulL (3 : Int32) 3 rfl l7; have := ti_add c (3 * l7); show ((0 ≤ (l7 + 1).toInt ∧ (l7 + 1).toInt ≤ 10 ∧ 0 ≤ l6.toInt ∧ l6.toInt ≤ 10) ∧ (0 ≤ a.toInt ∧ a.toInt ≤ 3) ∧ (0 ≤ b.toInt ∧ b.toInt ≤ 2) ∧ (0 ≤ d.toInt ∧ d.toInt ≤ 10) ∧ l6.toInt = (h 1 7).toInt ∧ (h 1 7).toInt ≤ (g11 1 7).toInt ∧ (r5.toInt = 0 → (h 37 a.toInt.toNat).toInt = -4 ∨ (h 36 a.toInt.toNat).toInt = b.toInt)) ∧ rdJ (svC h a.toInt.toNat) b.toInt c.toInt d.toInt (h 1 7) (mC h) r5.toInt (l7 + 1).toInt (mC g11); rw [v37_g] at o7; have qm := ti_mulL (3 : Int32) 3 rfl l7; have qw := ti_wrap c (3 * l7) (by omega); have hea : (c + (3 * l7)).toInt = c.toInt + 3 * l7.toInt := (by omega); have htr : trS (svC h a.toInt.toNat) b.toInt c.toInt l7.toInt.toNat := trC.mpr (by omega); have hc0 := tcC htr (show 0 ≤ 2 by omega); have hc1 := tcC htr (show 1 ≤ 2 by omega); have hc2 := tcC htr (show 2 ≤ 2 by omega); have hnn : (c.toInt + 3 * ((l7.toInt.toNat : Nat) : Int)).toNat = (c + (3 * l7)).toInt.toNat := (by omega); rw [hnn] at hc0 hc1 hc2; rw [v35_g] at o17; rw [← hc0, ← hc1, ← hc2] at o17; have hth := tie_th (a := tcS (svC h a.toInt.toNat) c.toInt l7.toInt.toNat 0) (b := tcS (svC h a.toInt.toNat) c.toInt l7.toInt.toNat 1) (c := tcS (svC h a.toInt.toNat) c.toInt l7.toInt.toNat 2) (M := mC g) (show 0 ≤ (g 1 7).toInt by omega); have e7 : (g11 1 7).toInt = (thM (opTie (tcS (svC h a.toInt.toNat) c.toInt l7.toInt.toNat 0) (tcS (svC h a.toInt.toNat) c.toInt l7.toInt.toNat 1) (tcS (svC h a.toInt.toNat) c.toInt l7.toInt.toNat 2) (mC g)).2).toInt := congrArg (fun M : Mem => (thM M).toInt) o17.2.2; have e8 : (thM (mC g)).toInt = (g 1 7).toInt := rfl; exact ⟨by omega, rdJ_y hi0.2 (by omega) (by omega) (by omega) (by omega) htr (by omega) o17.2.2⟩), p12_0, k14, k15, k16, (fun k hk => f13 k hk)⟩ (by have := hmsq (a.toInt.toNat); have := hgsq (a.toInt.toNat); have := ti_addK l7 (1 : Int32) 1 rfl; have := ti_mulL (3 : Int32) 3 rfl l7; have := ti_add c (3 * l7); show (10 - (l7 + 1).toInt).toNat < n; omega)
          · have := ti_eqK 0 rfl c19
            exact hq ((-20 : Int32) - l7) (qm_row g11 1 (upd (g11 1) 7 l6)) ⟨(by have ⟨⟨_, _⟩, ⟨_, _⟩, _, _⟩ := hm1; have ⟨⟨_, _⟩, ⟨_, _⟩, _, _⟩ := hm8; have ⟨⟨_, _⟩, ⟨_, _⟩, _, _⟩ := hm15; have ⟨⟨_, _⟩, ⟨_, _⟩, _, _⟩ := hg1; have ⟨⟨_, _⟩, ⟨_, _⟩, _, _⟩ := hg8; have ⟨⟨_, _⟩, ⟨_, _⟩, _, _⟩ := hg15; have ⟨⟨_, _⟩, ⟨_, _⟩, _, _⟩ := p12_0; have ⟨⟨_, _⟩, ⟨_, _⟩, _, _⟩ := k14; have ⟨⟨_, _⟩, ⟨_, _⟩, _, _⟩ := k15; show (0 ≤ (g11 1 6).toInt ∧ (g11 1 6).toInt ≤ 4) ∧ (0 ≤ l6.toInt ∧ l6.toInt ≤ 10) ∧ (0 ≤ (g11 1 9).toInt ∧ (g11 1 9).toInt ≤ 6); have := ti_mulL (3 : Int32) 3 rfl l7; have := ti_add c (3 * l7); omega), (by exact k14), (by exact k15), (by exact k16), (fun k hk => by simp only [qm_row]; rw [if_neg (by omega)]; exact f13 k hk), (by have := hmsq (a.toInt.toNat); have := hgsq (a.toInt.toNat); have := ti_subL l7 (-20 : Int32) (-20) ti_n20; have := ti_mulL (3 : Int32) 3 rfl l7; have := ti_add c (3 * l7); show ((-20 : Int32) - l7).toInt = (opRead a b c d (svC h) (mC h)).1 ∧ mC (qm_row g11 1 (upd (g11 1) 7 l6)) = (opRead a b c d (svC h) (mC h)).2; generalize hz20 : (-20 : Int32) - l7 = z20 at *; have hs20 := ti_subL l7 (-20 : Int32) (-20) ti_n20; rw [hz20] at hs20; rw [v37_g] at o7; have qm := ti_mulL (3 : Int32) 3 rfl l7; have qw := ti_wrap c (3 * l7) (by omega); have hea : (c + (3 * l7)).toInt = c.toInt + 3 * l7.toInt := (by omega); have htr : trS (svC h a.toInt.toNat) b.toInt c.toInt l7.toInt.toNat := trC.mpr (by omega); have hc0 := tcC htr (show 0 ≤ 2 by omega); have hc1 := tcC htr (show 1 ≤ 2 by omega); have hc2 := tcC htr (show 2 ≤ 2 by omega); have hnn : (c.toInt + 3 * ((l7.toInt.toNat : Nat) : Int)).toNat = (c + (3 * l7)).toInt.toNat := (by omega); rw [hnn] at hc0 hc1 hc2; rw [v35_g] at o17; rw [← hc0, ← hc1, ← hc2] at o17; have hth := tie_th (a := tcS (svC h a.toInt.toNat) c.toInt l7.toInt.toNat 0) (b := tcS (svC h a.toInt.toNat) c.toInt l7.toInt.toNat 1) (c := tcS (svC h a.toInt.toNat) c.toInt l7.toInt.toNat 2) (M := mC g) (show 0 ≤ (g 1 7).toInt by omega); have e7 : (g11 1 7).toInt = (thM (opTie (tcS (svC h a.toInt.toNat) c.toInt l7.toInt.toNat 0) (tcS (svC h a.toInt.toNat) c.toInt l7.toInt.toNat 1) (tcS (svC h a.toInt.toNat) c.toInt l7.toInt.toNat 2) (mC g)).2).toInt := congrArg (fun M : Mem => (thM M).toInt) o17.2.2; have e8 : (thM (mC g)).toInt = (g 1 7).toInt := rfl; have hM := hth.2.1 (by omega); rw [hM] at o17 e7; rw [show opRead a b c d (svC h) (mC h) = _ from (read_ok (by omega)).trans (rdJ_n hi0.2 (by omega) (by omega) htr (by omega))]; exact ⟨(show z20.toInt = -20 - l7.toInt by omega), (trM_C (T := l6) (g := g11) (k := (qm_row g11 1 (upd (g11 1) 7 l6))) rfl ⟨rfl, rfl, rfl, rfl, rfl, rfl⟩ (by omega)).trans (by rw [o17.2.2, show l6 = h 1 7 from Int32.toInt_inj.mp (by omega)]; rfl)⟩)⟩
set_option maxRecDepth 100000 in
set_option maxHeartbeats 4000000 in
theorem ty_127 (X : qm_X) (h : qm_H) (a : Int32) (b : Int32) (c : Int32) (d : Int32) (hp : mq 1 h ∧ mq 8 h ∧ mq 15 h ∧ sq h) (Q : qm_Q) (hq : ∀ r : Int32, ∀ h' : qm_H, (mq 1 h' ∧ mq 8 h' ∧ mq 15 h' ∧ sq h' ∧ (∀ k, (k < 0 ∨ 7 < k) → h' k = h k) ∧ (r.toInt = (opRead a b c d (svC h) (mC h)).1 ∧ mC h' = (opRead a b c d (svC h) (mC h)).2)) → Q (some (.int r)) h') : qm_PW X 127 [.ref 0, .int a, .int b, .int c, .int d] h Q := by
  have hm1 : mq 1 h := hp.1
  have ⟨⟨_, _⟩, ⟨_, _⟩, _, _⟩ := hm1
  have hm8 : mq 8 h := hp.2.1
  have ⟨⟨_, _⟩, ⟨_, _⟩, _, _⟩ := hm8
  have hm15 : mq 15 h := hp.2.2.1
  have ⟨⟨_, _⟩, ⟨_, _⟩, _, _⟩ := hm15
  have hmsq : sq h := hp.2.2.2
  refine qm_seg_ok (C := qc_127) (rt := some .int) rfl rfl (cuts := [(51, [0, 1, 2, 3, 4, 5, 6, 7])]) 400 _ _ _ _ ?_
  show qm_PW X 65 [.int a] h _
  refine ty_65 X h a trivial _ (fun r1 p2 => ?_)
  have o3 : (r1 = 0 ∨ r1 = 1) ∧ ((r1.toInt = 1 ∧ 0 ≤ a.toInt ∧ a.toInt < 4) ∨ (r1.toInt = 0 ∧ ¬ (0 ≤ a.toInt ∧ a.toInt < 4))) := p2
  clear p2
  show (r1 = 0 → (Q (some (.int (-1 : Int32))) h)) ∧ (¬ r1 = 0 → (qm_PW X 66 [.int b] h _))
  refine ⟨fun c4 => ?_, fun c5 => ?_⟩
  · have := ti_eqK 0 rfl c4
    exact hq (-1 : Int32) h ⟨hm1, hm8, hm15, hmsq, (fun k hk => rfl), (by show (-1 : Int32).toInt = (opRead a b c d (svC h) (mC h)).1 ∧ mC h = (opRead a b c d (svC h) (mC h)).2; rw [ti_n1]; rw [show opRead a b c d (svC h) (mC h) = _ from read_bad (by omega)]; exact ⟨rfl, rfl⟩)⟩
  · have := ti_neK 0 rfl c5
    refine ty_66 X h b trivial _ (fun r6 p7 => ?_)
    have o8 : (r6 = 0 ∨ r6 = 1) ∧ ((r6.toInt = 1 ∧ 0 ≤ b.toInt ∧ b.toInt < 3) ∨ (r6.toInt = 0 ∧ ¬ (0 ≤ b.toInt ∧ b.toInt < 3))) := p7
    clear p7
    show (r6 = 0 → (Q (some (.int (-1 : Int32))) h)) ∧ (¬ r6 = 0 → ((d.toInt < 0 → (Q (some (.int (-1 : Int32))) h)) ∧ (0 ≤ d.toInt → ((d.toInt ≤ 10 → (qm_PW X 73 [.ref 34, .int a, .int b] h _)) ∧ (10 < d.toInt → (Q (some (.int (-1 : Int32))) h))))))
    refine ⟨fun c9 => ?_, fun c10 => ?_⟩
    · have := ti_eqK 0 rfl c9
      exact hq (-1 : Int32) h ⟨hm1, hm8, hm15, hmsq, (fun k hk => rfl), (by show (-1 : Int32).toInt = (opRead a b c d (svC h) (mC h)).1 ∧ mC h = (opRead a b c d (svC h) (mC h)).2; rw [ti_n1]; rw [show opRead a b c d (svC h) (mC h) = _ from read_bad (by omega)]; exact ⟨rfl, rfl⟩)⟩
    · have := ti_neK 0 rfl c10
      refine ⟨fun c11 => ?_, fun c12 => ?_⟩
      · exact hq (-1 : Int32) h ⟨hm1, hm8, hm15, hmsq, (fun k hk => rfl), (by show (-1 : Int32).toInt = (opRead a b c d (svC h) (mC h)).1 ∧ mC h = (opRead a b c d (svC h) (mC h)).2; rw [ti_n1]; rw [show opRead a b c d (svC h) (mC h) = _ from read_bad (by omega)]; exact ⟨rfl, rfl⟩)⟩
      · refine ⟨fun c13 => ?_, fun c14 => ?_⟩
        · refine ty_73 X h a b trivial _ (fun r15 p16 => ?_)
          have o17 : (r15.toInt = 0 ∧ ((a.toInt < 0 ∨ 4 ≤ a.toInt ∨ (h 37 a.toInt.toNat).toInt = -4) ∨ (h 36 a.toInt.toNat).toInt = b.toInt)) ∨ (r15.toInt = 3 ∧ ¬ (a.toInt < 0 ∨ 4 ≤ a.toInt ∨ (h 37 a.toInt.toNat).toInt = -4) ∧ ¬ (h 36 a.toInt.toNat).toInt = b.toInt) := p16
          clear p16
          show qm_PA X 127 51 [(0, .ref 0), (1, .int a), (2, .int b), (3, .int c), (4, .int d), (5, .int r15), (6, .int (h 1 7)), (7, .int 0)] [] h Q
          exact (ty_127_c X h a b c d hp Q hq _) r15 (h 1 7) (0 : Int32) h ⟨(by have := hmsq (a.toInt.toNat); have : (0 : Int32).toInt = 0 := rfl; show ((0 ≤ (0 : Int32).toInt ∧ (0 : Int32).toInt ≤ 10 ∧ 0 ≤ (h 1 7).toInt ∧ (h 1 7).toInt ≤ 10) ∧ (0 ≤ a.toInt ∧ a.toInt ≤ 3) ∧ (0 ≤ b.toInt ∧ b.toInt ≤ 2) ∧ (0 ≤ d.toInt ∧ d.toInt ≤ 10) ∧ (h 1 7).toInt = (h 1 7).toInt ∧ (h 1 7).toInt ≤ (h 1 7).toInt ∧ (r15.toInt = 0 → (h 37 a.toInt.toNat).toInt = -4 ∨ (h 36 a.toInt.toNat).toInt = b.toInt)) ∧ rdJ (svC h a.toInt.toNat) b.toInt c.toInt d.toInt (h 1 7) (mC h) r15.toInt (0 : Int32).toInt (mC h); exact ⟨by have : (0 : Int32).toInt = 0 := rfl; omega, (if hz : r15.toInt = 0 then rdJ_0 hz rfl else rdJ_x hz (fun w => by have w := trC.mp w; omega))⟩), hm1, hm8, hm15, hmsq, (fun k hk => rfl)⟩ (Nat.lt_succ_self _)
        · exact hq (-1 : Int32) h ⟨hm1, hm8, hm15, hmsq, (fun k hk => rfl), (by show (-1 : Int32).toInt = (opRead a b c d (svC h) (mC h)).1 ∧ mC h = (opRead a b c d (svC h) (mC h)).2; rw [ti_n1]; rw [show opRead a b c d (svC h) (mC h) = _ from read_bad (by omega)]; exact ⟨rfl, rfl⟩)⟩
